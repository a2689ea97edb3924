theorem k4e_0 : (Cond.fieldLink "LayerDeskModel" 94 "LayerDeskModel" "words" "I") ∈ wT := wT_t (List.mem_append_right _ (List.mem_append_right _ (List.mem_append_right _ (List.mem_append_left _ (List.mem_of_getElem? (i := 88) rfl))))) rfl
theorem k4e_1 : (Cond.code xy_Mo_nameOf xb_Mo_nameOf 4 (some .int)) ∈ wT := wT_t (List.mem_append_right _ (List.mem_append_right _ (List.mem_append_right _ (List.mem_append_left _ (List.mem_of_getElem? (i := 212) rfl))))) rfl
theorem k4e_2 : (Cond.methodLink "LayerDeskModel" 133 xy_Mo_nameOf) ∈ wT := wT_t (List.mem_append_right _ (List.mem_append_right _ (List.mem_append_right _ (List.mem_append_left _ (List.mem_of_getElem? (i := 209) rfl))))) rfl
theorem k4e_3 : (Cond.instanceMethod xy_Mo_nameOf) ∈ wT := wT_t (List.mem_append_right _ (List.mem_append_right _ (List.mem_append_right _ (List.mem_append_left _ (List.mem_of_getElem? (i := 211) rfl))))) rfl
theorem k4e_4 : (Cond.selects "LayerDeskModel" xy_Mo_nameOf xy_Mo_nameOf) ∈ wT := wT_s (q := (xy_Mo_nameOf, 31)) (by decide +kernel) rfl
theorem k4e_5 : (Cond.initialized "LayerDeskModel") ∈ wT := wT_t (List.mem_append_left _ (List.mem_of_getElem? (i := 5) rfl)) rfl
theorem k4e_6 : (Cond.fieldLink "LayerDeskModel" 140 "LayerDeskModel" "descriptors" "I") ∈ wT := wT_t (List.mem_append_right _ (List.mem_append_right _ (List.mem_append_right _ (List.mem_append_left _ (List.mem_of_getElem? (i := 91) rfl))))) rfl
theorem k4e_7 : (Cond.code xy_Mo_isShut xb_Mo_isShut 1 (some .boolean)) ∈ wT := wT_t (List.mem_append_right _ (List.mem_append_right _ (List.mem_append_right _ (List.mem_append_left _ (List.mem_of_getElem? (i := 228) rfl))))) rfl
theorem k4e_8 : (Cond.methodLink "LayerDeskModel" 146 xy_Mo_isShut) ∈ wT := wT_t (List.mem_append_right _ (List.mem_append_right _ (List.mem_append_right _ (List.mem_append_left _ (List.mem_of_getElem? (i := 225) rfl))))) rfl
theorem k4e_9 : (Cond.instanceMethod xy_Mo_isShut) ∈ wT := wT_t (List.mem_append_right _ (List.mem_append_right _ (List.mem_append_right _ (List.mem_append_left _ (List.mem_of_getElem? (i := 227) rfl))))) rfl
theorem k4e_10 : (Cond.selects "LayerDeskModel" xy_Mo_isShut xy_Mo_isShut) ∈ wT := wT_s (q := (xy_Mo_isShut, 31)) (by decide +kernel) rfl
theorem k4e_11 : (Cond.fieldLink "LayerDeskModel" 54 "LayerDeskModel" "use" "[I") ∈ wT := wT_t (List.mem_append_right _ (List.mem_append_right _ (List.mem_append_right _ (List.mem_append_left _ (List.mem_of_getElem? (i := 103) rfl))))) rfl
theorem k4e_12 : (Cond.fieldLink "LayerDeskModel" 57 "LayerDeskModel" "provide" "[I") ∈ wT := wT_t (List.mem_append_right _ (List.mem_append_right _ (List.mem_append_right _ (List.mem_append_left _ (List.mem_of_getElem? (i := 104) rfl))))) rfl
set_option maxHeartbeats 4000000 in
set_option maxRecDepth 100000 in
theorem xc_Mo_newService0X (l : Launch) (D : va_G) (kA : Nat → ClassId) (sz h : Nat) (mm : Nat → Nat) (v : Nat → Int32) (g : Nat → Nat → Int32) (wl : List (Nat × Nat)) (nd : Nat) (hMI : MI v g) (hWX : WX v g wl) (hnd : v 4 = nI nd) (hnd12 : nd ≤ 12) : Met l xy_Mo_newService (.code xy_Mo_newService xb_Mo_newService 7 (some .int) :: wT) { frames := 1, cells := 0, slots := 0, locals := 23 } (va_Pc [.ref h, .int 0] (xPre D kA sz (moW h mm kA v g))) (va_Qi (fun (r : Int32) (u : (Nat → Int32) × (Nat → Nat → Int32)) => MI u.1 u.2 ∧ u.1 2 = v 2 ∧ (r = -1 ∨ r = -2 ∨ r = 1 ∨ r = 2) ∧ u = (v, lS 14 (g 0) wl nd g)) (fun (u : (Nat → Int32) × (Nat → Nat → Int32)) t => va_P D xcl (moW h mm kA u.1 u.2) t.heap ∧ va_D (va_A (moW h mm kA v g) sz) (moW h mm kA u.1 u.2)) (va_A (moW h mm kA v g) sz)) 0 0 (va_A (moW h mm kA v g) sz) := by
  refine Met.ofW (cc := xb_Mo_newService) (maxL := 7) (ret := (some .int)) (by decide) rfl ?_
  intro p e s m args below meth c s₁ B hml hv
  obtain ⟨rfl, hsz, hP, hK, hD0⟩ := hv
  have hx := B.exec
  have hb := B.bytes
  have hr := B.returns
  have hT := x_hT B.pre
  have hown : s.vm.findClass xR_Mo = some m.cls := findClass_of_methodNamed B.named
  have hlocks := B.notSynchronized
  subst hsz
  have hD := hD0.self (sz := s.heap.size)
  generalize hAe : va_A (moW h mm kA v g) s.heap.size = A at hD ⊢
  have hA : ∀ q : Nat, s.heap.size ≤ q → A q := fun q h => by rw [← hAe]; exact Or.inr h
  have hS : va_S A s.heap s.heap [] := va_S.rf
  have hl := lv_entry ([.ref h, .int 0]) (n := 7) (Nat.le_of_ble_eq_true rfl)
  rw [lg_entry_eq]
  generalize (lg_sl ([.ref h, .int 0]) ++ List.replicate (7 - (lg_sl ([.ref h, .int 0])).length) Slot.unset).toArray = ls at hl ⊢
  have hl : lv_has ls 7 [(0, .ref h), (1, .int 0)] := hl
  have hP : va_P D xcl (moW h mm kA v g) s.heap := hP
  obtain ⟨-, ⟨nl, hnl5, hnl, hpar⟩, hch, hpk, hrq, hmd, huq⟩ := id hMI
  obtain ⟨hwn, ⟨hwn20, hwlr⟩, hws⟩ := id hWX
  refine lv_aload_n hx hb xd_Mo_newService_0 rfl (lv_at hl 0 rfl) ?_
  refine va_get (D := D) (ci := 4) (v := .int (v 3)) (C := xR_Mo) (T := xT_Mo) (N := 31) hx hb hT xi_Mo hown hK.1 hP 0 rfl rfl 4 (by decide) (hT _ k4e_0) (fun _ h9 => h9) rfl xd_Mo_newService_1 ?_
  refine xn_top (x := (v 3)) (y := nI wl.length) hwn ?_
  refine lv_iconst (v := 2) hx hb xd_Mo_newService_4 (by decide) ?_
  refine xn_ne (a := wl.length) (b := 2) (tgt := 16) hx hb xd_Mo_newService_5 (by decide) (by omega) (by omega) (fun hc1 => ?_) (fun hc1 => ?_)
  · refine lv_iconst (v := 0) hx hb xd_Mo_newService_16 (by decide) ?_
    refine lv_istore_n hx hb xd_Mo_newService_17 rfl hl (Nat.le_of_ble_eq_true rfl) rfl (fun ls hl => ?_)
    have hl : lv_has ls 7 [(2, .int 0), (0, .ref h), (1, .int 0)] := hl
    refine lv_iload_n hx hb xd_Mo_newService_18 rfl (lv_at hl 0 rfl) ?_
    refine xz_ne (a := 0) (tgt := 24) hx hb xd_Mo_newService_19 (by decide) (by omega) (fun hc2 => absurd hc2 (by omega)) (fun _ => ?_)
    refine lv_iconst (v := (-1)) hx hb xd_Mo_newService_22 (by decide) ?_
    exact W.iret (v := (-1)) hx hb hr (fun t ht hW => ⟨⟨(-1), (v, g), rfl, ⟨hMI, rfl, Or.inl rfl, congrArg (Prod.mk v) (lS_no1 (fun q => absurd q.1 (by omega)))⟩, by rw [ht]; exact hP, hD⟩, hS.F ht⟩) hS.2.2 xd_Mo_newService_23
  · have hbe1 := (hwlr 1 (by omega)).1
    have he1 := (hwlr 1 (by omega)).2
    have eb1 := (hws 1 (by omega)).1
    have ee1 := (hws 1 (by omega)).2
    refine lv_aload_n hx hb xd_Mo_newService_8 rfl (lv_at hl 0 rfl) ?_
    refine lv_iconst (v := 1) hx hb xd_Mo_newService_9 (by decide) ?_
    have hFc := va_free (wc := (moW h mm kA v g)) hD hS hA [0, 1, 2, 3, 4, 5, 6, 7, 8, 9, 10, 11, 12, 13, 14, 15, 16, 17, 18, 19, 20, 21, 22, 23, 24, 25] rfl
    refine va_calli (va_runV (As := [.int 1]) (rest := []) ⟨hx, hb, hml, hown, hT⟩ (xc_Mo_nameOfX l D kA s.heap.size h mm v g 1 (wb wl 1) (we wl 1) (by first | assumption | omega) (by first | assumption | omega) (by first | assumption | omega) (by first | assumption | omega) (by first | assumption | omega)) (cwV 1 hT (wT_V k4e_2 k4e_3 k4e_4 k4e_5 k4e_1) rfl rfl rfl (by decide +kernel) ⟨Nat.le_of_ble_eq_true rfl, Nat.le_of_ble_eq_true rfl⟩) (x_preV hK hP hD 0 rfl rfl) rfl rfl hl.1 rfl (lv_room (Nat.le_of_ble_eq_true rfl)) xd_Mo_newService_10 ⟨Nat.le_of_ble_eq_true rfl, Nat.le_of_ble_eq_true rfl⟩) hS (fun q _ h => hFc q h) hFc (fun r3 u4 t H1 locs ht hvm hp5 hB hz1 hk1 hS => ?_)
    obtain ⟨hP1, hD1⟩ := hB
    rw [ht] at hP1
    have hD1 := hD1.weaken (fun _ _ _ h => hFc _ h)
    generalize H1 = H at hP1 hS ⊢
    have hP := hP1
    have hD := hD1
    have hP : va_P D xcl (moW h mm kA v g) H := hP
    have hD : va_D A (moW h mm kA v g) := hD
    have hp5 : r3 = nV (g 0) (wb wl 1) (we wl 1) := hp5
    subst hp5
    have hP : va_P D xcl (moW h mm kA v g) H := hP
    have hD : va_D A (moW h mm kA v g) := hD
    refine lv_goto (tgt := 17) hx hb xd_Mo_newService_13 (by decide) ?_
    refine lv_istore_n hx hb xd_Mo_newService_17 rfl hl (Nat.le_of_ble_eq_true rfl) rfl (fun ls hl => ?_)
    have hl : lv_has ls 7 [(2, .int (nV (g 0) (wb wl 1) (we wl 1))), (0, .ref h), (1, .int 0)] := hl
    refine lv_iload_n hx hb xd_Mo_newService_18 rfl (lv_at hl 0 rfl) ?_
    refine lv_if_ne (tgt := 24) hx hb xd_Mo_newService_19 (by decide) (fun hc6 => ?_) (fun hc6 => ?_)
    · rcases Nat.eq_zero_or_pos nd with hz | hz
      · have hnd0 : v 4 = nI 0 := by rw [hnd, hz]
        have hn1 : wN (g 0) wl 1 = nV (g 0) (wb wl 1) (we wl 1) := wN_in (by omega)
        refine lv_aload_n hx hb xd_Mo_newService_24 rfl (lv_at hl 1 rfl) ?_
        refine va_get (D := D) (ci := 4) (v := .int (v 4)) (C := xR_Mo) (T := xT_Mo) (N := 31) hx hb hT xi_Mo hown hK.1 hP 0 rfl rfl 7 (by decide) (hT _ k4e_6) (fun _ h9 => h9) rfl xd_Mo_newService_25 ?_
        refine xn_top (x := (v 4)) (y := nI 0) hnd0 ?_
        refine lv_iconst (v := 1) hx hb xd_Mo_newService_28 (by decide) ?_
        refine lv_isub hx hb xd_Mo_newService_29 ?_
        refine lv_istore_n hx hb xd_Mo_newService_30 rfl hl (Nat.le_of_ble_eq_true rfl) rfl (fun ls hl => ?_)
        have hl : lv_has ls 7 [(3, .int ((nI 0) - 1)), (2, .int (nV (g 0) (wb wl 1) (we wl 1))), (0, .ref h), (1, .int 0)] := hl
        refine lv_iconst (v := (-1)) hx hb xd_Mo_newService_31 (by decide) ?_
        refine lv_istore hx hb xd_Mo_newService_32 hl (Nat.le_of_ble_eq_true rfl) rfl (fun ls hl => ?_)
        have hl : lv_has ls 7 [(4, .int (-1)), (3, .int ((nI 0) - 1)), (2, .int (nV (g 0) (wb wl 1) (we wl 1))), (0, .ref h), (1, .int 0)] := hl
        refine lv_iconst (v := 2) hx hb xd_Mo_newService_34 (by decide) ?_
        refine lv_istore hx hb xd_Mo_newService_35 hl (Nat.le_of_ble_eq_true rfl) rfl (fun ls hl => ?_)
        have hl : lv_has ls 7 [(5, .int 2), (4, .int (-1)), (3, .int ((nI 0) - 1)), (2, .int (nV (g 0) (wb wl 1) (we wl 1))), (0, .ref h), (1, .int 0)] := hl
        refine lv_iload_n hx hb xd_Mo_newService_37 rfl (lv_at hl 2 rfl) ?_
        refine lv_if_lt (tgt := 105) hx hb xd_Mo_newService_38 (by decide) (fun _ => ?_) (fun hc7 => absurd hc7 (by decide))
        refine lv_aload_n hx hb xd_Mo_newService_105 rfl (lv_at hl 4 rfl) ?_
        have hFc := va_free (wc := (moW h mm kA v g)) hD hS hA [0, 1, 2, 3, 4, 5, 6, 7, 8, 9, 10, 11, 12, 13, 14, 15, 16, 17, 18, 19, 20, 21, 22, 23, 24, 25] rfl
        refine va_calli (va_runV (As := []) (rest := []) ⟨hx, hb, hml, hown, hT⟩ (xc_Mo_isShut l D kA H.size h mm v g nd (by first | assumption | omega) (by first | assumption | omega)) (cwV 0 hT (wT_V k4e_8 k4e_9 k4e_10 k4e_5 k4e_7) rfl rfl rfl (by decide +kernel) ⟨Nat.le_of_ble_eq_true rfl, Nat.le_of_ble_eq_true rfl⟩) (x_preV hK hP hD 0 rfl rfl) rfl rfl hl.1 rfl (lv_room (Nat.le_of_ble_eq_true rfl)) xd_Mo_newService_106 ⟨Nat.le_of_ble_eq_true rfl, Nat.le_of_ble_eq_true rfl⟩) hS (fun q _ h => hFc q h) hFc (fun r8 u9 t H1 locs ht hvm hp10 hB hz1 hk1 hS => ?_)
        obtain ⟨hP1, hD1⟩ := hB
        rw [ht] at hP1
        have hD1 := hD1.weaken (fun _ _ _ h => hFc _ h)
        generalize H1 = H at hP1 hS ⊢
        have hP := hP1
        have hD := hD1
        have hP : va_P D xcl (moW h mm kA v g) H := hP
        have hD : va_D A (moW h mm kA v g) := hD
        rcases hp10 with ⟨rfl, z11⟩ | ⟨rfl, z12, z13⟩
        · refine xz_ne (a := 1) (tgt := 117) hx hb xd_Mo_newService_109 (by decide) (by omega) (fun _ => ?_) (fun hc14 => absurd hc14 (by omega))
          refine lv_bipush (v := (-2)) hx hb xd_Mo_newService_117 (by decide) ?_
          exact W.iret (v := (-2)) hx hb hr (fun t ht hW => ⟨⟨(-2), (v, g), rfl, ⟨hMI, rfl, Or.inr (Or.inl rfl), congrArg (Prod.mk v) (lS_no1 (fun q => absurd q.2.2.1 (by omega)))⟩, by rw [ht]; exact hP, hD⟩, hS.F ht⟩) hS.2.2 xd_Mo_newService_119
        · exact absurd hz z12
      · have hn1 : wN (g 0) wl 1 = nV (g 0) (wb wl 1) (we wl 1) := wN_in (by omega)
        refine lv_aload_n hx hb xd_Mo_newService_24 rfl (lv_at hl 1 rfl) ?_
        refine va_get (D := D) (ci := 4) (v := .int (v 4)) (C := xR_Mo) (T := xT_Mo) (N := 31) hx hb hT xi_Mo hown hK.1 hP 0 rfl rfl 7 (by decide) (hT _ k4e_6) (fun _ h9 => h9) rfl xd_Mo_newService_25 ?_
        refine xn_top (x := (v 4)) (y := nI nd) hnd ?_
        refine lv_iconst (v := 1) hx hb xd_Mo_newService_28 (by decide) ?_
        refine lv_isub hx hb xd_Mo_newService_29 ?_
        refine xn_top (y := nI (nd - 1)) (pk_sub (a := nd) (b := 1) (by omega)) ?_
        refine lv_istore_n hx hb xd_Mo_newService_30 rfl hl (Nat.le_of_ble_eq_true rfl) rfl (fun ls hl => ?_)
        have hl : lv_has ls 7 [(3, .int (nI (nd - 1))), (2, .int (nV (g 0) (wb wl 1) (we wl 1))), (0, .ref h), (1, .int 0)] := hl
        refine lv_iconst (v := (-1)) hx hb xd_Mo_newService_31 (by decide) ?_
        refine lv_istore hx hb xd_Mo_newService_32 hl (Nat.le_of_ble_eq_true rfl) rfl (fun ls hl => ?_)
        have hl : lv_has ls 7 [(4, .int (-1)), (3, .int (nI (nd - 1))), (2, .int (nV (g 0) (wb wl 1) (we wl 1))), (0, .ref h), (1, .int 0)] := hl
        refine lv_iconst (v := 2) hx hb xd_Mo_newService_34 (by decide) ?_
        refine lv_istore hx hb xd_Mo_newService_35 hl (Nat.le_of_ble_eq_true rfl) rfl (fun ls hl => ?_)
        have hl : lv_has ls 7 [(5, .int 2), (4, .int (-1)), (3, .int (nI (nd - 1))), (2, .int (nV (g 0) (wb wl 1) (we wl 1))), (0, .ref h), (1, .int 0)] := hl
        have e25 : (2 : Int32) = nI 3 - 1 := by decide
        rw [e25] at hl
        refine xlab (σ := Nat × Int32) (ml := 7) 37 (fun (kk, fr) => [(5, .int (nI kk - 1)), (4, .int fr), (0, .ref h), (1, .int 0), (2, .int (nV (g 0) (wb wl 1) (we wl 1))), (3, .int (nI (nd - 1)))]) (fun (kk, fr) => []) (fun (kk, fr) => moW h mm kA v g) (fun (kk, fr) => (kk ≤ 3) ∧ (∀ k9, kk ≤ k9 → k9 < 3 → ¬ g 14 (3 * (nd - 1) + k9) = nV (g 0) (wb wl 1) (we wl 1)) ∧ ((fr = -1 ∧ ∀ k9, kk ≤ k9 → k9 < 3 → ¬ g 14 (3 * (nd - 1) + k9) = 0) ∨ ∃ f9, f9 < 3 ∧ fr = nI f9 ∧ kk ≤ f9 ∧ g 14 (3 * (nd - 1) + f9) = 0 ∧ ∀ k9, kk ≤ k9 → k9 < f9 → ¬ g 14 (3 * (nd - 1) + k9) = 0)) (fun (kk, fr) => kk) ?_ (3, (-1)) _ _ _ (lv_sub hl [0, 1, 4, 5, 3, 2] rfl) hP hD hS ⟨(show 3 ≤ 3 from by omega), (show ∀ k9, 3 ≤ k9 → k9 < 3 → ¬ g 14 (3 * (nd - 1) + k9) = nV (g 0) (wb wl 1) (we wl 1) from fun k9 a9 b9 => absurd b9 (by omega)), (show ((-1) = -1 ∧ ∀ k9, 3 ≤ k9 → k9 < 3 → ¬ g 14 (3 * (nd - 1) + k9) = 0) ∨ ∃ f9, f9 < 3 ∧ (-1) = nI f9 ∧ 3 ≤ f9 ∧ g 14 (3 * (nd - 1) + f9) = 0 ∧ ∀ k9, 3 ≤ k9 → k9 < f9 → ¬ g 14 (3 * (nd - 1) + k9) = 0 from Or.inl ⟨rfl, fun k9 a9 b9 => absurd b9 (by omega)⟩)⟩
        intro n9 ih15 a9 ls H locs hμ hl hP hD hS hI
        subst hμ
        obtain ⟨kk, fr⟩ := a9
        obtain ⟨hkk, hs9, hfr⟩ := hI
        have hkk : kk ≤ 3 := hkk
        have hs9 : ∀ k9, kk ≤ k9 → k9 < 3 → ¬ g 14 (3 * (nd - 1) + k9) = nV (g 0) (wb wl 1) (we wl 1) := hs9
        have hfr : (fr = -1 ∧ ∀ k9, kk ≤ k9 → k9 < 3 → ¬ g 14 (3 * (nd - 1) + k9) = 0) ∨ ∃ f9, f9 < 3 ∧ fr = nI f9 ∧ kk ≤ f9 ∧ g 14 (3 * (nd - 1) + f9) = 0 ∧ ∀ k9, kk ≤ k9 → k9 < f9 → ¬ g 14 (3 * (nd - 1) + k9) = 0 := hfr
        have hl : lv_has ls 7 [(5, .int (nI kk - 1)), (4, .int fr), (0, .ref h), (1, .int 0), (2, .int (nV (g 0) (wb wl 1) (we wl 1))), (3, .int (nI (nd - 1)))] := hl
        have hP : va_P D xcl (moW h mm kA v g) H := hP
        have hD : va_D A (moW h mm kA v g) := hD
        refine lv_iload_n hx hb xd_Mo_newService_37 rfl (lv_at hl 5 rfl) ?_
        refine xz_lt (a := nd - 1) (tgt := 105) hx hb xd_Mo_newService_38 (by decide) (by omega) ?_
        rcases Nat.eq_zero_or_pos kk with hz5 | hz5
        · have e5 : nI kk - 1 = -1 := by rw [hz5]; decide
          rw [e5] at hl
          refine lv_iload hx hb xd_Mo_newService_41 (lv_at hl 0 rfl) ?_
          refine lv_if_lt (tgt := 105) hx hb xd_Mo_newService_43 (by decide) (fun _ => ?_) (fun hc17 => absurd hc17 (by decide))
          rcases hfr with ⟨hfr, hfz⟩ | ⟨f9, hf9, hfr, hfk, hf0, hfz⟩
          · rw [hfr] at hl
            refine lv_aload_n hx hb xd_Mo_newService_105 rfl (lv_at hl 2 rfl) ?_
            have hFc := va_free (wc := (moW h mm kA v g)) hD hS hA [0, 1, 2, 3, 4, 5, 6, 7, 8, 9, 10, 11, 12, 13, 14, 15, 16, 17, 18, 19, 20, 21, 22, 23, 24, 25] rfl
            refine va_calli (va_runV (As := []) (rest := []) ⟨hx, hb, hml, hown, hT⟩ (xc_Mo_isShut l D kA H.size h mm v g nd (by first | assumption | omega) (by first | assumption | omega)) (cwV 0 hT (wT_V k4e_8 k4e_9 k4e_10 k4e_5 k4e_7) rfl rfl rfl (by decide +kernel) ⟨Nat.le_of_ble_eq_true rfl, Nat.le_of_ble_eq_true rfl⟩) (x_preV hK hP hD 0 rfl rfl) rfl rfl hl.1 rfl (lv_room (Nat.le_of_ble_eq_true rfl)) xd_Mo_newService_106 ⟨Nat.le_of_ble_eq_true rfl, Nat.le_of_ble_eq_true rfl⟩) hS (fun q _ h => hFc q h) hFc (fun r18 u19 t H1 locs ht hvm hp20 hB hz1 hk1 hS => ?_)
            obtain ⟨hP1, hD1⟩ := hB
            rw [ht] at hP1
            have hD1 := hD1.weaken (fun _ _ _ h => hFc _ h)
            generalize H1 = H at hP1 hS ⊢
            have hP := hP1
            have hD := hD1
            have hP : va_P D xcl (moW h mm kA v g) H := hP
            have hD : va_D A (moW h mm kA v g) := hD
            rcases hp20 with ⟨rfl, z21⟩ | ⟨rfl, z22, z23⟩
            · refine xz_ne (a := 1) (tgt := 117) hx hb xd_Mo_newService_109 (by decide) (by omega) (fun _ => ?_) (fun hc24 => absurd hc24 (by omega))
              refine lv_bipush (v := (-2)) hx hb xd_Mo_newService_117 (by decide) ?_
              exact W.iret (v := (-2)) hx hb hr (fun t ht hW => ⟨⟨(-2), (v, g), rfl, ⟨hMI, rfl, Or.inr (Or.inl rfl), congrArg (Prod.mk v) (lS_no1 (fun q => z21.elim (fun z => absurd q.2.2.1 (by omega)) (fun z => z q.2.2.2.2)))⟩, by rw [ht]; exact hP, hD⟩, hS.F ht⟩) hS.2.2 xd_Mo_newService_119
            · refine xz_ne (a := 0) (tgt := 117) hx hb xd_Mo_newService_109 (by decide) (by omega) (fun hc25 => absurd hc25 (by omega)) (fun _ => ?_)
              refine lv_iload hx hb xd_Mo_newService_112 (lv_at hl 1 rfl) ?_
              refine lv_if_ge (tgt := 120) hx hb xd_Mo_newService_114 (by decide) (fun hc26 => absurd hc26 (by decide)) (fun _ => ?_)
              refine lv_bipush (v := (-2)) hx hb xd_Mo_newService_117 (by decide) ?_
              exact W.iret (v := (-2)) hx hb hr (fun t ht hW => ⟨⟨(-2), (v, g), rfl, ⟨hMI, rfl, Or.inr (Or.inl rfl), congrArg (Prod.mk v) (lS_no2 (by unfold svF; exact ff_none (fun k9 hk9 => hfz k9 (by omega) hk9)))⟩, by rw [ht]; exact hP, hD⟩, hS.F ht⟩) hS.2.2 xd_Mo_newService_119
          · rw [hfr] at hl
            refine lv_aload_n hx hb xd_Mo_newService_105 rfl (lv_at hl 2 rfl) ?_
            have hFc := va_free (wc := (moW h mm kA v g)) hD hS hA [0, 1, 2, 3, 4, 5, 6, 7, 8, 9, 10, 11, 12, 13, 14, 15, 16, 17, 18, 19, 20, 21, 22, 23, 24, 25] rfl
            refine va_calli (va_runV (As := []) (rest := []) ⟨hx, hb, hml, hown, hT⟩ (xc_Mo_isShut l D kA H.size h mm v g nd (by first | assumption | omega) (by first | assumption | omega)) (cwV 0 hT (wT_V k4e_8 k4e_9 k4e_10 k4e_5 k4e_7) rfl rfl rfl (by decide +kernel) ⟨Nat.le_of_ble_eq_true rfl, Nat.le_of_ble_eq_true rfl⟩) (x_preV hK hP hD 0 rfl rfl) rfl rfl hl.1 rfl (lv_room (Nat.le_of_ble_eq_true rfl)) xd_Mo_newService_106 ⟨Nat.le_of_ble_eq_true rfl, Nat.le_of_ble_eq_true rfl⟩) hS (fun q _ h => hFc q h) hFc (fun r27 u28 t H1 locs ht hvm hp29 hB hz1 hk1 hS => ?_)
            obtain ⟨hP1, hD1⟩ := hB
            rw [ht] at hP1
            have hD1 := hD1.weaken (fun _ _ _ h => hFc _ h)
            generalize H1 = H at hP1 hS ⊢
            have hP := hP1
            have hD := hD1
            have hP : va_P D xcl (moW h mm kA v g) H := hP
            have hD : va_D A (moW h mm kA v g) := hD
            rcases hp29 with ⟨rfl, z30⟩ | ⟨rfl, z31, z32⟩
            · refine xz_ne (a := 1) (tgt := 117) hx hb xd_Mo_newService_109 (by decide) (by omega) (fun _ => ?_) (fun hc33 => absurd hc33 (by omega))
              refine lv_bipush (v := (-2)) hx hb xd_Mo_newService_117 (by decide) ?_
              exact W.iret (v := (-2)) hx hb hr (fun t ht hW => ⟨⟨(-2), (v, g), rfl, ⟨hMI, rfl, Or.inr (Or.inl rfl), congrArg (Prod.mk v) (lS_no1 (fun q => z30.elim (fun z => absurd q.2.2.1 (by omega)) (fun z => z q.2.2.2.2)))⟩, by rw [ht]; exact hP, hD⟩, hS.F ht⟩) hS.2.2 xd_Mo_newService_119
            · refine xz_ne (a := 0) (tgt := 117) hx hb xd_Mo_newService_109 (by decide) (by omega) (fun hc34 => absurd hc34 (by omega)) (fun _ => ?_)
              refine lv_iload hx hb xd_Mo_newService_112 (lv_at hl 1 rfl) ?_
              refine xz_ge (a := f9) (tgt := 120) hx hb xd_Mo_newService_114 (by decide) (by omega) ?_
              refine lv_iload_n hx hb xd_Mo_newService_120 rfl (lv_at hl 3 rfl) ?_
              refine xz_eq (a := 0) (tgt := 139) hx hb xd_Mo_newService_121 (by decide) (by omega) (fun _ => ?_) (fun hc36 => absurd hc36 (by omega))
              refine lv_aload_n hx hb xd_Mo_newService_139 rfl (lv_at hl 2 rfl) ?_
              refine va_get (D := D) (ci := 4) (v := .ref (mm 14)) (C := xR_Mo) (T := xT_Mo) (N := 31) hx hb hT xi_Mo hown hK.1 hP 0 rfl rfl 19 (by decide) (hT _ k4e_11) (fun _ h9 => h9) rfl xd_Mo_newService_140 ?_
              refine lv_iconst (v := 3) hx hb xd_Mo_newService_143 (by decide) ?_
              refine lv_iload_n hx hb xd_Mo_newService_144 rfl (lv_at hl 5 rfl) ?_
              refine lv_imul hx hb xd_Mo_newService_145 ?_
              refine xn_top (y := nI (3 * (nd - 1))) (pk_mul 3 (nd - 1)) ?_
              refine lv_iload hx hb xd_Mo_newService_146 (lv_at hl 1 rfl) ?_
              refine lv_iadd hx hb xd_Mo_newService_148 ?_
              refine xn_top (y := nI ((3 * (nd - 1)) + f9)) (nI_add (3 * (nd - 1)) f9) ?_
              refine lv_iload_n hx hb xd_Mo_newService_149 rfl (lv_at hl 4 rfl) ?_
              refine xn_iast (i := (3 * (nd - 1)) + f9) hx hb hK.1 hP hD hS 15 0 rfl rfl (by omega) (by decide) xd_Mo_newService_150 (fun H locs hP hD hS => ?_)
              have hP : va_P D xcl (moW h mm kA v (va_up g 14 (upd (g 14) ((3 * (nd - 1)) + f9) (nV (g 0) (wb wl 1) (we wl 1))))) H := hP
              have hD : va_D A (moW h mm kA v (va_up g 14 (upd (g 14) ((3 * (nd - 1)) + f9) (nV (g 0) (wb wl 1) (we wl 1))))) := hD
              refine lv_iconst (v := 2) hx hb xd_Mo_newService_151 (by decide) ?_
              exact W.iret (v := 2) hx hb hr (fun t ht hW => ⟨⟨2, (v, (va_up g 14 (upd (g 14) ((3 * (nd - 1)) + f9) (nV (g 0) (wb wl 1) (we wl 1))))), rfl, ⟨MI_g rfl rfl rfl rfl rfl rfl rfl rfl hMI, rfl, Or.inr (Or.inr (Or.inr rfl)), congrArg (Prod.mk v) (lS_ok (by unfold svF; exact ff_some hf9 hf0 (fun k9 hk9 => hfz k9 (by omega) hk9)) ⟨by omega, fun q => hc6 (hn1.symm.trans q), by omega, fun k9 hk9 q => hs9 k9 (by omega) hk9 (q.trans hn1), z32⟩ hn1.symm)⟩, by rw [ht]; exact hP, hD⟩, hS.F ht⟩) hS.2.2 xd_Mo_newService_152
        · have e5 : nI kk - 1 = nI (kk - 1) := pk_sub (a := kk) (b := 1) hz5
          rw [e5] at hl
          refine lv_iload hx hb xd_Mo_newService_41 (lv_at hl 0 rfl) ?_
          refine xz_lt (a := kk - 1) (tgt := 105) hx hb xd_Mo_newService_43 (by decide) (by omega) ?_
          refine lv_iload_n hx hb xd_Mo_newService_46 rfl (lv_at hl 3 rfl) ?_
          refine xz_eq (a := 0) (tgt := 64) hx hb xd_Mo_newService_47 (by decide) (by omega) (fun _ => ?_) (fun hc38 => absurd hc38 (by omega))
          refine lv_aload_n hx hb xd_Mo_newService_64 rfl (lv_at hl 2 rfl) ?_
          refine va_get (D := D) (ci := 4) (v := .ref (mm 14)) (C := xR_Mo) (T := xT_Mo) (N := 31) hx hb hT xi_Mo hown hK.1 hP 0 rfl rfl 19 (by decide) (hT _ k4e_11) (fun _ h9 => h9) rfl xd_Mo_newService_65 ?_
          refine lv_iconst (v := 3) hx hb xd_Mo_newService_68 (by decide) ?_
          refine lv_iload_n hx hb xd_Mo_newService_69 rfl (lv_at hl 5 rfl) ?_
          refine lv_imul hx hb xd_Mo_newService_70 ?_
          refine xn_top (y := nI (3 * (nd - 1))) (pk_mul 3 (nd - 1)) ?_
          refine lv_iload hx hb xd_Mo_newService_71 (lv_at hl 0 rfl) ?_
          refine lv_iadd hx hb xd_Mo_newService_73 ?_
          refine xn_top (y := nI ((3 * (nd - 1)) + (kk - 1))) (nI_add (3 * (nd - 1)) (kk - 1)) ?_
          refine xn_iald (i := (3 * (nd - 1)) + (kk - 1)) hx hb hK.1 hP 15 0 rfl rfl (by omega) (by decide) xd_Mo_newService_74 ?_
          refine lv_istore hx hb xd_Mo_newService_75 hl (Nat.le_of_ble_eq_true rfl) rfl (fun ls hl => ?_)
          have hl : lv_has ls 7 [(6, .int (g 14 ((3 * (nd - 1)) + (kk - 1)))), (5, .int (nI (kk - 1))), (4, .int fr), (0, .ref h), (1, .int 0), (2, .int (nV (g 0) (wb wl 1) (we wl 1))), (3, .int (nI (nd - 1)))] := hl
          refine lv_iload hx hb xd_Mo_newService_77 (lv_at hl 0 rfl) ?_
          refine lv_iload_n hx hb xd_Mo_newService_79 rfl (lv_at hl 5 rfl) ?_
          refine lv_icmp_ne (tgt := 85) hx hb xd_Mo_newService_80 (by decide) (fun hc39 => ?_) (fun hc39 => ?_)
          · refine lv_iload hx hb xd_Mo_newService_85 (lv_at hl 0 rfl) ?_
            refine lv_if_ne (tgt := 95) hx hb xd_Mo_newService_87 (by decide) (fun hc40 => ?_) (fun hc40 => ?_)
            · refine lv_iload hx hb xd_Mo_newService_95 (lv_at hl 2 rfl) ?_
              refine lv_istore hx hb xd_Mo_newService_97 hl (Nat.le_of_ble_eq_true rfl) rfl (fun ls hl => ?_)
              have hl : lv_has ls 7 [(4, .int fr), (6, .int (g 14 ((3 * (nd - 1)) + (kk - 1)))), (5, .int (nI (kk - 1))), (0, .ref h), (1, .int 0), (2, .int (nV (g 0) (wb wl 1) (we wl 1))), (3, .int (nI (nd - 1)))] := hl
              refine lv_iinc (k := 2) (x := (nI (kk - 1))) (v := (nI (kk - 1) - 1)) hx hb xd_Mo_newService_99 hl rfl (by rw [Int32.sub_eq_add_neg]; rfl) (Nat.le_of_ble_eq_true rfl) rfl (fun ls hl => ?_)
              have hl : lv_has ls 7 [(5, .int (nI (kk - 1) - 1)), (4, .int fr), (6, .int (g 14 ((3 * (nd - 1)) + (kk - 1)))), (0, .ref h), (1, .int 0), (2, .int (nV (g 0) (wb wl 1) (we wl 1))), (3, .int (nI (nd - 1)))] := hl
              refine lv_goto (tgt := 37) hx hb xd_Mo_newService_102 (by decide) ?_
              exact ih15 (kk - 1, fr) _ _ _ (show (kk - 1) < kk by omega) (lv_sub hl [0, 1, 3, 4, 5, 6] rfl) hP hD hS ⟨(show (kk - 1) ≤ 3 from by omega), (show ∀ k9, (kk - 1) ≤ k9 → k9 < 3 → ¬ g 14 (3 * (nd - 1) + k9) = nV (g 0) (wb wl 1) (we wl 1) from fun k9 a9 b9 => by
        rcases Nat.lt_or_ge k9 kk with z | z
        · rw [show k9 = kk - 1 by omega]; exact hc39
        · exact hs9 k9 z b9), (show (fr = -1 ∧ ∀ k9, (kk - 1) ≤ k9 → k9 < 3 → ¬ g 14 (3 * (nd - 1) + k9) = 0) ∨ ∃ f9, f9 < 3 ∧ fr = nI f9 ∧ (kk - 1) ≤ f9 ∧ g 14 (3 * (nd - 1) + f9) = 0 ∧ ∀ k9, (kk - 1) ≤ k9 → k9 < f9 → ¬ g 14 (3 * (nd - 1) + k9) = 0 from by
        rcases hfr with ⟨q1, q2⟩ | ⟨f9, q1, q2, q3, q4, q5⟩
        · exact Or.inl ⟨q1, (fun k9 a9 b9 => by
          rcases Nat.lt_or_ge k9 kk with z | z
          · rw [show k9 = kk - 1 by omega]; exact hc40
          · exact q2 k9 z b9)⟩
        · exact Or.inr ⟨f9, q1, q2, by omega, q4, (fun k9 a9 b9 => by
          rcases Nat.lt_or_ge k9 kk with z | z
          · rw [show k9 = kk - 1 by omega]; exact hc40
          · exact q5 k9 z b9)⟩)⟩
            · refine lv_iload hx hb xd_Mo_newService_90 (lv_at hl 1 rfl) ?_
              refine lv_goto (tgt := 97) hx hb xd_Mo_newService_92 (by decide) ?_
              refine lv_istore hx hb xd_Mo_newService_97 hl (Nat.le_of_ble_eq_true rfl) rfl (fun ls hl => ?_)
              have hl : lv_has ls 7 [(4, .int (nI (kk - 1))), (6, .int (g 14 ((3 * (nd - 1)) + (kk - 1)))), (5, .int (nI (kk - 1))), (0, .ref h), (1, .int 0), (2, .int (nV (g 0) (wb wl 1) (we wl 1))), (3, .int (nI (nd - 1)))] := hl
              refine lv_iinc (k := 2) (x := (nI (kk - 1))) (v := (nI (kk - 1) - 1)) hx hb xd_Mo_newService_99 hl rfl (by rw [Int32.sub_eq_add_neg]; rfl) (Nat.le_of_ble_eq_true rfl) rfl (fun ls hl => ?_)
              have hl : lv_has ls 7 [(5, .int (nI (kk - 1) - 1)), (4, .int (nI (kk - 1))), (6, .int (g 14 ((3 * (nd - 1)) + (kk - 1)))), (0, .ref h), (1, .int 0), (2, .int (nV (g 0) (wb wl 1) (we wl 1))), (3, .int (nI (nd - 1)))] := hl
              refine lv_goto (tgt := 37) hx hb xd_Mo_newService_102 (by decide) ?_
              exact ih15 (kk - 1, (nI (kk - 1))) _ _ _ (show (kk - 1) < kk by omega) (lv_sub hl [0, 1, 3, 4, 5, 6] rfl) hP hD hS ⟨(show (kk - 1) ≤ 3 from by omega), (show ∀ k9, (kk - 1) ≤ k9 → k9 < 3 → ¬ g 14 (3 * (nd - 1) + k9) = nV (g 0) (wb wl 1) (we wl 1) from fun k9 a9 b9 => by
        rcases Nat.lt_or_ge k9 kk with z | z
        · rw [show k9 = kk - 1 by omega]; exact hc39
        · exact hs9 k9 z b9), (show ((nI (kk - 1)) = -1 ∧ ∀ k9, (kk - 1) ≤ k9 → k9 < 3 → ¬ g 14 (3 * (nd - 1) + k9) = 0) ∨ ∃ f9, f9 < 3 ∧ (nI (kk - 1)) = nI f9 ∧ (kk - 1) ≤ f9 ∧ g 14 (3 * (nd - 1) + f9) = 0 ∧ ∀ k9, (kk - 1) ≤ k9 → k9 < f9 → ¬ g 14 (3 * (nd - 1) + k9) = 0 from Or.inr ⟨kk - 1, by omega, rfl, by omega, hc40, fun k9 a9 b9 => absurd b9 (by omega)⟩)⟩
          · refine lv_iconst (v := (-1)) hx hb xd_Mo_newService_83 (by decide) ?_
            exact W.iret (v := (-1)) hx hb hr (fun t ht hW => ⟨⟨(-1), (v, g), rfl, ⟨hMI, rfl, Or.inl rfl, congrArg (Prod.mk v) (lS_no1 (fun q => q.2.2.2.1 (kk - 1) (by omega) (hc39.trans hn1.symm)))⟩, by rw [ht]; exact hP, hD⟩, hS.F ht⟩) hS.2.2 xd_Mo_newService_84
    · refine lv_iconst (v := (-1)) hx hb xd_Mo_newService_22 (by decide) ?_
      exact W.iret (v := (-1)) hx hb hr (fun t ht hW => ⟨⟨(-1), (v, g), rfl, ⟨hMI, rfl, Or.inl rfl, congrArg (Prod.mk v) (lS_no1 (fun q => q.2.1 ((wN_in (by omega)).trans hc6)))⟩, by rw [ht]; exact hP, hD⟩, hS.F ht⟩) hS.2.2 xd_Mo_newService_23
set_option maxHeartbeats 4000000 in
set_option maxRecDepth 100000 in
theorem xc_Mo_newService1X (l : Launch) (D : va_G) (kA : Nat → ClassId) (sz h : Nat) (mm : Nat → Nat) (v : Nat → Int32) (g : Nat → Nat → Int32) (wl : List (Nat × Nat)) (nd : Nat) (hMI : MI v g) (hWX : WX v g wl) (hnd : v 4 = nI nd) (hnd12 : nd ≤ 12) : Met l xy_Mo_newService (.code xy_Mo_newService xb_Mo_newService 7 (some .int) :: wT) { frames := 1, cells := 0, slots := 0, locals := 23 } (va_Pc [.ref h, .int 1] (xPre D kA sz (moW h mm kA v g))) (va_Qi (fun (r : Int32) (u : (Nat → Int32) × (Nat → Nat → Int32)) => MI u.1 u.2 ∧ u.1 2 = v 2 ∧ (r = -1 ∨ r = -2 ∨ r = 1 ∨ r = 2) ∧ u = (v, lS 15 (g 0) wl nd g)) (fun (u : (Nat → Int32) × (Nat → Nat → Int32)) t => va_P D xcl (moW h mm kA u.1 u.2) t.heap ∧ va_D (va_A (moW h mm kA v g) sz) (moW h mm kA u.1 u.2)) (va_A (moW h mm kA v g) sz)) 0 0 (va_A (moW h mm kA v g) sz) := by
  refine Met.ofW (cc := xb_Mo_newService) (maxL := 7) (ret := (some .int)) (by decide) rfl ?_
  intro p e s m args below meth c s₁ B hml hv
  obtain ⟨rfl, hsz, hP, hK, hD0⟩ := hv
  have hx := B.exec
  have hb := B.bytes
  have hr := B.returns
  have hT := x_hT B.pre
  have hown : s.vm.findClass xR_Mo = some m.cls := findClass_of_methodNamed B.named
  have hlocks := B.notSynchronized
  subst hsz
  have hD := hD0.self (sz := s.heap.size)
  generalize hAe : va_A (moW h mm kA v g) s.heap.size = A at hD ⊢
  have hA : ∀ q : Nat, s.heap.size ≤ q → A q := fun q h => by rw [← hAe]; exact Or.inr h
  have hS : va_S A s.heap s.heap [] := va_S.rf
  have hl := lv_entry ([.ref h, .int 1]) (n := 7) (Nat.le_of_ble_eq_true rfl)
  rw [lg_entry_eq]
  generalize (lg_sl ([.ref h, .int 1]) ++ List.replicate (7 - (lg_sl ([.ref h, .int 1])).length) Slot.unset).toArray = ls at hl ⊢
  have hl : lv_has ls 7 [(0, .ref h), (1, .int 1)] := hl
  have hP : va_P D xcl (moW h mm kA v g) s.heap := hP
  obtain ⟨-, ⟨nl, hnl5, hnl, hpar⟩, hch, hpk, hrq, hmd, huq⟩ := id hMI
  obtain ⟨hwn, ⟨hwn20, hwlr⟩, hws⟩ := id hWX
  refine lv_aload_n hx hb xd_Mo_newService_0 rfl (lv_at hl 0 rfl) ?_
  refine va_get (D := D) (ci := 4) (v := .int (v 3)) (C := xR_Mo) (T := xT_Mo) (N := 31) hx hb hT xi_Mo hown hK.1 hP 0 rfl rfl 4 (by decide) (hT _ k4e_0) (fun _ h9 => h9) rfl xd_Mo_newService_1 ?_
  refine xn_top (x := (v 3)) (y := nI wl.length) hwn ?_
  refine lv_iconst (v := 2) hx hb xd_Mo_newService_4 (by decide) ?_
  refine xn_ne (a := wl.length) (b := 2) (tgt := 16) hx hb xd_Mo_newService_5 (by decide) (by omega) (by omega) (fun hc1 => ?_) (fun hc1 => ?_)
  · refine lv_iconst (v := 0) hx hb xd_Mo_newService_16 (by decide) ?_
    refine lv_istore_n hx hb xd_Mo_newService_17 rfl hl (Nat.le_of_ble_eq_true rfl) rfl (fun ls hl => ?_)
    have hl : lv_has ls 7 [(2, .int 0), (0, .ref h), (1, .int 1)] := hl
    refine lv_iload_n hx hb xd_Mo_newService_18 rfl (lv_at hl 0 rfl) ?_
    refine xz_ne (a := 0) (tgt := 24) hx hb xd_Mo_newService_19 (by decide) (by omega) (fun hc2 => absurd hc2 (by omega)) (fun _ => ?_)
    refine lv_iconst (v := (-1)) hx hb xd_Mo_newService_22 (by decide) ?_
    exact W.iret (v := (-1)) hx hb hr (fun t ht hW => ⟨⟨(-1), (v, g), rfl, ⟨hMI, rfl, Or.inl rfl, congrArg (Prod.mk v) (lS_no1 (fun q => absurd q.1 (by omega)))⟩, by rw [ht]; exact hP, hD⟩, hS.F ht⟩) hS.2.2 xd_Mo_newService_23
  · have hbe1 := (hwlr 1 (by omega)).1
    have he1 := (hwlr 1 (by omega)).2
    have eb1 := (hws 1 (by omega)).1
    have ee1 := (hws 1 (by omega)).2
    refine lv_aload_n hx hb xd_Mo_newService_8 rfl (lv_at hl 0 rfl) ?_
    refine lv_iconst (v := 1) hx hb xd_Mo_newService_9 (by decide) ?_
    have hFc := va_free (wc := (moW h mm kA v g)) hD hS hA [0, 1, 2, 3, 4, 5, 6, 7, 8, 9, 10, 11, 12, 13, 14, 15, 16, 17, 18, 19, 20, 21, 22, 23, 24, 25] rfl
    refine va_calli (va_runV (As := [.int 1]) (rest := []) ⟨hx, hb, hml, hown, hT⟩ (xc_Mo_nameOfX l D kA s.heap.size h mm v g 1 (wb wl 1) (we wl 1) (by first | assumption | omega) (by first | assumption | omega) (by first | assumption | omega) (by first | assumption | omega) (by first | assumption | omega)) (cwV 1 hT (wT_V k4e_2 k4e_3 k4e_4 k4e_5 k4e_1) rfl rfl rfl (by decide +kernel) ⟨Nat.le_of_ble_eq_true rfl, Nat.le_of_ble_eq_true rfl⟩) (x_preV hK hP hD 0 rfl rfl) rfl rfl hl.1 rfl (lv_room (Nat.le_of_ble_eq_true rfl)) xd_Mo_newService_10 ⟨Nat.le_of_ble_eq_true rfl, Nat.le_of_ble_eq_true rfl⟩) hS (fun q _ h => hFc q h) hFc (fun r3 u4 t H1 locs ht hvm hp5 hB hz1 hk1 hS => ?_)
    obtain ⟨hP1, hD1⟩ := hB
    rw [ht] at hP1
    have hD1 := hD1.weaken (fun _ _ _ h => hFc _ h)
    generalize H1 = H at hP1 hS ⊢
    have hP := hP1
    have hD := hD1
    have hP : va_P D xcl (moW h mm kA v g) H := hP
    have hD : va_D A (moW h mm kA v g) := hD
    have hp5 : r3 = nV (g 0) (wb wl 1) (we wl 1) := hp5
    subst hp5
    have hP : va_P D xcl (moW h mm kA v g) H := hP
    have hD : va_D A (moW h mm kA v g) := hD
    refine lv_goto (tgt := 17) hx hb xd_Mo_newService_13 (by decide) ?_
    refine lv_istore_n hx hb xd_Mo_newService_17 rfl hl (Nat.le_of_ble_eq_true rfl) rfl (fun ls hl => ?_)
    have hl : lv_has ls 7 [(2, .int (nV (g 0) (wb wl 1) (we wl 1))), (0, .ref h), (1, .int 1)] := hl
    refine lv_iload_n hx hb xd_Mo_newService_18 rfl (lv_at hl 0 rfl) ?_
    refine lv_if_ne (tgt := 24) hx hb xd_Mo_newService_19 (by decide) (fun hc6 => ?_) (fun hc6 => ?_)
    · rcases Nat.eq_zero_or_pos nd with hz | hz
      · have hnd0 : v 4 = nI 0 := by rw [hnd, hz]
        have hn1 : wN (g 0) wl 1 = nV (g 0) (wb wl 1) (we wl 1) := wN_in (by omega)
        refine lv_aload_n hx hb xd_Mo_newService_24 rfl (lv_at hl 1 rfl) ?_
        refine va_get (D := D) (ci := 4) (v := .int (v 4)) (C := xR_Mo) (T := xT_Mo) (N := 31) hx hb hT xi_Mo hown hK.1 hP 0 rfl rfl 7 (by decide) (hT _ k4e_6) (fun _ h9 => h9) rfl xd_Mo_newService_25 ?_
        refine xn_top (x := (v 4)) (y := nI 0) hnd0 ?_
        refine lv_iconst (v := 1) hx hb xd_Mo_newService_28 (by decide) ?_
        refine lv_isub hx hb xd_Mo_newService_29 ?_
        refine lv_istore_n hx hb xd_Mo_newService_30 rfl hl (Nat.le_of_ble_eq_true rfl) rfl (fun ls hl => ?_)
        have hl : lv_has ls 7 [(3, .int ((nI 0) - 1)), (2, .int (nV (g 0) (wb wl 1) (we wl 1))), (0, .ref h), (1, .int 1)] := hl
        refine lv_iconst (v := (-1)) hx hb xd_Mo_newService_31 (by decide) ?_
        refine lv_istore hx hb xd_Mo_newService_32 hl (Nat.le_of_ble_eq_true rfl) rfl (fun ls hl => ?_)
        have hl : lv_has ls 7 [(4, .int (-1)), (3, .int ((nI 0) - 1)), (2, .int (nV (g 0) (wb wl 1) (we wl 1))), (0, .ref h), (1, .int 1)] := hl
        refine lv_iconst (v := 2) hx hb xd_Mo_newService_34 (by decide) ?_
        refine lv_istore hx hb xd_Mo_newService_35 hl (Nat.le_of_ble_eq_true rfl) rfl (fun ls hl => ?_)
        have hl : lv_has ls 7 [(5, .int 2), (4, .int (-1)), (3, .int ((nI 0) - 1)), (2, .int (nV (g 0) (wb wl 1) (we wl 1))), (0, .ref h), (1, .int 1)] := hl
        refine lv_iload_n hx hb xd_Mo_newService_37 rfl (lv_at hl 2 rfl) ?_
        refine lv_if_lt (tgt := 105) hx hb xd_Mo_newService_38 (by decide) (fun _ => ?_) (fun hc7 => absurd hc7 (by decide))
        refine lv_aload_n hx hb xd_Mo_newService_105 rfl (lv_at hl 4 rfl) ?_
        have hFc := va_free (wc := (moW h mm kA v g)) hD hS hA [0, 1, 2, 3, 4, 5, 6, 7, 8, 9, 10, 11, 12, 13, 14, 15, 16, 17, 18, 19, 20, 21, 22, 23, 24, 25] rfl
        refine va_calli (va_runV (As := []) (rest := []) ⟨hx, hb, hml, hown, hT⟩ (xc_Mo_isShut l D kA H.size h mm v g nd (by first | assumption | omega) (by first | assumption | omega)) (cwV 0 hT (wT_V k4e_8 k4e_9 k4e_10 k4e_5 k4e_7) rfl rfl rfl (by decide +kernel) ⟨Nat.le_of_ble_eq_true rfl, Nat.le_of_ble_eq_true rfl⟩) (x_preV hK hP hD 0 rfl rfl) rfl rfl hl.1 rfl (lv_room (Nat.le_of_ble_eq_true rfl)) xd_Mo_newService_106 ⟨Nat.le_of_ble_eq_true rfl, Nat.le_of_ble_eq_true rfl⟩) hS (fun q _ h => hFc q h) hFc (fun r8 u9 t H1 locs ht hvm hp10 hB hz1 hk1 hS => ?_)
        obtain ⟨hP1, hD1⟩ := hB
        rw [ht] at hP1
        have hD1 := hD1.weaken (fun _ _ _ h => hFc _ h)
        generalize H1 = H at hP1 hS ⊢
        have hP := hP1
        have hD := hD1
        have hP : va_P D xcl (moW h mm kA v g) H := hP
        have hD : va_D A (moW h mm kA v g) := hD
        rcases hp10 with ⟨rfl, z11⟩ | ⟨rfl, z12, z13⟩
        · refine xz_ne (a := 1) (tgt := 117) hx hb xd_Mo_newService_109 (by decide) (by omega) (fun _ => ?_) (fun hc14 => absurd hc14 (by omega))
          refine lv_bipush (v := (-2)) hx hb xd_Mo_newService_117 (by decide) ?_
          exact W.iret (v := (-2)) hx hb hr (fun t ht hW => ⟨⟨(-2), (v, g), rfl, ⟨hMI, rfl, Or.inr (Or.inl rfl), congrArg (Prod.mk v) (lS_no1 (fun q => absurd q.2.2.1 (by omega)))⟩, by rw [ht]; exact hP, hD⟩, hS.F ht⟩) hS.2.2 xd_Mo_newService_119
        · exact absurd hz z12
      · have hn1 : wN (g 0) wl 1 = nV (g 0) (wb wl 1) (we wl 1) := wN_in (by omega)
        refine lv_aload_n hx hb xd_Mo_newService_24 rfl (lv_at hl 1 rfl) ?_
        refine va_get (D := D) (ci := 4) (v := .int (v 4)) (C := xR_Mo) (T := xT_Mo) (N := 31) hx hb hT xi_Mo hown hK.1 hP 0 rfl rfl 7 (by decide) (hT _ k4e_6) (fun _ h9 => h9) rfl xd_Mo_newService_25 ?_
        refine xn_top (x := (v 4)) (y := nI nd) hnd ?_
        refine lv_iconst (v := 1) hx hb xd_Mo_newService_28 (by decide) ?_
        refine lv_isub hx hb xd_Mo_newService_29 ?_
        refine xn_top (y := nI (nd - 1)) (pk_sub (a := nd) (b := 1) (by omega)) ?_
        refine lv_istore_n hx hb xd_Mo_newService_30 rfl hl (Nat.le_of_ble_eq_true rfl) rfl (fun ls hl => ?_)
        have hl : lv_has ls 7 [(3, .int (nI (nd - 1))), (2, .int (nV (g 0) (wb wl 1) (we wl 1))), (0, .ref h), (1, .int 1)] := hl
        refine lv_iconst (v := (-1)) hx hb xd_Mo_newService_31 (by decide) ?_
        refine lv_istore hx hb xd_Mo_newService_32 hl (Nat.le_of_ble_eq_true rfl) rfl (fun ls hl => ?_)
        have hl : lv_has ls 7 [(4, .int (-1)), (3, .int (nI (nd - 1))), (2, .int (nV (g 0) (wb wl 1) (we wl 1))), (0, .ref h), (1, .int 1)] := hl
        refine lv_iconst (v := 2) hx hb xd_Mo_newService_34 (by decide) ?_
        refine lv_istore hx hb xd_Mo_newService_35 hl (Nat.le_of_ble_eq_true rfl) rfl (fun ls hl => ?_)
        have hl : lv_has ls 7 [(5, .int 2), (4, .int (-1)), (3, .int (nI (nd - 1))), (2, .int (nV (g 0) (wb wl 1) (we wl 1))), (0, .ref h), (1, .int 1)] := hl
        have e25 : (2 : Int32) = nI 3 - 1 := by decide
        rw [e25] at hl
        refine xlab (σ := Nat × Int32) (ml := 7) 37 (fun (kk, fr) => [(5, .int (nI kk - 1)), (4, .int fr), (0, .ref h), (1, .int 1), (2, .int (nV (g 0) (wb wl 1) (we wl 1))), (3, .int (nI (nd - 1)))]) (fun (kk, fr) => []) (fun (kk, fr) => moW h mm kA v g) (fun (kk, fr) => (kk ≤ 3) ∧ (∀ k9, kk ≤ k9 → k9 < 3 → ¬ g 15 (3 * (nd - 1) + k9) = nV (g 0) (wb wl 1) (we wl 1)) ∧ ((fr = -1 ∧ ∀ k9, kk ≤ k9 → k9 < 3 → ¬ g 15 (3 * (nd - 1) + k9) = 0) ∨ ∃ f9, f9 < 3 ∧ fr = nI f9 ∧ kk ≤ f9 ∧ g 15 (3 * (nd - 1) + f9) = 0 ∧ ∀ k9, kk ≤ k9 → k9 < f9 → ¬ g 15 (3 * (nd - 1) + k9) = 0)) (fun (kk, fr) => kk) ?_ (3, (-1)) _ _ _ (lv_sub hl [0, 1, 4, 5, 3, 2] rfl) hP hD hS ⟨(show 3 ≤ 3 from by omega), (show ∀ k9, 3 ≤ k9 → k9 < 3 → ¬ g 15 (3 * (nd - 1) + k9) = nV (g 0) (wb wl 1) (we wl 1) from fun k9 a9 b9 => absurd b9 (by omega)), (show ((-1) = -1 ∧ ∀ k9, 3 ≤ k9 → k9 < 3 → ¬ g 15 (3 * (nd - 1) + k9) = 0) ∨ ∃ f9, f9 < 3 ∧ (-1) = nI f9 ∧ 3 ≤ f9 ∧ g 15 (3 * (nd - 1) + f9) = 0 ∧ ∀ k9, 3 ≤ k9 → k9 < f9 → ¬ g 15 (3 * (nd - 1) + k9) = 0 from Or.inl ⟨rfl, fun k9 a9 b9 => absurd b9 (by omega)⟩)⟩
        intro n9 ih15 a9 ls H locs hμ hl hP hD hS hI
        subst hμ
        obtain ⟨kk, fr⟩ := a9
        obtain ⟨hkk, hs9, hfr⟩ := hI
        have hkk : kk ≤ 3 := hkk
        have hs9 : ∀ k9, kk ≤ k9 → k9 < 3 → ¬ g 15 (3 * (nd - 1) + k9) = nV (g 0) (wb wl 1) (we wl 1) := hs9
        have hfr : (fr = -1 ∧ ∀ k9, kk ≤ k9 → k9 < 3 → ¬ g 15 (3 * (nd - 1) + k9) = 0) ∨ ∃ f9, f9 < 3 ∧ fr = nI f9 ∧ kk ≤ f9 ∧ g 15 (3 * (nd - 1) + f9) = 0 ∧ ∀ k9, kk ≤ k9 → k9 < f9 → ¬ g 15 (3 * (nd - 1) + k9) = 0 := hfr
        have hl : lv_has ls 7 [(5, .int (nI kk - 1)), (4, .int fr), (0, .ref h), (1, .int 1), (2, .int (nV (g 0) (wb wl 1) (we wl 1))), (3, .int (nI (nd - 1)))] := hl
        have hP : va_P D xcl (moW h mm kA v g) H := hP
        have hD : va_D A (moW h mm kA v g) := hD
        refine lv_iload_n hx hb xd_Mo_newService_37 rfl (lv_at hl 5 rfl) ?_
        refine xz_lt (a := nd - 1) (tgt := 105) hx hb xd_Mo_newService_38 (by decide) (by omega) ?_
        rcases Nat.eq_zero_or_pos kk with hz5 | hz5
        · have e5 : nI kk - 1 = -1 := by rw [hz5]; decide
          rw [e5] at hl
          refine lv_iload hx hb xd_Mo_newService_41 (lv_at hl 0 rfl) ?_
          refine lv_if_lt (tgt := 105) hx hb xd_Mo_newService_43 (by decide) (fun _ => ?_) (fun hc17 => absurd hc17 (by decide))
          rcases hfr with ⟨hfr, hfz⟩ | ⟨f9, hf9, hfr, hfk, hf0, hfz⟩
          · rw [hfr] at hl
            refine lv_aload_n hx hb xd_Mo_newService_105 rfl (lv_at hl 2 rfl) ?_
            have hFc := va_free (wc := (moW h mm kA v g)) hD hS hA [0, 1, 2, 3, 4, 5, 6, 7, 8, 9, 10, 11, 12, 13, 14, 15, 16, 17, 18, 19, 20, 21, 22, 23, 24, 25] rfl
            refine va_calli (va_runV (As := []) (rest := []) ⟨hx, hb, hml, hown, hT⟩ (xc_Mo_isShut l D kA H.size h mm v g nd (by first | assumption | omega) (by first | assumption | omega)) (cwV 0 hT (wT_V k4e_8 k4e_9 k4e_10 k4e_5 k4e_7) rfl rfl rfl (by decide +kernel) ⟨Nat.le_of_ble_eq_true rfl, Nat.le_of_ble_eq_true rfl⟩) (x_preV hK hP hD 0 rfl rfl) rfl rfl hl.1 rfl (lv_room (Nat.le_of_ble_eq_true rfl)) xd_Mo_newService_106 ⟨Nat.le_of_ble_eq_true rfl, Nat.le_of_ble_eq_true rfl⟩) hS (fun q _ h => hFc q h) hFc (fun r18 u19 t H1 locs ht hvm hp20 hB hz1 hk1 hS => ?_)
            obtain ⟨hP1, hD1⟩ := hB
            rw [ht] at hP1
            have hD1 := hD1.weaken (fun _ _ _ h => hFc _ h)
            generalize H1 = H at hP1 hS ⊢
            have hP := hP1
            have hD := hD1
            have hP : va_P D xcl (moW h mm kA v g) H := hP
            have hD : va_D A (moW h mm kA v g) := hD
            rcases hp20 with ⟨rfl, z21⟩ | ⟨rfl, z22, z23⟩
            · refine xz_ne (a := 1) (tgt := 117) hx hb xd_Mo_newService_109 (by decide) (by omega) (fun _ => ?_) (fun hc24 => absurd hc24 (by omega))
              refine lv_bipush (v := (-2)) hx hb xd_Mo_newService_117 (by decide) ?_
              exact W.iret (v := (-2)) hx hb hr (fun t ht hW => ⟨⟨(-2), (v, g), rfl, ⟨hMI, rfl, Or.inr (Or.inl rfl), congrArg (Prod.mk v) (lS_no1 (fun q => z21.elim (fun z => absurd q.2.2.1 (by omega)) (fun z => z q.2.2.2.2)))⟩, by rw [ht]; exact hP, hD⟩, hS.F ht⟩) hS.2.2 xd_Mo_newService_119
            · refine xz_ne (a := 0) (tgt := 117) hx hb xd_Mo_newService_109 (by decide) (by omega) (fun hc25 => absurd hc25 (by omega)) (fun _ => ?_)
              refine lv_iload hx hb xd_Mo_newService_112 (lv_at hl 1 rfl) ?_
              refine lv_if_ge (tgt := 120) hx hb xd_Mo_newService_114 (by decide) (fun hc26 => absurd hc26 (by decide)) (fun _ => ?_)
              refine lv_bipush (v := (-2)) hx hb xd_Mo_newService_117 (by decide) ?_
              exact W.iret (v := (-2)) hx hb hr (fun t ht hW => ⟨⟨(-2), (v, g), rfl, ⟨hMI, rfl, Or.inr (Or.inl rfl), congrArg (Prod.mk v) (lS_no2 (by unfold svF; exact ff_none (fun k9 hk9 => hfz k9 (by omega) hk9)))⟩, by rw [ht]; exact hP, hD⟩, hS.F ht⟩) hS.2.2 xd_Mo_newService_119
          · rw [hfr] at hl
            refine lv_aload_n hx hb xd_Mo_newService_105 rfl (lv_at hl 2 rfl) ?_
            have hFc := va_free (wc := (moW h mm kA v g)) hD hS hA [0, 1, 2, 3, 4, 5, 6, 7, 8, 9, 10, 11, 12, 13, 14, 15, 16, 17, 18, 19, 20, 21, 22, 23, 24, 25] rfl
            refine va_calli (va_runV (As := []) (rest := []) ⟨hx, hb, hml, hown, hT⟩ (xc_Mo_isShut l D kA H.size h mm v g nd (by first | assumption | omega) (by first | assumption | omega)) (cwV 0 hT (wT_V k4e_8 k4e_9 k4e_10 k4e_5 k4e_7) rfl rfl rfl (by decide +kernel) ⟨Nat.le_of_ble_eq_true rfl, Nat.le_of_ble_eq_true rfl⟩) (x_preV hK hP hD 0 rfl rfl) rfl rfl hl.1 rfl (lv_room (Nat.le_of_ble_eq_true rfl)) xd_Mo_newService_106 ⟨Nat.le_of_ble_eq_true rfl, Nat.le_of_ble_eq_true rfl⟩) hS (fun q _ h => hFc q h) hFc (fun r27 u28 t H1 locs ht hvm hp29 hB hz1 hk1 hS => ?_)
            obtain ⟨hP1, hD1⟩ := hB
            rw [ht] at hP1
            have hD1 := hD1.weaken (fun _ _ _ h => hFc _ h)
            generalize H1 = H at hP1 hS ⊢
            have hP := hP1
            have hD := hD1
            have hP : va_P D xcl (moW h mm kA v g) H := hP
            have hD : va_D A (moW h mm kA v g) := hD
            rcases hp29 with ⟨rfl, z30⟩ | ⟨rfl, z31, z32⟩
            · refine xz_ne (a := 1) (tgt := 117) hx hb xd_Mo_newService_109 (by decide) (by omega) (fun _ => ?_) (fun hc33 => absurd hc33 (by omega))
              refine lv_bipush (v := (-2)) hx hb xd_Mo_newService_117 (by decide) ?_
              exact W.iret (v := (-2)) hx hb hr (fun t ht hW => ⟨⟨(-2), (v, g), rfl, ⟨hMI, rfl, Or.inr (Or.inl rfl), congrArg (Prod.mk v) (lS_no1 (fun q => z30.elim (fun z => absurd q.2.2.1 (by omega)) (fun z => z q.2.2.2.2)))⟩, by rw [ht]; exact hP, hD⟩, hS.F ht⟩) hS.2.2 xd_Mo_newService_119
            · refine xz_ne (a := 0) (tgt := 117) hx hb xd_Mo_newService_109 (by decide) (by omega) (fun hc34 => absurd hc34 (by omega)) (fun _ => ?_)
              refine lv_iload hx hb xd_Mo_newService_112 (lv_at hl 1 rfl) ?_
              refine xz_ge (a := f9) (tgt := 120) hx hb xd_Mo_newService_114 (by decide) (by omega) ?_
              refine lv_iload_n hx hb xd_Mo_newService_120 rfl (lv_at hl 3 rfl) ?_
              refine xz_eq (a := 1) (tgt := 139) hx hb xd_Mo_newService_121 (by decide) (by omega) (fun hc36 => absurd hc36 (by omega)) (fun _ => ?_)
              refine lv_aload_n hx hb xd_Mo_newService_124 rfl (lv_at hl 2 rfl) ?_
              refine va_get (D := D) (ci := 4) (v := .ref (mm 15)) (C := xR_Mo) (T := xT_Mo) (N := 31) hx hb hT xi_Mo hown hK.1 hP 0 rfl rfl 20 (by decide) (hT _ k4e_12) (fun _ h9 => h9) rfl xd_Mo_newService_125 ?_
              refine lv_iconst (v := 3) hx hb xd_Mo_newService_128 (by decide) ?_
              refine lv_iload_n hx hb xd_Mo_newService_129 rfl (lv_at hl 5 rfl) ?_
              refine lv_imul hx hb xd_Mo_newService_130 ?_
              refine xn_top (y := nI (3 * (nd - 1))) (pk_mul 3 (nd - 1)) ?_
              refine lv_iload hx hb xd_Mo_newService_131 (lv_at hl 1 rfl) ?_
              refine lv_iadd hx hb xd_Mo_newService_133 ?_
              refine xn_top (y := nI ((3 * (nd - 1)) + f9)) (nI_add (3 * (nd - 1)) f9) ?_
              refine lv_iload_n hx hb xd_Mo_newService_134 rfl (lv_at hl 4 rfl) ?_
              refine xn_iast (i := (3 * (nd - 1)) + f9) hx hb hK.1 hP hD hS 16 0 rfl rfl (by omega) (by decide) xd_Mo_newService_135 (fun H locs hP hD hS => ?_)
              have hP : va_P D xcl (moW h mm kA v (va_up g 15 (upd (g 15) ((3 * (nd - 1)) + f9) (nV (g 0) (wb wl 1) (we wl 1))))) H := hP
              have hD : va_D A (moW h mm kA v (va_up g 15 (upd (g 15) ((3 * (nd - 1)) + f9) (nV (g 0) (wb wl 1) (we wl 1))))) := hD
              refine lv_goto (tgt := 151) hx hb xd_Mo_newService_136 (by decide) ?_
              refine lv_iconst (v := 2) hx hb xd_Mo_newService_151 (by decide) ?_
              exact W.iret (v := 2) hx hb hr (fun t ht hW => ⟨⟨2, (v, (va_up g 15 (upd (g 15) ((3 * (nd - 1)) + f9) (nV (g 0) (wb wl 1) (we wl 1))))), rfl, ⟨MI_g rfl rfl rfl rfl rfl rfl rfl rfl hMI, rfl, Or.inr (Or.inr (Or.inr rfl)), congrArg (Prod.mk v) (lS_ok (by unfold svF; exact ff_some hf9 hf0 (fun k9 hk9 => hfz k9 (by omega) hk9)) ⟨by omega, fun q => hc6 (hn1.symm.trans q), by omega, fun k9 hk9 q => hs9 k9 (by omega) hk9 (q.trans hn1), z32⟩ hn1.symm)⟩, by rw [ht]; exact hP, hD⟩, hS.F ht⟩) hS.2.2 xd_Mo_newService_152
        · have e5 : nI kk - 1 = nI (kk - 1) := pk_sub (a := kk) (b := 1) hz5
          rw [e5] at hl
          refine lv_iload hx hb xd_Mo_newService_41 (lv_at hl 0 rfl) ?_
          refine xz_lt (a := kk - 1) (tgt := 105) hx hb xd_Mo_newService_43 (by decide) (by omega) ?_
          refine lv_iload_n hx hb xd_Mo_newService_46 rfl (lv_at hl 3 rfl) ?_
          refine xz_eq (a := 1) (tgt := 64) hx hb xd_Mo_newService_47 (by decide) (by omega) (fun hc38 => absurd hc38 (by omega)) (fun _ => ?_)
          refine lv_aload_n hx hb xd_Mo_newService_50 rfl (lv_at hl 2 rfl) ?_
          refine va_get (D := D) (ci := 4) (v := .ref (mm 15)) (C := xR_Mo) (T := xT_Mo) (N := 31) hx hb hT xi_Mo hown hK.1 hP 0 rfl rfl 20 (by decide) (hT _ k4e_12) (fun _ h9 => h9) rfl xd_Mo_newService_51 ?_
          refine lv_iconst (v := 3) hx hb xd_Mo_newService_54 (by decide) ?_
          refine lv_iload_n hx hb xd_Mo_newService_55 rfl (lv_at hl 5 rfl) ?_
          refine lv_imul hx hb xd_Mo_newService_56 ?_
          refine xn_top (y := nI (3 * (nd - 1))) (pk_mul 3 (nd - 1)) ?_
          refine lv_iload hx hb xd_Mo_newService_57 (lv_at hl 0 rfl) ?_
          refine lv_iadd hx hb xd_Mo_newService_59 ?_
          refine xn_top (y := nI ((3 * (nd - 1)) + (kk - 1))) (nI_add (3 * (nd - 1)) (kk - 1)) ?_
          refine xn_iald (i := (3 * (nd - 1)) + (kk - 1)) hx hb hK.1 hP 16 0 rfl rfl (by omega) (by decide) xd_Mo_newService_60 ?_
          refine lv_goto (tgt := 75) hx hb xd_Mo_newService_61 (by decide) ?_
          refine lv_istore hx hb xd_Mo_newService_75 hl (Nat.le_of_ble_eq_true rfl) rfl (fun ls hl => ?_)
          have hl : lv_has ls 7 [(6, .int (g 15 ((3 * (nd - 1)) + (kk - 1)))), (5, .int (nI (kk - 1))), (4, .int fr), (0, .ref h), (1, .int 1), (2, .int (nV (g 0) (wb wl 1) (we wl 1))), (3, .int (nI (nd - 1)))] := hl
          refine lv_iload hx hb xd_Mo_newService_77 (lv_at hl 0 rfl) ?_
          refine lv_iload_n hx hb xd_Mo_newService_79 rfl (lv_at hl 5 rfl) ?_
          refine lv_icmp_ne (tgt := 85) hx hb xd_Mo_newService_80 (by decide) (fun hc39 => ?_) (fun hc39 => ?_)
          · refine lv_iload hx hb xd_Mo_newService_85 (lv_at hl 0 rfl) ?_
            refine lv_if_ne (tgt := 95) hx hb xd_Mo_newService_87 (by decide) (fun hc40 => ?_) (fun hc40 => ?_)
            · refine lv_iload hx hb xd_Mo_newService_95 (lv_at hl 2 rfl) ?_
              refine lv_istore hx hb xd_Mo_newService_97 hl (Nat.le_of_ble_eq_true rfl) rfl (fun ls hl => ?_)
              have hl : lv_has ls 7 [(4, .int fr), (6, .int (g 15 ((3 * (nd - 1)) + (kk - 1)))), (5, .int (nI (kk - 1))), (0, .ref h), (1, .int 1), (2, .int (nV (g 0) (wb wl 1) (we wl 1))), (3, .int (nI (nd - 1)))] := hl
              refine lv_iinc (k := 2) (x := (nI (kk - 1))) (v := (nI (kk - 1) - 1)) hx hb xd_Mo_newService_99 hl rfl (by rw [Int32.sub_eq_add_neg]; rfl) (Nat.le_of_ble_eq_true rfl) rfl (fun ls hl => ?_)
              have hl : lv_has ls 7 [(5, .int (nI (kk - 1) - 1)), (4, .int fr), (6, .int (g 15 ((3 * (nd - 1)) + (kk - 1)))), (0, .ref h), (1, .int 1), (2, .int (nV (g 0) (wb wl 1) (we wl 1))), (3, .int (nI (nd - 1)))] := hl
              refine lv_goto (tgt := 37) hx hb xd_Mo_newService_102 (by decide) ?_
              exact ih15 (kk - 1, fr) _ _ _ (show (kk - 1) < kk by omega) (lv_sub hl [0, 1, 3, 4, 5, 6] rfl) hP hD hS ⟨(show (kk - 1) ≤ 3 from by omega), (show ∀ k9, (kk - 1) ≤ k9 → k9 < 3 → ¬ g 15 (3 * (nd - 1) + k9) = nV (g 0) (wb wl 1) (we wl 1) from fun k9 a9 b9 => by
        rcases Nat.lt_or_ge k9 kk with z | z
        · rw [show k9 = kk - 1 by omega]; exact hc39
        · exact hs9 k9 z b9), (show (fr = -1 ∧ ∀ k9, (kk - 1) ≤ k9 → k9 < 3 → ¬ g 15 (3 * (nd - 1) + k9) = 0) ∨ ∃ f9, f9 < 3 ∧ fr = nI f9 ∧ (kk - 1) ≤ f9 ∧ g 15 (3 * (nd - 1) + f9) = 0 ∧ ∀ k9, (kk - 1) ≤ k9 → k9 < f9 → ¬ g 15 (3 * (nd - 1) + k9) = 0 from by
        rcases hfr with ⟨q1, q2⟩ | ⟨f9, q1, q2, q3, q4, q5⟩
        · exact Or.inl ⟨q1, (fun k9 a9 b9 => by
          rcases Nat.lt_or_ge k9 kk with z | z
          · rw [show k9 = kk - 1 by omega]; exact hc40
          · exact q2 k9 z b9)⟩
        · exact Or.inr ⟨f9, q1, q2, by omega, q4, (fun k9 a9 b9 => by
          rcases Nat.lt_or_ge k9 kk with z | z
          · rw [show k9 = kk - 1 by omega]; exact hc40
          · exact q5 k9 z b9)⟩)⟩
            · refine lv_iload hx hb xd_Mo_newService_90 (lv_at hl 1 rfl) ?_
              refine lv_goto (tgt := 97) hx hb xd_Mo_newService_92 (by decide) ?_
              refine lv_istore hx hb xd_Mo_newService_97 hl (Nat.le_of_ble_eq_true rfl) rfl (fun ls hl => ?_)
              have hl : lv_has ls 7 [(4, .int (nI (kk - 1))), (6, .int (g 15 ((3 * (nd - 1)) + (kk - 1)))), (5, .int (nI (kk - 1))), (0, .ref h), (1, .int 1), (2, .int (nV (g 0) (wb wl 1) (we wl 1))), (3, .int (nI (nd - 1)))] := hl
              refine lv_iinc (k := 2) (x := (nI (kk - 1))) (v := (nI (kk - 1) - 1)) hx hb xd_Mo_newService_99 hl rfl (by rw [Int32.sub_eq_add_neg]; rfl) (Nat.le_of_ble_eq_true rfl) rfl (fun ls hl => ?_)
              have hl : lv_has ls 7 [(5, .int (nI (kk - 1) - 1)), (4, .int (nI (kk - 1))), (6, .int (g 15 ((3 * (nd - 1)) + (kk - 1)))), (0, .ref h), (1, .int 1), (2, .int (nV (g 0) (wb wl 1) (we wl 1))), (3, .int (nI (nd - 1)))] := hl
              refine lv_goto (tgt := 37) hx hb xd_Mo_newService_102 (by decide) ?_
              exact ih15 (kk - 1, (nI (kk - 1))) _ _ _ (show (kk - 1) < kk by omega) (lv_sub hl [0, 1, 3, 4, 5, 6] rfl) hP hD hS ⟨(show (kk - 1) ≤ 3 from by omega), (show ∀ k9, (kk - 1) ≤ k9 → k9 < 3 → ¬ g 15 (3 * (nd - 1) + k9) = nV (g 0) (wb wl 1) (we wl 1) from fun k9 a9 b9 => by
        rcases Nat.lt_or_ge k9 kk with z | z
        · rw [show k9 = kk - 1 by omega]; exact hc39
        · exact hs9 k9 z b9), (show ((nI (kk - 1)) = -1 ∧ ∀ k9, (kk - 1) ≤ k9 → k9 < 3 → ¬ g 15 (3 * (nd - 1) + k9) = 0) ∨ ∃ f9, f9 < 3 ∧ (nI (kk - 1)) = nI f9 ∧ (kk - 1) ≤ f9 ∧ g 15 (3 * (nd - 1) + f9) = 0 ∧ ∀ k9, (kk - 1) ≤ k9 → k9 < f9 → ¬ g 15 (3 * (nd - 1) + k9) = 0 from Or.inr ⟨kk - 1, by omega, rfl, by omega, hc40, fun k9 a9 b9 => absurd b9 (by omega)⟩)⟩
          · refine lv_iconst (v := (-1)) hx hb xd_Mo_newService_83 (by decide) ?_
            exact W.iret (v := (-1)) hx hb hr (fun t ht hW => ⟨⟨(-1), (v, g), rfl, ⟨hMI, rfl, Or.inl rfl, congrArg (Prod.mk v) (lS_no1 (fun q => q.2.2.2.1 (kk - 1) (by omega) (hc39.trans hn1.symm)))⟩, by rw [ht]; exact hP, hD⟩, hS.F ht⟩) hS.2.2 xd_Mo_newService_84
    · refine lv_iconst (v := (-1)) hx hb xd_Mo_newService_22 (by decide) ?_
      exact W.iret (v := (-1)) hx hb hr (fun t ht hW => ⟨⟨(-1), (v, g), rfl, ⟨hMI, rfl, Or.inl rfl, congrArg (Prod.mk v) (lS_no1 (fun q => q.2.1 ((wN_in (by omega)).trans hc6)))⟩, by rw [ht]; exact hP, hD⟩, hS.F ht⟩) hS.2.2 xd_Mo_newService_23
def gC (g : gT) (x y : Nat → Int32) : gT := va_up (va_up g 1 x) 2 y
theorem gC_ne {g : gT} {x y : Nat → Int32} {j : Nat} (h1 : j ≠ 1) (h2 : j ≠ 2) : gC g x y j = g j := by simp [gC, va_up, h1, h2]
theorem gC_of {g g2 : gT} (h : ∀ j, j ≠ 1 → j ≠ 2 → g2 j = g j) : g2 = gC g (g2 1) (g2 2) := by
  funext j
  by_cases h1 : j = 1
  · subst h1; rfl
  · by_cases h2 : j = 2
    · subst h2; rfl
    · rw [gC_ne h1 h2]; exact h j h1 h2
theorem gC_up {g : gT} {x y z : Nat → Int32} {a : Nat} (h1 : a ≠ 1) (h2 : a ≠ 2) : va_up (gC g x y) a z = gC (va_up g a z) x y := by
  funext j
  by_cases q1 : j = 1
  · subst q1
    simp [gC, va_up, Ne.symm h1]
  · by_cases q2 : j = 2
    · subst q2
      simp [gC, va_up, Ne.symm h2]
    · simp [gC, va_up, q1, q2]
theorem lD_gC {t : Nat → Int32} {wl : List (Nat × Nat)} {nd : Nat} {g : gT} {x y : Nat → Int32} : lD t wl nd (gC g x y) = ((lD t wl nd g).1, gC (lD t wl nd g).2 x y) := by
  by_cases h : okD t wl nd g
  · have h2 : okD t wl nd (gC g x y) := h
    unfold lD
    rw [cif_pos h, cif_pos h2, gC_up (by decide) (by decide), gC_up (by decide) (by decide)]
    rfl
  · have h2 : ¬ okD t wl nd (gC g x y) := h
    unfold lD
    rw [cif_neg h, cif_neg h2]
theorem lP_gC {t : Nat → Int32} {wl : List (Nat × Nat)} {nd : Nat} {g : gT} {x y : Nat → Int32} : lP t wl nd (gC g x y) = gC (lP t wl nd g) x y := by
  by_cases h : okP t wl nd g
  · have h2 : okP t wl nd (gC g x y) := h
    unfold lP
    rw [cif_pos h, cif_pos h2, gC_up (by decide) (by decide), gC_up (by decide) (by decide)]
    rfl
  · have h2 : ¬ okP t wl nd (gC g x y) := h
    unfold lP
    rw [cif_neg h, cif_neg h2]
theorem lR_gC {t : Nat → Int32} {wl : List (Nat × Nat)} {nd : Nat} {g : gT} {x y : Nat → Int32} : lR t wl nd (gC g x y) = gC (lR t wl nd g) x y := by
  by_cases h : okR t wl nd g
  · have h2 : okR t wl nd (gC g x y) := h
    unfold lR
    rw [cif_pos h, cif_pos h2, gC_up (by decide) (by decide), gC_up (by decide) (by decide), gC_up (by decide) (by decide), gC_up (by decide) (by decide)]
    rfl
  · have h2 : ¬ okR t wl nd (gC g x y) := h
    unfold lR
    rw [cif_neg h, cif_neg h2]
theorem lS_gC {a : Nat} {t : Nat → Int32} {wl : List (Nat × Nat)} {nd : Nat} {g : gT} {x y : Nat → Int32} (h1 : a ≠ 1) (h2 : a ≠ 2) : lS a t wl nd (gC g x y) = gC (lS a t wl nd g) x y := by
  have e : gC g x y a = g a := gC_ne h1 h2
  have eo : okS a t wl nd (gC g x y) ↔ okS a t wl nd g := by unfold okS; rw [e]; exact Iff.rfl
  unfold lS
  rw [e]
  cases svF (g a) (nd - 1) with
  | none => rfl
  | some k =>
    simp only
    by_cases h : okS a t wl nd g
    · rw [cif_pos h, cif_pos (eo.mpr h), gC_up h1 h2]
    · rw [cif_neg h, cif_neg (fun q => h (eo.mp q))]
theorem gS_gC {a b : Nat} {to : Int32} {g : gT} {x y : Nat → Int32} (h1 : a ≠ 1) (h2 : a ≠ 2) : gS (gC g x y) a b to = gC (gS g a b to) x y := by
  have e : gC g x y a = g a := gC_ne h1 h2
  unfold gS
  rw [e]
  cases ff (fun k => g a (b + k) = to ∨ g a (b + k) = 0) 3 with
  | none => rfl
  | some k =>
    simp only
    by_cases h : ¬ g a (b + k) = to
    · rw [cif_pos h, cif_pos h, gC_up h1 h2]
    · rw [cif_neg h, cif_neg h]
theorem lG_gC {a a2 : Nat} {t : Nat → Int32} {wl : List (Nat × Nat)} {nd : Nat} {g : gT} {x y : Nat → Int32} (h1 : a ≠ 1) (h2 : a ≠ 2) (h3 : a2 ≠ 1) (h4 : a2 ≠ 2) : lG a a2 t wl nd (gC g x y) = gC (lG a a2 t wl nd g) x y := by
  have e : gC g x y a2 = g a2 := gC_ne h3 h4
  unfold lG
  rw [show pI (gC g x y) (nd - 1) (wN t wl 1) = pI g (nd - 1) (wN t wl 1) from rfl]
  cases pI g (nd - 1) (wN t wl 1) with
  | none => rfl
  | some i =>
    simp only
    by_cases h : okG t wl nd g
    · have q : okG t wl nd (gC g x y) := h
      rw [cif_pos h, cif_pos q]
      by_cases h5 : wl.length = 2
      · rw [cif_pos h5, cif_pos h5, e, gC_up h3 h4]
      · rw [cif_neg h5, cif_neg h5, gS_gC h1 h2]
    · have q : ¬ okG t wl nd (gC g x y) := h
      rw [cif_neg h, cif_neg q]
theorem cif_map {α β : Type} {C : Prop} {a b : α} (f : α → β) : f (cif C a b) = cif C (f a) (f b) := by
  by_cases h : C
  · rw [cif_pos h, cif_pos h]
  · rw [cif_neg h, cif_neg h]
theorem lnF_gC {t : Nat → Int32} {wl : List (Nat × Nat)} {nd : Nat} {g : gT} {x y : Nat → Int32} : lnF t wl nd (gC g x y) = ((lnF t wl nd g).1, gC (lnF t wl nd g).2 x y) := by
  unfold lnF
  rw [lD_gC, lP_gC, lG_gC (by decide) (by decide) (by decide) (by decide), lG_gC (by decide) (by decide) (by decide) (by decide), lR_gC, lS_gC (by decide) (by decide), lS_gC (by decide) (by decide)]
  have hm : ∀ (C : Prop) (a b : Nat × gT), (((cif C a b).1, gC (cif C a b).2 x y) : Nat × gT) = cif C (a.1, gC a.2 x y) (b.1, gC b.2 x y) := fun C a b => cif_map (fun z : Nat × gT => ((z.1, gC z.2 x y) : Nat × gT))
  rw [hm, hm, hm, hm, hm, hm, hm]
theorem lnF_nil {t : Nat → Int32} {wl : List (Nat × Nat)} {nd : Nat} {g : gT} (h : wl.length = 0) : lnF t wl nd g = (nd, g) := by
  have e : ∀ s, ¬ wS t wl 0 s := fun s q => by have := q.1; omega
  unfold lnF
  rw [cif_neg (e _), cif_neg (e _), cif_neg (e _), cif_neg (e _), cif_neg (e _), cif_neg (e _), cif_neg (e _)]
theorem k4f_0 : (Cond.fieldLink "LayerDeskModel" 87 "LayerDeskModel" "fault" "I") ∈ wT := wT_t (List.mem_append_right _ (List.mem_append_right _ (List.mem_append_right _ (List.mem_append_left _ (List.mem_of_getElem? (i := 84) rfl))))) rfl
theorem k4f_1 : (Cond.code xy_Mo_split xb_Mo_split 2 none) ∈ wT := wT_t (List.mem_append_right _ (List.mem_append_right _ (List.mem_append_right _ (List.mem_append_left _ (List.mem_of_getElem? (i := 193) rfl))))) rfl
theorem k4f_2 : (Cond.methodLink "LayerDeskModel" 101 xy_Mo_split) ∈ wT := wT_t (List.mem_append_right _ (List.mem_append_right _ (List.mem_append_right _ (List.mem_append_left _ (List.mem_of_getElem? (i := 190) rfl))))) rfl
theorem k4f_3 : (Cond.instanceMethod xy_Mo_split) ∈ wT := wT_t (List.mem_append_right _ (List.mem_append_right _ (List.mem_append_right _ (List.mem_append_left _ (List.mem_of_getElem? (i := 192) rfl))))) rfl
theorem k4f_4 : (Cond.selects "LayerDeskModel" xy_Mo_split xy_Mo_split) ∈ wT := wT_s (q := (xy_Mo_split, 31)) (by decide +kernel) rfl
theorem k4f_5 : (Cond.initialized "LayerDeskModel") ∈ wT := wT_t (List.mem_append_left _ (List.mem_of_getElem? (i := 5) rfl)) rfl
theorem k4f_6 : (Cond.fieldLink "LayerDeskModel" 94 "LayerDeskModel" "words" "I") ∈ wT := wT_t (List.mem_append_right _ (List.mem_append_right _ (List.mem_append_right _ (List.mem_append_left _ (List.mem_of_getElem? (i := 88) rfl))))) rfl
theorem k4f_7 : (Cond.code xy_Mo_fails xb_Mo_fails 2 (some .int)) ∈ wT := wT_t (List.mem_append_right _ (List.mem_append_right _ (List.mem_append_right _ (List.mem_append_right _ (List.mem_of_getElem? (i := 4) rfl))))) rfl
theorem k4f_8 : (Cond.methodLink "LayerDeskModel" 129 xy_Mo_fails) ∈ wT := wT_t (List.mem_append_right _ (List.mem_append_right _ (List.mem_append_right _ (List.mem_append_right _ (List.mem_of_getElem? (i := 1) rfl))))) rfl
theorem k4f_9 : (Cond.instanceMethod xy_Mo_fails) ∈ wT := wT_t (List.mem_append_right _ (List.mem_append_right _ (List.mem_append_right _ (List.mem_append_right _ (List.mem_of_getElem? (i := 3) rfl))))) rfl
theorem k4f_10 : (Cond.selects "LayerDeskModel" xy_Mo_fails xy_Mo_fails) ∈ wT := wT_s (q := (xy_Mo_fails, 31)) (by decide +kernel) rfl
theorem k4f_11 : (Cond.code xy_Mo_code xb_Mo_code 6 (some .int)) ∈ wT := wT_t (List.mem_append_right _ (List.mem_append_right _ (List.mem_append_right _ (List.mem_append_left _ (List.mem_of_getElem? (i := 196) rfl))))) rfl
theorem k4f_12 : (Cond.methodLink "LayerDeskModel" 104 xy_Mo_code) ∈ wT := wT_t (List.mem_append_right _ (List.mem_append_right _ (List.mem_append_right _ (List.mem_append_left _ (List.mem_of_getElem? (i := 194) rfl))))) rfl
theorem k4f_13 : (Cond.static xy_Mo_code) ∈ wT := wT_t (List.mem_append_right _ (List.mem_append_right _ (List.mem_append_right _ (List.mem_append_left _ (List.mem_of_getElem? (i := 195) rfl))))) rfl
theorem k4f_14 : (Cond.code xy_Mo_says xb_Mo_says 8 (some .boolean)) ∈ wT := wT_t (List.mem_append_right _ (List.mem_append_right _ (List.mem_append_right _ (List.mem_append_left _ (List.mem_of_getElem? (i := 200) rfl))))) rfl
theorem k4f_15 : (Cond.methodLink "LayerDeskModel" 108 xy_Mo_says) ∈ wT := wT_t (List.mem_append_right _ (List.mem_append_right _ (List.mem_append_right _ (List.mem_append_left _ (List.mem_of_getElem? (i := 197) rfl))))) rfl
theorem k4f_16 : (Cond.instanceMethod xy_Mo_says) ∈ wT := wT_t (List.mem_append_right _ (List.mem_append_right _ (List.mem_append_right _ (List.mem_append_left _ (List.mem_of_getElem? (i := 199) rfl))))) rfl
theorem k4f_17 : (Cond.selects "LayerDeskModel" xy_Mo_says xy_Mo_says) ∈ wT := wT_s (q := (xy_Mo_says, 31)) (by decide +kernel) rfl
theorem k4f_18 : (Cond.code xy_Mo_newDescriptor xb_Mo_newDescriptor 3 (some .int)) ∈ wT := wT_t (List.mem_append_right _ (List.mem_append_right _ (List.mem_append_right _ (List.mem_append_left _ (List.mem_of_getElem? (i := 208) rfl))))) rfl
theorem k4f_19 : (Cond.methodLink "LayerDeskModel" 112 xy_Mo_newDescriptor) ∈ wT := wT_t (List.mem_append_right _ (List.mem_append_right _ (List.mem_append_right _ (List.mem_append_left _ (List.mem_of_getElem? (i := 205) rfl))))) rfl
theorem k4f_20 : (Cond.instanceMethod xy_Mo_newDescriptor) ∈ wT := wT_t (List.mem_append_right _ (List.mem_append_right _ (List.mem_append_right _ (List.mem_append_left _ (List.mem_of_getElem? (i := 207) rfl))))) rfl
theorem k4f_21 : (Cond.selects "LayerDeskModel" xy_Mo_newDescriptor xy_Mo_newDescriptor) ∈ wT := wT_s (q := (xy_Mo_newDescriptor, 31)) (by decide +kernel) rfl
theorem k4f_22 : (Cond.code xy_Mo_newPackage xb_Mo_newPackage 3 (some .int)) ∈ wT := wT_t (List.mem_append_right _ (List.mem_append_right _ (List.mem_append_right _ (List.mem_append_left _ (List.mem_of_getElem? (i := 220) rfl))))) rfl
theorem k4f_23 : (Cond.methodLink "LayerDeskModel" 116 xy_Mo_newPackage) ∈ wT := wT_t (List.mem_append_right _ (List.mem_append_right _ (List.mem_append_right _ (List.mem_append_left _ (List.mem_of_getElem? (i := 217) rfl))))) rfl
theorem k4f_24 : (Cond.instanceMethod xy_Mo_newPackage) ∈ wT := wT_t (List.mem_append_right _ (List.mem_append_right _ (List.mem_append_right _ (List.mem_append_left _ (List.mem_of_getElem? (i := 219) rfl))))) rfl
theorem k4f_25 : (Cond.selects "LayerDeskModel" xy_Mo_newPackage xy_Mo_newPackage) ∈ wT := wT_s (q := (xy_Mo_newPackage, 31)) (by decide +kernel) rfl
theorem k4f_26 : (Cond.code xy_Mo_shown xb_Mo_shown 8 (some .int)) ∈ wT := wT_t (List.mem_append_right _ (List.mem_append_right _ (List.mem_append_right _ (List.mem_append_left _ (List.mem_of_getElem? (i := 232) rfl))))) rfl
theorem k4f_27 : (Cond.methodLink "LayerDeskModel" 119 xy_Mo_shown) ∈ wT := wT_t (List.mem_append_right _ (List.mem_append_right _ (List.mem_append_right _ (List.mem_append_left _ (List.mem_of_getElem? (i := 229) rfl))))) rfl
theorem k4f_28 : (Cond.instanceMethod xy_Mo_shown) ∈ wT := wT_t (List.mem_append_right _ (List.mem_append_right _ (List.mem_append_right _ (List.mem_append_left _ (List.mem_of_getElem? (i := 231) rfl))))) rfl
theorem k4f_29 : (Cond.selects "LayerDeskModel" xy_Mo_shown xy_Mo_shown) ∈ wT := wT_s (q := (xy_Mo_shown, 31)) (by decide +kernel) rfl
theorem k4f_30 : (Cond.code xy_Mo_newRequire xb_Mo_newRequire 8 (some .int)) ∈ wT := wT_t (List.mem_append_right _ (List.mem_append_right _ (List.mem_append_right _ (List.mem_append_left _ (List.mem_of_getElem? (i := 236) rfl))))) rfl
theorem k4f_31 : (Cond.methodLink "LayerDeskModel" 123 xy_Mo_newRequire) ∈ wT := wT_t (List.mem_append_right _ (List.mem_append_right _ (List.mem_append_right _ (List.mem_append_left _ (List.mem_of_getElem? (i := 233) rfl))))) rfl
theorem k4f_32 : (Cond.instanceMethod xy_Mo_newRequire) ∈ wT := wT_t (List.mem_append_right _ (List.mem_append_right _ (List.mem_append_right _ (List.mem_append_left _ (List.mem_of_getElem? (i := 235) rfl))))) rfl
theorem k4f_33 : (Cond.selects "LayerDeskModel" xy_Mo_newRequire xy_Mo_newRequire) ∈ wT := wT_s (q := (xy_Mo_newRequire, 31)) (by decide +kernel) rfl
theorem k4f_34 : (Cond.code xy_Mo_newService xb_Mo_newService 7 (some .int)) ∈ wT := wT_t (List.mem_append_right _ (List.mem_append_right _ (List.mem_append_right _ (List.mem_append_right _ (List.mem_of_getElem? (i := 0) rfl))))) rfl
theorem k4f_35 : (Cond.methodLink "LayerDeskModel" 126 xy_Mo_newService) ∈ wT := wT_t (List.mem_append_right _ (List.mem_append_right _ (List.mem_append_right _ (List.mem_append_left _ (List.mem_of_getElem? (i := 237) rfl))))) rfl
theorem k4f_36 : (Cond.instanceMethod xy_Mo_newService) ∈ wT := wT_t (List.mem_append_right _ (List.mem_append_right _ (List.mem_append_right _ (List.mem_append_left _ (List.mem_of_getElem? (i := 239) rfl))))) rfl
theorem k4f_37 : (Cond.selects "LayerDeskModel" xy_Mo_newService xy_Mo_newService) ∈ wT := wT_s (q := (xy_Mo_newService, 31)) (by decide +kernel) rfl
set_option maxHeartbeats 4000000 in
set_option maxRecDepth 100000 in
theorem xc_Mo_lineX (l : Launch) (D : va_G) (kA : Nat → ClassId) (sz h : Nat) (mm : Nat → Nat) (v : Nat → Int32) (g : Nat → Nat → Int32) (wr : Nat) (nd : Nat) (hMI : MI v g) (hwr : v 2 = nI wr) (hwr40 : wr ≤ 40) (hnd : v 4 = nI nd) (hnd12 : nd ≤ 12) : Met l xy_Mo_line (.code xy_Mo_line xb_Mo_line 2 (some .int) :: wT) { frames := 3, cells := 0, slots := 0, locals := 76 } (va_Pc [.ref h] (xPre D kA sz (moW h mm kA v g))) (va_Qi (fun (r : Int32) (u : (Nat → Int32) × (Nat → Nat → Int32)) => MI u.1 u.2 ∧ u.1 2 = 0 ∧ u.1 4 = nI (lnF (g 0) (w_all (g 0) wr) nd g).1 ∧ u.1 5 = v 5 ∧ u.1 1 = v 1 ∧ ∀ j, j ≠ 1 → j ≠ 2 → u.2 j = (lnF (g 0) (w_all (g 0) wr) nd g).2 j) (fun (u : (Nat → Int32) × (Nat → Nat → Int32)) t => va_P D xcl (moW h mm kA u.1 u.2) t.heap ∧ va_D (va_A (moW h mm kA v g) sz) (moW h mm kA u.1 u.2)) (va_A (moW h mm kA v g) sz)) 0 0 (va_A (moW h mm kA v g) sz) := by
  refine Met.ofW (cc := xb_Mo_line) (maxL := 2) (ret := (some .int)) (by decide) rfl ?_
  intro p e s m args below meth c s₁ B hml hv
  obtain ⟨rfl, hsz, hP, hK, hD0⟩ := hv
  have hx := B.exec
  have hb := B.bytes
  have hr := B.returns
  have hT := x_hT B.pre
  have hown : s.vm.findClass xR_Mo = some m.cls := findClass_of_methodNamed B.named
  have hlocks := B.notSynchronized
  subst hsz
  have hD := hD0.self (sz := s.heap.size)
  generalize hAe : va_A (moW h mm kA v g) s.heap.size = A at hD ⊢
  have hA : ∀ q : Nat, s.heap.size ≤ q → A q := fun q h => by rw [← hAe]; exact Or.inr h
  have hS : va_S A s.heap s.heap [] := va_S.rf
  have hl := lv_entry ([.ref h]) (n := 2) (Nat.le_of_ble_eq_true rfl)
  rw [lg_entry_eq]
  generalize (lg_sl ([.ref h]) ++ List.replicate (2 - (lg_sl ([.ref h])).length) Slot.unset).toArray = ls at hl ⊢
  have hl : lv_has ls 2 [(0, .ref h)] := hl
  have hP : va_P D xcl (moW h mm kA v g) s.heap := hP
  refine lv_aload_n hx hb xd_Mo_line_0 rfl (lv_at hl 0 rfl) ?_
  refine lv_iconst (v := 0) hx hb xd_Mo_line_1 (by decide) ?_
  refine va_put (D := D) (ci := 4) (v := .int 0) (ty := .int) (C := xR_Mo) (T := xT_Mo) (N := 31) hx hb hT xi_Mo xt_Mo xt_Mo_ok xn_Mo hown hK.1 hP hD hS 0 rfl rfl 0 (by decide) (hT _ k4f_0) (fun _ h9 => h9) rfl (by decide +kernel) rfl rfl (Nat.le_of_ble_eq_true rfl) xd_Mo_line_2 (fun H locs hP hD hS => ?_)
  have hP : va_P D xcl (moW h mm kA (va_up v 0 0) g) H := hP
  have hD : va_D A (moW h mm kA (va_up v 0 0) g) := hD
  refine lv_aload_n hx hb xd_Mo_line_5 rfl (lv_at hl 0 rfl) ?_
  have hFc := va_free (wc := (moW h mm kA (va_up v 0 0) g)) hD hS hA [0, 1, 2, 3, 4, 5, 6, 7, 8, 9, 10, 11, 12, 13, 14, 15, 16, 17, 18, 19, 20, 21, 22, 23, 24, 25] rfl
  refine va_callv (va_runV (As := []) (rest := []) ⟨hx, hb, hml, hown, hT⟩ (xc_Mo_splitX l D kA H.size h mm (va_up v 0 0) g wr (by first | assumption | omega) (by first | assumption | omega)) (cwV 0 hT (wT_V k4f_2 k4f_3 k4f_4 k4f_5 k4f_1) rfl rfl rfl (by decide +kernel) ⟨Nat.le_of_ble_eq_true rfl, Nat.le_of_ble_eq_true rfl⟩) (x_preV hK hP hD 0 rfl rfl) rfl rfl hl.1 rfl (lv_room (Nat.le_of_ble_eq_true rfl)) xd_Mo_line_6 ⟨Nat.le_of_ble_eq_true rfl, Nat.le_of_ble_eq_true rfl⟩) hS (fun q _ h => hFc q h) hFc (fun u2 t H1 locs ht hvm hp3 hB hz1 hk1 hS => ?_)
  obtain ⟨hP1, hD1⟩ := hB
  rw [ht] at hP1
  have hD1 := hD1.weaken (fun _ _ _ h => hFc _ h)
  obtain ⟨v4, g5⟩ := u2
  generalize H1 = H at hP1 hS ⊢
  have hP := hP1
  have hD := hD1
  have hP : va_P D xcl (moW h mm kA v4 g5) H := hP
  have hD : va_D A (moW h mm kA v4 g5) := hD
  obtain ⟨hv9, hgk, hfT⟩ := hp3
  obtain ⟨wl, hwl⟩ : ∃ z, z = w_all (g 0) wr := ⟨_, rfl⟩
  have hv9 : v4 = (va_up (va_up (va_up v 0 0) 2 0) 3 (nI (wl.length))) := by rw [hwl]; exact hv9
  subst hv9
  have hgk : ∀ j, j ≠ 1 → j ≠ 2 → g5 j = g j := hgk
  have hws : ∀ i, i < wl.length → g5 1 i = nI (wb wl i) ∧ g5 2 i = nI (we wl i) := by rw [hwl]; exact hfT
  have hwlr0 : WL wl := by rw [hwl]; exact WL_all _ hwr40
  obtain ⟨hwn20, hwlr⟩ := id hwlr0
  have hM1 : MI (va_up (va_up (va_up v 0 0) 2 0) 3 (nI (wl.length))) g5 := MI_g (hgk 0 (by decide) (by decide)) (hgk 3 (by decide) (by decide)) (hgk 4 (by decide) (by decide)) (hgk 5 (by decide) (by decide)) (hgk 12 (by decide) (by decide)) (hgk 19 (by decide) (by decide)) (hgk 20 (by decide) (by decide)) (hgk 21 (by decide) (by decide)) (MI_v rfl rfl hMI)
  have hW1 : WX (va_up (va_up (va_up v 0 0) 2 0) 3 (nI (wl.length))) g5 wl := ⟨rfl, hwlr0, hws⟩
  have hch := hM1.2.2.1
  have hgC : g5 = gC g (g5 1) (g5 2) := gC_of hgk
  have hg0 : g5 0 = g 0 := hgk 0 (by decide) (by decide)
  have hLn : lnF (g5 0) wl nd g5 = ((lnF (g 0) wl nd g).1, gC (lnF (g 0) wl nd g).2 (g5 1) (g5 2)) := by
    have q := lnF_gC (t := g 0) (wl := wl) (nd := nd) (g := g) (x := g5 1) (y := g5 2)
    rw [← hgC] at q
    rw [hg0]; exact q
  have hP : va_P D xcl (moW h mm kA (va_up (va_up (va_up v 0 0) 2 0) 3 (nI (wl.length))) g5) H := hP
  have hD : va_D A (moW h mm kA (va_up (va_up (va_up v 0 0) 2 0) 3 (nI (wl.length))) g5) := hD
  refine lv_aload_n hx hb xd_Mo_line_9 rfl (lv_at hl 0 rfl) ?_
  refine va_get (D := D) (ci := 4) (v := .int (nI (wl.length))) (C := xR_Mo) (T := xT_Mo) (N := 31) hx hb hT xi_Mo hown hK.1 hP 0 rfl rfl 4 (by decide) (hT _ k4f_6) (fun _ h9 => h9) rfl xd_Mo_line_10 ?_
  refine xz_ne (a := wl.length) (tgt := 18) hx hb xd_Mo_line_13 (by decide) (by omega) (fun hc6 => ?_) (fun hc6 => ?_)
  · refine xjoin (D := D) (cl := xcl) (A := A) (H0 := s.heap) (σ := Int32 × (Nat → Int32) × (Nat → Nat → Int32)) (ml := 2) 276 (fun (ans, v2, g2) => [(1, .int ans), (0, .ref h)]) (fun (ans, v2, g2) => []) (fun (ans, v2, g2) => moW h mm kA v2 g2) (fun (ans, v2, g2) => (MI v2 g2) ∧ (v2 2 = 0) ∧ (v2 4 = nI (lnF (g5 0) wl nd g5).1 ∧ g2 = (lnF (g5 0) wl nd g5).2 ∧ v2 5 = v 5 ∧ v2 1 = v 1)) ?_ (fun jn7 => ?_)
    · intro a9 ls H locs hl hP hD hS hI
      obtain ⟨ans, v2, g2⟩ := a9
      obtain ⟨hm2, hv2, hL⟩ := hI
      have hm2 : MI v2 g2 := hm2
      have hv2 : v2 2 = 0 := hv2
      have hL : v2 4 = nI (lnF (g5 0) wl nd g5).1 ∧ g2 = (lnF (g5 0) wl nd g5).2 ∧ v2 5 = v 5 ∧ v2 1 = v 1 := hL
      have hl : lv_has ls 2 [(1, .int ans), (0, .ref h)] := hl
      have hP : va_P D xcl (moW h mm kA v2 g2) H := hP
      have hD : va_D A (moW h mm kA v2 g2) := hD
      refine lv_iload_n hx hb xd_Mo_line_276 rfl (lv_at hl 0 rfl) ?_
      refine lv_if_ge (tgt := 296) hx hb xd_Mo_line_277 (by decide) (fun hc8 => ?_) (fun hc8 => ?_)
      · refine lv_iload_n hx hb xd_Mo_line_296 rfl (lv_at hl 0 rfl) ?_
        exact W.iret (v := ans) hx hb hr (fun t ht hW => ⟨⟨ans, (v2, g2), rfl, ⟨hm2, hv2, by rw [← hwl]; exact hL.1.trans (by rw [hLn]), hL.2.2.1, hL.2.2.2, fun j h1 h2 => by rw [← hwl]; exact (congrFun hL.2.1 j).trans (by rw [hLn]; exact gC_ne h1 h2)⟩, by rw [ht]; exact hP, hD⟩, hS.F ht⟩) hS.2.2 xd_Mo_line_297
      · refine lv_aload_n hx hb xd_Mo_line_280 rfl (lv_at hl 1 rfl) ?_
        refine lv_iload_n hx hb xd_Mo_line_281 rfl (lv_at hl 0 rfl) ?_
        refine lv_bipush (v := (-2)) hx hb xd_Mo_line_282 (by decide) ?_
        refine lv_icmp_ne (tgt := 291) hx hb xd_Mo_line_284 (by decide) (fun hc9 => ?_) (fun hc9 => ?_)
        · refine lv_iconst (v := 1) hx hb xd_Mo_line_291 (by decide) ?_
          have hFc := va_free (wc := (moW h mm kA v2 g2)) hD hS hA [0, 1, 2, 3, 4, 5, 6, 7, 8, 9, 10, 11, 12, 13, 14, 15, 16, 17, 18, 19, 20, 21, 22, 23, 24, 25] rfl
          refine va_calli (va_runV (As := [.int 1]) (rest := []) ⟨hx, hb, hml, hown, hT⟩ (xc_Mo_fails l D kA H.size h mm v2 g2 1) (cwV 1 hT (wT_V k4f_8 k4f_9 k4f_10 k4f_5 k4f_7) rfl rfl rfl (by decide +kernel) ⟨Nat.le_of_ble_eq_true rfl, Nat.le_of_ble_eq_true rfl⟩) (x_preV hK hP hD 0 rfl rfl) rfl rfl hl.1 rfl (lv_room (Nat.le_of_ble_eq_true rfl)) xd_Mo_line_292 ⟨Nat.le_of_ble_eq_true rfl, Nat.le_of_ble_eq_true rfl⟩) hS (fun q _ h => hFc q h) hFc (fun r10 u11 t H1 locs ht hvm hp12 hB hz1 hk1 hS => ?_)
          obtain ⟨hP1, hD1⟩ := hB
          rw [ht] at hP1
          have hD1 := hD1.weaken (fun _ _ _ h => hFc _ h)
          obtain ⟨v13, g14⟩ := u11
          generalize H1 = H at hP1 hS ⊢
          have hP := hP1
          have hD := hD1
          have hP : va_P D xcl (moW h mm kA v13 g14) H := hP
          have hD : va_D A (moW h mm kA v13 g14) := hD
          obtain ⟨hr9, hu9⟩ := hp12
          subst hr9
          obtain ⟨hu1, hu2⟩ := Prod.mk.inj hu9
          subst hu1
          have hu2 := hu2.symm
          subst hu2
          have hP : va_P D xcl (moW h mm kA (va_up v2 0 1) g2) H := hP
          have hD : va_D A (moW h mm kA (va_up v2 0 1) g2) := hD
          exact W.iret (v := 0) hx hb hr (fun t ht hW => ⟨⟨0, ((va_up v2 0 1), g2), rfl, ⟨MI_v rfl rfl hm2, hv2, by rw [← hwl]; exact hL.1.trans (by rw [hLn]), hL.2.2.1, hL.2.2.2, fun j h1 h2 => by rw [← hwl]; exact (congrFun hL.2.1 j).trans (by rw [hLn]; exact gC_ne h1 h2)⟩, by rw [ht]; exact hP, hD⟩, hS.F ht⟩) hS.2.2 xd_Mo_line_295
        · refine lv_iconst (v := 2) hx hb xd_Mo_line_287 (by decide) ?_
          refine lv_goto (tgt := 292) hx hb xd_Mo_line_288 (by decide) ?_
          have hFc := va_free (wc := (moW h mm kA v2 g2)) hD hS hA [0, 1, 2, 3, 4, 5, 6, 7, 8, 9, 10, 11, 12, 13, 14, 15, 16, 17, 18, 19, 20, 21, 22, 23, 24, 25] rfl
          refine va_calli (va_runV (As := [.int 2]) (rest := []) ⟨hx, hb, hml, hown, hT⟩ (xc_Mo_fails l D kA H.size h mm v2 g2 2) (cwV 1 hT (wT_V k4f_8 k4f_9 k4f_10 k4f_5 k4f_7) rfl rfl rfl (by decide +kernel) ⟨Nat.le_of_ble_eq_true rfl, Nat.le_of_ble_eq_true rfl⟩) (x_preV hK hP hD 0 rfl rfl) rfl rfl hl.1 rfl (lv_room (Nat.le_of_ble_eq_true rfl)) xd_Mo_line_292 ⟨Nat.le_of_ble_eq_true rfl, Nat.le_of_ble_eq_true rfl⟩) hS (fun q _ h => hFc q h) hFc (fun r15 u16 t H1 locs ht hvm hp17 hB hz1 hk1 hS => ?_)
          obtain ⟨hP1, hD1⟩ := hB
          rw [ht] at hP1
          have hD1 := hD1.weaken (fun _ _ _ h => hFc _ h)
          obtain ⟨v18, g19⟩ := u16
          generalize H1 = H at hP1 hS ⊢
          have hP := hP1
          have hD := hD1
          have hP : va_P D xcl (moW h mm kA v18 g19) H := hP
          have hD : va_D A (moW h mm kA v18 g19) := hD
          obtain ⟨hr9, hu9⟩ := hp17
          subst hr9
          obtain ⟨hu1, hu2⟩ := Prod.mk.inj hu9
          subst hu1
          have hu2 := hu2.symm
          subst hu2
          have hP : va_P D xcl (moW h mm kA (va_up v2 0 2) g2) H := hP
          have hD : va_D A (moW h mm kA (va_up v2 0 2) g2) := hD
          exact W.iret (v := 0) hx hb hr (fun t ht hW => ⟨⟨0, ((va_up v2 0 2), g2), rfl, ⟨MI_v rfl rfl hm2, hv2, by rw [← hwl]; exact hL.1.trans (by rw [hLn]), hL.2.2.1, hL.2.2.2, fun j h1 h2 => by rw [← hwl]; exact (congrFun hL.2.1 j).trans (by rw [hLn]; exact gC_ne h1 h2)⟩, by rw [ht]; exact hP, hD⟩, hS.F ht⟩) hS.2.2 xd_Mo_line_295
    have hbe0 := (hwlr 0 (by omega)).1
    have he0 := (hwlr 0 (by omega)).2
    have eb0 := (hws 0 (by omega)).1
    have ee0 := (hws 0 (by omega)).2
    have hnd9 : (va_up (va_up (va_up v 0 0) 2 0) 3 (nI (wl.length))) 4 = nI nd := hnd
    refine lv_iconst (v := (-1)) hx hb xd_Mo_line_18 (by decide) ?_
    refine lv_istore_n hx hb xd_Mo_line_19 rfl hl (Nat.le_of_ble_eq_true rfl) rfl (fun ls hl => ?_)
    have hl : lv_has ls 2 [(1, .int (-1)), (0, .ref h)] := hl
    refine lv_aload_n hx hb xd_Mo_line_20 rfl (lv_at hl 1 rfl) ?_
    refine lv_iconst (v := 0) hx hb xd_Mo_line_21 (by decide) ?_
    refine lv_bipush (v := 109) hx hb xd_Mo_line_22 (by decide) ?_
    refine lv_bipush (v := 111) hx hb xd_Mo_line_24 (by decide) ?_
    refine lv_bipush (v := 100) hx hb xd_Mo_line_26 (by decide) ?_
    refine lv_bipush (v := 117) hx hb xd_Mo_line_28 (by decide) ?_
    refine lv_bipush (v := 108) hx hb xd_Mo_line_30 (by decide) ?_
    have hFc := va_free (wc := (moW h mm kA (va_up (va_up (va_up v 0 0) 2 0) 3 (nI (wl.length))) g5)) hD hS hA [0, 1, 2, 3, 4, 5, 6, 7, 8, 9, 10, 11, 12, 13, 14, 15, 16, 17, 18, 19, 20, 21, 22, 23, 24, 25] rfl
    refine va_calli (va_runS (As := [.int 109, .int 111, .int 100, .int 117, .int 108]) (rest := [.int 0, .ref h]) ⟨hx, hb, hml, hown, hT⟩ (xc_Mo_codeX l D kA H.size h mm (va_up (va_up (va_up v 0 0) 2 0) 3 (nI (wl.length))) g5 109 111 100 117 108) (cwS 5 hT (wT_S0 k4f_12 k4f_13 k4f_5 k4f_11) rfl rfl rfl (by decide +kernel) ⟨Nat.le_of_ble_eq_true rfl, Nat.le_of_ble_eq_true rfl⟩) (x_preS hK hP hD) rfl rfl hl.1 rfl (lv_room (Nat.le_of_ble_eq_true rfl)) xd_Mo_line_32 ⟨Nat.le_of_ble_eq_true rfl, Nat.le_of_ble_eq_true rfl⟩) hS (fun q _ h => hFc q h) hFc (fun r20 u21 t H1 locs ht hvm hp22 hB hz1 hk1 hS => ?_)
    obtain ⟨hP1, hD1⟩ := hB
    rw [ht] at hP1
    have hD1 := hD1.weaken (fun _ _ _ h => hFc _ h)
    generalize H1 = H at hP1 hS ⊢
    have hP := hP1
    have hD := hD1
    have hP : va_P D xcl (moW h mm kA (va_up (va_up (va_up v 0 0) 2 0) 3 (nI (wl.length))) g5) H := hP
    have hD : va_D A (moW h mm kA (va_up (va_up (va_up v 0 0) 2 0) 3 (nI (wl.length))) g5) := hD
    have hp22 : r20 = cdV 109 111 100 117 108 := hp22
    subst hp22
    have hP : va_P D xcl (moW h mm kA (va_up (va_up (va_up v 0 0) 2 0) 3 (nI (wl.length))) g5) H := hP
    have hD : va_D A (moW h mm kA (va_up (va_up (va_up v 0 0) 2 0) 3 (nI (wl.length))) g5) := hD
    refine lv_bipush (v := 101) hx hb xd_Mo_line_35 (by decide) ?_
    refine lv_iconst (v := 0) hx hb xd_Mo_line_37 (by decide) ?_
    refine lv_iconst (v := 0) hx hb xd_Mo_line_38 (by decide) ?_
    refine lv_iconst (v := 0) hx hb xd_Mo_line_39 (by decide) ?_
    refine lv_iconst (v := 0) hx hb xd_Mo_line_40 (by decide) ?_
    have hFc := va_free (wc := (moW h mm kA (va_up (va_up (va_up v 0 0) 2 0) 3 (nI (wl.length))) g5)) hD hS hA [0, 1, 2, 3, 4, 5, 6, 7, 8, 9, 10, 11, 12, 13, 14, 15, 16, 17, 18, 19, 20, 21, 22, 23, 24, 25] rfl
    refine va_calli (va_runS (As := [.int 101, .int 0, .int 0, .int 0, .int 0]) (rest := [.int (cdV 109 111 100 117 108), .int 0, .ref h]) ⟨hx, hb, hml, hown, hT⟩ (xc_Mo_codeX l D kA H.size h mm (va_up (va_up (va_up v 0 0) 2 0) 3 (nI (wl.length))) g5 101 0 0 0 0) (cwS 5 hT (wT_S0 k4f_12 k4f_13 k4f_5 k4f_11) rfl rfl rfl (by decide +kernel) ⟨Nat.le_of_ble_eq_true rfl, Nat.le_of_ble_eq_true rfl⟩) (x_preS hK hP hD) rfl rfl hl.1 rfl (lv_room (Nat.le_of_ble_eq_true rfl)) xd_Mo_line_41 ⟨Nat.le_of_ble_eq_true rfl, Nat.le_of_ble_eq_true rfl⟩) hS (fun q _ h => hFc q h) hFc (fun r23 u24 t H1 locs ht hvm hp25 hB hz1 hk1 hS => ?_)
    obtain ⟨hP1, hD1⟩ := hB
    rw [ht] at hP1
    have hD1 := hD1.weaken (fun _ _ _ h => hFc _ h)
    generalize H1 = H at hP1 hS ⊢
    have hP := hP1
    have hD := hD1
    have hP : va_P D xcl (moW h mm kA (va_up (va_up (va_up v 0 0) 2 0) 3 (nI (wl.length))) g5) H := hP
    have hD : va_D A (moW h mm kA (va_up (va_up (va_up v 0 0) 2 0) 3 (nI (wl.length))) g5) := hD
    have hp25 : r23 = cdV 101 0 0 0 0 := hp25
    subst hp25
    have hP : va_P D xcl (moW h mm kA (va_up (va_up (va_up v 0 0) 2 0) 3 (nI (wl.length))) g5) H := hP
    have hD : va_D A (moW h mm kA (va_up (va_up (va_up v 0 0) 2 0) 3 (nI (wl.length))) g5) := hD
    have hFc := va_free (wc := (moW h mm kA (va_up (va_up (va_up v 0 0) 2 0) 3 (nI (wl.length))) g5)) hD hS hA [0, 1, 2, 3, 4, 5, 6, 7, 8, 9, 10, 11, 12, 13, 14, 15, 16, 17, 18, 19, 20, 21, 22, 23, 24, 25] rfl
    refine va_calli (va_runV (As := [.int 0, .int (cdV 109 111 100 117 108), .int (cdV 101 0 0 0 0)]) (rest := []) ⟨hx, hb, hml, hown, hT⟩ (xc_Mo_saysX l D kA H.size h mm (va_up (va_up (va_up v 0 0) 2 0) 3 (nI (wl.length))) g5 0 (wb wl 0) (we wl 0) (cdV 109 111 100 117 108) (cdV 101 0 0 0 0) (by first | assumption | omega) (by first | assumption | omega) (by first | assumption | omega) (by first | assumption | omega) (by first | assumption | omega) (by first | assumption | omega)) (cwV 3 hT (wT_V k4f_15 k4f_16 k4f_17 k4f_5 k4f_14) rfl rfl rfl (by decide +kernel) ⟨Nat.le_of_ble_eq_true rfl, Nat.le_of_ble_eq_true rfl⟩) (x_preV hK hP hD 0 rfl rfl) rfl rfl hl.1 rfl (lv_room (Nat.le_of_ble_eq_true rfl)) xd_Mo_line_44 ⟨Nat.le_of_ble_eq_true rfl, Nat.le_of_ble_eq_true rfl⟩) hS (fun q _ h => hFc q h) hFc (fun r26 u27 t H1 locs ht hvm hp28 hB hz1 hk1 hS => ?_)
    obtain ⟨hP1, hD1⟩ := hB
    rw [ht] at hP1
    have hD1 := hD1.weaken (fun _ _ _ h => hFc _ h)
    generalize H1 = H at hP1 hS ⊢
    have hP := hP1
    have hD := hD1
    have hP : va_P D xcl (moW h mm kA (va_up (va_up (va_up v 0 0) 2 0) 3 (nI (wl.length))) g5) H := hP
    have hD : va_D A (moW h mm kA (va_up (va_up (va_up v 0 0) 2 0) 3 (nI (wl.length))) g5) := hD
    rcases hp28 with ⟨rfl, z29⟩ | ⟨rfl, z30⟩
    · refine xz_eq (a := 1) (tgt := 58) hx hb xd_Mo_line_47 (by decide) (by omega) (fun hc31 => absurd hc31 (by omega)) (fun _ => ?_)
      refine lv_aload_n hx hb xd_Mo_line_50 rfl (lv_at hl 1 rfl) ?_
      have hFc := va_free (wc := (moW h mm kA (va_up (va_up (va_up v 0 0) 2 0) 3 (nI (wl.length))) g5)) hD hS hA [0, 1, 2, 3, 4, 5, 6, 7, 8, 9, 10, 11, 12, 13, 14, 15, 16, 17, 18, 19, 20, 21, 22, 23, 24, 25] rfl
      refine va_calli (va_runV (As := []) (rest := []) ⟨hx, hb, hml, hown, hT⟩ (xc_Mo_newDescriptorX l D kA H.size h mm (va_up (va_up (va_up v 0 0) 2 0) 3 (nI (wl.length))) g5 wl nd (by first | assumption | omega) (by first | assumption | omega) (by first | assumption | omega) (by first | assumption | omega)) (cwV 0 hT (wT_V k4f_19 k4f_20 k4f_21 k4f_5 k4f_18) rfl rfl rfl (by decide +kernel) ⟨Nat.le_of_ble_eq_true rfl, Nat.le_of_ble_eq_true rfl⟩) (x_preV hK hP hD 0 rfl rfl) rfl rfl hl.1 rfl (lv_room (Nat.le_of_ble_eq_true rfl)) xd_Mo_line_51 ⟨Nat.le_of_ble_eq_true rfl, Nat.le_of_ble_eq_true rfl⟩) hS (fun q _ h => hFc q h) hFc (fun r32 u33 t H1 locs ht hvm hp34 hB hz1 hk1 hS => ?_)
      obtain ⟨hP1, hD1⟩ := hB
      rw [ht] at hP1
      have hD1 := hD1.weaken (fun _ _ _ h => hFc _ h)
      obtain ⟨v35, g36⟩ := u33
      generalize H1 = H at hP1 hS ⊢
      have hP := hP1
      have hD := hD1
      have hP : va_P D xcl (moW h mm kA v35 g36) H := hP
      have hD : va_D A (moW h mm kA v35 g36) := hD
      refine lv_istore_n hx hb xd_Mo_line_54 rfl hl (Nat.le_of_ble_eq_true rfl) rfl (fun ls hl => ?_)
      have hl : lv_has ls 2 [(1, .int r32), (0, .ref h)] := hl
      refine lv_goto (tgt := 276) hx hb xd_Mo_line_55 (by decide) ?_
      exact jn7 (r32, v35, g36) _ _ _ (lv_sub hl [0, 1] rfl) hP hD hS ⟨(show MI v35 g36 from hp34.1), (show v35 2 = 0 from hp34.2.1), (show v35 4 = nI (lnF (g5 0) wl nd g5).1 ∧ g36 = (lnF (g5 0) wl nd g5).2 ∧ v35 5 = v 5 ∧ v35 1 = v 1 from (by
        have q := hp34.2.2.2
        have q1 := congrArg Prod.fst q
        have q2 := congrArg Prod.snd q
        simp only at q1 q2
        rw [q1, q2, show lnF (g5 0) wl nd g5 = _ from by unfold lnF; rw [cif_pos ⟨by omega, (q_Mo (by omega)).mp z29⟩]]; exact ⟨rfl, rfl, rfl, rfl⟩))⟩
    · refine xz_eq (a := 0) (tgt := 58) hx hb xd_Mo_line_47 (by decide) (by omega) (fun _ => ?_) (fun hc37 => absurd hc37 (by omega))
      refine lv_aload_n hx hb xd_Mo_line_58 rfl (lv_at hl 1 rfl) ?_
      refine lv_iconst (v := 0) hx hb xd_Mo_line_59 (by decide) ?_
      refine lv_bipush (v := 112) hx hb xd_Mo_line_60 (by decide) ?_
      refine lv_bipush (v := 97) hx hb xd_Mo_line_62 (by decide) ?_
      refine lv_bipush (v := 99) hx hb xd_Mo_line_64 (by decide) ?_
      refine lv_bipush (v := 107) hx hb xd_Mo_line_66 (by decide) ?_
      refine lv_bipush (v := 97) hx hb xd_Mo_line_68 (by decide) ?_
      have hFc := va_free (wc := (moW h mm kA (va_up (va_up (va_up v 0 0) 2 0) 3 (nI (wl.length))) g5)) hD hS hA [0, 1, 2, 3, 4, 5, 6, 7, 8, 9, 10, 11, 12, 13, 14, 15, 16, 17, 18, 19, 20, 21, 22, 23, 24, 25] rfl
      refine va_calli (va_runS (As := [.int 112, .int 97, .int 99, .int 107, .int 97]) (rest := [.int 0, .ref h]) ⟨hx, hb, hml, hown, hT⟩ (xc_Mo_codeX l D kA H.size h mm (va_up (va_up (va_up v 0 0) 2 0) 3 (nI (wl.length))) g5 112 97 99 107 97) (cwS 5 hT (wT_S0 k4f_12 k4f_13 k4f_5 k4f_11) rfl rfl rfl (by decide +kernel) ⟨Nat.le_of_ble_eq_true rfl, Nat.le_of_ble_eq_true rfl⟩) (x_preS hK hP hD) rfl rfl hl.1 rfl (lv_room (Nat.le_of_ble_eq_true rfl)) xd_Mo_line_70 ⟨Nat.le_of_ble_eq_true rfl, Nat.le_of_ble_eq_true rfl⟩) hS (fun q _ h => hFc q h) hFc (fun r38 u39 t H1 locs ht hvm hp40 hB hz1 hk1 hS => ?_)
      obtain ⟨hP1, hD1⟩ := hB
      rw [ht] at hP1
      have hD1 := hD1.weaken (fun _ _ _ h => hFc _ h)
      generalize H1 = H at hP1 hS ⊢
      have hP := hP1
      have hD := hD1
      have hP : va_P D xcl (moW h mm kA (va_up (va_up (va_up v 0 0) 2 0) 3 (nI (wl.length))) g5) H := hP
      have hD : va_D A (moW h mm kA (va_up (va_up (va_up v 0 0) 2 0) 3 (nI (wl.length))) g5) := hD
      have hp40 : r38 = cdV 112 97 99 107 97 := hp40
      subst hp40
      have hP : va_P D xcl (moW h mm kA (va_up (va_up (va_up v 0 0) 2 0) 3 (nI (wl.length))) g5) H := hP
      have hD : va_D A (moW h mm kA (va_up (va_up (va_up v 0 0) 2 0) 3 (nI (wl.length))) g5) := hD
      refine lv_bipush (v := 103) hx hb xd_Mo_line_73 (by decide) ?_
      refine lv_bipush (v := 101) hx hb xd_Mo_line_75 (by decide) ?_
      refine lv_iconst (v := 0) hx hb xd_Mo_line_77 (by decide) ?_
      refine lv_iconst (v := 0) hx hb xd_Mo_line_78 (by decide) ?_
      refine lv_iconst (v := 0) hx hb xd_Mo_line_79 (by decide) ?_
      have hFc := va_free (wc := (moW h mm kA (va_up (va_up (va_up v 0 0) 2 0) 3 (nI (wl.length))) g5)) hD hS hA [0, 1, 2, 3, 4, 5, 6, 7, 8, 9, 10, 11, 12, 13, 14, 15, 16, 17, 18, 19, 20, 21, 22, 23, 24, 25] rfl
      refine va_calli (va_runS (As := [.int 103, .int 101, .int 0, .int 0, .int 0]) (rest := [.int (cdV 112 97 99 107 97), .int 0, .ref h]) ⟨hx, hb, hml, hown, hT⟩ (xc_Mo_codeX l D kA H.size h mm (va_up (va_up (va_up v 0 0) 2 0) 3 (nI (wl.length))) g5 103 101 0 0 0) (cwS 5 hT (wT_S0 k4f_12 k4f_13 k4f_5 k4f_11) rfl rfl rfl (by decide +kernel) ⟨Nat.le_of_ble_eq_true rfl, Nat.le_of_ble_eq_true rfl⟩) (x_preS hK hP hD) rfl rfl hl.1 rfl (lv_room (Nat.le_of_ble_eq_true rfl)) xd_Mo_line_80 ⟨Nat.le_of_ble_eq_true rfl, Nat.le_of_ble_eq_true rfl⟩) hS (fun q _ h => hFc q h) hFc (fun r41 u42 t H1 locs ht hvm hp43 hB hz1 hk1 hS => ?_)
      obtain ⟨hP1, hD1⟩ := hB
      rw [ht] at hP1
      have hD1 := hD1.weaken (fun _ _ _ h => hFc _ h)
      generalize H1 = H at hP1 hS ⊢
      have hP := hP1
      have hD := hD1
      have hP : va_P D xcl (moW h mm kA (va_up (va_up (va_up v 0 0) 2 0) 3 (nI (wl.length))) g5) H := hP
      have hD : va_D A (moW h mm kA (va_up (va_up (va_up v 0 0) 2 0) 3 (nI (wl.length))) g5) := hD
      have hp43 : r41 = cdV 103 101 0 0 0 := hp43
      subst hp43
      have hP : va_P D xcl (moW h mm kA (va_up (va_up (va_up v 0 0) 2 0) 3 (nI (wl.length))) g5) H := hP
      have hD : va_D A (moW h mm kA (va_up (va_up (va_up v 0 0) 2 0) 3 (nI (wl.length))) g5) := hD
      have hFc := va_free (wc := (moW h mm kA (va_up (va_up (va_up v 0 0) 2 0) 3 (nI (wl.length))) g5)) hD hS hA [0, 1, 2, 3, 4, 5, 6, 7, 8, 9, 10, 11, 12, 13, 14, 15, 16, 17, 18, 19, 20, 21, 22, 23, 24, 25] rfl
      refine va_calli (va_runV (As := [.int 0, .int (cdV 112 97 99 107 97), .int (cdV 103 101 0 0 0)]) (rest := []) ⟨hx, hb, hml, hown, hT⟩ (xc_Mo_saysX l D kA H.size h mm (va_up (va_up (va_up v 0 0) 2 0) 3 (nI (wl.length))) g5 0 (wb wl 0) (we wl 0) (cdV 112 97 99 107 97) (cdV 103 101 0 0 0) (by first | assumption | omega) (by first | assumption | omega) (by first | assumption | omega) (by first | assumption | omega) (by first | assumption | omega) (by first | assumption | omega)) (cwV 3 hT (wT_V k4f_15 k4f_16 k4f_17 k4f_5 k4f_14) rfl rfl rfl (by decide +kernel) ⟨Nat.le_of_ble_eq_true rfl, Nat.le_of_ble_eq_true rfl⟩) (x_preV hK hP hD 0 rfl rfl) rfl rfl hl.1 rfl (lv_room (Nat.le_of_ble_eq_true rfl)) xd_Mo_line_83 ⟨Nat.le_of_ble_eq_true rfl, Nat.le_of_ble_eq_true rfl⟩) hS (fun q _ h => hFc q h) hFc (fun r44 u45 t H1 locs ht hvm hp46 hB hz1 hk1 hS => ?_)
      obtain ⟨hP1, hD1⟩ := hB
      rw [ht] at hP1
      have hD1 := hD1.weaken (fun _ _ _ h => hFc _ h)
      generalize H1 = H at hP1 hS ⊢
      have hP := hP1
      have hD := hD1
      have hP : va_P D xcl (moW h mm kA (va_up (va_up (va_up v 0 0) 2 0) 3 (nI (wl.length))) g5) H := hP
      have hD : va_D A (moW h mm kA (va_up (va_up (va_up v 0 0) 2 0) 3 (nI (wl.length))) g5) := hD
      rcases hp46 with ⟨rfl, z47⟩ | ⟨rfl, z48⟩
      · refine xz_eq (a := 1) (tgt := 97) hx hb xd_Mo_line_86 (by decide) (by omega) (fun hc49 => absurd hc49 (by omega)) (fun _ => ?_)
        refine lv_aload_n hx hb xd_Mo_line_89 rfl (lv_at hl 1 rfl) ?_
        have hFc := va_free (wc := (moW h mm kA (va_up (va_up (va_up v 0 0) 2 0) 3 (nI (wl.length))) g5)) hD hS hA [0, 1, 2, 3, 4, 5, 6, 7, 8, 9, 10, 11, 12, 13, 14, 15, 16, 17, 18, 19, 20, 21, 22, 23, 24, 25] rfl
        refine va_calli (va_runV (As := []) (rest := []) ⟨hx, hb, hml, hown, hT⟩ (xc_Mo_newPackageX l D kA H.size h mm (va_up (va_up (va_up v 0 0) 2 0) 3 (nI (wl.length))) g5 wl nd (by first | assumption | omega) (by first | assumption | omega) (by first | assumption | omega) (by first | assumption | omega)) (cwV 0 hT (wT_V k4f_23 k4f_24 k4f_25 k4f_5 k4f_22) rfl rfl rfl (by decide +kernel) ⟨Nat.le_of_ble_eq_true rfl, Nat.le_of_ble_eq_true rfl⟩) (x_preV hK hP hD 0 rfl rfl) rfl rfl hl.1 rfl (lv_room (Nat.le_of_ble_eq_true rfl)) xd_Mo_line_90 ⟨Nat.le_of_ble_eq_true rfl, Nat.le_of_ble_eq_true rfl⟩) hS (fun q _ h => hFc q h) hFc (fun r50 u51 t H1 locs ht hvm hp52 hB hz1 hk1 hS => ?_)
        obtain ⟨hP1, hD1⟩ := hB
        rw [ht] at hP1
        have hD1 := hD1.weaken (fun _ _ _ h => hFc _ h)
        obtain ⟨v53, g54⟩ := u51
        generalize H1 = H at hP1 hS ⊢
        have hP := hP1
        have hD := hD1
        have hP : va_P D xcl (moW h mm kA v53 g54) H := hP
        have hD : va_D A (moW h mm kA v53 g54) := hD
        refine lv_istore_n hx hb xd_Mo_line_93 rfl hl (Nat.le_of_ble_eq_true rfl) rfl (fun ls hl => ?_)
        have hl : lv_has ls 2 [(1, .int r50), (0, .ref h)] := hl
        refine lv_goto (tgt := 276) hx hb xd_Mo_line_94 (by decide) ?_
        exact jn7 (r50, v53, g54) _ _ _ (lv_sub hl [0, 1] rfl) hP hD hS ⟨(show MI v53 g54 from hp52.1), (show v53 2 = 0 from hp52.2.1), (show v53 4 = nI (lnF (g5 0) wl nd g5).1 ∧ g54 = (lnF (g5 0) wl nd g5).2 ∧ v53 5 = v 5 ∧ v53 1 = v 1 from (by
        have q := hp52.2.2.2
        have q1 := congrArg Prod.fst q
        have q2 := congrArg Prod.snd q
        simp only at q1 q2
        rw [q1, q2, show lnF (g5 0) wl nd g5 = _ from by unfold lnF; rw [cif_neg (fun q => z30 ((q_Mo (by omega)).mpr q.2)), cif_pos ⟨by omega, (q_Pa (by omega)).mp z47⟩]]; exact ⟨hnd, rfl, rfl, rfl⟩))⟩
      · refine xz_eq (a := 0) (tgt := 97) hx hb xd_Mo_line_86 (by decide) (by omega) (fun _ => ?_) (fun hc55 => absurd hc55 (by omega))
        refine lv_aload_n hx hb xd_Mo_line_97 rfl (lv_at hl 1 rfl) ?_
        refine lv_iconst (v := 0) hx hb xd_Mo_line_98 (by decide) ?_
        refine lv_bipush (v := 101) hx hb xd_Mo_line_99 (by decide) ?_
        refine lv_bipush (v := 120) hx hb xd_Mo_line_101 (by decide) ?_
        refine lv_bipush (v := 112) hx hb xd_Mo_line_103 (by decide) ?_
        refine lv_bipush (v := 111) hx hb xd_Mo_line_105 (by decide) ?_
        refine lv_bipush (v := 114) hx hb xd_Mo_line_107 (by decide) ?_
        have hFc := va_free (wc := (moW h mm kA (va_up (va_up (va_up v 0 0) 2 0) 3 (nI (wl.length))) g5)) hD hS hA [0, 1, 2, 3, 4, 5, 6, 7, 8, 9, 10, 11, 12, 13, 14, 15, 16, 17, 18, 19, 20, 21, 22, 23, 24, 25] rfl
        refine va_calli (va_runS (As := [.int 101, .int 120, .int 112, .int 111, .int 114]) (rest := [.int 0, .ref h]) ⟨hx, hb, hml, hown, hT⟩ (xc_Mo_codeX l D kA H.size h mm (va_up (va_up (va_up v 0 0) 2 0) 3 (nI (wl.length))) g5 101 120 112 111 114) (cwS 5 hT (wT_S0 k4f_12 k4f_13 k4f_5 k4f_11) rfl rfl rfl (by decide +kernel) ⟨Nat.le_of_ble_eq_true rfl, Nat.le_of_ble_eq_true rfl⟩) (x_preS hK hP hD) rfl rfl hl.1 rfl (lv_room (Nat.le_of_ble_eq_true rfl)) xd_Mo_line_109 ⟨Nat.le_of_ble_eq_true rfl, Nat.le_of_ble_eq_true rfl⟩) hS (fun q _ h => hFc q h) hFc (fun r56 u57 t H1 locs ht hvm hp58 hB hz1 hk1 hS => ?_)
        obtain ⟨hP1, hD1⟩ := hB
        rw [ht] at hP1
        have hD1 := hD1.weaken (fun _ _ _ h => hFc _ h)
        generalize H1 = H at hP1 hS ⊢
        have hP := hP1
        have hD := hD1
        have hP : va_P D xcl (moW h mm kA (va_up (va_up (va_up v 0 0) 2 0) 3 (nI (wl.length))) g5) H := hP
        have hD : va_D A (moW h mm kA (va_up (va_up (va_up v 0 0) 2 0) 3 (nI (wl.length))) g5) := hD
        have hp58 : r56 = cdV 101 120 112 111 114 := hp58
        subst hp58
        have hP : va_P D xcl (moW h mm kA (va_up (va_up (va_up v 0 0) 2 0) 3 (nI (wl.length))) g5) H := hP
        have hD : va_D A (moW h mm kA (va_up (va_up (va_up v 0 0) 2 0) 3 (nI (wl.length))) g5) := hD
        refine lv_bipush (v := 116) hx hb xd_Mo_line_112 (by decide) ?_
        refine lv_bipush (v := 115) hx hb xd_Mo_line_114 (by decide) ?_
        refine lv_iconst (v := 0) hx hb xd_Mo_line_116 (by decide) ?_
        refine lv_iconst (v := 0) hx hb xd_Mo_line_117 (by decide) ?_
        refine lv_iconst (v := 0) hx hb xd_Mo_line_118 (by decide) ?_
        have hFc := va_free (wc := (moW h mm kA (va_up (va_up (va_up v 0 0) 2 0) 3 (nI (wl.length))) g5)) hD hS hA [0, 1, 2, 3, 4, 5, 6, 7, 8, 9, 10, 11, 12, 13, 14, 15, 16, 17, 18, 19, 20, 21, 22, 23, 24, 25] rfl
        refine va_calli (va_runS (As := [.int 116, .int 115, .int 0, .int 0, .int 0]) (rest := [.int (cdV 101 120 112 111 114), .int 0, .ref h]) ⟨hx, hb, hml, hown, hT⟩ (xc_Mo_codeX l D kA H.size h mm (va_up (va_up (va_up v 0 0) 2 0) 3 (nI (wl.length))) g5 116 115 0 0 0) (cwS 5 hT (wT_S0 k4f_12 k4f_13 k4f_5 k4f_11) rfl rfl rfl (by decide +kernel) ⟨Nat.le_of_ble_eq_true rfl, Nat.le_of_ble_eq_true rfl⟩) (x_preS hK hP hD) rfl rfl hl.1 rfl (lv_room (Nat.le_of_ble_eq_true rfl)) xd_Mo_line_119 ⟨Nat.le_of_ble_eq_true rfl, Nat.le_of_ble_eq_true rfl⟩) hS (fun q _ h => hFc q h) hFc (fun r59 u60 t H1 locs ht hvm hp61 hB hz1 hk1 hS => ?_)
        obtain ⟨hP1, hD1⟩ := hB
        rw [ht] at hP1
        have hD1 := hD1.weaken (fun _ _ _ h => hFc _ h)
        generalize H1 = H at hP1 hS ⊢
        have hP := hP1
        have hD := hD1
        have hP : va_P D xcl (moW h mm kA (va_up (va_up (va_up v 0 0) 2 0) 3 (nI (wl.length))) g5) H := hP
        have hD : va_D A (moW h mm kA (va_up (va_up (va_up v 0 0) 2 0) 3 (nI (wl.length))) g5) := hD
        have hp61 : r59 = cdV 116 115 0 0 0 := hp61
        subst hp61
        have hP : va_P D xcl (moW h mm kA (va_up (va_up (va_up v 0 0) 2 0) 3 (nI (wl.length))) g5) H := hP
        have hD : va_D A (moW h mm kA (va_up (va_up (va_up v 0 0) 2 0) 3 (nI (wl.length))) g5) := hD
        have hFc := va_free (wc := (moW h mm kA (va_up (va_up (va_up v 0 0) 2 0) 3 (nI (wl.length))) g5)) hD hS hA [0, 1, 2, 3, 4, 5, 6, 7, 8, 9, 10, 11, 12, 13, 14, 15, 16, 17, 18, 19, 20, 21, 22, 23, 24, 25] rfl
        refine va_calli (va_runV (As := [.int 0, .int (cdV 101 120 112 111 114), .int (cdV 116 115 0 0 0)]) (rest := []) ⟨hx, hb, hml, hown, hT⟩ (xc_Mo_saysX l D kA H.size h mm (va_up (va_up (va_up v 0 0) 2 0) 3 (nI (wl.length))) g5 0 (wb wl 0) (we wl 0) (cdV 101 120 112 111 114) (cdV 116 115 0 0 0) (by first | assumption | omega) (by first | assumption | omega) (by first | assumption | omega) (by first | assumption | omega) (by first | assumption | omega) (by first | assumption | omega)) (cwV 3 hT (wT_V k4f_15 k4f_16 k4f_17 k4f_5 k4f_14) rfl rfl rfl (by decide +kernel) ⟨Nat.le_of_ble_eq_true rfl, Nat.le_of_ble_eq_true rfl⟩) (x_preV hK hP hD 0 rfl rfl) rfl rfl hl.1 rfl (lv_room (Nat.le_of_ble_eq_true rfl)) xd_Mo_line_122 ⟨Nat.le_of_ble_eq_true rfl, Nat.le_of_ble_eq_true rfl⟩) hS (fun q _ h => hFc q h) hFc (fun r62 u63 t H1 locs ht hvm hp64 hB hz1 hk1 hS => ?_)
        obtain ⟨hP1, hD1⟩ := hB
        rw [ht] at hP1
        have hD1 := hD1.weaken (fun _ _ _ h => hFc _ h)
        generalize H1 = H at hP1 hS ⊢
        have hP := hP1
        have hD := hD1
        have hP : va_P D xcl (moW h mm kA (va_up (va_up (va_up v 0 0) 2 0) 3 (nI (wl.length))) g5) H := hP
        have hD : va_D A (moW h mm kA (va_up (va_up (va_up v 0 0) 2 0) 3 (nI (wl.length))) g5) := hD
        rcases hp64 with ⟨rfl, z65⟩ | ⟨rfl, z66⟩
        · refine xz_eq (a := 1) (tgt := 137) hx hb xd_Mo_line_125 (by decide) (by omega) (fun hc67 => absurd hc67 (by omega)) (fun _ => ?_)
          refine lv_aload_n hx hb xd_Mo_line_128 rfl (lv_at hl 1 rfl) ?_
          refine lv_iconst (v := 0) hx hb xd_Mo_line_129 (by decide) ?_
          have hFc := va_free (wc := (moW h mm kA (va_up (va_up (va_up v 0 0) 2 0) 3 (nI (wl.length))) g5)) hD hS hA [0, 1, 2, 3, 4, 5, 6, 7, 8, 9, 10, 11, 12, 13, 14, 15, 16, 17, 18, 19, 20, 21, 22, 23, 24, 25] rfl
          refine va_calli (va_runV (As := [.int 0]) (rest := []) ⟨hx, hb, hml, hown, hT⟩ (xc_Mo_shown0X l D kA H.size h mm (va_up (va_up (va_up v 0 0) 2 0) 3 (nI (wl.length))) g5 wl nd (by first | assumption | omega) (by first | assumption | omega) (by first | assumption | omega) (by first | assumption | omega)) (cwV 1 hT (wT_V k4f_27 k4f_28 k4f_29 k4f_5 k4f_26) rfl rfl rfl (by decide +kernel) ⟨Nat.le_of_ble_eq_true rfl, Nat.le_of_ble_eq_true rfl⟩) (x_preV hK hP hD 0 rfl rfl) rfl rfl hl.1 rfl (lv_room (Nat.le_of_ble_eq_true rfl)) xd_Mo_line_130 ⟨Nat.le_of_ble_eq_true rfl, Nat.le_of_ble_eq_true rfl⟩) hS (fun q _ h => hFc q h) hFc (fun r68 u69 t H1 locs ht hvm hp70 hB hz1 hk1 hS => ?_)
          obtain ⟨hP1, hD1⟩ := hB
          rw [ht] at hP1
          have hD1 := hD1.weaken (fun _ _ _ h => hFc _ h)
          obtain ⟨v71, g72⟩ := u69
          generalize H1 = H at hP1 hS ⊢
          have hP := hP1
          have hD := hD1
          have hP : va_P D xcl (moW h mm kA v71 g72) H := hP
          have hD : va_D A (moW h mm kA v71 g72) := hD
          refine lv_istore_n hx hb xd_Mo_line_133 rfl hl (Nat.le_of_ble_eq_true rfl) rfl (fun ls hl => ?_)
          have hl : lv_has ls 2 [(1, .int r68), (0, .ref h)] := hl
          refine lv_goto (tgt := 276) hx hb xd_Mo_line_134 (by decide) ?_
          exact jn7 (r68, v71, g72) _ _ _ (lv_sub hl [0, 1] rfl) hP hD hS ⟨(show MI v71 g72 from hp70.1), (show v71 2 = 0 from hp70.2.1), (show v71 4 = nI (lnF (g5 0) wl nd g5).1 ∧ g72 = (lnF (g5 0) wl nd g5).2 ∧ v71 5 = v 5 ∧ v71 1 = v 1 from (by
        have q := hp70.2.2.2
        have q1 := congrArg Prod.fst q
        have q2 := congrArg Prod.snd q
        simp only at q1 q2
        rw [q1, q2, show lnF (g5 0) wl nd g5 = _ from by unfold lnF; rw [cif_neg (fun q => z30 ((q_Mo (by omega)).mpr q.2)), cif_neg (fun q => z48 ((q_Pa (by omega)).mpr q.2)), cif_pos ⟨by omega, (q_Ex (by omega)).mp z65⟩]]; exact ⟨hnd, rfl, rfl, rfl⟩))⟩
        · refine xz_eq (a := 0) (tgt := 137) hx hb xd_Mo_line_125 (by decide) (by omega) (fun _ => ?_) (fun hc73 => absurd hc73 (by omega))
          refine lv_aload_n hx hb xd_Mo_line_137 rfl (lv_at hl 1 rfl) ?_
          refine lv_iconst (v := 0) hx hb xd_Mo_line_138 (by decide) ?_
          refine lv_bipush (v := 111) hx hb xd_Mo_line_139 (by decide) ?_
          refine lv_bipush (v := 112) hx hb xd_Mo_line_141 (by decide) ?_
          refine lv_bipush (v := 101) hx hb xd_Mo_line_143 (by decide) ?_
          refine lv_bipush (v := 110) hx hb xd_Mo_line_145 (by decide) ?_
          refine lv_bipush (v := 115) hx hb xd_Mo_line_147 (by decide) ?_
          have hFc := va_free (wc := (moW h mm kA (va_up (va_up (va_up v 0 0) 2 0) 3 (nI (wl.length))) g5)) hD hS hA [0, 1, 2, 3, 4, 5, 6, 7, 8, 9, 10, 11, 12, 13, 14, 15, 16, 17, 18, 19, 20, 21, 22, 23, 24, 25] rfl
          refine va_calli (va_runS (As := [.int 111, .int 112, .int 101, .int 110, .int 115]) (rest := [.int 0, .ref h]) ⟨hx, hb, hml, hown, hT⟩ (xc_Mo_codeX l D kA H.size h mm (va_up (va_up (va_up v 0 0) 2 0) 3 (nI (wl.length))) g5 111 112 101 110 115) (cwS 5 hT (wT_S0 k4f_12 k4f_13 k4f_5 k4f_11) rfl rfl rfl (by decide +kernel) ⟨Nat.le_of_ble_eq_true rfl, Nat.le_of_ble_eq_true rfl⟩) (x_preS hK hP hD) rfl rfl hl.1 rfl (lv_room (Nat.le_of_ble_eq_true rfl)) xd_Mo_line_149 ⟨Nat.le_of_ble_eq_true rfl, Nat.le_of_ble_eq_true rfl⟩) hS (fun q _ h => hFc q h) hFc (fun r74 u75 t H1 locs ht hvm hp76 hB hz1 hk1 hS => ?_)
          obtain ⟨hP1, hD1⟩ := hB
          rw [ht] at hP1
          have hD1 := hD1.weaken (fun _ _ _ h => hFc _ h)
          generalize H1 = H at hP1 hS ⊢
          have hP := hP1
          have hD := hD1
          have hP : va_P D xcl (moW h mm kA (va_up (va_up (va_up v 0 0) 2 0) 3 (nI (wl.length))) g5) H := hP
          have hD : va_D A (moW h mm kA (va_up (va_up (va_up v 0 0) 2 0) 3 (nI (wl.length))) g5) := hD
          have hp76 : r74 = cdV 111 112 101 110 115 := hp76
          subst hp76
          have hP : va_P D xcl (moW h mm kA (va_up (va_up (va_up v 0 0) 2 0) 3 (nI (wl.length))) g5) H := hP
          have hD : va_D A (moW h mm kA (va_up (va_up (va_up v 0 0) 2 0) 3 (nI (wl.length))) g5) := hD
          refine lv_iconst (v := 0) hx hb xd_Mo_line_152 (by decide) ?_
          have hFc := va_free (wc := (moW h mm kA (va_up (va_up (va_up v 0 0) 2 0) 3 (nI (wl.length))) g5)) hD hS hA [0, 1, 2, 3, 4, 5, 6, 7, 8, 9, 10, 11, 12, 13, 14, 15, 16, 17, 18, 19, 20, 21, 22, 23, 24, 25] rfl
          refine va_calli (va_runV (As := [.int 0, .int (cdV 111 112 101 110 115), .int 0]) (rest := []) ⟨hx, hb, hml, hown, hT⟩ (xc_Mo_saysX l D kA H.size h mm (va_up (va_up (va_up v 0 0) 2 0) 3 (nI (wl.length))) g5 0 (wb wl 0) (we wl 0) (cdV 111 112 101 110 115) 0 (by first | assumption | omega) (by first | assumption | omega) (by first | assumption | omega) (by first | assumption | omega) (by first | assumption | omega) (by first | assumption | omega)) (cwV 3 hT (wT_V k4f_15 k4f_16 k4f_17 k4f_5 k4f_14) rfl rfl rfl (by decide +kernel) ⟨Nat.le_of_ble_eq_true rfl, Nat.le_of_ble_eq_true rfl⟩) (x_preV hK hP hD 0 rfl rfl) rfl rfl hl.1 rfl (lv_room (Nat.le_of_ble_eq_true rfl)) xd_Mo_line_153 ⟨Nat.le_of_ble_eq_true rfl, Nat.le_of_ble_eq_true rfl⟩) hS (fun q _ h => hFc q h) hFc (fun r77 u78 t H1 locs ht hvm hp79 hB hz1 hk1 hS => ?_)
          obtain ⟨hP1, hD1⟩ := hB
          rw [ht] at hP1
          have hD1 := hD1.weaken (fun _ _ _ h => hFc _ h)
          generalize H1 = H at hP1 hS ⊢
          have hP := hP1
          have hD := hD1
          have hP : va_P D xcl (moW h mm kA (va_up (va_up (va_up v 0 0) 2 0) 3 (nI (wl.length))) g5) H := hP
          have hD : va_D A (moW h mm kA (va_up (va_up (va_up v 0 0) 2 0) 3 (nI (wl.length))) g5) := hD
          rcases hp79 with ⟨rfl, z80⟩ | ⟨rfl, z81⟩
          · refine xz_eq (a := 1) (tgt := 168) hx hb xd_Mo_line_156 (by decide) (by omega) (fun hc82 => absurd hc82 (by omega)) (fun _ => ?_)
            refine lv_aload_n hx hb xd_Mo_line_159 rfl (lv_at hl 1 rfl) ?_
            refine lv_iconst (v := 1) hx hb xd_Mo_line_160 (by decide) ?_
            have hFc := va_free (wc := (moW h mm kA (va_up (va_up (va_up v 0 0) 2 0) 3 (nI (wl.length))) g5)) hD hS hA [0, 1, 2, 3, 4, 5, 6, 7, 8, 9, 10, 11, 12, 13, 14, 15, 16, 17, 18, 19, 20, 21, 22, 23, 24, 25] rfl
            refine va_calli (va_runV (As := [.int 1]) (rest := []) ⟨hx, hb, hml, hown, hT⟩ (xc_Mo_shown1X l D kA H.size h mm (va_up (va_up (va_up v 0 0) 2 0) 3 (nI (wl.length))) g5 wl nd (by first | assumption | omega) (by first | assumption | omega) (by first | assumption | omega) (by first | assumption | omega)) (cwV 1 hT (wT_V k4f_27 k4f_28 k4f_29 k4f_5 k4f_26) rfl rfl rfl (by decide +kernel) ⟨Nat.le_of_ble_eq_true rfl, Nat.le_of_ble_eq_true rfl⟩) (x_preV hK hP hD 0 rfl rfl) rfl rfl hl.1 rfl (lv_room (Nat.le_of_ble_eq_true rfl)) xd_Mo_line_161 ⟨Nat.le_of_ble_eq_true rfl, Nat.le_of_ble_eq_true rfl⟩) hS (fun q _ h => hFc q h) hFc (fun r83 u84 t H1 locs ht hvm hp85 hB hz1 hk1 hS => ?_)
            obtain ⟨hP1, hD1⟩ := hB
            rw [ht] at hP1
            have hD1 := hD1.weaken (fun _ _ _ h => hFc _ h)
            obtain ⟨v86, g87⟩ := u84
            generalize H1 = H at hP1 hS ⊢
            have hP := hP1
            have hD := hD1
            have hP : va_P D xcl (moW h mm kA v86 g87) H := hP
            have hD : va_D A (moW h mm kA v86 g87) := hD
            refine lv_istore_n hx hb xd_Mo_line_164 rfl hl (Nat.le_of_ble_eq_true rfl) rfl (fun ls hl => ?_)
            have hl : lv_has ls 2 [(1, .int r83), (0, .ref h)] := hl
            refine lv_goto (tgt := 276) hx hb xd_Mo_line_165 (by decide) ?_
            exact jn7 (r83, v86, g87) _ _ _ (lv_sub hl [0, 1] rfl) hP hD hS ⟨(show MI v86 g87 from hp85.1), (show v86 2 = 0 from hp85.2.1), (show v86 4 = nI (lnF (g5 0) wl nd g5).1 ∧ g87 = (lnF (g5 0) wl nd g5).2 ∧ v86 5 = v 5 ∧ v86 1 = v 1 from (by
        have q := hp85.2.2.2
        have q1 := congrArg Prod.fst q
        have q2 := congrArg Prod.snd q
        simp only at q1 q2
        rw [q1, q2, show lnF (g5 0) wl nd g5 = _ from by unfold lnF; rw [cif_neg (fun q => z30 ((q_Mo (by omega)).mpr q.2)), cif_neg (fun q => z48 ((q_Pa (by omega)).mpr q.2)), cif_neg (fun q => z66 ((q_Ex (by omega)).mpr q.2)), cif_pos ⟨by omega, (q_Op (by omega)).mp z80⟩]]; exact ⟨hnd, rfl, rfl, rfl⟩))⟩
          · refine xz_eq (a := 0) (tgt := 168) hx hb xd_Mo_line_156 (by decide) (by omega) (fun _ => ?_) (fun hc88 => absurd hc88 (by omega))
            refine lv_aload_n hx hb xd_Mo_line_168 rfl (lv_at hl 1 rfl) ?_
            refine lv_iconst (v := 0) hx hb xd_Mo_line_169 (by decide) ?_
            refine lv_bipush (v := 114) hx hb xd_Mo_line_170 (by decide) ?_
            refine lv_bipush (v := 101) hx hb xd_Mo_line_172 (by decide) ?_
            refine lv_bipush (v := 113) hx hb xd_Mo_line_174 (by decide) ?_
            refine lv_bipush (v := 117) hx hb xd_Mo_line_176 (by decide) ?_
            refine lv_bipush (v := 105) hx hb xd_Mo_line_178 (by decide) ?_
            have hFc := va_free (wc := (moW h mm kA (va_up (va_up (va_up v 0 0) 2 0) 3 (nI (wl.length))) g5)) hD hS hA [0, 1, 2, 3, 4, 5, 6, 7, 8, 9, 10, 11, 12, 13, 14, 15, 16, 17, 18, 19, 20, 21, 22, 23, 24, 25] rfl
            refine va_calli (va_runS (As := [.int 114, .int 101, .int 113, .int 117, .int 105]) (rest := [.int 0, .ref h]) ⟨hx, hb, hml, hown, hT⟩ (xc_Mo_codeX l D kA H.size h mm (va_up (va_up (va_up v 0 0) 2 0) 3 (nI (wl.length))) g5 114 101 113 117 105) (cwS 5 hT (wT_S0 k4f_12 k4f_13 k4f_5 k4f_11) rfl rfl rfl (by decide +kernel) ⟨Nat.le_of_ble_eq_true rfl, Nat.le_of_ble_eq_true rfl⟩) (x_preS hK hP hD) rfl rfl hl.1 rfl (lv_room (Nat.le_of_ble_eq_true rfl)) xd_Mo_line_180 ⟨Nat.le_of_ble_eq_true rfl, Nat.le_of_ble_eq_true rfl⟩) hS (fun q _ h => hFc q h) hFc (fun r89 u90 t H1 locs ht hvm hp91 hB hz1 hk1 hS => ?_)
            obtain ⟨hP1, hD1⟩ := hB
            rw [ht] at hP1
            have hD1 := hD1.weaken (fun _ _ _ h => hFc _ h)
            generalize H1 = H at hP1 hS ⊢
            have hP := hP1
            have hD := hD1
            have hP : va_P D xcl (moW h mm kA (va_up (va_up (va_up v 0 0) 2 0) 3 (nI (wl.length))) g5) H := hP
            have hD : va_D A (moW h mm kA (va_up (va_up (va_up v 0 0) 2 0) 3 (nI (wl.length))) g5) := hD
            have hp91 : r89 = cdV 114 101 113 117 105 := hp91
            subst hp91
            have hP : va_P D xcl (moW h mm kA (va_up (va_up (va_up v 0 0) 2 0) 3 (nI (wl.length))) g5) H := hP
            have hD : va_D A (moW h mm kA (va_up (va_up (va_up v 0 0) 2 0) 3 (nI (wl.length))) g5) := hD
            refine lv_bipush (v := 114) hx hb xd_Mo_line_183 (by decide) ?_
            refine lv_bipush (v := 101) hx hb xd_Mo_line_185 (by decide) ?_
            refine lv_bipush (v := 115) hx hb xd_Mo_line_187 (by decide) ?_
            refine lv_iconst (v := 0) hx hb xd_Mo_line_189 (by decide) ?_
            refine lv_iconst (v := 0) hx hb xd_Mo_line_190 (by decide) ?_
            have hFc := va_free (wc := (moW h mm kA (va_up (va_up (va_up v 0 0) 2 0) 3 (nI (wl.length))) g5)) hD hS hA [0, 1, 2, 3, 4, 5, 6, 7, 8, 9, 10, 11, 12, 13, 14, 15, 16, 17, 18, 19, 20, 21, 22, 23, 24, 25] rfl
            refine va_calli (va_runS (As := [.int 114, .int 101, .int 115, .int 0, .int 0]) (rest := [.int (cdV 114 101 113 117 105), .int 0, .ref h]) ⟨hx, hb, hml, hown, hT⟩ (xc_Mo_codeX l D kA H.size h mm (va_up (va_up (va_up v 0 0) 2 0) 3 (nI (wl.length))) g5 114 101 115 0 0) (cwS 5 hT (wT_S0 k4f_12 k4f_13 k4f_5 k4f_11) rfl rfl rfl (by decide +kernel) ⟨Nat.le_of_ble_eq_true rfl, Nat.le_of_ble_eq_true rfl⟩) (x_preS hK hP hD) rfl rfl hl.1 rfl (lv_room (Nat.le_of_ble_eq_true rfl)) xd_Mo_line_191 ⟨Nat.le_of_ble_eq_true rfl, Nat.le_of_ble_eq_true rfl⟩) hS (fun q _ h => hFc q h) hFc (fun r92 u93 t H1 locs ht hvm hp94 hB hz1 hk1 hS => ?_)
            obtain ⟨hP1, hD1⟩ := hB
            rw [ht] at hP1
            have hD1 := hD1.weaken (fun _ _ _ h => hFc _ h)
            generalize H1 = H at hP1 hS ⊢
            have hP := hP1
            have hD := hD1
            have hP : va_P D xcl (moW h mm kA (va_up (va_up (va_up v 0 0) 2 0) 3 (nI (wl.length))) g5) H := hP
            have hD : va_D A (moW h mm kA (va_up (va_up (va_up v 0 0) 2 0) 3 (nI (wl.length))) g5) := hD
            have hp94 : r92 = cdV 114 101 115 0 0 := hp94
            subst hp94
            have hP : va_P D xcl (moW h mm kA (va_up (va_up (va_up v 0 0) 2 0) 3 (nI (wl.length))) g5) H := hP
            have hD : va_D A (moW h mm kA (va_up (va_up (va_up v 0 0) 2 0) 3 (nI (wl.length))) g5) := hD
            have hFc := va_free (wc := (moW h mm kA (va_up (va_up (va_up v 0 0) 2 0) 3 (nI (wl.length))) g5)) hD hS hA [0, 1, 2, 3, 4, 5, 6, 7, 8, 9, 10, 11, 12, 13, 14, 15, 16, 17, 18, 19, 20, 21, 22, 23, 24, 25] rfl
            refine va_calli (va_runV (As := [.int 0, .int (cdV 114 101 113 117 105), .int (cdV 114 101 115 0 0)]) (rest := []) ⟨hx, hb, hml, hown, hT⟩ (xc_Mo_saysX l D kA H.size h mm (va_up (va_up (va_up v 0 0) 2 0) 3 (nI (wl.length))) g5 0 (wb wl 0) (we wl 0) (cdV 114 101 113 117 105) (cdV 114 101 115 0 0) (by first | assumption | omega) (by first | assumption | omega) (by first | assumption | omega) (by first | assumption | omega) (by first | assumption | omega) (by first | assumption | omega)) (cwV 3 hT (wT_V k4f_15 k4f_16 k4f_17 k4f_5 k4f_14) rfl rfl rfl (by decide +kernel) ⟨Nat.le_of_ble_eq_true rfl, Nat.le_of_ble_eq_true rfl⟩) (x_preV hK hP hD 0 rfl rfl) rfl rfl hl.1 rfl (lv_room (Nat.le_of_ble_eq_true rfl)) xd_Mo_line_194 ⟨Nat.le_of_ble_eq_true rfl, Nat.le_of_ble_eq_true rfl⟩) hS (fun q _ h => hFc q h) hFc (fun r95 u96 t H1 locs ht hvm hp97 hB hz1 hk1 hS => ?_)
            obtain ⟨hP1, hD1⟩ := hB
            rw [ht] at hP1
            have hD1 := hD1.weaken (fun _ _ _ h => hFc _ h)
            generalize H1 = H at hP1 hS ⊢
            have hP := hP1
            have hD := hD1
            have hP : va_P D xcl (moW h mm kA (va_up (va_up (va_up v 0 0) 2 0) 3 (nI (wl.length))) g5) H := hP
            have hD : va_D A (moW h mm kA (va_up (va_up (va_up v 0 0) 2 0) 3 (nI (wl.length))) g5) := hD
            rcases hp97 with ⟨rfl, z98⟩ | ⟨rfl, z99⟩
            · refine xz_eq (a := 1) (tgt := 208) hx hb xd_Mo_line_197 (by decide) (by omega) (fun hc100 => absurd hc100 (by omega)) (fun _ => ?_)
              refine lv_aload_n hx hb xd_Mo_line_200 rfl (lv_at hl 1 rfl) ?_
              have hFc := va_free (wc := (moW h mm kA (va_up (va_up (va_up v 0 0) 2 0) 3 (nI (wl.length))) g5)) hD hS hA [0, 1, 2, 3, 4, 5, 6, 7, 8, 9, 10, 11, 12, 13, 14, 15, 16, 17, 18, 19, 20, 21, 22, 23, 24, 25] rfl
              refine va_calli (va_runV (As := []) (rest := []) ⟨hx, hb, hml, hown, hT⟩ (xc_Mo_newRequireX l D kA H.size h mm (va_up (va_up (va_up v 0 0) 2 0) 3 (nI (wl.length))) g5 wl nd (by first | assumption | omega) (by first | assumption | omega) (by first | assumption | omega) (by first | assumption | omega)) (cwV 0 hT (wT_V k4f_31 k4f_32 k4f_33 k4f_5 k4f_30) rfl rfl rfl (by decide +kernel) ⟨Nat.le_of_ble_eq_true rfl, Nat.le_of_ble_eq_true rfl⟩) (x_preV hK hP hD 0 rfl rfl) rfl rfl hl.1 rfl (lv_room (Nat.le_of_ble_eq_true rfl)) xd_Mo_line_201 ⟨Nat.le_of_ble_eq_true rfl, Nat.le_of_ble_eq_true rfl⟩) hS (fun q _ h => hFc q h) hFc (fun r101 u102 t H1 locs ht hvm hp103 hB hz1 hk1 hS => ?_)
              obtain ⟨hP1, hD1⟩ := hB
              rw [ht] at hP1
              have hD1 := hD1.weaken (fun _ _ _ h => hFc _ h)
              obtain ⟨v104, g105⟩ := u102
              generalize H1 = H at hP1 hS ⊢
              have hP := hP1
              have hD := hD1
              have hP : va_P D xcl (moW h mm kA v104 g105) H := hP
              have hD : va_D A (moW h mm kA v104 g105) := hD
              refine lv_istore_n hx hb xd_Mo_line_204 rfl hl (Nat.le_of_ble_eq_true rfl) rfl (fun ls hl => ?_)
              have hl : lv_has ls 2 [(1, .int r101), (0, .ref h)] := hl
              refine lv_goto (tgt := 276) hx hb xd_Mo_line_205 (by decide) ?_
              exact jn7 (r101, v104, g105) _ _ _ (lv_sub hl [0, 1] rfl) hP hD hS ⟨(show MI v104 g105 from hp103.1), (show v104 2 = 0 from hp103.2.1), (show v104 4 = nI (lnF (g5 0) wl nd g5).1 ∧ g105 = (lnF (g5 0) wl nd g5).2 ∧ v104 5 = v 5 ∧ v104 1 = v 1 from (by
        have q := hp103.2.2.2
        have q1 := congrArg Prod.fst q
        have q2 := congrArg Prod.snd q
        simp only at q1 q2
        rw [q1, q2, show lnF (g5 0) wl nd g5 = _ from by unfold lnF; rw [cif_neg (fun q => z30 ((q_Mo (by omega)).mpr q.2)), cif_neg (fun q => z48 ((q_Pa (by omega)).mpr q.2)), cif_neg (fun q => z66 ((q_Ex (by omega)).mpr q.2)), cif_neg (fun q => z81 ((q_Op (by omega)).mpr q.2)), cif_pos ⟨by omega, (q_Re (by omega)).mp z98⟩]]; exact ⟨hnd, rfl, rfl, rfl⟩))⟩
            · refine xz_eq (a := 0) (tgt := 208) hx hb xd_Mo_line_197 (by decide) (by omega) (fun _ => ?_) (fun hc106 => absurd hc106 (by omega))
              refine lv_aload_n hx hb xd_Mo_line_208 rfl (lv_at hl 1 rfl) ?_
              refine lv_iconst (v := 0) hx hb xd_Mo_line_209 (by decide) ?_
              refine lv_bipush (v := 117) hx hb xd_Mo_line_210 (by decide) ?_
              refine lv_bipush (v := 115) hx hb xd_Mo_line_212 (by decide) ?_
              refine lv_bipush (v := 101) hx hb xd_Mo_line_214 (by decide) ?_
              refine lv_bipush (v := 115) hx hb xd_Mo_line_216 (by decide) ?_
              refine lv_iconst (v := 0) hx hb xd_Mo_line_218 (by decide) ?_
              have hFc := va_free (wc := (moW h mm kA (va_up (va_up (va_up v 0 0) 2 0) 3 (nI (wl.length))) g5)) hD hS hA [0, 1, 2, 3, 4, 5, 6, 7, 8, 9, 10, 11, 12, 13, 14, 15, 16, 17, 18, 19, 20, 21, 22, 23, 24, 25] rfl
              refine va_calli (va_runS (As := [.int 117, .int 115, .int 101, .int 115, .int 0]) (rest := [.int 0, .ref h]) ⟨hx, hb, hml, hown, hT⟩ (xc_Mo_codeX l D kA H.size h mm (va_up (va_up (va_up v 0 0) 2 0) 3 (nI (wl.length))) g5 117 115 101 115 0) (cwS 5 hT (wT_S0 k4f_12 k4f_13 k4f_5 k4f_11) rfl rfl rfl (by decide +kernel) ⟨Nat.le_of_ble_eq_true rfl, Nat.le_of_ble_eq_true rfl⟩) (x_preS hK hP hD) rfl rfl hl.1 rfl (lv_room (Nat.le_of_ble_eq_true rfl)) xd_Mo_line_219 ⟨Nat.le_of_ble_eq_true rfl, Nat.le_of_ble_eq_true rfl⟩) hS (fun q _ h => hFc q h) hFc (fun r107 u108 t H1 locs ht hvm hp109 hB hz1 hk1 hS => ?_)
              obtain ⟨hP1, hD1⟩ := hB
              rw [ht] at hP1
              have hD1 := hD1.weaken (fun _ _ _ h => hFc _ h)
              generalize H1 = H at hP1 hS ⊢
              have hP := hP1
              have hD := hD1
              have hP : va_P D xcl (moW h mm kA (va_up (va_up (va_up v 0 0) 2 0) 3 (nI (wl.length))) g5) H := hP
              have hD : va_D A (moW h mm kA (va_up (va_up (va_up v 0 0) 2 0) 3 (nI (wl.length))) g5) := hD
              have hp109 : r107 = cdV 117 115 101 115 0 := hp109
              subst hp109
              have hP : va_P D xcl (moW h mm kA (va_up (va_up (va_up v 0 0) 2 0) 3 (nI (wl.length))) g5) H := hP
              have hD : va_D A (moW h mm kA (va_up (va_up (va_up v 0 0) 2 0) 3 (nI (wl.length))) g5) := hD
              refine lv_iconst (v := 0) hx hb xd_Mo_line_222 (by decide) ?_
              have hFc := va_free (wc := (moW h mm kA (va_up (va_up (va_up v 0 0) 2 0) 3 (nI (wl.length))) g5)) hD hS hA [0, 1, 2, 3, 4, 5, 6, 7, 8, 9, 10, 11, 12, 13, 14, 15, 16, 17, 18, 19, 20, 21, 22, 23, 24, 25] rfl
              refine va_calli (va_runV (As := [.int 0, .int (cdV 117 115 101 115 0), .int 0]) (rest := []) ⟨hx, hb, hml, hown, hT⟩ (xc_Mo_saysX l D kA H.size h mm (va_up (va_up (va_up v 0 0) 2 0) 3 (nI (wl.length))) g5 0 (wb wl 0) (we wl 0) (cdV 117 115 101 115 0) 0 (by first | assumption | omega) (by first | assumption | omega) (by first | assumption | omega) (by first | assumption | omega) (by first | assumption | omega) (by first | assumption | omega)) (cwV 3 hT (wT_V k4f_15 k4f_16 k4f_17 k4f_5 k4f_14) rfl rfl rfl (by decide +kernel) ⟨Nat.le_of_ble_eq_true rfl, Nat.le_of_ble_eq_true rfl⟩) (x_preV hK hP hD 0 rfl rfl) rfl rfl hl.1 rfl (lv_room (Nat.le_of_ble_eq_true rfl)) xd_Mo_line_223 ⟨Nat.le_of_ble_eq_true rfl, Nat.le_of_ble_eq_true rfl⟩) hS (fun q _ h => hFc q h) hFc (fun r110 u111 t H1 locs ht hvm hp112 hB hz1 hk1 hS => ?_)
              obtain ⟨hP1, hD1⟩ := hB
              rw [ht] at hP1
              have hD1 := hD1.weaken (fun _ _ _ h => hFc _ h)
              generalize H1 = H at hP1 hS ⊢
              have hP := hP1
              have hD := hD1
              have hP : va_P D xcl (moW h mm kA (va_up (va_up (va_up v 0 0) 2 0) 3 (nI (wl.length))) g5) H := hP
              have hD : va_D A (moW h mm kA (va_up (va_up (va_up v 0 0) 2 0) 3 (nI (wl.length))) g5) := hD
              rcases hp112 with ⟨rfl, z113⟩ | ⟨rfl, z114⟩
              · refine xz_eq (a := 1) (tgt := 238) hx hb xd_Mo_line_226 (by decide) (by omega) (fun hc115 => absurd hc115 (by omega)) (fun _ => ?_)
                refine lv_aload_n hx hb xd_Mo_line_229 rfl (lv_at hl 1 rfl) ?_
                refine lv_iconst (v := 0) hx hb xd_Mo_line_230 (by decide) ?_
                have hFc := va_free (wc := (moW h mm kA (va_up (va_up (va_up v 0 0) 2 0) 3 (nI (wl.length))) g5)) hD hS hA [0, 1, 2, 3, 4, 5, 6, 7, 8, 9, 10, 11, 12, 13, 14, 15, 16, 17, 18, 19, 20, 21, 22, 23, 24, 25] rfl
                refine va_calli (va_runV (As := [.int 0]) (rest := []) ⟨hx, hb, hml, hown, hT⟩ (xc_Mo_newService0X l D kA H.size h mm (va_up (va_up (va_up v 0 0) 2 0) 3 (nI (wl.length))) g5 wl nd (by first | assumption | omega) (by first | assumption | omega) (by first | assumption | omega) (by first | assumption | omega)) (cwV 1 hT (wT_V k4f_35 k4f_36 k4f_37 k4f_5 k4f_34) rfl rfl rfl (by decide +kernel) ⟨Nat.le_of_ble_eq_true rfl, Nat.le_of_ble_eq_true rfl⟩) (x_preV hK hP hD 0 rfl rfl) rfl rfl hl.1 rfl (lv_room (Nat.le_of_ble_eq_true rfl)) xd_Mo_line_231 ⟨Nat.le_of_ble_eq_true rfl, Nat.le_of_ble_eq_true rfl⟩) hS (fun q _ h => hFc q h) hFc (fun r116 u117 t H1 locs ht hvm hp118 hB hz1 hk1 hS => ?_)
                obtain ⟨hP1, hD1⟩ := hB
                rw [ht] at hP1
                have hD1 := hD1.weaken (fun _ _ _ h => hFc _ h)
                obtain ⟨v119, g120⟩ := u117
                generalize H1 = H at hP1 hS ⊢
                have hP := hP1
                have hD := hD1
                have hP : va_P D xcl (moW h mm kA v119 g120) H := hP
                have hD : va_D A (moW h mm kA v119 g120) := hD
                refine lv_istore_n hx hb xd_Mo_line_234 rfl hl (Nat.le_of_ble_eq_true rfl) rfl (fun ls hl => ?_)
                have hl : lv_has ls 2 [(1, .int r116), (0, .ref h)] := hl
                refine lv_goto (tgt := 276) hx hb xd_Mo_line_235 (by decide) ?_
                exact jn7 (r116, v119, g120) _ _ _ (lv_sub hl [0, 1] rfl) hP hD hS ⟨(show MI v119 g120 from hp118.1), (show v119 2 = 0 from hp118.2.1), (show v119 4 = nI (lnF (g5 0) wl nd g5).1 ∧ g120 = (lnF (g5 0) wl nd g5).2 ∧ v119 5 = v 5 ∧ v119 1 = v 1 from (by
        have q := hp118.2.2.2
        have q1 := congrArg Prod.fst q
        have q2 := congrArg Prod.snd q
        simp only at q1 q2
        rw [q1, q2, show lnF (g5 0) wl nd g5 = _ from by unfold lnF; rw [cif_neg (fun q => z30 ((q_Mo (by omega)).mpr q.2)), cif_neg (fun q => z48 ((q_Pa (by omega)).mpr q.2)), cif_neg (fun q => z66 ((q_Ex (by omega)).mpr q.2)), cif_neg (fun q => z81 ((q_Op (by omega)).mpr q.2)), cif_neg (fun q => z99 ((q_Re (by omega)).mpr q.2)), cif_pos ⟨by omega, (q_Us (by omega)).mp z113⟩]]; exact ⟨hnd, rfl, rfl, rfl⟩))⟩
              · refine xz_eq (a := 0) (tgt := 238) hx hb xd_Mo_line_226 (by decide) (by omega) (fun _ => ?_) (fun hc121 => absurd hc121 (by omega))
                refine lv_aload_n hx hb xd_Mo_line_238 rfl (lv_at hl 1 rfl) ?_
                refine lv_iconst (v := 0) hx hb xd_Mo_line_239 (by decide) ?_
                refine lv_bipush (v := 112) hx hb xd_Mo_line_240 (by decide) ?_
                refine lv_bipush (v := 114) hx hb xd_Mo_line_242 (by decide) ?_
                refine lv_bipush (v := 111) hx hb xd_Mo_line_244 (by decide) ?_
                refine lv_bipush (v := 118) hx hb xd_Mo_line_246 (by decide) ?_
                refine lv_bipush (v := 105) hx hb xd_Mo_line_248 (by decide) ?_
                have hFc := va_free (wc := (moW h mm kA (va_up (va_up (va_up v 0 0) 2 0) 3 (nI (wl.length))) g5)) hD hS hA [0, 1, 2, 3, 4, 5, 6, 7, 8, 9, 10, 11, 12, 13, 14, 15, 16, 17, 18, 19, 20, 21, 22, 23, 24, 25] rfl
                refine va_calli (va_runS (As := [.int 112, .int 114, .int 111, .int 118, .int 105]) (rest := [.int 0, .ref h]) ⟨hx, hb, hml, hown, hT⟩ (xc_Mo_codeX l D kA H.size h mm (va_up (va_up (va_up v 0 0) 2 0) 3 (nI (wl.length))) g5 112 114 111 118 105) (cwS 5 hT (wT_S0 k4f_12 k4f_13 k4f_5 k4f_11) rfl rfl rfl (by decide +kernel) ⟨Nat.le_of_ble_eq_true rfl, Nat.le_of_ble_eq_true rfl⟩) (x_preS hK hP hD) rfl rfl hl.1 rfl (lv_room (Nat.le_of_ble_eq_true rfl)) xd_Mo_line_250 ⟨Nat.le_of_ble_eq_true rfl, Nat.le_of_ble_eq_true rfl⟩) hS (fun q _ h => hFc q h) hFc (fun r122 u123 t H1 locs ht hvm hp124 hB hz1 hk1 hS => ?_)
                obtain ⟨hP1, hD1⟩ := hB
                rw [ht] at hP1
                have hD1 := hD1.weaken (fun _ _ _ h => hFc _ h)
                generalize H1 = H at hP1 hS ⊢
                have hP := hP1
                have hD := hD1
                have hP : va_P D xcl (moW h mm kA (va_up (va_up (va_up v 0 0) 2 0) 3 (nI (wl.length))) g5) H := hP
                have hD : va_D A (moW h mm kA (va_up (va_up (va_up v 0 0) 2 0) 3 (nI (wl.length))) g5) := hD
                have hp124 : r122 = cdV 112 114 111 118 105 := hp124
                subst hp124
                have hP : va_P D xcl (moW h mm kA (va_up (va_up (va_up v 0 0) 2 0) 3 (nI (wl.length))) g5) H := hP
                have hD : va_D A (moW h mm kA (va_up (va_up (va_up v 0 0) 2 0) 3 (nI (wl.length))) g5) := hD
                refine lv_bipush (v := 100) hx hb xd_Mo_line_253 (by decide) ?_
                refine lv_bipush (v := 101) hx hb xd_Mo_line_255 (by decide) ?_
                refine lv_bipush (v := 115) hx hb xd_Mo_line_257 (by decide) ?_
                refine lv_iconst (v := 0) hx hb xd_Mo_line_259 (by decide) ?_
                refine lv_iconst (v := 0) hx hb xd_Mo_line_260 (by decide) ?_
                have hFc := va_free (wc := (moW h mm kA (va_up (va_up (va_up v 0 0) 2 0) 3 (nI (wl.length))) g5)) hD hS hA [0, 1, 2, 3, 4, 5, 6, 7, 8, 9, 10, 11, 12, 13, 14, 15, 16, 17, 18, 19, 20, 21, 22, 23, 24, 25] rfl
                refine va_calli (va_runS (As := [.int 100, .int 101, .int 115, .int 0, .int 0]) (rest := [.int (cdV 112 114 111 118 105), .int 0, .ref h]) ⟨hx, hb, hml, hown, hT⟩ (xc_Mo_codeX l D kA H.size h mm (va_up (va_up (va_up v 0 0) 2 0) 3 (nI (wl.length))) g5 100 101 115 0 0) (cwS 5 hT (wT_S0 k4f_12 k4f_13 k4f_5 k4f_11) rfl rfl rfl (by decide +kernel) ⟨Nat.le_of_ble_eq_true rfl, Nat.le_of_ble_eq_true rfl⟩) (x_preS hK hP hD) rfl rfl hl.1 rfl (lv_room (Nat.le_of_ble_eq_true rfl)) xd_Mo_line_261 ⟨Nat.le_of_ble_eq_true rfl, Nat.le_of_ble_eq_true rfl⟩) hS (fun q _ h => hFc q h) hFc (fun r125 u126 t H1 locs ht hvm hp127 hB hz1 hk1 hS => ?_)
                obtain ⟨hP1, hD1⟩ := hB
                rw [ht] at hP1
                have hD1 := hD1.weaken (fun _ _ _ h => hFc _ h)
                generalize H1 = H at hP1 hS ⊢
                have hP := hP1
                have hD := hD1
                have hP : va_P D xcl (moW h mm kA (va_up (va_up (va_up v 0 0) 2 0) 3 (nI (wl.length))) g5) H := hP
                have hD : va_D A (moW h mm kA (va_up (va_up (va_up v 0 0) 2 0) 3 (nI (wl.length))) g5) := hD
                have hp127 : r125 = cdV 100 101 115 0 0 := hp127
                subst hp127
                have hP : va_P D xcl (moW h mm kA (va_up (va_up (va_up v 0 0) 2 0) 3 (nI (wl.length))) g5) H := hP
                have hD : va_D A (moW h mm kA (va_up (va_up (va_up v 0 0) 2 0) 3 (nI (wl.length))) g5) := hD
                have hFc := va_free (wc := (moW h mm kA (va_up (va_up (va_up v 0 0) 2 0) 3 (nI (wl.length))) g5)) hD hS hA [0, 1, 2, 3, 4, 5, 6, 7, 8, 9, 10, 11, 12, 13, 14, 15, 16, 17, 18, 19, 20, 21, 22, 23, 24, 25] rfl
                refine va_calli (va_runV (As := [.int 0, .int (cdV 112 114 111 118 105), .int (cdV 100 101 115 0 0)]) (rest := []) ⟨hx, hb, hml, hown, hT⟩ (xc_Mo_saysX l D kA H.size h mm (va_up (va_up (va_up v 0 0) 2 0) 3 (nI (wl.length))) g5 0 (wb wl 0) (we wl 0) (cdV 112 114 111 118 105) (cdV 100 101 115 0 0) (by first | assumption | omega) (by first | assumption | omega) (by first | assumption | omega) (by first | assumption | omega) (by first | assumption | omega) (by first | assumption | omega)) (cwV 3 hT (wT_V k4f_15 k4f_16 k4f_17 k4f_5 k4f_14) rfl rfl rfl (by decide +kernel) ⟨Nat.le_of_ble_eq_true rfl, Nat.le_of_ble_eq_true rfl⟩) (x_preV hK hP hD 0 rfl rfl) rfl rfl hl.1 rfl (lv_room (Nat.le_of_ble_eq_true rfl)) xd_Mo_line_264 ⟨Nat.le_of_ble_eq_true rfl, Nat.le_of_ble_eq_true rfl⟩) hS (fun q _ h => hFc q h) hFc (fun r128 u129 t H1 locs ht hvm hp130 hB hz1 hk1 hS => ?_)
                obtain ⟨hP1, hD1⟩ := hB
                rw [ht] at hP1
                have hD1 := hD1.weaken (fun _ _ _ h => hFc _ h)
                generalize H1 = H at hP1 hS ⊢
                have hP := hP1
                have hD := hD1
                have hP : va_P D xcl (moW h mm kA (va_up (va_up (va_up v 0 0) 2 0) 3 (nI (wl.length))) g5) H := hP
                have hD : va_D A (moW h mm kA (va_up (va_up (va_up v 0 0) 2 0) 3 (nI (wl.length))) g5) := hD
                rcases hp130 with ⟨rfl, z131⟩ | ⟨rfl, z132⟩
                · refine xz_eq (a := 1) (tgt := 276) hx hb xd_Mo_line_267 (by decide) (by omega) (fun hc133 => absurd hc133 (by omega)) (fun _ => ?_)
                  refine lv_aload_n hx hb xd_Mo_line_270 rfl (lv_at hl 1 rfl) ?_
                  refine lv_iconst (v := 1) hx hb xd_Mo_line_271 (by decide) ?_
                  have hFc := va_free (wc := (moW h mm kA (va_up (va_up (va_up v 0 0) 2 0) 3 (nI (wl.length))) g5)) hD hS hA [0, 1, 2, 3, 4, 5, 6, 7, 8, 9, 10, 11, 12, 13, 14, 15, 16, 17, 18, 19, 20, 21, 22, 23, 24, 25] rfl
                  refine va_calli (va_runV (As := [.int 1]) (rest := []) ⟨hx, hb, hml, hown, hT⟩ (xc_Mo_newService1X l D kA H.size h mm (va_up (va_up (va_up v 0 0) 2 0) 3 (nI (wl.length))) g5 wl nd (by first | assumption | omega) (by first | assumption | omega) (by first | assumption | omega) (by first | assumption | omega)) (cwV 1 hT (wT_V k4f_35 k4f_36 k4f_37 k4f_5 k4f_34) rfl rfl rfl (by decide +kernel) ⟨Nat.le_of_ble_eq_true rfl, Nat.le_of_ble_eq_true rfl⟩) (x_preV hK hP hD 0 rfl rfl) rfl rfl hl.1 rfl (lv_room (Nat.le_of_ble_eq_true rfl)) xd_Mo_line_272 ⟨Nat.le_of_ble_eq_true rfl, Nat.le_of_ble_eq_true rfl⟩) hS (fun q _ h => hFc q h) hFc (fun r134 u135 t H1 locs ht hvm hp136 hB hz1 hk1 hS => ?_)
                  obtain ⟨hP1, hD1⟩ := hB
                  rw [ht] at hP1
                  have hD1 := hD1.weaken (fun _ _ _ h => hFc _ h)
                  obtain ⟨v137, g138⟩ := u135
                  generalize H1 = H at hP1 hS ⊢
                  have hP := hP1
                  have hD := hD1
                  have hP : va_P D xcl (moW h mm kA v137 g138) H := hP
                  have hD : va_D A (moW h mm kA v137 g138) := hD
                  refine lv_istore_n hx hb xd_Mo_line_275 rfl hl (Nat.le_of_ble_eq_true rfl) rfl (fun ls hl => ?_)
                  have hl : lv_has ls 2 [(1, .int r134), (0, .ref h)] := hl
                  exact jn7 (r134, v137, g138) _ _ _ (lv_sub hl [0, 1] rfl) hP hD hS ⟨(show MI v137 g138 from hp136.1), (show v137 2 = 0 from hp136.2.1), (show v137 4 = nI (lnF (g5 0) wl nd g5).1 ∧ g138 = (lnF (g5 0) wl nd g5).2 ∧ v137 5 = v 5 ∧ v137 1 = v 1 from (by
        have q := hp136.2.2.2
        have q1 := congrArg Prod.fst q
        have q2 := congrArg Prod.snd q
        simp only at q1 q2
        rw [q1, q2, show lnF (g5 0) wl nd g5 = _ from by unfold lnF; rw [cif_neg (fun q => z30 ((q_Mo (by omega)).mpr q.2)), cif_neg (fun q => z48 ((q_Pa (by omega)).mpr q.2)), cif_neg (fun q => z66 ((q_Ex (by omega)).mpr q.2)), cif_neg (fun q => z81 ((q_Op (by omega)).mpr q.2)), cif_neg (fun q => z99 ((q_Re (by omega)).mpr q.2)), cif_neg (fun q => z114 ((q_Us (by omega)).mpr q.2)), cif_pos ⟨by omega, (q_Pr (by omega)).mp z131⟩]]; exact ⟨hnd, rfl, rfl, rfl⟩))⟩
                · refine xz_eq (a := 0) (tgt := 276) hx hb xd_Mo_line_267 (by decide) (by omega) (fun _ => ?_) (fun hc139 => absurd hc139 (by omega))
                  exact jn7 ((-1), (va_up (va_up (va_up v 0 0) 2 0) 3 (nI (wl.length))), g5) _ _ _ (lv_sub hl [0, 1] rfl) hP hD hS ⟨(show MI (va_up (va_up (va_up v 0 0) 2 0) 3 (nI (wl.length))) g5 from hM1), (show (va_up (va_up (va_up v 0 0) 2 0) 3 (nI (wl.length))) 2 = 0 from rfl), (show (va_up (va_up (va_up v 0 0) 2 0) 3 (nI (wl.length))) 4 = nI (lnF (g5 0) wl nd g5).1 ∧ g5 = (lnF (g5 0) wl nd g5).2 ∧ (va_up (va_up (va_up v 0 0) 2 0) 3 (nI (wl.length))) 5 = v 5 ∧ (va_up (va_up (va_up v 0 0) 2 0) 3 (nI (wl.length))) 1 = v 1 from (by
        have q : lnF (g5 0) wl nd g5 = (nd, g5) := by unfold lnF; rw [cif_neg (fun q => z30 ((q_Mo (by omega)).mpr q.2)), cif_neg (fun q => z48 ((q_Pa (by omega)).mpr q.2)), cif_neg (fun q => z66 ((q_Ex (by omega)).mpr q.2)), cif_neg (fun q => z81 ((q_Op (by omega)).mpr q.2)), cif_neg (fun q => z99 ((q_Re (by omega)).mpr q.2)), cif_neg (fun q => z114 ((q_Us (by omega)).mpr q.2)), cif_neg (fun q => z132 ((q_Pr (by omega)).mpr q.2))]
        rw [q]; exact ⟨hnd, rfl, rfl, rfl⟩))⟩
  · refine lv_iconst (v := 0) hx hb xd_Mo_line_16 (by decide) ?_
    exact W.iret (v := 0) hx hb hr (fun t ht hW => ⟨⟨0, ((va_up (va_up (va_up v 0 0) 2 0) 3 (nI (wl.length))), g5), rfl, ⟨hM1, rfl, by rw [← hwl, lnF_nil (by omega)]; exact hnd, rfl, rfl, fun j h1 h2 => by rw [← hwl, lnF_nil (by omega)]; exact hgk j h1 h2⟩, by rw [ht]; exact hP, hD⟩, hS.F ht⟩) hS.2.2 xd_Mo_line_17
theorem nI_prs (q : Nat) : nI q - 1 + 1 = nI q := by
  rw [Int32.sub_eq_add_neg, Int32.add_assoc, show (-1 : Int32) + 1 = 0 by decide, Int32.add_zero]
noncomputable def lkf (nm : Nat → Int32) (mc : Nat → Nat) (md : Nat → Nat → Nat) (pr : Nat → Nat) : Nat → Nat → Int32 → Option (Nat × Nat)
  | 0, _, _ => none
  | _ + 1, 0, _ => none
  | f + 1, la + 1, n => match ff (fun k => nm (md la k) = n) (mc la) with
    | some k => some (la, md la k)
    | none => lkf nm mc md pr f (pr la) n
theorem lkf_0 {nm : Nat → Int32} {mc : Nat → Nat} {md : Nat → Nat → Nat} {pr : Nat → Nat} {n : Int32} : ∀ f, lkf nm mc md pr f 0 n = none
  | 0 => rfl
  | _ + 1 => rfl
theorem lkf_same {nm nm2 : Nat → Int32} {mc mc2 : Nat → Nat} {md md2 : Nat → Nat → Nat} {pr pr2 : Nat → Nat} {n : Int32} : ∀ (f f2 lq : Nat), lq ≤ f → lq ≤ f2 → (∀ la, la < lq → pr la ≤ la) → (∀ la, la < lq → mc2 la = mc la ∧ pr2 la = pr la ∧ ∀ k, k < mc la → md2 la k = md la k ∧ nm2 (md la k) = nm (md la k)) → lkf nm2 mc2 md2 pr2 f2 lq n = lkf nm mc md pr f lq n
  | f, f2, 0, _, _, _, _ => by rw [lkf_0, lkf_0]
  | 0, _, la + 1, h, _, _, _ => absurd h (by omega)
  | _ + 1, 0, la + 1, _, h, _, _ => absurd h (by omega)
  | f + 1, f2 + 1, la + 1, h1, h2, hp, he => by
    obtain ⟨e1, e2, e3⟩ := he la (by omega)
    have hpl := hp la (by omega)
    have ih := lkf_same (nm := nm) (nm2 := nm2) (mc := mc) (mc2 := mc2) (md := md) (md2 := md2) (pr := pr) (pr2 := pr2) (n := n) f f2 (pr la) (by omega) (by omega) (fun x hx => hp x (by omega)) (fun x hx => he x (by omega))
    have ef : ff (fun k => nm2 (md2 la k) = n) (mc2 la) = ff (fun k => nm (md la k) = n) (mc la) := by
      rw [e1]
      exact ff_congr fun j hj => by rw [(e3 j hj).1, (e3 j hj).2]
    unfold lkf
    rw [ef]
    cases hq : ff (fun k => nm (md la k) = n) (mc la) with
    | none => simp only; rw [e2]; exact ih
    | some k => simp only; rw [(e3 k (ff_is hq).1).1]
noncomputable def lkU (nm : Nat → Int32) (mc : Nat → Nat) (md : Nat → Nat → Nat) (pr : Nat → Nat) (lq : Nat) (n : Int32) : Option (Nat × Nat) := lkf nm mc md pr lq lq n
theorem lkU_hit {nm : Nat → Int32} {mc : Nat → Nat} {md : Nat → Nat → Nat} {pr : Nat → Nat} {la k : Nat} {n : Int32} (hk : k < mc la) (h : nm (md la k) = n) (hn : ∀ j, j < k → ¬ nm (md la j) = n) : lkU nm mc md pr (la + 1) n = some (la, md la k) := by
  unfold lkU lkf
  rw [ff_some hk h hn]
theorem lkU_miss {nm : Nat → Int32} {mc : Nat → Nat} {md : Nat → Nat → Nat} {pr : Nat → Nat} {la : Nat} {n : Int32} (hp : ∀ x, x < la + 1 → pr x ≤ x) (hn : ∀ j, j < mc la → ¬ nm (md la j) = n) : lkU nm mc md pr (la + 1) n = lkU nm mc md pr (pr la) n := by
  have h1 := hp la (by omega)
  show lkf nm mc md pr (la + 1) (la + 1) n = lkf nm mc md pr (pr la) (pr la) n
  conv => lhs; unfold lkf
  rw [ff_none hn]
  exact lkf_same _ _ _ (Nat.le_refl _) (by omega) (fun x hx => hp x (by omega)) (fun x hx => ⟨rfl, rfl, fun k hk => ⟨rfl, rfl⟩⟩)
def mcv (g : gT) (la : Nat) : Nat := iN (g 20 la)
def mdv (g : gT) (la k : Nat) : Nat := iN (g 21 (12 * la + k))
def prv (g : gT) (la : Nat) : Nat := iN (g 19 la + 1)
noncomputable def lkG (g : gT) (lq : Nat) (n : Int32) : Option (Nat × Nat) := lkU (g 4) (mcv g) (mdv g) (prv g) lq n
theorem prv_of {g : gT} {la q : Nat} (h : g 19 la = nI q - 1) (hq : q < 2147483648) : prv g la = q := by
  unfold prv; rw [h, nI_prs, iN_nI hq]
theorem prv_le {g : gT} {np : Nat} (hnp : np ≤ 6) (h : ∀ la, la < np → ∃ lq, lq ≤ la ∧ g 19 la = nI lq - 1) : ∀ la, la < np → prv g la ≤ la := fun la hla => by
  obtain ⟨q, h1, h2⟩ := h la hla
  rw [prv_of h2 (by omega)]; exact h1
theorem lkG_hit {g : gT} {lq i k mk : Nat} {n : Int32} (h0 : 0 < lq) (em : g 20 (lq - 1) = nI mk) (hm : mk ≤ 12) (h1 : 12 * (lq - 1) ≤ i) (h2 : i < 12 * (lq - 1) + mk) (ek : g 21 i = nI k) (hk : k < 12) (hno : ∀ j, j < i - 12 * (lq - 1) → ¬ g 4 (mdv g (lq - 1) j) = n) (hn : g 4 k = n) : lkG g lq n = some (lq - 1, k) := by
  have e : mdv g (lq - 1) (i - 12 * (lq - 1)) = k := by
    unfold mdv
    rw [show 12 * (lq - 1) + (i - 12 * (lq - 1)) = i by omega, ek, iN_nI (by omega)]
  have q := lkU_hit (nm := g 4) (mc := mcv g) (md := mdv g) (pr := prv g) (la := lq - 1) (k := i - 12 * (lq - 1)) (n := n) (by unfold mcv; rw [em, iN_nI (by omega)]; omega) (by rw [e]; exact hn) hno
  rw [e, show lq - 1 + 1 = lq by omega] at q
  exact q
theorem lkG_miss {g : gT} {lq np q9 mk : Nat} {n : Int32} (hnp : np ≤ 6) (hpar : ∀ la, la < np → ∃ lq, lq ≤ la ∧ g 19 la = nI lq - 1) (h0 : 0 < lq) (hl : lq ≤ np) (em : g 20 (lq - 1) = nI mk) (hm : mk ≤ 12) (eq9 : g 19 (lq - 1) = nI q9 - 1) (hq9 : q9 ≤ 6) (hno : ∀ j, j < mk → ¬ g 4 (mdv g (lq - 1) j) = n) : lkG g lq n = lkG g q9 n := by
  have q := lkU_miss (nm := g 4) (mc := mcv g) (md := mdv g) (pr := prv g) (la := lq - 1) (n := n) (fun x hx => prv_le hnp hpar x (by omega)) (by unfold mcv; rw [em, iN_nI (by omega)]; exact hno)
  rw [show lq - 1 + 1 = lq by omega, prv_of eq9 (by omega)] at q
  exact q
theorem mdv_step {g : gT} {la i k : Nat} {n : Int32} (h1 : 12 * la ≤ i) (ek : g 21 i = nI k) (hk : k < 12) (hn : ¬ g 4 k = n) (hno : ∀ j, j < i - 12 * la → ¬ g 4 (mdv g la j) = n) : ∀ j, j < i + 1 - 12 * la → ¬ g 4 (mdv g la j) = n := fun j hj => by
  rcases Nat.lt_or_ge j (i - 12 * la) with q | q
  · exact hno j q
  · have e : j = i - 12 * la := by omega
    subst e
    unfold mdv
    rw [show 12 * la + (i - 12 * la) = i by omega, ek, iN_nI (by omega)]; exact hn
def RW (g g1 : gT) (nl : Nat) : Prop := ∀ la, la < nl → g1 20 la = g 20 la ∧ ∀ k, k < 12 → g1 21 (12 * la + k) = g 21 (12 * la + k)
theorem RW_rf {g : gT} {nl : Nat} : RW g g nl := fun la _ => ⟨rfl, fun _ _ => rfl⟩
theorem RW_tr {g g1 g2 : gT} {nl : Nat} (h : RW g g1 nl) (h2 : RW g1 g2 nl) : RW g g2 nl := fun la hl => ⟨(h2 la hl).1.trans (h la hl).1, fun k hk => ((h2 la hl).2 k hk).trans ((h la hl).2 k hk)⟩
theorem lkG_row {g g1 : gT} {nl lq np : Nat} {n : Int32} (hnp : np ≤ 6) (hpar : ∀ la, la < np → ∃ lq, lq ≤ la ∧ g 19 la = nI lq - 1) (hlq : lq ≤ np) (hlq2 : lq ≤ nl) (h : RW g g1 nl) (h4 : g1 4 = g 4) (h19 : g1 19 = g 19) (hmd : ∀ la, la < 6 → ∃ k, k ≤ 12 ∧ g 20 la = nI k ∧ ∀ j, j < k → ∃ d, d < 12 ∧ g 21 (12 * la + j) = nI d) : lkG g1 lq n = lkG g lq n := by
  unfold lkG lkU
  refine lkf_same _ _ _ (Nat.le_refl _) (Nat.le_refl _) (fun la hla => prv_le hnp hpar la (by omega)) (fun la hla => ?_)
  obtain ⟨k, h1, h2, _⟩ := hmd la (by omega)
  obtain ⟨r1, r2⟩ := h la (by omega)
  refine ⟨by unfold mcv; rw [r1], by unfold prv; rw [h19], fun j hj => ?_⟩
  unfold mcv at hj
  rw [h2, iN_nI (by omega)] at hj
  refine ⟨by unfold mdv; rw [r2 j (by omega)], by rw [h4]⟩
def aF (F : List Nat → Int32 → Bool × List Nat) : List Nat → List Int32 → Bool × List Nat
  | L, [] => (true, L)
  | L, n :: S => match F L n with
    | (true, L2) => aF F L2 S
    | (false, L2) => (false, L2)
def aN (ds : Int32 → Option Nat) (up : Int32 → Bool) (rq : Nat → List Int32) : Nat → List Nat → Int32 → Bool × List Nat
  | 0, L, n => match ds n with
    | none => (up n, L)
    | some d => if d ∈ L then (true, L) else (false, L)
  | f + 1, L, n => match ds n with
    | none => (up n, L)
    | some d => if d ∈ L then (true, L) else aF (aN ds up rq f) (L ++ [d]) (rq d)
theorem aF_one {F : List Nat → Int32 → Bool × List Nat} {L : List Nat} {n : Int32} : aF F L [n] = F L n := by
  unfold aF
  rcases F L n with ⟨b, L2⟩
  cases b
  · rfl
  · rfl
theorem aF_app {F : List Nat → Int32 → Bool × List Nat} {S2 : List Int32} : ∀ {S : List Int32} {L : List Nat}, aF F L (S ++ S2) = match aF F L S with
    | (true, L2) => aF F L2 S2
    | (false, L2) => (false, L2)
  | [], _ => rfl
  | n :: S, L => by
    have e1 : aF F L ((n :: S) ++ S2) = match F L n with
      | (true, L2) => aF F L2 (S ++ S2)
      | (false, L2) => (false, L2) := rfl
    have e2 : aF F L (n :: S) = match F L n with
      | (true, L2) => aF F L2 S
      | (false, L2) => (false, L2) := rfl
    rw [e1, e2]
    rcases F L n with ⟨b, L2⟩
    cases b
    · rfl
    · exact aF_app (S := S) (L := L2)
theorem aF_keep {F : List Nat → Int32 → Bool × List Nat} {P : List Nat → Prop} (hp : ∀ L n, P L → P (F L n).2) : ∀ {S : List Int32} {L : List Nat}, P L → P (aF F L S).2
  | [], _, h => h
  | n :: S, L, h => by
    have h2 := hp L n h
    unfold aF
    cases hq : F L n with
    | mk b L2 =>
      rw [hq] at h2
      cases b
      · exact h2
      · exact aF_keep hp (S := S) h2
theorem aF_congr {F G : List Nat → Int32 → Bool × List Nat} {P : List Nat → Prop} (h : ∀ L n, P L → F L n = G L n) (hp : ∀ L n, P L → P (F L n).2) : ∀ {S : List Int32} {L : List Nat}, P L → aF F L S = aF G L S
  | [], _, _ => rfl
  | n :: S, L, hl => by
    have h2 := hp L n hl
    unfold aF
    rw [← h L n hl]
    cases hq : F L n with
    | mk b L2 =>
      rw [hq] at h2
      cases b
      · rfl
      · exact aF_congr h hp (S := S) h2
def GL (nd : Nat) (L : List Nat) : Prop := (∀ d ∈ L, d < nd) ∧ L.Nodup
theorem GL_nil {nd : Nat} : GL nd [] := ⟨fun d hd => (List.not_mem_nil hd).elim, List.nodup_nil⟩
theorem GL_add {nd d : Nat} {L : List Nat} (h : GL nd L) (hd : d < nd) (hn : d ∉ L) : GL nd (L ++ [d]) := by
  refine ⟨fun x hx => ?_, List.nodup_append.mpr ⟨h.2, by simp, fun a ha b hb => ?_⟩⟩
  · rcases List.mem_append.mp hx with q | q
    · exact h.1 x q
    · rw [List.mem_singleton] at q; omega
  · rw [List.mem_singleton] at hb
    intro e
    exact hn (by rw [← hb, ← e]; exact ha)
theorem GL_len {nd : Nat} {L : List Nat} (h : GL nd L) : L.length ≤ nd := by
  refine x_pigeon nd L.length (fun i => L.getD i 0) (fun i hi => ?_) (fun i j hi hj e => ?_)
  · rw [List.getD_eq_getElem?_getD, List.getElem?_eq_getElem hi]; exact h.1 _ (List.getElem_mem hi)
  · have e : L.getD i 0 = L.getD j 0 := e
    rw [List.getD_eq_getElem?_getD, List.getElem?_eq_getElem hi, List.getD_eq_getElem?_getD, List.getElem?_eq_getElem hj] at e
    exact (List.getElem_inj h.2).mp e
theorem GL_full {nd d : Nat} {L : List Nat} (h : GL nd L) (hl : nd ≤ L.length) (hd : d < nd) : d ∈ L := by
  refine Decidable.byContradiction fun q => ?_
  have := GL_len (GL_add h hd q)
  rw [List.length_append] at this
  simp only [List.length_cons, List.length_nil] at this
  omega
theorem aN_keep {ds : Int32 → Option Nat} {up : Int32 → Bool} {rq : Nat → List Int32} {P : List Nat → Prop} (hP : ∀ L n d, P L → ds n = some d → d ∉ L → P (L ++ [d])) : ∀ {f : Nat} {L : List Nat} {n : Int32}, P L → P (aN ds up rq f L n).2
  | 0, L, n, h => by
    unfold aN
    split
    · exact h
    · split
      · exact h
      · exact h
  | f + 1, L, n, h => by
    unfold aN
    split
    · exact h
    · next d hd =>
      split
      · exact h
      · next hn => exact aF_keep (fun L2 n2 h2 => aN_keep hP h2) (hP L n d h hd hn)
theorem aN_good {ds : Int32 → Option Nat} {up : Int32 → Bool} {rq : Nat → List Int32} {nd f : Nat} {L : List Nat} {n : Int32} (hds : ∀ n d, ds n = some d → d < nd) (h : GL nd L) : GL nd (aN ds up rq f L n).2 := aN_keep (P := GL nd) (fun L n d h h1 h2 => GL_add h (hds n d h1) h2) h
theorem aN_pre {ds : Int32 → Option Nat} {up : Int32 → Bool} {rq : Nat → List Int32} {f : Nat} {L : List Nat} {n : Int32} : ∃ T, (aN ds up rq f L n).2 = L ++ T := aN_keep (P := fun L2 => ∃ T, L2 = L ++ T) (fun L2 n d ⟨T, e⟩ _ _ => ⟨T ++ [d], by rw [e, List.append_assoc]⟩) ⟨[], (List.append_nil L).symm⟩
theorem aN_fuel {ds : Int32 → Option Nat} {up : Int32 → Bool} {rq : Nat → List Int32} {nd : Nat} (hds : ∀ n d, ds n = some d → d < nd) : ∀ {f : Nat} {L : List Nat} {n : Int32}, GL nd L → nd ≤ f + L.length → aN ds up rq f L n = aN ds up rq (f + 1) L n
  | 0, L, n, h, hl => by
    unfold aN
    cases hd : ds n with
    | none => rfl
    | some d =>
      have := GL_full h (by omega) (hds n d hd)
      simp only
      rw [if_pos this, if_pos this]
  | f + 1, L, n, h, hl => by
    unfold aN
    cases hd : ds n with
    | none => rfl
    | some d =>
      simp only
      by_cases q : d ∈ L
      · rw [if_pos q, if_pos q]
      · rw [if_neg q, if_neg q]
        refine aF_congr (P := fun L2 => GL nd L2 ∧ nd ≤ f + L2.length) (fun L2 n2 h2 => aN_fuel hds h2.1 h2.2) (fun L2 n2 h2 => ⟨aN_good hds h2.1, ?_⟩) ⟨GL_add h (hds n d hd) q, ?_⟩
        · obtain ⟨T, e⟩ := aN_pre (ds := ds) (up := up) (rq := rq) (f := f) (L := L2) (n := n2)
          rw [e, List.length_append]; omega
        · rw [List.length_append]; simp only [List.length_cons, List.length_nil]; omega
theorem aM_up {ds : Int32 → Option Nat} {up : Int32 → Bool} {rq : Nat → List Int32} {f : Nat} {L : List Nat} {n : Int32} {S : List Int32} (h : ds n = none) (hu : up n = true) : aF (aN ds up rq (f + 1)) L (n :: S) = aF (aN ds up rq (f + 1)) L S := by
  have e : aN ds up rq (f + 1) L n = (true, L) := by unfold aN; rw [h]; simp only [hu]
  conv => lhs; unfold aF
  rw [e]
theorem aM_bad {ds : Int32 → Option Nat} {up : Int32 → Bool} {rq : Nat → List Int32} {f : Nat} {L : List Nat} {n : Int32} {S : List Int32} (h : ds n = none) (hu : up n = false) : aF (aN ds up rq (f + 1)) L (n :: S) = (false, L) := by
  have e : aN ds up rq (f + 1) L n = (false, L) := by unfold aN; rw [h]; simp only [hu]
  conv => lhs; unfold aF
  rw [e]
theorem aM_in {ds : Int32 → Option Nat} {up : Int32 → Bool} {rq : Nat → List Int32} {f d : Nat} {L : List Nat} {n : Int32} {S : List Int32} (h : ds n = some d) (hd : d ∈ L) : aF (aN ds up rq (f + 1)) L (n :: S) = aF (aN ds up rq (f + 1)) L S := by
  have e : aN ds up rq (f + 1) L n = (true, L) := by unfold aN; rw [h]; simp only; rw [if_pos hd]
  conv => lhs; unfold aF
  rw [e]
theorem aM_new {ds : Int32 → Option Nat} {up : Int32 → Bool} {rq : Nat → List Int32} {nd f d : Nat} {L : List Nat} {n : Int32} {S : List Int32} (hds : ∀ n d, ds n = some d → d < nd) (hG : GL nd L) (hf : nd ≤ f + 1) (h : ds n = some d) (hd : d ∉ L) : aF (aN ds up rq (f + 1)) L (n :: S) = aF (aN ds up rq (f + 1)) (L ++ [d]) (rq d ++ S) := by
  have e : aN ds up rq (f + 1) L n = aF (aN ds up rq (f + 1)) (L ++ [d]) (rq d) := by
    conv => lhs; unfold aN
    rw [h]
    simp only
    rw [if_neg hd]
    refine aF_congr (P := fun L2 => GL nd L2 ∧ nd ≤ f + L2.length) (fun L2 n2 h2 => aN_fuel hds h2.1 h2.2) (fun L2 n2 h2 => ⟨aN_good hds h2.1, ?_⟩) ⟨GL_add hG (hds n d h) hd, ?_⟩
    · obtain ⟨T, e⟩ := aN_pre (ds := ds) (up := up) (rq := rq) (f := f) (L := L2) (n := n2)
      rw [e, List.length_append]; omega
    · rw [List.length_append]; simp only [List.length_cons, List.length_nil]; omega
  rw [aF_app]
  conv => lhs; unfold aF
  rw [e]
def LT (f20 f21 : Nat → Int32) (nl : Nat) (L : List Nat) : Prop := f20 nl = nI L.length ∧ ∀ k, k < L.length → f21 (12 * nl + k) = nI (L.getD k 0)
def ST (f : Nat → Int32) : Nat → List Int32
  | 0 => []
  | n + 1 => f n :: ST f n
theorem ST_pop {f : Nat → Int32} {n : Nat} (h : 0 < n) : ST f n = f (n - 1) :: ST f (n - 1) := by
  obtain ⟨m, rfl⟩ : ∃ m, n = m + 1 := ⟨n - 1, by omega⟩
  rfl
theorem ST_same {f f2 : Nat → Int32} : ∀ {n : Nat}, (∀ j, j < n → f j = f2 j) → ST f n = ST f2 n
  | 0, _ => rfl
  | n + 1, h => by
    show f n :: ST f n = f2 n :: ST f2 n
    rw [h n (by omega), ST_same (n := n) (fun j hj => h j (by omega))]
theorem ST_push {f : Nat → Int32} {n : Nat} {x : Int32} : ST (upd f n x) (n + 1) = x :: ST f n := by
  show upd f n x n :: ST (upd f n x) n = x :: ST f n
  rw [pk_us, ST_same (f2 := f) (fun j hj => pk_un (by omega))]
def rqL (f13 f17 : Nat → Int32) : Nat → Nat → List Int32
  | _, 0 => []
  | i, m + 1 => if f17 i = 0 then f13 i :: rqL f13 f17 (i + 1) m else rqL f13 f17 (i + 1) m
theorem rqL_y {f13 f17 : Nat → Int32} {i m : Nat} (h : f17 i = 0) : rqL f13 f17 i (m + 1) = f13 i :: rqL f13 f17 (i + 1) m := if_pos h
theorem rqL_n {f13 f17 : Nat → Int32} {i m : Nat} (h : ¬ f17 i = 0) : rqL f13 f17 i (m + 1) = rqL f13 f17 (i + 1) m := if_neg h
def rqG (g : gT) (d : Nat) : List Int32 := rqL (g 13) (g 17) (5 * d) (iN (g 12 d))
noncomputable def dsG (g : gT) (nd : Nat) (fi n : Int32) : Option Nat := ff (fun d => g 3 d = fi ∧ g 4 d = n) nd
theorem dsG_lt {g : gT} {nd : Nat} {fi : Int32} : ∀ n d, dsG g nd fi n = some d → d < nd := fun n d h => (ff_is h).1
noncomputable def upG (g : gT) (lq : Nat) (n : Int32) : Bool := (lkG g lq n).isSome
noncomputable def adG (g : gT) (nd : Nat) (fi : Int32) (lq : Nat) : List Nat → Int32 → Bool × List Nat := aN (dsG g nd fi) (upG g lq) (rqG g) 12
theorem getD_app {L : List Nat} {d k : Nat} (h : k < L.length) : (L ++ [d]).getD k 0 = L.getD k 0 := by
  rw [List.getD_eq_getElem?_getD, List.getD_eq_getElem?_getD, List.getElem?_append_left h]
theorem getD_new {L : List Nat} {d : Nat} : (L ++ [d]).getD L.length 0 = d := by
  rw [List.getD_eq_getElem?_getD, List.getElem?_append_right (Nat.le_refl _), Nat.sub_self]; rfl
theorem len_app {L : List Nat} {d : Nat} : (L ++ [d]).length = L.length + 1 := by rw [List.length_append]; rfl
theorem LT_add {f20 f21 : Nat → Int32} {nl d : Nat} {L : List Nat} (h : LT f20 f21 nl L) : LT (upd f20 nl (nI (L.length + 1))) (upd f21 (12 * nl + L.length) (nI d)) nl (L ++ [d]) := by
  refine ⟨by rw [pk_us, len_app], fun k hk => ?_⟩
  rw [len_app] at hk
  rcases Nat.lt_or_ge k L.length with q | q
  · rw [pk_un (by omega), getD_app q]; exact h.2 k q
  · have e : k = L.length := by omega
    subst e
    rw [pk_us, getD_new]
theorem getD_mem {L : List Nat} {k : Nat} (h : k < L.length) : L.getD k 0 ∈ L := by
  rw [List.getD_eq_getElem?_getD, List.getElem?_eq_getElem h]; exact List.getElem_mem h
theorem mem_getD {L : List Nat} {d : Nat} (h : d ∈ L) : ∃ k, k < L.length ∧ L.getD k 0 = d := by
  obtain ⟨k, hk, e⟩ := List.getElem_of_mem h
  exact ⟨k, hk, by rw [List.getD_eq_getElem?_getD, List.getElem?_eq_getElem hk]; exact e⟩
theorem LT_in {f20 f21 : Nat → Int32} {nl nd d j : Nat} {L : List Nat} (h : LT f20 f21 nl L) (hG : GL nd L) (hnd : nd ≤ 12) (hd : d < 12) (h1 : 12 * nl ≤ j) (h2 : j < 12 * nl + L.length) (e : f21 j = nI d) : d ∈ L := by
  have q := h.2 (j - 12 * nl) (by omega)
  rw [show 12 * nl + (j - 12 * nl) = j by omega, e] at q
  have hm := getD_mem (L := L) (k := j - 12 * nl) (by omega)
  have hl := hG.1 _ hm
  rw [(nI_eq (by rw [xb_31]; omega) (by rw [xb_31]; omega)).mp q]; exact hm
theorem LT_out {f20 f21 : Nat → Int32} {nl d : Nat} {L : List Nat} (h : LT f20 f21 nl L) (hn : ∀ j, 12 * nl ≤ j → j < 12 * nl + L.length → ¬ f21 j = nI d) : d ∉ L := fun q => by
  obtain ⟨k, hk, e⟩ := mem_getD q
  exact hn (12 * nl + k) (by omega) (by omega) (by rw [h.2 k hk, e])
theorem LT_cut {f20 f21 : Nat → Int32} {nl : Nat} {L T : List Nat} (h : LT f20 f21 nl (L ++ T)) : LT (upd f20 nl (nI L.length)) f21 nl L := ⟨pk_us, fun k hk => by
  have q := h.2 k (by rw [List.length_append]; omega)
  rw [q, List.getD_eq_getElem?_getD, List.getD_eq_getElem?_getD, List.getElem?_append_left hk]⟩
theorem adG_in {g : gT} {nd lq d : Nat} {fi : Int32} {L : List Nat} (hd : d < nd) (hf : g 3 d = fi) (hu : ∀ j, j < nd → g 3 j = g 3 d → g 4 j = g 4 d → j = d) (hn : d ∉ L) : ∃ T, (adG g nd fi lq L (g 4 d)).2 = (L ++ [d]) ++ T := by
  have e : dsG g nd fi (g 4 d) = some d := ff_some hd ⟨hf, rfl⟩ (fun j hj q => by
    have := hu j (by omega) (q.1.trans hf.symm) q.2
    omega)
  unfold adG aN
  rw [e]
  simp only
  rw [if_neg hn]
  exact aF_keep (P := fun L2 => ∃ T, L2 = (L ++ [d]) ++ T) (fun L2 n ⟨T, e2⟩ => by
    obtain ⟨T2, e3⟩ := aN_pre (ds := dsG g nd fi) (up := upG g lq) (rq := rqG g) (f := 11) (L := L2) (n := n)
    exact ⟨T ++ T2, by rw [e3, e2, List.append_assoc]⟩) ⟨[], (List.append_nil _).symm⟩
theorem k4g_0 : (Cond.fieldLink "LayerDeskModel" 72 "LayerDeskModel" "modules" "[I") ∈ wT := wT_t (List.mem_append_right _ (List.mem_append_right _ (List.mem_append_right _ (List.mem_append_left _ (List.mem_of_getElem? (i := 110) rfl))))) rfl
theorem k4g_1 : (Cond.fieldLink "LayerDeskModel" 69 "LayerDeskModel" "parent" "[I") ∈ wT := wT_t (List.mem_append_right _ (List.mem_append_right _ (List.mem_append_right _ (List.mem_append_left _ (List.mem_of_getElem? (i := 109) rfl))))) rfl
theorem k4g_2 : (Cond.fieldLink "LayerDeskModel" 23 "LayerDeskModel" "name" "[I") ∈ wT := wT_t (List.mem_append_right _ (List.mem_append_right _ (List.mem_append_right _ (List.mem_append_left _ (List.mem_of_getElem? (i := 93) rfl))))) rfl
theorem k4g_3 : (Cond.fieldLink "LayerDeskModel" 75 "LayerDeskModel" "module" "[I") ∈ wT := wT_t (List.mem_append_right _ (List.mem_append_right _ (List.mem_append_right _ (List.mem_append_left _ (List.mem_of_getElem? (i := 111) rfl))))) rfl
set_option maxHeartbeats 4000000 in
set_option maxRecDepth 100000 in
theorem xc_Mo_lookUpX (l : Launch) (D : va_G) (kA : Nat → ClassId) (sz h : Nat) (mm : Nat → Nat) (v : Nat → Int32) (g : Nat → Nat → Int32) (lq : Nat) (nm : Int32) (np : Nat) (hnp : np ≤ 6) (hpar : ∀ la, la < np → ∃ lq, lq ≤ la ∧ g 19 la = nI lq - 1) (hlq : lq ≤ np) (hmd : ∀ la, la < 6 → ∃ k, k ≤ 12 ∧ g 20 la = nI k ∧ ∀ j, j < k → ∃ d, d < 12 ∧ g 21 (12 * la + j) = nI d) : Met l xy_Mo_lookUp (.code xy_Mo_lookUp xb_Mo_lookUp 5 (some .int) :: wT) { frames := 0, cells := 0, slots := 0, locals := 0 } (va_Pc [.ref h, .int (nI lq - 1), .int nm] (xPre D kA sz (moW h mm kA v g))) (va_Qi (fun (r : Int32) (u : Unit) => (lkG g lq nm = none ∧ r = -1) ∨ ∃ la d, lkG g lq nm = some (la, d) ∧ la < np ∧ d < 12 ∧ r = nI (12 * la + d)) (fun (u : Unit) t => va_P D xcl (moW h mm kA v g) t.heap ∧ va_D (va_A (moW h mm kA v g) sz) (moW h mm kA v g)) (va_A (moW h mm kA v g) sz)) 0 0 (va_A (moW h mm kA v g) sz) := by
  refine Met.ofW (cc := xb_Mo_lookUp) (maxL := 5) (ret := (some .int)) (by decide) rfl ?_
  intro p e s m args below meth c s₁ B hml hv
  obtain ⟨rfl, hsz, hP, hK, hD0⟩ := hv
  have hx := B.exec
  have hb := B.bytes
  have hr := B.returns
  have hT := x_hT B.pre
  have hown : s.vm.findClass xR_Mo = some m.cls := findClass_of_methodNamed B.named
  have hlocks := B.notSynchronized
  subst hsz
  have hD := hD0.self (sz := s.heap.size)
  generalize hAe : va_A (moW h mm kA v g) s.heap.size = A at hD ⊢
  have hA : ∀ q : Nat, s.heap.size ≤ q → A q := fun q h => by rw [← hAe]; exact Or.inr h
  have hS : va_S A s.heap s.heap [] := va_S.rf
  have hl := lv_entry ([.ref h, .int (nI lq - 1), .int nm]) (n := 5) (Nat.le_of_ble_eq_true rfl)
  rw [lg_entry_eq]
  generalize (lg_sl ([.ref h, .int (nI lq - 1), .int nm]) ++ List.replicate (5 - (lg_sl ([.ref h, .int (nI lq - 1), .int nm])).length) Slot.unset).toArray = ls at hl ⊢
  have hl : lv_has ls 5 [(0, .ref h), (1, .int (nI lq - 1)), (2, .int nm)] := hl
  have hP : va_P D xcl (moW h mm kA v g) s.heap := hP
  refine lv_iload_n hx hb xd_Mo_lookUp_0 rfl (lv_at hl 1 rfl) ?_
  refine lv_istore_n hx hb xd_Mo_lookUp_1 rfl hl (Nat.le_of_ble_eq_true rfl) rfl (fun ls hl => ?_)
  have hl : lv_has ls 5 [(3, .int (nI lq - 1)), (0, .ref h), (1, .int (nI lq - 1)), (2, .int nm)] := hl
  refine xlab (σ := Nat) (ml := 5) 2 (fun (lq1 : Nat) => [(3, .int (nI lq1 - 1)), (0, .ref h), (1, .int (nI lq - 1)), (2, .int nm)]) (fun (lq1 : Nat) => []) (fun (lq1 : Nat) => moW h mm kA v g) (fun (lq1 : Nat) => (lq1 ≤ np) ∧ (lkG g lq nm = lkG g lq1 nm)) (fun (lq1 : Nat) => lq1) ?_ lq _ _ _ (lv_sub hl [0, 1, 2, 3] rfl) hP hD hS ⟨(show lq ≤ np from by first | assumption | omega), (show lkG g lq nm = lkG g lq nm from rfl)⟩
  intro n9 ih1 a9 ls H locs hμ hl hP hD hS hI
  subst hμ
  obtain ⟨lq1, rfl⟩ : ∃ z, z = a9 := ⟨_, rfl⟩
  obtain ⟨hlq1, hlk⟩ := hI
  have hlq1 : lq1 ≤ np := hlq1
  have hlk : lkG g lq nm = lkG g lq1 nm := hlk
  have hl : lv_has ls 5 [(3, .int (nI lq1 - 1)), (0, .ref h), (1, .int (nI lq - 1)), (2, .int nm)] := hl
  have hP : va_P D xcl (moW h mm kA v g) H := hP
  have hD : va_D A (moW h mm kA v g) := hD
  rcases Nat.eq_zero_or_pos lq1 with hz5 | hz5
  · have e5 : nI lq1 - 1 = -1 := by rw [hz5]; decide
    rw [e5] at hl
    refine lv_iload_n hx hb xd_Mo_lookUp_2 rfl (lv_at hl 0 rfl) ?_
    refine lv_if_lt (tgt := 73) hx hb xd_Mo_lookUp_3 (by decide) (fun _ => ?_) (fun hc2 => absurd hc2 (by decide))
    refine lv_iconst (v := (-1)) hx hb xd_Mo_lookUp_73 (by decide) ?_
    exact W.iret (v := (-1)) hx hb hr (fun t ht hW => ⟨⟨(-1), (), rfl, Or.inl ⟨by rw [hlk, hz5]; rfl, rfl⟩, by rw [ht]; exact hP, hD⟩, hS.F ht⟩) hS.2.2 xd_Mo_lookUp_74
  · have e5 : nI lq1 - 1 = nI (lq1 - 1) := pk_sub (a := lq1) (b := 1) hz5
    rw [e5] at hl
    refine lv_iload_n hx hb xd_Mo_lookUp_2 rfl (lv_at hl 0 rfl) ?_
    refine xz_lt (a := lq1 - 1) (tgt := 73) hx hb xd_Mo_lookUp_3 (by decide) (by omega) ?_
    obtain ⟨mdk, hmdk, emdk, hent⟩ := hmd (lq1 - 1) (by omega)
    have hent2 : ∀ i, 12 * (lq1 - 1) ≤ i → i < 12 * (lq1 - 1) + mdk → ∃ d, d < 12 ∧ g 21 i = nI d := fun i h1 h2 => by
      have h3 := hent (i - 12 * (lq1 - 1)) (by omega)
      rwa [show 12 * (lq1 - 1) + (i - 12 * (lq1 - 1)) = i by omega] at h3
    refine lv_bipush (v := 12) hx hb xd_Mo_lookUp_6 (by decide) ?_
    refine lv_iload_n hx hb xd_Mo_lookUp_8 rfl (lv_at hl 0 rfl) ?_
    refine lv_imul hx hb xd_Mo_lookUp_9 ?_
    refine xn_top (y := nI (12 * (lq1 - 1))) (pk_mul 12 (lq1 - 1)) ?_
    refine lv_istore hx hb xd_Mo_lookUp_10 hl (Nat.le_of_ble_eq_true rfl) rfl (fun ls hl => ?_)
    have hl : lv_has ls 5 [(4, .int (nI (12 * (lq1 - 1)))), (3, .int (nI (lq1 - 1))), (0, .ref h), (1, .int (nI lq - 1)), (2, .int nm)] := hl
    refine xlab (σ := Nat) (ml := 5) 12 (fun (i : Nat) => [(4, .int (nI i)), (3, .int (nI (lq1 - 1))), (0, .ref h), (1, .int (nI lq - 1)), (2, .int nm)]) (fun (i : Nat) => []) (fun (i : Nat) => moW h mm kA v g) (fun (i : Nat) => (12 * (lq1 - 1) ≤ i) ∧ (i ≤ 12 * (lq1 - 1) + mdk) ∧ (∀ j, j < i - 12 * (lq1 - 1) → ¬ g 4 (mdv g (lq1 - 1) j) = nm)) (fun (i : Nat) => 12 * (lq1 - 1) + mdk - i) ?_ (12 * (lq1 - 1)) _ _ _ (lv_sub hl [0, 1, 2, 3, 4] rfl) hP hD hS ⟨(show 12 * (lq1 - 1) ≤ (12 * (lq1 - 1)) from by first | assumption | omega), (show (12 * (lq1 - 1)) ≤ 12 * (lq1 - 1) + mdk from by first | assumption | omega), (show ∀ j, j < (12 * (lq1 - 1)) - 12 * (lq1 - 1) → ¬ g 4 (mdv g (lq1 - 1) j) = nm from fun j hj => absurd hj (by omega))⟩
    intro n9 ih4 a9 ls H locs hμ hl hP hD hS hI
    subst hμ
    obtain ⟨i, rfl⟩ : ∃ z, z = a9 := ⟨_, rfl⟩
    obtain ⟨hi1, hi2, hno⟩ := hI
    have hi1 : 12 * (lq1 - 1) ≤ i := hi1
    have hi2 : i ≤ 12 * (lq1 - 1) + mdk := hi2
    have hno : ∀ j, j < i - 12 * (lq1 - 1) → ¬ g 4 (mdv g (lq1 - 1) j) = nm := hno
    have hl : lv_has ls 5 [(4, .int (nI i)), (3, .int (nI (lq1 - 1))), (0, .ref h), (1, .int (nI lq - 1)), (2, .int nm)] := hl
    have hP : va_P D xcl (moW h mm kA v g) H := hP
    have hD : va_D A (moW h mm kA v g) := hD
    refine lv_iload hx hb xd_Mo_lookUp_12 (lv_at hl 0 rfl) ?_
    refine lv_bipush (v := 12) hx hb xd_Mo_lookUp_14 (by decide) ?_
    refine lv_iload_n hx hb xd_Mo_lookUp_16 rfl (lv_at hl 1 rfl) ?_
    refine lv_imul hx hb xd_Mo_lookUp_17 ?_
    refine xn_top (y := nI (12 * (lq1 - 1))) (pk_mul 12 (lq1 - 1)) ?_
    refine lv_aload_n hx hb xd_Mo_lookUp_18 rfl (lv_at hl 2 rfl) ?_
    refine va_get (D := D) (ci := 4) (v := .ref (mm 20)) (C := xR_Mo) (T := xT_Mo) (N := 31) hx hb hT xi_Mo hown hK.1 hP 0 rfl rfl 26 (by decide) (hT _ k4g_0) (fun _ h9 => h9) rfl xd_Mo_lookUp_19 ?_
    refine lv_iload_n hx hb xd_Mo_lookUp_22 rfl (lv_at hl 1 rfl) ?_
    refine xn_iald (i := lq1 - 1) hx hb hK.1 hP 21 0 rfl rfl (by omega) (by decide) xd_Mo_lookUp_23 ?_
    refine xn_top (x := (g 20 (lq1 - 1))) (y := nI mdk) emdk ?_
    refine lv_iadd hx hb xd_Mo_lookUp_24 ?_
    refine xn_top (y := nI ((12 * (lq1 - 1)) + mdk)) (nI_add (12 * (lq1 - 1)) mdk) ?_
    refine xn_ge (a := i) (b := (12 * (lq1 - 1)) + mdk) (tgt := 63) hx hb xd_Mo_lookUp_25 (by decide) (by omega) (by omega) (fun hc5 => ?_) (fun hc5 => ?_)
    · refine lv_aload_n hx hb xd_Mo_lookUp_63 rfl (lv_at hl 2 rfl) ?_
      refine va_get (D := D) (ci := 4) (v := .ref (mm 19)) (C := xR_Mo) (T := xT_Mo) (N := 31) hx hb hT xi_Mo hown hK.1 hP 0 rfl rfl 25 (by decide) (hT _ k4g_1) (fun _ h9 => h9) rfl xd_Mo_lookUp_64 ?_
      refine lv_iload_n hx hb xd_Mo_lookUp_67 rfl (lv_at hl 1 rfl) ?_
      refine xn_iald (i := lq1 - 1) hx hb hK.1 hP 20 0 rfl rfl (by omega) (by decide) xd_Mo_lookUp_68 ?_
      obtain ⟨q6, hq7, eq8⟩ := hpar (lq1 - 1) (by omega)
      refine xn_top (x := (g 19 (lq1 - 1))) eq8 ?_
      refine lv_istore_n hx hb xd_Mo_lookUp_69 rfl hl (Nat.le_of_ble_eq_true rfl) rfl (fun ls hl => ?_)
      have hl : lv_has ls 5 [(3, .int (nI q6 - 1)), (4, .int (nI i)), (0, .ref h), (1, .int (nI lq - 1)), (2, .int nm)] := hl
      refine lv_goto (tgt := 2) hx hb xd_Mo_lookUp_70 (by decide) ?_
      exact ih1 q6 _ _ _ (show q6 < lq1 by omega) (lv_sub hl [0, 2, 3, 4] rfl) hP hD hS ⟨(show q6 ≤ np from by first | assumption | omega), (show lkG g lq nm = lkG g q6 nm from hlk.trans (lkG_miss hnp hpar hz5 (by omega) emdk hmdk eq8 (by omega) (fun j hj => hno j (by omega))))⟩
    · refine lv_aload_n hx hb xd_Mo_lookUp_28 rfl (lv_at hl 2 rfl) ?_
      refine va_get (D := D) (ci := 4) (v := .ref (mm 4)) (C := xR_Mo) (T := xT_Mo) (N := 31) hx hb hT xi_Mo hown hK.1 hP 0 rfl rfl 9 (by decide) (hT _ k4g_2) (fun _ h9 => h9) rfl xd_Mo_lookUp_29 ?_
      refine lv_aload_n hx hb xd_Mo_lookUp_32 rfl (lv_at hl 2 rfl) ?_
      refine va_get (D := D) (ci := 4) (v := .ref (mm 21)) (C := xR_Mo) (T := xT_Mo) (N := 31) hx hb hT xi_Mo hown hK.1 hP 0 rfl rfl 27 (by decide) (hT _ k4g_3) (fun _ h9 => h9) rfl xd_Mo_lookUp_33 ?_
      refine lv_iload hx hb xd_Mo_lookUp_36 (lv_at hl 0 rfl) ?_
      refine xn_iald (i := i) hx hb hK.1 hP 22 0 rfl rfl (by omega) (by decide) xd_Mo_lookUp_38 ?_
      obtain ⟨k9, hk10, ek11⟩ := hent2 i (by omega) (by omega)
      refine xn_top (x := (g 21 i)) ek11 ?_
      refine xn_iald (i := k9) hx hb hK.1 hP 5 0 rfl rfl (by omega) (by decide) xd_Mo_lookUp_39 ?_
      refine lv_iload_n hx hb xd_Mo_lookUp_40 rfl (lv_at hl 4 rfl) ?_
      refine lv_icmp_ne (tgt := 57) hx hb xd_Mo_lookUp_41 (by decide) (fun hc12 => ?_) (fun hc12 => ?_)
      · refine lv_iinc (k := 0) (x := (nI i)) (v := (nI (i + 1))) hx hb xd_Mo_lookUp_57 hl rfl (xb_inc i 1) (Nat.le_of_ble_eq_true rfl) rfl (fun ls hl => ?_)
        have hl : lv_has ls 5 [(4, .int (nI (i + 1))), (3, .int (nI (lq1 - 1))), (0, .ref h), (1, .int (nI lq - 1)), (2, .int nm)] := hl
        refine lv_goto (tgt := 12) hx hb xd_Mo_lookUp_60 (by decide) ?_
        exact ih4 (i + 1) _ _ _ (show 12 * (lq1 - 1) + mdk - (i + 1) < 12 * (lq1 - 1) + mdk - i by omega) (lv_sub hl [0, 1, 2, 3, 4] rfl) hP hD hS ⟨(show 12 * (lq1 - 1) ≤ (i + 1) from by first | assumption | omega), (show (i + 1) ≤ 12 * (lq1 - 1) + mdk from by first | assumption | omega), (show ∀ j, j < (i + 1) - 12 * (lq1 - 1) → ¬ g 4 (mdv g (lq1 - 1) j) = nm from mdv_step hi1 ek11 hk10 hc12 hno)⟩
      · refine lv_bipush (v := 12) hx hb xd_Mo_lookUp_44 (by decide) ?_
        refine lv_iload_n hx hb xd_Mo_lookUp_46 rfl (lv_at hl 1 rfl) ?_
        refine lv_imul hx hb xd_Mo_lookUp_47 ?_
        refine xn_top (y := nI (12 * (lq1 - 1))) (pk_mul 12 (lq1 - 1)) ?_
        refine lv_aload_n hx hb xd_Mo_lookUp_48 rfl (lv_at hl 2 rfl) ?_
        refine va_get (D := D) (ci := 4) (v := .ref (mm 21)) (C := xR_Mo) (T := xT_Mo) (N := 31) hx hb hT xi_Mo hown hK.1 hP 0 rfl rfl 27 (by decide) (hT _ k4g_3) (fun _ h9 => h9) rfl xd_Mo_lookUp_49 ?_
        refine lv_iload hx hb xd_Mo_lookUp_52 (lv_at hl 0 rfl) ?_
        refine xn_iald (i := i) hx hb hK.1 hP 22 0 rfl rfl (by omega) (by decide) xd_Mo_lookUp_54 ?_
        obtain ⟨k13, hk14, ek15⟩ := hent2 i (by omega) (by omega)
        refine xn_top (x := (g 21 i)) ek15 ?_
        refine lv_iadd hx hb xd_Mo_lookUp_55 ?_
        refine xn_top (y := nI ((12 * (lq1 - 1)) + k13)) (nI_add (12 * (lq1 - 1)) k13) ?_
        exact W.iret (v := (nI ((12 * (lq1 - 1)) + k13))) hx hb hr (fun t ht hW => ⟨⟨(nI ((12 * (lq1 - 1)) + k13)), (), rfl, Or.inr ⟨lq1 - 1, k13, hlk.trans (lkG_hit hz5 emdk hmdk hi1 (by omega) ek15 hk14 hno (by rw [← nI_inj (by omega) (by omega) (ek11.symm.trans ek15)]; exact hc12)), by omega, by omega, rfl⟩, by rw [ht]; exact hP, hD⟩, hS.F ht⟩) hS.2.2 xd_Mo_lookUp_56
theorem k4i_0 : (Cond.fieldLink "LayerDeskModel" 150 "LayerDeskModel" "layers" "I") ∈ wT := wT_t (List.mem_append_right _ (List.mem_append_right _ (List.mem_append_right _ (List.mem_append_left _ (List.mem_of_getElem? (i := 107) rfl))))) rfl
theorem k4i_1 : (Cond.fieldLink "LayerDeskModel" 81 "LayerDeskModel" "stack" "[I") ∈ wT := wT_t (List.mem_append_right _ (List.mem_append_right _ (List.mem_append_right _ (List.mem_append_left _ (List.mem_of_getElem? (i := 113) rfl))))) rfl
theorem k4i_2 : (Cond.fieldLink "LayerDeskModel" 66 "LayerDeskModel" "finderOf" "[I") ∈ wT := wT_t (List.mem_append_right _ (List.mem_append_right _ (List.mem_append_right _ (List.mem_append_left _ (List.mem_of_getElem? (i := 108) rfl))))) rfl
theorem k4i_3 : (Cond.code xy_Mo_descriptorOf xb_Mo_descriptorOf 4 (some .int)) ∈ wT := wT_t (List.mem_append_right _ (List.mem_append_right _ (List.mem_append_right _ (List.mem_append_left _ (List.mem_of_getElem? (i := 216) rfl))))) rfl
theorem k4i_4 : (Cond.methodLink "LayerDeskModel" 136 xy_Mo_descriptorOf) ∈ wT := wT_t (List.mem_append_right _ (List.mem_append_right _ (List.mem_append_right _ (List.mem_append_left _ (List.mem_of_getElem? (i := 213) rfl))))) rfl
theorem k4i_5 : (Cond.instanceMethod xy_Mo_descriptorOf) ∈ wT := wT_t (List.mem_append_right _ (List.mem_append_right _ (List.mem_append_right _ (List.mem_append_left _ (List.mem_of_getElem? (i := 215) rfl))))) rfl
theorem k4i_6 : (Cond.selects "LayerDeskModel" xy_Mo_descriptorOf xy_Mo_descriptorOf) ∈ wT := wT_s (q := (xy_Mo_descriptorOf, 31)) (by decide +kernel) rfl
theorem k4i_7 : (Cond.initialized "LayerDeskModel") ∈ wT := wT_t (List.mem_append_left _ (List.mem_of_getElem? (i := 5) rfl)) rfl
theorem k4i_8 : (Cond.code xy_Mo_isIn xb_Mo_isIn 5 (some .boolean)) ∈ wT := wT_t (List.mem_append_right _ (List.mem_append_right _ (List.mem_append_right _ (List.mem_append_right _ (List.mem_of_getElem? (i := 24) rfl))))) rfl
theorem k4i_9 : (Cond.methodLink "LayerDeskModel" 156 xy_Mo_isIn) ∈ wT := wT_t (List.mem_append_right _ (List.mem_append_right _ (List.mem_append_right _ (List.mem_append_right _ (List.mem_of_getElem? (i := 21) rfl))))) rfl
theorem k4i_10 : (Cond.instanceMethod xy_Mo_isIn) ∈ wT := wT_t (List.mem_append_right _ (List.mem_append_right _ (List.mem_append_right _ (List.mem_append_right _ (List.mem_of_getElem? (i := 23) rfl))))) rfl
theorem k4i_11 : (Cond.selects "LayerDeskModel" xy_Mo_isIn xy_Mo_isIn) ∈ wT := wT_s (q := (xy_Mo_isIn, 31)) (by decide +kernel) rfl
theorem k4i_12 : (Cond.fieldLink "LayerDeskModel" 75 "LayerDeskModel" "module" "[I") ∈ wT := wT_t (List.mem_append_right _ (List.mem_append_right _ (List.mem_append_right _ (List.mem_append_left _ (List.mem_of_getElem? (i := 111) rfl))))) rfl
theorem k4i_13 : (Cond.fieldLink "LayerDeskModel" 72 "LayerDeskModel" "modules" "[I") ∈ wT := wT_t (List.mem_append_right _ (List.mem_append_right _ (List.mem_append_right _ (List.mem_append_left _ (List.mem_of_getElem? (i := 110) rfl))))) rfl
theorem k4i_14 : (Cond.fieldLink "LayerDeskModel" 48 "LayerDeskModel" "requires" "[I") ∈ wT := wT_t (List.mem_append_right _ (List.mem_append_right _ (List.mem_append_right _ (List.mem_append_left _ (List.mem_of_getElem? (i := 101) rfl))))) rfl
theorem k4i_15 : (Cond.fieldLink "LayerDeskModel" 63 "LayerDeskModel" "still" "[Z") ∈ wT := wT_t (List.mem_append_right _ (List.mem_append_right _ (List.mem_append_right _ (List.mem_append_left _ (List.mem_of_getElem? (i := 106) rfl))))) rfl
theorem k4i_16 : (Cond.fieldLink "LayerDeskModel" 51 "LayerDeskModel" "require" "[I") ∈ wT := wT_t (List.mem_append_right _ (List.mem_append_right _ (List.mem_append_right _ (List.mem_append_left _ (List.mem_of_getElem? (i := 102) rfl))))) rfl
theorem k4i_17 : (Cond.fieldLink "LayerDeskModel" 69 "LayerDeskModel" "parent" "[I") ∈ wT := wT_t (List.mem_append_right _ (List.mem_append_right _ (List.mem_append_right _ (List.mem_append_left _ (List.mem_of_getElem? (i := 109) rfl))))) rfl
theorem k4i_18 : (Cond.code xy_Mo_lookUp xb_Mo_lookUp 5 (some .int)) ∈ wT := wT_t (List.mem_append_right _ (List.mem_append_right _ (List.mem_append_right _ (List.mem_append_right _ (List.mem_of_getElem? (i := 20) rfl))))) rfl
theorem k4i_19 : (Cond.methodLink "LayerDeskModel" 153 xy_Mo_lookUp) ∈ wT := wT_t (List.mem_append_right _ (List.mem_append_right _ (List.mem_append_right _ (List.mem_append_right _ (List.mem_of_getElem? (i := 17) rfl))))) rfl
theorem k4i_20 : (Cond.instanceMethod xy_Mo_lookUp) ∈ wT := wT_t (List.mem_append_right _ (List.mem_append_right _ (List.mem_append_right _ (List.mem_append_right _ (List.mem_of_getElem? (i := 19) rfl))))) rfl
theorem k4i_21 : (Cond.selects "LayerDeskModel" xy_Mo_lookUp xy_Mo_lookUp) ∈ wT := wT_s (q := (xy_Mo_lookUp, 31)) (by decide +kernel) rfl
set_option maxHeartbeats 4000000 in
set_option maxRecDepth 100000 in
theorem xc_Mo_addsX (l : Launch) (D : va_G) (kA : Nat → ClassId) (sz h : Nat) (mm : Nat → Nat) (v : Nat → Int32) (g : Nat → Nat → Int32) (nm : Int32) (nd : Nat) (nl : Nat) (lq : Nat) (L0 : List Nat) (hMI : MI v g) (hnd : v 4 = nI nd) (hnd12 : nd ≤ 12) (hnl : v 5 = nI nl) (hnl5 : nl ≤ 5) (hpn : ∀ la, la < nl + 1 → ∃ lq, lq ≤ la ∧ g 19 la = nI lq - 1) (hlqe : g 19 nl = nI lq - 1) (hlqn : lq ≤ nl) (hLT : LT (g 20) (g 21) nl L0) (hGL : GL nd L0) : Met l xy_Mo_adds (.code xy_Mo_adds xb_Mo_adds 6 (some .boolean) :: wT) { frames := 1, cells := 0, slots := 0, locals := 24 } (va_Pc [.ref h, .int nm] (xPre D kA sz (moW h mm kA v g))) (va_Qi (fun (r : Int32) (u : (Nat → Int32) × (Nat → Nat → Int32)) => u.1 = v ∧ MI v u.2 ∧ (∀ j, j ≠ 20 → j ≠ 21 → j ≠ 23 → u.2 j = g j) ∧ RW g u.2 nl ∧ ∃ L1, GL nd L1 ∧ LT (u.2 20) (u.2 21) nl L1 ∧ ((r = 0 ∧ adG g nd (g 18 nl) lq L0 nm = (false, L1)) ∨ (r = 1 ∧ adG g nd (g 18 nl) lq L0 nm = (true, L1)))) (fun (u : (Nat → Int32) × (Nat → Nat → Int32)) t => va_P D xcl (moW h mm kA u.1 u.2) t.heap ∧ va_D (va_A (moW h mm kA v g) sz) (moW h mm kA u.1 u.2)) (va_A (moW h mm kA v g) sz)) 0 0 (va_A (moW h mm kA v g) sz) := by
  refine Met.ofW (cc := xb_Mo_adds) (maxL := 6) (ret := (some .boolean)) (by decide) rfl ?_
  intro p e s m args below meth c s₁ B hml hv
  obtain ⟨rfl, hsz, hP, hK, hD0⟩ := hv
  have hx := B.exec
  have hb := B.bytes
  have hr := B.returns
  have hT := x_hT B.pre
  have hown : s.vm.findClass xR_Mo = some m.cls := findClass_of_methodNamed B.named
  have hlocks := B.notSynchronized
  subst hsz
  have hD := hD0.self (sz := s.heap.size)
  generalize hAe : va_A (moW h mm kA v g) s.heap.size = A at hD ⊢
  have hA : ∀ q : Nat, s.heap.size ≤ q → A q := fun q h => by rw [← hAe]; exact Or.inr h
  have hS : va_S A s.heap s.heap [] := va_S.rf
  have hl := lv_entry ([.ref h, .int nm]) (n := 6) (Nat.le_of_ble_eq_true rfl)
  rw [lg_entry_eq]
  generalize (lg_sl ([.ref h, .int nm]) ++ List.replicate (6 - (lg_sl ([.ref h, .int nm])).length) Slot.unset).toArray = ls at hl ⊢
  have hl : lv_has ls 6 [(0, .ref h), (1, .int nm)] := hl
  have hP : va_P D xcl (moW h mm kA v g) s.heap := hP
  obtain ⟨-, -, -, -, -, hmdg, -⟩ := id hMI
  have hL0l := GL_len hGL
  refine lv_aload_n hx hb xd_Mo_adds_0 rfl (lv_at hl 0 rfl) ?_
  refine va_get (D := D) (ci := 4) (v := .int (v 5)) (C := xR_Mo) (T := xT_Mo) (N := 31) hx hb hT xi_Mo hown hK.1 hP 0 rfl rfl 23 (by decide) (hT _ k4i_0) (fun _ h9 => h9) rfl xd_Mo_adds_1 ?_
  refine xn_top (x := (v 5)) (y := nI nl) hnl ?_
  refine lv_istore_n hx hb xd_Mo_adds_4 rfl hl (Nat.le_of_ble_eq_true rfl) rfl (fun ls hl => ?_)
  have hl : lv_has ls 6 [(2, .int (nI nl)), (0, .ref h), (1, .int nm)] := hl
  refine lv_iconst (v := 1) hx hb xd_Mo_adds_5 (by decide) ?_
  refine lv_istore_n hx hb xd_Mo_adds_6 rfl hl (Nat.le_of_ble_eq_true rfl) rfl (fun ls hl => ?_)
  have hl : lv_has ls 6 [(3, .int 1), (2, .int (nI nl)), (0, .ref h), (1, .int nm)] := hl
  refine lv_aload_n hx hb xd_Mo_adds_7 rfl (lv_at hl 2 rfl) ?_
  refine va_get (D := D) (ci := 4) (v := .ref (mm 23)) (C := xR_Mo) (T := xT_Mo) (N := 31) hx hb hT xi_Mo hown hK.1 hP 0 rfl rfl 29 (by decide) (hT _ k4i_1) (fun _ h9 => h9) rfl xd_Mo_adds_8 ?_
  refine lv_iconst (v := 0) hx hb xd_Mo_adds_11 (by decide) ?_
  refine lv_iload_n hx hb xd_Mo_adds_12 rfl (lv_at hl 3 rfl) ?_
  refine xn_iast (i := 0) hx hb hK.1 hP hD hS 24 0 rfl rfl (by omega) (by decide) xd_Mo_adds_13 (fun H locs hP hD hS => ?_)
  have hP : va_P D xcl (moW h mm kA v (va_up g 23 (upd (g 23) 0 nm))) H := hP
  have hD : va_D A (moW h mm kA v (va_up g 23 (upd (g 23) 0 nm))) := hD
  refine xlab (σ := Nat × List Nat × (Nat → Nat → Int32)) (ml := 6) 14 (fun (tp, L, g1) => [(3, .int (nI tp)), (0, .ref h), (1, .int nm), (2, .int (nI nl))]) (fun (tp, L, g1) => []) (fun (tp, L, g1) => moW h mm kA v g1) (fun (tp, L, g1) => (tp + 5 * (12 - L.length) ≤ 61) ∧ (MI v g1) ∧ (∀ j, j ≠ 20 → j ≠ 21 → j ≠ 23 → g1 j = g j) ∧ (RW g g1 nl) ∧ (LT (g1 20) (g1 21) nl L) ∧ (GL nd L) ∧ (aF (aN (dsG g nd (g 18 nl)) (upG g lq) (rqG g) 12) L0 [nm] = aF (aN (dsG g nd (g 18 nl)) (upG g lq) (rqG g) 12) L (ST (g1 23) tp))) (fun (tp, L, g1) => tp + 6 * (12 - L.length)) ?_ (1, L0, (va_up g 23 (upd (g 23) 0 nm))) _ _ _ (lv_sub hl [0, 2, 3, 1] rfl) hP hD hS ⟨(show 1 + 5 * (12 - L0.length) ≤ 61 from by omega), (show MI v (va_up g 23 (upd (g 23) 0 nm)) from MI_g rfl rfl rfl rfl rfl rfl rfl rfl hMI), (show ∀ j, j ≠ 20 → j ≠ 21 → j ≠ 23 → (va_up g 23 (upd (g 23) 0 nm)) j = g j from fun j h1 h2 h3 => by simp [va_up, h3]), (show RW g (va_up g 23 (upd (g 23) 0 nm)) nl from RW_rf), (show LT ((va_up g 23 (upd (g 23) 0 nm)) 20) ((va_up g 23 (upd (g 23) 0 nm)) 21) nl L0 from hLT), (show GL nd L0 from hGL), (show aF (aN (dsG g nd (g 18 nl)) (upG g lq) (rqG g) 12) L0 [nm] = aF (aN (dsG g nd (g 18 nl)) (upG g lq) (rqG g) 12) L0 (ST ((va_up g 23 (upd (g 23) 0 nm)) 23) 1) from congrArg (aF (aN (dsG g nd (g 18 nl)) (upG g lq) (rqG g) 12) L0) (show ST (upd (g 23) 0 nm) 1 = [nm] from ST_push).symm)⟩
  intro n9 ih1 a9 ls H locs hμ hl hP hD hS hI
  subst hμ
  obtain ⟨tp, L, g1⟩ := a9
  obtain ⟨htp, hM1, hfr, hRW, hL1, hG1, hA1⟩ := hI
  have htp : tp + 5 * (12 - L.length) ≤ 61 := htp
  have hM1 : MI v g1 := hM1
  have hfr : ∀ j, j ≠ 20 → j ≠ 21 → j ≠ 23 → g1 j = g j := hfr
  have hRW : RW g g1 nl := hRW
  have hL1 : LT (g1 20) (g1 21) nl L := hL1
  have hG1 : GL nd L := hG1
  have hA1 : aF (aN (dsG g nd (g 18 nl)) (upG g lq) (rqG g) 12) L0 [nm] = aF (aN (dsG g nd (g 18 nl)) (upG g lq) (rqG g) 12) L (ST (g1 23) tp) := hA1
  obtain ⟨-, -, -, -, hrq1, hmd1, huq⟩ := id hM1
  have hpar1 : ∀ la, la < nl + 1 → ∃ lq, lq ≤ la ∧ g1 19 la = nI lq - 1 := fun la h => by rw [hfr 19 (by decide) (by decide) (by decide)]; exact hpn la h
  have hLl := GL_len hG1
  have hmk1 := hL1.1
  have hl : lv_has ls 6 [(3, .int (nI tp)), (0, .ref h), (1, .int nm), (2, .int (nI nl))] := hl
  have hP : va_P D xcl (moW h mm kA v g1) H := hP
  have hD : va_D A (moW h mm kA v g1) := hD
  refine lv_iload_n hx hb xd_Mo_adds_14 rfl (lv_at hl 0 rfl) ?_
  refine xz_le (a := tp) (tgt := 163) hx hb xd_Mo_adds_15 (by decide) (by omega) (fun hc2 => ?_) (fun hc2 => ?_)
  · refine lv_iconst (v := 1) hx hb xd_Mo_adds_163 (by decide) ?_
    exact W.zret (v := 1) hx hb hr rfl (fun t ht hW => ⟨⟨1, (v, g1), rfl, ⟨rfl, hM1, hfr, hRW, L, hG1, hL1, Or.inr ⟨rfl, (aF_one (F := aN (dsG g nd (g 18 nl)) (upG g lq) (rqG g) 12)).symm.trans (hA1.trans (by rw [show tp = 0 by omega]; rfl))⟩⟩, by rw [ht]; exact hP, hD⟩, hS.F ht⟩) hS.2.2 xd_Mo_adds_164
  · refine lv_iinc (k := 0) (x := (nI tp)) (v := (nI (tp - 1))) hx hb xd_Mo_adds_18 hl rfl (xb_m1 (i := tp) (by omega)) (Nat.le_of_ble_eq_true rfl) rfl (fun ls hl => ?_)
    have hl : lv_has ls 6 [(3, .int (nI (tp - 1))), (0, .ref h), (1, .int nm), (2, .int (nI nl))] := hl
    refine lv_aload_n hx hb xd_Mo_adds_21 rfl (lv_at hl 1 rfl) ?_
    refine lv_aload_n hx hb xd_Mo_adds_22 rfl (lv_at hl 1 rfl) ?_
    refine va_get (D := D) (ci := 4) (v := .ref (mm 18)) (C := xR_Mo) (T := xT_Mo) (N := 31) hx hb hT xi_Mo hown hK.1 hP 0 rfl rfl 24 (by decide) (hT _ k4i_2) (fun _ h9 => h9) rfl xd_Mo_adds_23 ?_
    refine lv_iload_n hx hb xd_Mo_adds_26 rfl (lv_at hl 3 rfl) ?_
    refine xn_iald (i := nl) hx hb hK.1 hP 19 0 rfl rfl (by omega) (by decide) xd_Mo_adds_27 ?_
    refine lv_aload_n hx hb xd_Mo_adds_28 rfl (lv_at hl 1 rfl) ?_
    refine va_get (D := D) (ci := 4) (v := .ref (mm 23)) (C := xR_Mo) (T := xT_Mo) (N := 31) hx hb hT xi_Mo hown hK.1 hP 0 rfl rfl 29 (by decide) (hT _ k4i_1) (fun _ h9 => h9) rfl xd_Mo_adds_29 ?_
    refine lv_iload_n hx hb xd_Mo_adds_32 rfl (lv_at hl 0 rfl) ?_
    refine xn_iald (i := tp - 1) hx hb hK.1 hP 24 0 rfl rfl (by omega) (by decide) xd_Mo_adds_33 ?_
    have hFc := va_free (wc := (moW h mm kA v g1)) hD hS hA [0, 1, 2, 3, 4, 5, 6, 7, 8, 9, 10, 11, 12, 13, 14, 15, 16, 17, 18, 19, 20, 21, 22, 23, 24, 25] rfl
    refine va_calli (va_runV (As := [.int (g1 18 nl), .int (g1 23 (tp - 1))]) (rest := []) ⟨hx, hb, hml, hown, hT⟩ (xc_Mo_descriptorOf l D kA H.size h mm v g1 (g1 18 nl) (g1 23 (tp - 1)) nd (by first | assumption | omega) (by first | assumption | omega)) (cwV 2 hT (wT_V k4i_4 k4i_5 k4i_6 k4i_7 k4i_3) rfl rfl rfl (by decide +kernel) ⟨Nat.le_of_ble_eq_true rfl, Nat.le_of_ble_eq_true rfl⟩) (x_preV hK hP hD 0 rfl rfl) rfl rfl hl.1 rfl (lv_room (Nat.le_of_ble_eq_true rfl)) xd_Mo_adds_34 ⟨Nat.le_of_ble_eq_true rfl, Nat.le_of_ble_eq_true rfl⟩) hS (fun q _ h => hFc q h) hFc (fun r3 u4 t H1 locs ht hvm hp5 hB hz1 hk1 hS => ?_)
    obtain ⟨hP1, hD1⟩ := hB
    rw [ht] at hP1
    have hD1 := hD1.weaken (fun _ _ _ h => hFc _ h)
    generalize H1 = H at hP1 hS ⊢
    have hP := hP1
    have hD := hD1
    have hP : va_P D xcl (moW h mm kA v g1) H := hP
    have hD : va_D A (moW h mm kA v g1) := hD
    rcases hp5 with ⟨z6, z7, rfl, z8, z9, z10⟩ | ⟨rfl, z11⟩
    · have hds : dsG g nd (g 18 nl) (g1 23 (tp - 1)) = some z6 := by unfold dsG; rw [← hfr 3 (by decide) (by decide) (by decide), ← hfr 4 (by decide) (by decide) (by decide), ← hfr 18 (by decide) (by decide) (by decide)]; exact ff_some z7 ⟨z8, z9⟩ z10
      refine lv_istore hx hb xd_Mo_adds_37 hl (Nat.le_of_ble_eq_true rfl) rfl (fun ls hl => ?_)
      have hl : lv_has ls 6 [(4, .int (nI z6)), (3, .int (nI (tp - 1))), (0, .ref h), (1, .int nm), (2, .int (nI nl))] := hl
      refine lv_iload hx hb xd_Mo_adds_39 (lv_at hl 0 rfl) ?_
      refine xz_ge (a := z6) (tgt := 65) hx hb xd_Mo_adds_41 (by decide) (by omega) ?_
      refine lv_aload_n hx hb xd_Mo_adds_65 rfl (lv_at hl 2 rfl) ?_
      refine lv_iload_n hx hb xd_Mo_adds_66 rfl (lv_at hl 4 rfl) ?_
      refine lv_iload hx hb xd_Mo_adds_67 (lv_at hl 0 rfl) ?_
      have hFc := va_free (wc := (moW h mm kA v g1)) hD hS hA [0, 1, 2, 3, 4, 5, 6, 7, 8, 9, 10, 11, 12, 13, 14, 15, 16, 17, 18, 19, 20, 21, 22, 23, 24, 25] rfl
      refine va_calli (va_runV (As := [.int (nI nl), .int (nI z6)]) (rest := []) ⟨hx, hb, hml, hown, hT⟩ (xc_Mo_isIn l D kA H.size h mm v g1 nl (nI z6) L.length (by first | assumption | omega) (by first | assumption | omega) (by first | assumption | omega)) (cwV 2 hT (wT_V k4i_9 k4i_10 k4i_11 k4i_7 k4i_8) rfl rfl rfl (by decide +kernel) ⟨Nat.le_of_ble_eq_true rfl, Nat.le_of_ble_eq_true rfl⟩) (x_preV hK hP hD 0 rfl rfl) rfl rfl hl.1 rfl (lv_room (Nat.le_of_ble_eq_true rfl)) xd_Mo_adds_69 ⟨Nat.le_of_ble_eq_true rfl, Nat.le_of_ble_eq_true rfl⟩) hS (fun q _ h => hFc q h) hFc (fun r13 u14 t H1 locs ht hvm hp15 hB hz1 hk1 hS => ?_)
      obtain ⟨hP1, hD1⟩ := hB
      rw [ht] at hP1
      have hD1 := hD1.weaken (fun _ _ _ h => hFc _ h)
      generalize H1 = H at hP1 hS ⊢
      have hP := hP1
      have hD := hD1
      have hP : va_P D xcl (moW h mm kA v g1) H := hP
      have hD : va_D A (moW h mm kA v g1) := hD
      rcases hp15 with ⟨rfl, z16, z17, z18, z19⟩ | ⟨rfl, z20⟩
      · refine xz_ne (a := 1) (tgt := 160) hx hb xd_Mo_adds_72 (by decide) (by omega) (fun _ => ?_) (fun hc21 => absurd hc21 (by omega))
        refine lv_goto (tgt := 14) hx hb xd_Mo_adds_160 (by decide) ?_
        exact ih1 (tp - 1, L, g1) _ _ _ (show (tp - 1) + 6 * (12 - L.length) < tp + 6 * (12 - L.length) by first | omega | (rw [hLk]; omega)) (lv_sub hl [1, 2, 3, 4] rfl) hP hD hS ⟨(show (tp - 1) + 5 * (12 - L.length) ≤ 61 from by omega), (show MI v g1 from hM1), (show ∀ j, j ≠ 20 → j ≠ 21 → j ≠ 23 → g1 j = g j from hfr), (show RW g g1 nl from hRW), (show LT (g1 20) (g1 21) nl L from hL1), (show GL nd L from hG1), (show aF (aN (dsG g nd (g 18 nl)) (upG g lq) (rqG g) 12) L0 [nm] = aF (aN (dsG g nd (g 18 nl)) (upG g lq) (rqG g) 12) L (ST (g1 23) (tp - 1)) from by rw [hA1, ST_pop (by omega), aM_in hds (LT_in hL1 hG1 hnd12 (by omega) z17 z18 z19)])⟩
      · refine xz_ne (a := 0) (tgt := 160) hx hb xd_Mo_adds_72 (by decide) (by omega) (fun hc22 => absurd hc22 (by omega)) (fun _ => ?_)
        have hnin : z6 ∉ L := LT_out hL1 z20
        have hG2 := GL_add hG1 (dsG_lt _ _ hds) hnin
        have hlt12 : L.length < 12 := by have q := GL_len hG2; rw [len_app] at q; omega
        obtain ⟨rq1, hrq2, erq1⟩ := hrq1 z6 (by omega)
        refine lv_aload_n hx hb xd_Mo_adds_75 rfl (lv_at hl 2 rfl) ?_
        refine va_get (D := D) (ci := 4) (v := .ref (mm 21)) (C := xR_Mo) (T := xT_Mo) (N := 31) hx hb hT xi_Mo hown hK.1 hP 0 rfl rfl 27 (by decide) (hT _ k4i_12) (fun _ h9 => h9) rfl xd_Mo_adds_76 ?_
        refine lv_bipush (v := 12) hx hb xd_Mo_adds_79 (by decide) ?_
        refine lv_iload_n hx hb xd_Mo_adds_81 rfl (lv_at hl 4 rfl) ?_
        refine lv_imul hx hb xd_Mo_adds_82 ?_
        refine xn_top (y := nI (12 * nl)) (pk_mul 12 nl) ?_
        refine lv_aload_n hx hb xd_Mo_adds_83 rfl (lv_at hl 2 rfl) ?_
        refine va_get (D := D) (ci := 4) (v := .ref (mm 20)) (C := xR_Mo) (T := xT_Mo) (N := 31) hx hb hT xi_Mo hown hK.1 hP 0 rfl rfl 26 (by decide) (hT _ k4i_13) (fun _ h9 => h9) rfl xd_Mo_adds_84 ?_
        refine lv_iload_n hx hb xd_Mo_adds_87 rfl (lv_at hl 4 rfl) ?_
        refine xn_iald (i := nl) hx hb hK.1 hP 21 0 rfl rfl (by omega) (by decide) xd_Mo_adds_88 ?_
        refine xn_top (x := (g1 20 nl)) (y := nI L.length) hmk1 ?_
        refine lv_iadd hx hb xd_Mo_adds_89 ?_
        refine xn_top (y := nI ((12 * nl) + L.length)) (nI_add (12 * nl) L.length) ?_
        refine lv_iload hx hb xd_Mo_adds_90 (lv_at hl 0 rfl) ?_
        refine xn_iast (i := (12 * nl) + L.length) hx hb hK.1 hP hD hS 22 0 rfl rfl (by omega) (by decide) xd_Mo_adds_92 (fun H locs hP hD hS => ?_)
        have hP : va_P D xcl (moW h mm kA v (va_up g1 21 (upd (g1 21) ((12 * nl) + L.length) (nI z6)))) H := hP
        have hD : va_D A (moW h mm kA v (va_up g1 21 (upd (g1 21) ((12 * nl) + L.length) (nI z6)))) := hD
        refine lv_aload_n hx hb xd_Mo_adds_93 rfl (lv_at hl 2 rfl) ?_
        refine va_get (D := D) (ci := 4) (v := .ref (mm 20)) (C := xR_Mo) (T := xT_Mo) (N := 31) hx hb hT xi_Mo hown hK.1 hP 0 rfl rfl 26 (by decide) (hT _ k4i_13) (fun _ h9 => h9) rfl xd_Mo_adds_94 ?_
        refine lv_iload_n hx hb xd_Mo_adds_97 rfl (lv_at hl 4 rfl) ?_
        refine lv_dup2_11 hx hb xd_Mo_adds_98 rfl rfl ?_
        refine xn_iald (i := nl) hx hb hK.1 hP 21 0 rfl rfl (by omega) (by decide) xd_Mo_adds_99 ?_
        refine xn_top (x := (g1 20 nl)) (y := nI L.length) hmk1 ?_
        refine lv_iconst (v := 1) hx hb xd_Mo_adds_100 (by decide) ?_
        refine lv_iadd hx hb xd_Mo_adds_101 ?_
        refine xn_top (y := nI (L.length + 1)) (nI_add L.length 1) ?_
        refine xn_iast (i := nl) hx hb hK.1 hP hD hS 21 0 rfl rfl (by omega) (by decide) xd_Mo_adds_102 (fun H locs hP hD hS => ?_)
        have hP : va_P D xcl (moW h mm kA v (va_up (va_up g1 20 (upd (g1 20) nl (nI (L.length + 1)))) 21 (upd (g1 21) ((12 * nl) + L.length) (nI z6)))) H := hP
        have hD : va_D A (moW h mm kA v (va_up (va_up g1 20 (upd (g1 20) nl (nI (L.length + 1)))) 21 (upd (g1 21) ((12 * nl) + L.length) (nI z6)))) := hD
        have hLk : (L ++ [z6]).length = L.length + 1 := len_app
        refine lv_iconst (v := 5) hx hb xd_Mo_adds_103 (by decide) ?_
        refine lv_iload hx hb xd_Mo_adds_104 (lv_at hl 0 rfl) ?_
        refine lv_imul hx hb xd_Mo_adds_106 ?_
        refine xn_top (y := nI (5 * z6)) (pk_mul 5 z6) ?_
        refine lv_aload_n hx hb xd_Mo_adds_107 rfl (lv_at hl 2 rfl) ?_
        refine va_get (D := D) (ci := 4) (v := .ref (mm 12)) (C := xR_Mo) (T := xT_Mo) (N := 31) hx hb hT xi_Mo hown hK.1 hP 0 rfl rfl 17 (by decide) (hT _ k4i_14) (fun _ h9 => h9) rfl xd_Mo_adds_108 ?_
        refine lv_iload hx hb xd_Mo_adds_111 (lv_at hl 0 rfl) ?_
        refine xn_iald (i := z6) hx hb hK.1 hP 13 0 rfl rfl (by omega) (by decide) xd_Mo_adds_113 ?_
        refine xn_top (x := (g1 12 z6)) (y := nI rq1) erq1 ?_
        refine lv_iadd hx hb xd_Mo_adds_114 ?_
        refine xn_top (y := nI ((5 * z6) + rq1)) (nI_add (5 * z6) rq1) ?_
        refine lv_iconst (v := 1) hx hb xd_Mo_adds_115 (by decide) ?_
        refine lv_isub hx hb xd_Mo_adds_116 ?_
        refine lv_istore hx hb xd_Mo_adds_117 hl (Nat.le_of_ble_eq_true rfl) rfl (fun ls hl => ?_)
        have hl : lv_has ls 6 [(5, .int (nI ((5 * z6) + rq1) - 1)), (4, .int (nI z6)), (3, .int (nI (tp - 1))), (0, .ref h), (1, .int nm), (2, .int (nI nl))] := hl
        refine xlab (σ := Nat × Nat × (Nat → Int32)) (ml := 6) 119 (fun (kk, tp2, f23) => [(5, .int (nI kk - 1)), (3, .int (nI tp2)), (4, .int (nI z6)), (2, .int (nI nl)), (0, .ref h), (1, .int nm)]) (fun (kk, tp2, f23) => []) (fun (kk, tp2, f23) => moW h mm kA v (va_up (va_up (va_up g1 20 (upd (g1 20) nl (nI (L.length + 1)))) 21 (upd (g1 21) ((12 * nl) + L.length) (nI z6))) 23 f23)) (fun (kk, tp2, f23) => (5 * z6 ≤ kk) ∧ (kk ≤ 5 * z6 + rq1) ∧ (tp2 + kk ≤ tp - 1 + (5 * z6 + rq1)) ∧ (ST f23 tp2 = rqL (g 13) (g 17) kk (5 * z6 + rq1 - kk) ++ ST (g1 23) (tp - 1))) (fun (kk, tp2, f23) => kk) ?_ (((5 * z6) + rq1), tp - 1, (g1 23)) _ _ _ (lv_sub hl [0, 2, 1, 5, 3, 4] rfl) hP hD hS ⟨(show 5 * z6 ≤ ((5 * z6) + rq1) from by first | assumption | omega), (show ((5 * z6) + rq1) ≤ 5 * z6 + rq1 from by first | assumption | omega), (show (tp - 1) + ((5 * z6) + rq1) ≤ tp - 1 + (5 * z6 + rq1) from by first | assumption | omega), (show ST (g1 23) (tp - 1) = rqL (g 13) (g 17) ((5 * z6) + rq1) (5 * z6 + rq1 - ((5 * z6) + rq1)) ++ ST (g1 23) (tp - 1) from by rw [show 5 * z6 + rq1 - (5 * z6 + rq1) = 0 by omega]; rfl)⟩
        intro n9 ih23 a9 ls H locs hμ hl hP hD hS hI
        subst hμ
        obtain ⟨kk, tp2, f23⟩ := a9
        obtain ⟨hkk1, hkk2, htp2, hST⟩ := hI
        have hkk1 : 5 * z6 ≤ kk := hkk1
        have hkk2 : kk ≤ 5 * z6 + rq1 := hkk2
        have htp2 : tp2 + kk ≤ tp - 1 + (5 * z6 + rq1) := htp2
        have hST : ST f23 tp2 = rqL (g 13) (g 17) kk (5 * z6 + rq1 - kk) ++ ST (g1 23) (tp - 1) := hST
        have hl : lv_has ls 6 [(5, .int (nI kk - 1)), (3, .int (nI tp2)), (4, .int (nI z6)), (2, .int (nI nl)), (0, .ref h), (1, .int nm)] := hl
        have hP : va_P D xcl (moW h mm kA v (va_up (va_up (va_up g1 20 (upd (g1 20) nl (nI (L.length + 1)))) 21 (upd (g1 21) ((12 * nl) + L.length) (nI z6))) 23 f23)) H := hP
        have hD : va_D A (moW h mm kA v (va_up (va_up (va_up g1 20 (upd (g1 20) nl (nI (L.length + 1)))) 21 (upd (g1 21) ((12 * nl) + L.length) (nI z6))) 23 f23)) := hD
        rcases Nat.lt_or_ge (5 * z6) kk with hz5 | hz5
        · have e5 : nI kk - 1 = nI (kk - 1) := pk_sub (a := kk) (b := 1) (by omega)
          rw [e5] at hl
          refine lv_iload hx hb xd_Mo_adds_119 (lv_at hl 0 rfl) ?_
          refine lv_iconst (v := 5) hx hb xd_Mo_adds_121 (by decide) ?_
          refine lv_iload hx hb xd_Mo_adds_122 (lv_at hl 2 rfl) ?_
          refine lv_imul hx hb xd_Mo_adds_124 ?_
          refine xn_top (y := nI (5 * z6)) (pk_mul 5 z6) ?_
          refine xn_lt (a := kk - 1) (b := 5 * z6) (tgt := 160) hx hb xd_Mo_adds_125 (by decide) (by omega) (by omega) (fun hc24 => absurd hc24 (by omega)) (fun _ => ?_)
          refine lv_aload_n hx hb xd_Mo_adds_128 rfl (lv_at hl 4 rfl) ?_
          refine va_get (D := D) (ci := 4) (v := .ref (mm 17)) (C := xR_Mo) (T := xT_Mo) (N := 31) hx hb hT xi_Mo hown hK.1 hP 0 rfl rfl 22 (by decide) (hT _ k4i_15) (fun _ h9 => h9) rfl xd_Mo_adds_129 ?_
          refine lv_iload hx hb xd_Mo_adds_132 (lv_at hl 0 rfl) ?_
          refine xn_zald (i := kk - 1) hx hb hK.1 hP 18 2 rfl rfl (by omega) (by decide) xd_Mo_adds_134 ?_
          refine lv_if_ne (tgt := 154) hx hb xd_Mo_adds_135 (by decide) (fun hc25 => ?_) (fun hc25 => ?_)
          · refine lv_iinc (k := 0) (x := (nI (kk - 1))) (v := (nI (kk - 1) - 1)) hx hb xd_Mo_adds_154 hl rfl (by rw [Int32.sub_eq_add_neg]; rfl) (Nat.le_of_ble_eq_true rfl) rfl (fun ls hl => ?_)
            have hl : lv_has ls 6 [(5, .int (nI (kk - 1) - 1)), (3, .int (nI tp2)), (4, .int (nI z6)), (2, .int (nI nl)), (0, .ref h), (1, .int nm)] := hl
            refine lv_goto (tgt := 119) hx hb xd_Mo_adds_157 (by decide) ?_
            exact ih23 ((kk - 1), tp2, f23) _ _ _ (show (kk - 1) < kk by omega) (lv_sub hl [0, 1, 2, 3, 4, 5] rfl) hP hD hS ⟨(show 5 * z6 ≤ (kk - 1) from by first | assumption | omega), (show (kk - 1) ≤ 5 * z6 + rq1 from by first | assumption | omega), (show tp2 + (kk - 1) ≤ tp - 1 + (5 * z6 + rq1) from by first | assumption | omega), (show ST f23 tp2 = rqL (g 13) (g 17) (kk - 1) (5 * z6 + rq1 - (kk - 1)) ++ ST (g1 23) (tp - 1) from by rw [show 5 * z6 + rq1 - (kk - 1) = 5 * z6 + rq1 - kk + 1 by omega, rqL_n (by rw [← hfr 17 (by decide) (by decide) (by decide)]; exact hc25), show kk - 1 + 1 = kk by omega]; exact hST)⟩
          · refine lv_aload_n hx hb xd_Mo_adds_138 rfl (lv_at hl 4 rfl) ?_
            refine va_get (D := D) (ci := 4) (v := .ref (mm 23)) (C := xR_Mo) (T := xT_Mo) (N := 31) hx hb hT xi_Mo hown hK.1 hP 0 rfl rfl 29 (by decide) (hT _ k4i_1) (fun _ h9 => h9) rfl xd_Mo_adds_139 ?_
            refine lv_iload_n hx hb xd_Mo_adds_142 rfl (lv_at hl 1 rfl) ?_
            refine lv_aload_n hx hb xd_Mo_adds_143 rfl (lv_at hl 4 rfl) ?_
            refine va_get (D := D) (ci := 4) (v := .ref (mm 13)) (C := xR_Mo) (T := xT_Mo) (N := 31) hx hb hT xi_Mo hown hK.1 hP 0 rfl rfl 18 (by decide) (hT _ k4i_16) (fun _ h9 => h9) rfl xd_Mo_adds_144 ?_
            refine lv_iload hx hb xd_Mo_adds_147 (lv_at hl 0 rfl) ?_
            refine xn_iald (i := kk - 1) hx hb hK.1 hP 14 0 rfl rfl (by omega) (by decide) xd_Mo_adds_149 ?_
            refine xn_iast (i := tp2) hx hb hK.1 hP hD hS 24 0 rfl rfl (by omega) (by decide) xd_Mo_adds_150 (fun H locs hP hD hS => ?_)
            have hP : va_P D xcl (moW h mm kA v (va_up (va_up (va_up g1 20 (upd (g1 20) nl (nI (L.length + 1)))) 21 (upd (g1 21) ((12 * nl) + L.length) (nI z6))) 23 (upd f23 tp2 (g1 13 (kk - 1))))) H := hP
            have hD : va_D A (moW h mm kA v (va_up (va_up (va_up g1 20 (upd (g1 20) nl (nI (L.length + 1)))) 21 (upd (g1 21) ((12 * nl) + L.length) (nI z6))) 23 (upd f23 tp2 (g1 13 (kk - 1))))) := hD
            refine lv_iinc (k := 1) (x := (nI tp2)) (v := (nI (tp2 + 1))) hx hb xd_Mo_adds_151 hl rfl (xb_inc tp2 1) (Nat.le_of_ble_eq_true rfl) rfl (fun ls hl => ?_)
            have hl : lv_has ls 6 [(3, .int (nI (tp2 + 1))), (5, .int (nI (kk - 1))), (4, .int (nI z6)), (2, .int (nI nl)), (0, .ref h), (1, .int nm)] := hl
            refine lv_iinc (k := 1) (x := (nI (kk - 1))) (v := (nI (kk - 1) - 1)) hx hb xd_Mo_adds_154 hl rfl (by rw [Int32.sub_eq_add_neg]; rfl) (Nat.le_of_ble_eq_true rfl) rfl (fun ls hl => ?_)
            have hl : lv_has ls 6 [(5, .int (nI (kk - 1) - 1)), (3, .int (nI (tp2 + 1))), (4, .int (nI z6)), (2, .int (nI nl)), (0, .ref h), (1, .int nm)] := hl
            refine lv_goto (tgt := 119) hx hb xd_Mo_adds_157 (by decide) ?_
            exact ih23 ((kk - 1), tp2 + 1, (upd f23 tp2 (g1 13 (kk - 1)))) _ _ _ (show (kk - 1) < kk by omega) (lv_sub hl [0, 1, 2, 3, 4, 5] rfl) hP hD hS ⟨(show 5 * z6 ≤ (kk - 1) from by first | assumption | omega), (show (kk - 1) ≤ 5 * z6 + rq1 from by first | assumption | omega), (show (tp2 + 1) + (kk - 1) ≤ tp - 1 + (5 * z6 + rq1) from by first | assumption | omega), (show ST (upd f23 tp2 (g1 13 (kk - 1))) (tp2 + 1) = rqL (g 13) (g 17) (kk - 1) (5 * z6 + rq1 - (kk - 1)) ++ ST (g1 23) (tp - 1) from by rw [show 5 * z6 + rq1 - (kk - 1) = 5 * z6 + rq1 - kk + 1 by omega, rqL_y (by rw [← hfr 17 (by decide) (by decide) (by decide)]; exact hc25), show kk - 1 + 1 = kk by omega, ST_push, hST, ← hfr 13 (by decide) (by decide) (by decide)]; rfl)⟩
        · refine lv_iload hx hb xd_Mo_adds_119 (lv_at hl 0 rfl) ?_
          refine lv_iconst (v := 5) hx hb xd_Mo_adds_121 (by decide) ?_
          refine lv_iload hx hb xd_Mo_adds_122 (lv_at hl 2 rfl) ?_
          refine lv_imul hx hb xd_Mo_adds_124 ?_
          refine xn_top (y := nI (5 * z6)) (pk_mul 5 z6) ?_
          refine lv_icmp_lt (tgt := 160) hx hb xd_Mo_adds_125 (by decide) (fun _ => ?_) (fun hc26 => absurd (xb_predlt hz5 (by omega)) hc26)
          refine lv_goto (tgt := 14) hx hb xd_Mo_adds_160 (by decide) ?_
          exact ih1 (tp2, (L ++ [z6]), (va_up (va_up (va_up g1 20 (upd (g1 20) nl (nI (L.length + 1)))) 21 (upd (g1 21) ((12 * nl) + L.length) (nI z6))) 23 f23)) _ _ _ (show tp2 + 6 * (12 - (L ++ [z6]).length) < tp + 6 * (12 - L.length) by first | omega | (rw [hLk]; omega)) (lv_sub hl [1, 4, 5, 3] rfl) hP hD hS ⟨(show tp2 + 5 * (12 - (L ++ [z6]).length) ≤ 61 from by rw [hLk]; omega), (show MI v (va_up (va_up (va_up g1 20 (upd (g1 20) nl (nI (L.length + 1)))) 21 (upd (g1 21) ((12 * nl) + L.length) (nI z6))) 23 f23) from MI_g (g := va_up (va_up g1 20 (upd (g1 20) nl (nI (L.length + 1)))) 21 (upd (g1 21) (12 * nl + L.length) (nI z6))) rfl rfl rfl rfl rfl rfl rfl rfl (MI_add (by omega) hmk1 hlt12 (by omega) hM1)), (show ∀ j, j ≠ 20 → j ≠ 21 → j ≠ 23 → (va_up (va_up (va_up g1 20 (upd (g1 20) nl (nI (L.length + 1)))) 21 (upd (g1 21) ((12 * nl) + L.length) (nI z6))) 23 f23) j = g j from fun j h1 h2 h3 => by rw [← hfr j h1 h2 h3]; simp [va_up, h1, h2, h3]), (show RW g (va_up (va_up (va_up g1 20 (upd (g1 20) nl (nI (L.length + 1)))) 21 (upd (g1 21) ((12 * nl) + L.length) (nI z6))) 23 f23) nl from fun la hla => ⟨(show upd (g1 20) nl (nI (L.length + 1)) la = g 20 la by rw [pk_un (by omega)]; exact (hRW la hla).1), fun k9 hk9 => (show upd (g1 21) (12 * nl + L.length) (nI z6) (12 * la + k9) = g 21 (12 * la + k9) by rw [pk_un (by omega)]; exact (hRW la hla).2 k9 hk9)⟩), (show LT ((va_up (va_up (va_up g1 20 (upd (g1 20) nl (nI (L.length + 1)))) 21 (upd (g1 21) ((12 * nl) + L.length) (nI z6))) 23 f23) 20) ((va_up (va_up (va_up g1 20 (upd (g1 20) nl (nI (L.length + 1)))) 21 (upd (g1 21) ((12 * nl) + L.length) (nI z6))) 23 f23) 21) nl (L ++ [z6]) from LT_add hL1), (show GL nd (L ++ [z6]) from hG2), (show aF (aN (dsG g nd (g 18 nl)) (upG g lq) (rqG g) 12) L0 [nm] = aF (aN (dsG g nd (g 18 nl)) (upG g lq) (rqG g) 12) (L ++ [z6]) (ST ((va_up (va_up (va_up g1 20 (upd (g1 20) nl (nI (L.length + 1)))) 21 (upd (g1 21) ((12 * nl) + L.length) (nI z6))) 23 f23) 23) tp2) from by
        rw [hA1, ST_pop (by omega), aM_new dsG_lt hG1 (by omega) hds hnin]
        have q := hST
        rw [show kk = 5 * z6 by omega, show 5 * z6 + rq1 - 5 * z6 = rq1 by omega, ← show rqG g z6 = rqL (g 13) (g 17) (5 * z6) rq1 from by unfold rqG; rw [← hfr 12 (by decide) (by decide) (by decide), erq1, iN_nI (by omega)]] at q
        exact congrArg (aF (aN (dsG g nd (g 18 nl)) (upG g lq) (rqG g) 12) (L ++ [z6])) q.symm)⟩
    · have hds : dsG g nd (g 18 nl) (g1 23 (tp - 1)) = none := by unfold dsG; rw [← hfr 3 (by decide) (by decide) (by decide), ← hfr 4 (by decide) (by decide) (by decide), ← hfr 18 (by decide) (by decide) (by decide)]; exact ff_none z11
      refine lv_istore hx hb xd_Mo_adds_37 hl (Nat.le_of_ble_eq_true rfl) rfl (fun ls hl => ?_)
      have hl : lv_has ls 6 [(4, .int (-1)), (3, .int (nI (tp - 1))), (0, .ref h), (1, .int nm), (2, .int (nI nl))] := hl
      refine lv_iload hx hb xd_Mo_adds_39 (lv_at hl 0 rfl) ?_
      refine lv_if_ge (tgt := 65) hx hb xd_Mo_adds_41 (by decide) (fun hc27 => absurd hc27 (by decide)) (fun _ => ?_)
      refine lv_aload_n hx hb xd_Mo_adds_44 rfl (lv_at hl 2 rfl) ?_
      refine lv_aload_n hx hb xd_Mo_adds_45 rfl (lv_at hl 2 rfl) ?_
      refine va_get (D := D) (ci := 4) (v := .ref (mm 19)) (C := xR_Mo) (T := xT_Mo) (N := 31) hx hb hT xi_Mo hown hK.1 hP 0 rfl rfl 25 (by decide) (hT _ k4i_17) (fun _ h9 => h9) rfl xd_Mo_adds_46 ?_
      refine lv_iload_n hx hb xd_Mo_adds_49 rfl (lv_at hl 4 rfl) ?_
      refine xn_iald (i := nl) hx hb hK.1 hP 20 0 rfl rfl (by omega) (by decide) xd_Mo_adds_50 ?_
      refine xn_top (x := (g1 19 nl)) (y := nI lq - 1) (by rw [hfr 19 (by decide) (by decide) (by decide)]; exact hlqe) ?_
      refine lv_aload_n hx hb xd_Mo_adds_51 rfl (lv_at hl 2 rfl) ?_
      refine va_get (D := D) (ci := 4) (v := .ref (mm 23)) (C := xR_Mo) (T := xT_Mo) (N := 31) hx hb hT xi_Mo hown hK.1 hP 0 rfl rfl 29 (by decide) (hT _ k4i_1) (fun _ h9 => h9) rfl xd_Mo_adds_52 ?_
      refine lv_iload_n hx hb xd_Mo_adds_55 rfl (lv_at hl 1 rfl) ?_
      refine xn_iald (i := tp - 1) hx hb hK.1 hP 24 0 rfl rfl (by omega) (by decide) xd_Mo_adds_56 ?_
      have hFc := va_free (wc := (moW h mm kA v g1)) hD hS hA [0, 1, 2, 3, 4, 5, 6, 7, 8, 9, 10, 11, 12, 13, 14, 15, 16, 17, 18, 19, 20, 21, 22, 23, 24, 25] rfl
      refine va_calli (va_runV (As := [.int (nI lq - 1), .int (g1 23 (tp - 1))]) (rest := []) ⟨hx, hb, hml, hown, hT⟩ (xc_Mo_lookUpX l D kA H.size h mm v g1 lq (g1 23 (tp - 1)) (nl + 1) (by first | assumption | omega) hpar1 (by first | assumption | omega) hmd1) (cwV 2 hT (wT_V k4i_19 k4i_20 k4i_21 k4i_7 k4i_18) rfl rfl rfl (by decide +kernel) ⟨Nat.le_of_ble_eq_true rfl, Nat.le_of_ble_eq_true rfl⟩) (x_preV hK hP hD 0 rfl rfl) rfl rfl hl.1 rfl (lv_room (Nat.le_of_ble_eq_true rfl)) xd_Mo_adds_57 ⟨Nat.le_of_ble_eq_true rfl, Nat.le_of_ble_eq_true rfl⟩) hS (fun q _ h => hFc q h) hFc (fun r28 u29 t H1 locs ht hvm hp30 hB hz1 hk1 hS => ?_)
      obtain ⟨hP1, hD1⟩ := hB
      rw [ht] at hP1
      have hD1 := hD1.weaken (fun _ _ _ h => hFc _ h)
      generalize H1 = H at hP1 hS ⊢
      have hP := hP1
      have hD := hD1
      have hP : va_P D xcl (moW h mm kA v g1) H := hP
      have hD : va_D A (moW h mm kA v g1) := hD
      have hlk9 : lkG g1 lq (g1 23 (tp - 1)) = lkG g lq (g1 23 (tp - 1)) := lkG_row (np := nl + 1) (by omega) hpn (by omega) hlqn hRW (hfr 4 (by decide) (by decide) (by decide)) (hfr 19 (by decide) (by decide) (by decide)) hmdg
      rcases hp30 with ⟨z31, rfl⟩ | ⟨z32, z33, z34, z35, z36, rfl⟩
      · refine lv_if_ge (tgt := 160) hx hb xd_Mo_adds_60 (by decide) (fun hc37 => absurd hc37 (by decide)) (fun _ => ?_)
        refine lv_iconst (v := 0) hx hb xd_Mo_adds_63 (by decide) ?_
        exact W.zret (v := 0) hx hb hr rfl (fun t ht hW => ⟨⟨0, (v, g1), rfl, ⟨rfl, hM1, hfr, hRW, L, hG1, hL1, Or.inl ⟨rfl, (aF_one (F := aN (dsG g nd (g 18 nl)) (upG g lq) (rqG g) 12)).symm.trans (hA1.trans (by rw [ST_pop (by omega), aM_bad hds (by unfold upG; rw [← hlk9, z31]; rfl)]))⟩⟩, by rw [ht]; exact hP, hD⟩, hS.F ht⟩) hS.2.2 xd_Mo_adds_64
      · refine xz_ge (a := 12 * z32 + z33) (tgt := 160) hx hb xd_Mo_adds_60 (by decide) (by omega) ?_
        refine lv_goto (tgt := 14) hx hb xd_Mo_adds_160 (by decide) ?_
        exact ih1 (tp - 1, L, g1) _ _ _ (show (tp - 1) + 6 * (12 - L.length) < tp + 6 * (12 - L.length) by first | omega | (rw [hLk]; omega)) (lv_sub hl [1, 2, 3, 4] rfl) hP hD hS ⟨(show (tp - 1) + 5 * (12 - L.length) ≤ 61 from by omega), (show MI v g1 from hM1), (show ∀ j, j ≠ 20 → j ≠ 21 → j ≠ 23 → g1 j = g j from hfr), (show RW g g1 nl from hRW), (show LT (g1 20) (g1 21) nl L from hL1), (show GL nd L from hG1), (show aF (aN (dsG g nd (g 18 nl)) (upG g lq) (rqG g) 12) L0 [nm] = aF (aN (dsG g nd (g 18 nl)) (upG g lq) (rqG g) 12) L (ST (g1 23) (tp - 1)) from by rw [hA1, ST_pop (by omega), aM_up hds (by unfold upG; rw [← hlk9, z34]; rfl)])⟩
theorem adG_sm {g g1 : gT} {nd nl lq : Nat} (hnl : nl ≤ 5) (hpn : ∀ la, la < nl + 1 → ∃ lq, lq ≤ la ∧ g 19 la = nI lq - 1) (hlq : lq ≤ nl) (hmd : ∀ la, la < 6 → ∃ k, k ≤ 12 ∧ g 20 la = nI k ∧ ∀ j, j < k → ∃ d, d < 12 ∧ g 21 (12 * la + j) = nI d) (hfr : ∀ j, j ≠ 20 → j ≠ 21 → j ≠ 23 → g1 j = g j) (hRW : RW g g1 nl) : adG g1 nd (g1 18 nl) lq = adG g nd (g 18 nl) lq := by
  have e3 := hfr 3 (by decide) (by decide) (by decide)
  have e4 := hfr 4 (by decide) (by decide) (by decide)
  have e12 := hfr 12 (by decide) (by decide) (by decide)
  have e13 := hfr 13 (by decide) (by decide) (by decide)
  have e17 := hfr 17 (by decide) (by decide) (by decide)
  have e18 := hfr 18 (by decide) (by decide) (by decide)
  have e19 := hfr 19 (by decide) (by decide) (by decide)
  have h1 : dsG g1 nd (g1 18 nl) = dsG g nd (g 18 nl) := by funext n; unfold dsG; rw [e3, e4, e18]
  have h2 : upG g1 lq = upG g lq := by funext n; unfold upG; rw [lkG_row (np := nl + 1) (by omega) hpn (by omega) hlq hRW e4 e19 hmd]
  have h3 : rqG g1 = rqG g := by funext d; unfold rqG; rw [e12, e13, e17]
  unfold adG
  rw [h1, h2, h3]
def gvP (g : gT) (d : Nat) (sv : Int32) : Prop := g 15 (3 * d) = sv ∨ g 15 (3 * d + 1) = sv ∨ g 15 (3 * d + 2) = sv
def okB (g : gT) (fi sv : Int32) (d : Nat) : Prop := g 3 d = fi ∧ gvP g d sv
noncomputable def bE (A : List Nat → Int32 → Bool × List Nat) (nm : Nat → Int32) (ok : Nat → Prop) (d : Nat) (L : List Nat) : List Nat := cif (ok d ∧ d ∉ L) (if (A L (nm d)).1 = true then (A L (nm d)).2 else L) L
noncomputable def bD (A : List Nat → Int32 → Bool × List Nat) (nm : Nat → Int32) (ok : Nat → Prop) : Nat → Nat → List Nat → List Nat
  | 0, _, L => L
  | m + 1, d, L => bD A nm ok m (d + 1) (bE A nm ok d L)
noncomputable def bSv (g : gT) (nd : Nat) (fi : Int32) (lq : Nat) (sv : Int32) (L : List Nat) : List Nat := bD (adG g nd fi lq) (g 4) (okB g fi sv) nd 0 L
noncomputable def bUs (B : Int32 → List Nat → List Nat) (us : Nat → Int32) : Nat → Nat → List Nat → List Nat
  | 0, _, L => L
  | m + 1, k, L => bUs B us m (k + 1) (cif (0 < us k) (B (us k) L) L)
noncomputable def bUg (g : gT) (nd : Nat) (fi : Int32) (lq d : Nat) (L : List Nat) : List Nat := bUs (bSv g nd fi lq) (g 14) 3 (3 * d) L
theorem bE_no {A : List Nat → Int32 → Bool × List Nat} {nm : Nat → Int32} {ok : Nat → Prop} {d : Nat} {L : List Nat} (h : ¬ (ok d ∧ d ∉ L)) : bE A nm ok d L = L := by unfold bE; rw [cif_neg h]
theorem bE_f {A : List Nat → Int32 → Bool × List Nat} {nm : Nat → Int32} {ok : Nat → Prop} {d : Nat} {L L2 : List Nat} (h : A L (nm d) = (false, L2)) : bE A nm ok d L = L := by
  unfold bE
  by_cases q : ok d ∧ d ∉ L
  · rw [cif_pos q, h]; rfl
  · rw [cif_neg q]
theorem bE_t {A : List Nat → Int32 → Bool × List Nat} {nm : Nat → Int32} {ok : Nat → Prop} {d : Nat} {L L2 : List Nat} (q : ok d) (q2 : d ∉ L) (h : A L (nm d) = (true, L2)) : bE A nm ok d L = L2 := by
  unfold bE
  rw [cif_pos ⟨q, q2⟩, h]; rfl
theorem bD_s {A : List Nat → Int32 → Bool × List Nat} {nm : Nat → Int32} {ok : Nat → Prop} {nd d : Nat} {L : List Nat} (h : d < nd) : bD A nm ok (nd - d) d L = bD A nm ok (nd - (d + 1)) (d + 1) (bE A nm ok d L) := by
  rw [show nd - d = nd - (d + 1) + 1 by omega]; rfl
theorem bD_e {A : List Nat → Int32 → Bool × List Nat} {nm : Nat → Int32} {ok : Nat → Prop} {nd d : Nat} {L : List Nat} (h : nd ≤ d) : bD A nm ok (nd - d) d L = L := by
  rw [show nd - d = 0 by omega]; rfl
noncomputable def bL (U : Nat → List Nat → List Nat) : Nat → Nat → List Nat → List Nat
  | 0, _, L => L
  | f + 1, k, L => if k < L.length then bL U f (k + 1) (U (L.getD k 0) L) else L
noncomputable def bR (U : Nat → List Nat → List Nat) (md : Nat → Nat) : Nat → Nat → List Nat → List Nat
  | 0, _, L => L
  | m + 1, k, L => bR U md m (k + 1) (U (md k) L)
noncomputable def bA (U : Nat → List Nat → List Nat) (mc : Nat → Nat) (md : Nat → Nat → Nat) (pr : Nat → Nat) : Nat → Nat → List Nat → List Nat
  | 0, _, L => L
  | _ + 1, 0, L => L
  | f + 1, la + 1, L => bA U mc md pr f (pr la) (bR U (md la) (mc la) 0 L)
theorem bA_0 {U : Nat → List Nat → List Nat} {mc : Nat → Nat} {md : Nat → Nat → Nat} {pr : Nat → Nat} {L : List Nat} : ∀ f, bA U mc md pr f 0 L = L
  | 0 => rfl
  | _ + 1 => rfl
theorem bA_f {U : Nat → List Nat → List Nat} {mc : Nat → Nat} {md : Nat → Nat → Nat} {pr : Nat → Nat} : ∀ (f f2 lq : Nat) (L : List Nat), lq ≤ f → lq ≤ f2 → (∀ la, la < lq → pr la ≤ la) → bA U mc md pr f lq L = bA U mc md pr f2 lq L
  | f, f2, 0, L, _, _, _ => by rw [bA_0, bA_0]
  | 0, _, la + 1, _, h, _, _ => absurd h (by omega)
  | _ + 1, 0, la + 1, _, _, h, _ => absurd h (by omega)
  | f + 1, f2 + 1, la + 1, L, h1, h2, hp => by
    have hpl := hp la (by omega)
    exact bA_f f f2 (pr la) _ (by omega) (by omega) (fun x hx => hp x (by omega))
noncomputable def bAU (U : Nat → List Nat → List Nat) (g : gT) (lq : Nat) (L : List Nat) : List Nat := bA U (mcv g) (mdv g) (prv g) lq lq L
theorem bAU_s {U : Nat → List Nat → List Nat} {g : gT} {lq : Nat} {L : List Nat} (h0 : 0 < lq) (hp : ∀ la, la < lq → prv g la ≤ la) : bAU U g lq L = bAU U g (prv g (lq - 1)) (bR U (mdv g (lq - 1)) (mcv g (lq - 1)) 0 L) := by
  obtain ⟨la, rfl⟩ : ∃ la, lq = la + 1 := ⟨lq - 1, by omega⟩
  have h1 := hp la (by omega)
  exact bA_f la (prv g la) (prv g la) _ h1 (Nat.le_refl _) (fun x hx => hp x (by omega))
noncomputable def bO (U : Nat → List Nat → List Nat) (g : gT) (lq : Nat) (L : List Nat) : List Nat := bAU U g lq (bL U 12 0 L)
noncomputable def bIt (U : Nat → List Nat → List Nat) (g : gT) (lq : Nat) : Nat → List Nat → List Nat
  | 0, L => L
  | n + 1, L => bIt U g lq n (bO U g lq L)
theorem bIt_fix {U : Nat → List Nat → List Nat} {g : gT} {lq : Nat} {L : List Nat} (h : bO U g lq L = L) : ∀ n, bIt U g lq n L = L
  | 0 => rfl
  | n + 1 => by
    show bIt U g lq n (bO U g lq L) = L
    rw [h]; exact bIt_fix h n
theorem bIt_s {U : Nat → List Nat → List Nat} {g : gT} {lq m : Nat} {L : List Nat} (h : 0 < m) : bIt U g lq m L = bIt U g lq (m - 1) (bO U g lq L) := by
  obtain ⟨n, rfl⟩ : ∃ n, m = n + 1 := ⟨m - 1, by omega⟩
  rfl
theorem bL_s {U : Nat → List Nat → List Nat} {k : Nat} {L : List Nat} (h : k < L.length) (hk : k < 12) : bL U (12 - k) k L = bL U (12 - (k + 1)) (k + 1) (U (L.getD k 0) L) := by
  rw [show 12 - k = 12 - (k + 1) + 1 by omega]; exact if_pos h
theorem bL_e {U : Nat → List Nat → List Nat} {f k : Nat} {L : List Nat} (h : L.length ≤ k) : bL U f k L = L := by
  cases f with
  | zero => rfl
  | succ f => exact if_neg (by omega)
theorem bR_s {U : Nat → List Nat → List Nat} {md : Nat → Nat} {m k : Nat} {L : List Nat} (h : k < m) : bR U md (m - k) k L = bR U md (m - (k + 1)) (k + 1) (U (md k) L) := by
  rw [show m - k = m - (k + 1) + 1 by omega]; rfl
theorem bR_e {U : Nat → List Nat → List Nat} {md : Nat → Nat} {m k : Nat} {L : List Nat} (h : m ≤ k) : bR U md (m - k) k L = L := by
  rw [show m - k = 0 by omega]; rfl
theorem bUs_s {B : Int32 → List Nat → List Nat} {us : Nat → Int32} {n k : Nat} {L : List Nat} (h : k < n) : bUs B us (n - k) k L = bUs B us (n - (k + 1)) (k + 1) (cif (0 < us k) (B (us k) L) L) := by
  rw [show n - k = n - (k + 1) + 1 by omega]; rfl
theorem bUs_e {B : Int32 → List Nat → List Nat} {us : Nat → Int32} {n k : Nat} {L : List Nat} (h : n ≤ k) : bUs B us (n - k) k L = L := by
  rw [show n - k = 0 by omega]; rfl
theorem bUg_sm {g g1 : gT} {nd nl lq : Nat} (hA : adG g1 nd (g1 18 nl) lq = adG g nd (g 18 nl) lq) (hfr : ∀ j, j ≠ 20 → j ≠ 21 → j ≠ 23 → g1 j = g j) : bUg g1 nd (g1 18 nl) lq = bUg g nd (g 18 nl) lq := by
  have e3 := hfr 3 (by decide) (by decide) (by decide)
  have e4 := hfr 4 (by decide) (by decide) (by decide)
  have e14 := hfr 14 (by decide) (by decide) (by decide)
  have e15 := hfr 15 (by decide) (by decide) (by decide)
  have e18 := hfr 18 (by decide) (by decide) (by decide)
  have h1 : bSv g1 nd (g1 18 nl) lq = bSv g nd (g 18 nl) lq := by
    funext sv L
    unfold bSv
    rw [hA, e4]
    have : okB g1 (g1 18 nl) sv = okB g (g 18 nl) sv := by funext d; unfold okB gvP; rw [e3, e15, e18]
    rw [this]
  funext d L
  unfold bUg
  rw [h1, e14]
theorem bx_e {C : Prop} {a b : List Nat} (h : a = b) : cif C a b = b := by
  by_cases q : C
  · rw [cif_pos q]; exact h
  · rw [cif_neg q]
theorem k4j_0 : (Cond.fieldLink "LayerDeskModel" 150 "LayerDeskModel" "layers" "I") ∈ wT := wT_t (List.mem_append_right _ (List.mem_append_right _ (List.mem_append_right _ (List.mem_append_left _ (List.mem_of_getElem? (i := 107) rfl))))) rfl
theorem k4j_1 : (Cond.fieldLink "LayerDeskModel" 140 "LayerDeskModel" "descriptors" "I") ∈ wT := wT_t (List.mem_append_right _ (List.mem_append_right _ (List.mem_append_right _ (List.mem_append_left _ (List.mem_of_getElem? (i := 91) rfl))))) rfl
theorem k4j_2 : (Cond.fieldLink "LayerDeskModel" 54 "LayerDeskModel" "use" "[I") ∈ wT := wT_t (List.mem_append_right _ (List.mem_append_right _ (List.mem_append_right _ (List.mem_append_left _ (List.mem_of_getElem? (i := 103) rfl))))) rfl
theorem k4j_3 : (Cond.fieldLink "LayerDeskModel" 20 "LayerDeskModel" "finder" "[I") ∈ wT := wT_t (List.mem_append_right _ (List.mem_append_right _ (List.mem_append_right _ (List.mem_append_left _ (List.mem_of_getElem? (i := 92) rfl))))) rfl
theorem k4j_4 : (Cond.fieldLink "LayerDeskModel" 66 "LayerDeskModel" "finderOf" "[I") ∈ wT := wT_t (List.mem_append_right _ (List.mem_append_right _ (List.mem_append_right _ (List.mem_append_left _ (List.mem_of_getElem? (i := 108) rfl))))) rfl
theorem k4j_5 : (Cond.code xy_Mo_isIn xb_Mo_isIn 5 (some .boolean)) ∈ wT := wT_t (List.mem_append_right _ (List.mem_append_right _ (List.mem_append_right _ (List.mem_append_right _ (List.mem_of_getElem? (i := 24) rfl))))) rfl
theorem k4j_6 : (Cond.methodLink "LayerDeskModel" 156 xy_Mo_isIn) ∈ wT := wT_t (List.mem_append_right _ (List.mem_append_right _ (List.mem_append_right _ (List.mem_append_right _ (List.mem_of_getElem? (i := 21) rfl))))) rfl
theorem k4j_7 : (Cond.instanceMethod xy_Mo_isIn) ∈ wT := wT_t (List.mem_append_right _ (List.mem_append_right _ (List.mem_append_right _ (List.mem_append_right _ (List.mem_of_getElem? (i := 23) rfl))))) rfl
theorem k4j_8 : (Cond.selects "LayerDeskModel" xy_Mo_isIn xy_Mo_isIn) ∈ wT := wT_s (q := (xy_Mo_isIn, 31)) (by decide +kernel) rfl
theorem k4j_9 : (Cond.initialized "LayerDeskModel") ∈ wT := wT_t (List.mem_append_left _ (List.mem_of_getElem? (i := 5) rfl)) rfl
theorem k4j_10 : (Cond.fieldLink "LayerDeskModel" 72 "LayerDeskModel" "modules" "[I") ∈ wT := wT_t (List.mem_append_right _ (List.mem_append_right _ (List.mem_append_right _ (List.mem_append_left _ (List.mem_of_getElem? (i := 110) rfl))))) rfl
theorem k4j_11 : (Cond.fieldLink "LayerDeskModel" 23 "LayerDeskModel" "name" "[I") ∈ wT := wT_t (List.mem_append_right _ (List.mem_append_right _ (List.mem_append_right _ (List.mem_append_left _ (List.mem_of_getElem? (i := 93) rfl))))) rfl
theorem k4j_12 : (Cond.code xy_Mo_adds xb_Mo_adds 6 (some .boolean)) ∈ wT := wT_t (List.mem_append_right _ (List.mem_append_right _ (List.mem_append_right _ (List.mem_append_right _ (List.mem_of_getElem? (i := 16) rfl))))) rfl
theorem k4j_13 : (Cond.methodLink "LayerDeskModel" 160 xy_Mo_adds) ∈ wT := wT_t (List.mem_append_right _ (List.mem_append_right _ (List.mem_append_right _ (List.mem_append_right _ (List.mem_of_getElem? (i := 13) rfl))))) rfl
theorem k4j_14 : (Cond.instanceMethod xy_Mo_adds) ∈ wT := wT_t (List.mem_append_right _ (List.mem_append_right _ (List.mem_append_right _ (List.mem_append_right _ (List.mem_of_getElem? (i := 15) rfl))))) rfl
theorem k4j_15 : (Cond.selects "LayerDeskModel" xy_Mo_adds xy_Mo_adds) ∈ wT := wT_s (q := (xy_Mo_adds, 31)) (by decide +kernel) rfl
theorem k4j_16 : (Cond.fieldLink "LayerDeskModel" 57 "LayerDeskModel" "provide" "[I") ∈ wT := wT_t (List.mem_append_right _ (List.mem_append_right _ (List.mem_append_right _ (List.mem_append_left _ (List.mem_of_getElem? (i := 104) rfl))))) rfl
set_option maxHeartbeats 4000000 in
set_option maxRecDepth 100000 in
theorem xc_Mo_bindsForX (l : Launch) (D : va_G) (kA : Nat → ClassId) (sz h : Nat) (mm : Nat → Nat) (v : Nat → Int32) (g : Nat → Nat → Int32) (us : Nat) (nd : Nat) (nl : Nat) (lq : Nat) (L0 : List Nat) (hMI : MI v g) (hnd : v 4 = nI nd) (hnd12 : nd ≤ 12) (hnl : v 5 = nI nl) (hnl5 : nl ≤ 5) (hpn : ∀ la, la < nl + 1 → ∃ lq, lq ≤ la ∧ g 19 la = nI lq - 1) (hlqe : g 19 nl = nI lq - 1) (hlqn : lq ≤ nl) (hLT : LT (g 20) (g 21) nl L0) (hGL : GL nd L0) (hus : us < 12) : Met l xy_Mo_bindsFor (.code xy_Mo_bindsFor xb_Mo_bindsFor 9 (some .boolean) :: wT) { frames := 2, cells := 0, slots := 0, locals := 49 } (va_Pc [.ref h, .int (nI us)] (xPre D kA sz (moW h mm kA v g))) (va_Qi (fun (r : Int32) (u : (Nat → Int32) × (Nat → Nat → Int32)) => u.1 = v ∧ MI v u.2 ∧ (∀ j, j ≠ 20 → j ≠ 21 → j ≠ 23 → u.2 j = g j) ∧ RW g u.2 nl ∧ ∃ L1, GL nd L1 ∧ LT (u.2 20) (u.2 21) nl L1 ∧ bUg g nd (g 18 nl) lq us L0 = L1 ∧ ((r = 0 ∧ L1 = L0) ∨ (r = 1 ∧ L0.length < L1.length))) (fun (u : (Nat → Int32) × (Nat → Nat → Int32)) t => va_P D xcl (moW h mm kA u.1 u.2) t.heap ∧ va_D (va_A (moW h mm kA v g) sz) (moW h mm kA u.1 u.2)) (va_A (moW h mm kA v g) sz)) 0 0 (va_A (moW h mm kA v g) sz) := by
  refine Met.ofW (cc := xb_Mo_bindsFor) (maxL := 9) (ret := (some .boolean)) (by decide) rfl ?_
  intro p e s m args below meth c s₁ B hml hv
  obtain ⟨rfl, hsz, hP, hK, hD0⟩ := hv
  have hx := B.exec
  have hb := B.bytes
  have hr := B.returns
  have hT := x_hT B.pre
  have hown : s.vm.findClass xR_Mo = some m.cls := findClass_of_methodNamed B.named
  have hlocks := B.notSynchronized
  subst hsz
  have hD := hD0.self (sz := s.heap.size)
  generalize hAe : va_A (moW h mm kA v g) s.heap.size = A at hD ⊢
  have hA : ∀ q : Nat, s.heap.size ≤ q → A q := fun q h => by rw [← hAe]; exact Or.inr h
  have hS : va_S A s.heap s.heap [] := va_S.rf
  have hl := lv_entry ([.ref h, .int (nI us)]) (n := 9) (Nat.le_of_ble_eq_true rfl)
  rw [lg_entry_eq]
  generalize (lg_sl ([.ref h, .int (nI us)]) ++ List.replicate (9 - (lg_sl ([.ref h, .int (nI us)])).length) Slot.unset).toArray = ls at hl ⊢
  have hl : lv_has ls 9 [(0, .ref h), (1, .int (nI us))] := hl
  have hP : va_P D xcl (moW h mm kA v g) s.heap := hP
  obtain ⟨-, -, -, -, -, hmdg, huq⟩ := id hMI
  have hL0l := GL_len hGL
  refine lv_aload_n hx hb xd_Mo_bindsFor_0 rfl (lv_at hl 0 rfl) ?_
  refine va_get (D := D) (ci := 4) (v := .int (v 5)) (C := xR_Mo) (T := xT_Mo) (N := 31) hx hb hT xi_Mo hown hK.1 hP 0 rfl rfl 23 (by decide) (hT _ k4j_0) (fun _ h9 => h9) rfl xd_Mo_bindsFor_1 ?_
  refine xn_top (x := (v 5)) (y := nI nl) hnl ?_
  refine lv_istore_n hx hb xd_Mo_bindsFor_4 rfl hl (Nat.le_of_ble_eq_true rfl) rfl (fun ls hl => ?_)
  have hl : lv_has ls 9 [(2, .int (nI nl)), (0, .ref h), (1, .int (nI us))] := hl
  refine lv_iconst (v := 0) hx hb xd_Mo_bindsFor_5 (by decide) ?_
  refine lv_istore_n hx hb xd_Mo_bindsFor_6 rfl hl (Nat.le_of_ble_eq_true rfl) rfl (fun ls hl => ?_)
  have hl : lv_has ls 9 [(3, .int 0), (2, .int (nI nl)), (0, .ref h), (1, .int (nI us))] := hl
  refine lv_iconst (v := 3) hx hb xd_Mo_bindsFor_7 (by decide) ?_
  refine lv_iload_n hx hb xd_Mo_bindsFor_8 rfl (lv_at hl 3 rfl) ?_
  refine lv_imul hx hb xd_Mo_bindsFor_9 ?_
  refine xn_top (y := nI (3 * us)) (pk_mul 3 us) ?_
  refine lv_istore hx hb xd_Mo_bindsFor_10 hl (Nat.le_of_ble_eq_true rfl) rfl (fun ls hl => ?_)
  have hl : lv_has ls 9 [(4, .int (nI (3 * us))), (3, .int 0), (2, .int (nI nl)), (0, .ref h), (1, .int (nI us))] := hl
  refine xlab (σ := Nat × Int32 × List Nat × (Nat → Nat → Int32)) (ml := 9) 12 (fun (k, s9, L, g1) => [(4, .int (nI k)), (3, .int s9), (2, .int (nI nl)), (0, .ref h), (1, .int (nI us))]) (fun (k, s9, L, g1) => []) (fun (k, s9, L, g1) => moW h mm kA v g1) (fun (k, s9, L, g1) => (3 * us ≤ k) ∧ (k ≤ 3 * us + 3) ∧ (MI v g1) ∧ (∀ j, j ≠ 20 → j ≠ 21 → j ≠ 23 → g1 j = g j) ∧ (RW g g1 nl) ∧ (LT (g1 20) (g1 21) nl L) ∧ (GL nd L) ∧ (bUg g nd (g 18 nl) lq us L0 = bUs (bSv g nd (g 18 nl) lq) (g 14) (3 * us + 3 - k) k L) ∧ ((s9 = 0 ∧ L = L0) ∨ (s9 = 1 ∧ L0.length < L.length))) (fun (k, s9, L, g1) => 3 * us + 3 - k) ?_ (3 * us, 0, L0, g) _ _ _ (lv_sub hl [0, 1, 2, 3, 4] rfl) hP hD hS ⟨(show 3 * us ≤ (3 * us) from by first | assumption | omega), (show (3 * us) ≤ 3 * us + 3 from by first | assumption | omega), (show MI v g from hMI), (show ∀ j, j ≠ 20 → j ≠ 21 → j ≠ 23 → g j = g j from fun j h1 h2 h3 => rfl), (show RW g g nl from RW_rf), (show LT (g 20) (g 21) nl L0 from hLT), (show GL nd L0 from hGL), (show bUg g nd (g 18 nl) lq us L0 = bUs (bSv g nd (g 18 nl) lq) (g 14) (3 * us + 3 - (3 * us)) (3 * us) L0 from (show bUg g nd (g 18 nl) lq us L0 = bUs (bSv g nd (g 18 nl) lq) (g 14) (3 * us + 3 - 3 * us) (3 * us) L0 from by rw [show 3 * us + 3 - 3 * us = 3 by omega]; rfl)), (show (0 = 0 ∧ L0 = L0) ∨ (0 = 1 ∧ L0.length < L0.length) from Or.inl ⟨rfl, rfl⟩)⟩
  intro n9 ih1 a9 ls H locs hμ hl hP hD hS hI
  subst hμ
  obtain ⟨k, s9, L, g1⟩ := a9
  obtain ⟨hk1, hk2, hM1, hfr1, hRW1, hL1, hG1, hU, hsm1⟩ := hI
  have hk1 : 3 * us ≤ k := hk1
  have hk2 : k ≤ 3 * us + 3 := hk2
  have hM1 : MI v g1 := hM1
  have hfr1 : ∀ j, j ≠ 20 → j ≠ 21 → j ≠ 23 → g1 j = g j := hfr1
  have hRW1 : RW g g1 nl := hRW1
  have hL1 : LT (g1 20) (g1 21) nl L := hL1
  have hG1 : GL nd L := hG1
  have hU : bUg g nd (g 18 nl) lq us L0 = bUs (bSv g nd (g 18 nl) lq) (g 14) (3 * us + 3 - k) k L := hU
  have hsm1 : (s9 = 0 ∧ L = L0) ∨ (s9 = 1 ∧ L0.length < L.length) := hsm1
  have hpar1 : ∀ la, la < nl + 1 → ∃ lq, lq ≤ la ∧ g1 19 la = nI lq - 1 := fun la h => by rw [hfr1 19 (by decide) (by decide) (by decide)]; exact hpn la h
  have hlqe1 : g1 19 nl = nI lq - 1 := by rw [hfr1 19 (by decide) (by decide) (by decide)]; exact hlqe
  have hLl1 := GL_len hG1
  have hmk1 := hL1.1
  have hSM1 : adG g1 nd (g1 18 nl) lq = adG g nd (g 18 nl) lq := adG_sm hnl5 hpn hlqn hmdg hfr1 hRW1
  have hl : lv_has ls 9 [(4, .int (nI k)), (3, .int s9), (2, .int (nI nl)), (0, .ref h), (1, .int (nI us))] := hl
  have hP : va_P D xcl (moW h mm kA v g1) H := hP
  have hD : va_D A (moW h mm kA v g1) := hD
  refine lv_iload hx hb xd_Mo_bindsFor_12 (lv_at hl 0 rfl) ?_
  refine lv_iconst (v := 3) hx hb xd_Mo_bindsFor_14 (by decide) ?_
  refine lv_iload_n hx hb xd_Mo_bindsFor_15 rfl (lv_at hl 4 rfl) ?_
  refine lv_imul hx hb xd_Mo_bindsFor_16 ?_
  refine xn_top (y := nI (3 * us)) (pk_mul 3 us) ?_
  refine lv_iconst (v := 3) hx hb xd_Mo_bindsFor_17 (by decide) ?_
  refine lv_iadd hx hb xd_Mo_bindsFor_18 ?_
  refine xn_top (y := nI ((3 * us) + 3)) (nI_add (3 * us) 3) ?_
  refine xn_ge (a := k) (b := (3 * us) + 3) (tgt := 213) hx hb xd_Mo_bindsFor_19 (by decide) (by omega) (by omega) (fun hc2 => ?_) (fun hc2 => ?_)
  · refine lv_iload_n hx hb xd_Mo_bindsFor_213 rfl (lv_at hl 1 rfl) ?_
    exact W.zret (v := s9) hx hb hr (by rcases hsm1 with h | h <;> rw [h.1] <;> rfl) (fun t ht hW => ⟨⟨s9, (v, g1), rfl, ⟨rfl, hM1, hfr1, hRW1, L, hG1, hL1, by rw [hU, bUs_e (by omega)], hsm1⟩, by rw [ht]; exact hP, hD⟩, hS.F ht⟩) hS.2.2 xd_Mo_bindsFor_214
  · refine lv_iconst (v := 0) hx hb xd_Mo_bindsFor_22 (by decide) ?_
    refine lv_istore hx hb xd_Mo_bindsFor_23 hl (Nat.le_of_ble_eq_true rfl) rfl (fun ls hl => ?_)
    have hl : lv_has ls 9 [(5, .int 0), (4, .int (nI k)), (3, .int s9), (2, .int (nI nl)), (0, .ref h), (1, .int (nI us))] := hl
    refine xlab (σ := Nat × Int32 × List Nat × (Nat → Nat → Int32)) (ml := 9) 25 (fun (d, s8, L8, g8) => [(5, .int (nI d)), (4, .int (nI k)), (3, .int s8), (2, .int (nI nl)), (0, .ref h), (1, .int (nI us))]) (fun (d, s8, L8, g8) => []) (fun (d, s8, L8, g8) => moW h mm kA v g8) (fun (d, s8, L8, g8) => (d ≤ nd) ∧ (MI v g8) ∧ (∀ j, j ≠ 20 → j ≠ 21 → j ≠ 23 → g8 j = g j) ∧ (RW g g8 nl) ∧ (LT (g8 20) (g8 21) nl L8) ∧ (GL nd L8) ∧ (cif (0 < g 14 k) (bSv g nd (g 18 nl) lq (g 14 k) L) L = cif (0 < g 14 k) (bD (adG g nd (g 18 nl) lq) (g 4) (okB g (g 18 nl) (g 14 k)) (nd - d) d L8) L8) ∧ ((s8 = 0 ∧ L8 = L0) ∨ (s8 = 1 ∧ L0.length < L8.length))) (fun (d, s8, L8, g8) => nd - d) ?_ (0, s9, L, g1) _ _ _ (lv_sub hl [0, 1, 2, 3, 4, 5] rfl) hP hD hS ⟨(show 0 ≤ nd from by first | assumption | omega), (show MI v g1 from hM1), (show ∀ j, j ≠ 20 → j ≠ 21 → j ≠ 23 → g1 j = g j from hfr1), (show RW g g1 nl from hRW1), (show LT (g1 20) (g1 21) nl L from hL1), (show GL nd L from hG1), (show cif (0 < g 14 k) (bSv g nd (g 18 nl) lq (g 14 k) L) L = cif (0 < g 14 k) (bD (adG g nd (g 18 nl) lq) (g 4) (okB g (g 18 nl) (g 14 k)) (nd - 0) 0 L) L from (by unfold bSv; rfl)), (show (s9 = 0 ∧ L = L0) ∨ (s9 = 1 ∧ L0.length < L.length) from hsm1)⟩
    intro n9 ih3 a9 ls H locs hμ hl hP hD hS hI
    subst hμ
    obtain ⟨d, s8, L8, g8⟩ := a9
    obtain ⟨hd1, hM8, hfr8, hRW8, hL8, hG8, hB, hsm8⟩ := hI
    have hd1 : d ≤ nd := hd1
    have hM8 : MI v g8 := hM8
    have hfr8 : ∀ j, j ≠ 20 → j ≠ 21 → j ≠ 23 → g8 j = g j := hfr8
    have hRW8 : RW g g8 nl := hRW8
    have hL8 : LT (g8 20) (g8 21) nl L8 := hL8
    have hG8 : GL nd L8 := hG8
    have hB : cif (0 < g 14 k) (bSv g nd (g 18 nl) lq (g 14 k) L) L = cif (0 < g 14 k) (bD (adG g nd (g 18 nl) lq) (g 4) (okB g (g 18 nl) (g 14 k)) (nd - d) d L8) L8 := hB
    have hsm8 : (s8 = 0 ∧ L8 = L0) ∨ (s8 = 1 ∧ L0.length < L8.length) := hsm8
    have hpar8 : ∀ la, la < nl + 1 → ∃ lq, lq ≤ la ∧ g8 19 la = nI lq - 1 := fun la h => by rw [hfr8 19 (by decide) (by decide) (by decide)]; exact hpn la h
    have hlqe8 : g8 19 nl = nI lq - 1 := by rw [hfr8 19 (by decide) (by decide) (by decide)]; exact hlqe
    have hLl8 := GL_len hG8
    have hmk8 := hL8.1
    have hSM8 : adG g8 nd (g8 18 nl) lq = adG g nd (g 18 nl) lq := adG_sm hnl5 hpn hlqn hmdg hfr8 hRW8
    have hl : lv_has ls 9 [(5, .int (nI d)), (4, .int (nI k)), (3, .int s8), (2, .int (nI nl)), (0, .ref h), (1, .int (nI us))] := hl
    have hP : va_P D xcl (moW h mm kA v g8) H := hP
    have hD : va_D A (moW h mm kA v g8) := hD
    refine lv_iload hx hb xd_Mo_bindsFor_25 (lv_at hl 0 rfl) ?_
    refine lv_aload_n hx hb xd_Mo_bindsFor_27 rfl (lv_at hl 4 rfl) ?_
    refine va_get (D := D) (ci := 4) (v := .int (v 4)) (C := xR_Mo) (T := xT_Mo) (N := 31) hx hb hT xi_Mo hown hK.1 hP 0 rfl rfl 7 (by decide) (hT _ k4j_1) (fun _ h9 => h9) rfl xd_Mo_bindsFor_28 ?_
    refine xn_top (x := (v 4)) (y := nI nd) hnd ?_
    refine xn_ge (a := d) (b := nd) (tgt := 207) hx hb xd_Mo_bindsFor_31 (by decide) (by omega) (by omega) (fun hc4 => ?_) (fun hc4 => ?_)
    · refine lv_iinc (k := 1) (x := (nI k)) (v := (nI (k + 1))) hx hb xd_Mo_bindsFor_207 hl rfl (xb_inc k 1) (Nat.le_of_ble_eq_true rfl) rfl (fun ls hl => ?_)
      have hl : lv_has ls 9 [(4, .int (nI (k + 1))), (5, .int (nI d)), (3, .int s8), (2, .int (nI nl)), (0, .ref h), (1, .int (nI us))] := hl
      refine lv_goto (tgt := 12) hx hb xd_Mo_bindsFor_210 (by decide) ?_
      exact ih1 (k + 1, s8, L8, g8) _ _ _ (show 3 * us + 3 - (k + 1) < 3 * us + 3 - k by omega) (lv_sub hl [0, 2, 3, 4, 5] rfl) hP hD hS ⟨(show 3 * us ≤ (k + 1) from by first | assumption | omega), (show (k + 1) ≤ 3 * us + 3 from by first | assumption | omega), (show MI v g8 from hM8), (show ∀ j, j ≠ 20 → j ≠ 21 → j ≠ 23 → g8 j = g j from hfr8), (show RW g g8 nl from hRW8), (show LT (g8 20) (g8 21) nl L8 from hL8), (show GL nd L8 from hG8), (show bUg g nd (g 18 nl) lq us L0 = bUs (bSv g nd (g 18 nl) lq) (g 14) (3 * us + 3 - (k + 1)) (k + 1) L8 from by rw [hU, bUs_s (by omega), hB, bx_e (bD_e (by omega))]), (show (s8 = 0 ∧ L8 = L0) ∨ (s8 = 1 ∧ L0.length < L8.length) from hsm8)⟩
    · refine lv_aload_n hx hb xd_Mo_bindsFor_34 rfl (lv_at hl 4 rfl) ?_
      refine va_get (D := D) (ci := 4) (v := .ref (mm 14)) (C := xR_Mo) (T := xT_Mo) (N := 31) hx hb hT xi_Mo hown hK.1 hP 0 rfl rfl 19 (by decide) (hT _ k4j_2) (fun _ h9 => h9) rfl xd_Mo_bindsFor_35 ?_
      refine lv_iload hx hb xd_Mo_bindsFor_38 (lv_at hl 1 rfl) ?_
      refine xn_iald (i := k) hx hb hK.1 hP 15 0 rfl rfl (by omega) (by decide) xd_Mo_bindsFor_40 ?_
      refine lv_if_le (tgt := 207) hx hb xd_Mo_bindsFor_41 (by decide) (fun hc5 => ?_) (fun hc5 => ?_)
      · refine lv_iinc (k := 1) (x := (nI k)) (v := (nI (k + 1))) hx hb xd_Mo_bindsFor_207 hl rfl (xb_inc k 1) (Nat.le_of_ble_eq_true rfl) rfl (fun ls hl => ?_)
        have hl : lv_has ls 9 [(4, .int (nI (k + 1))), (5, .int (nI d)), (3, .int s8), (2, .int (nI nl)), (0, .ref h), (1, .int (nI us))] := hl
        refine lv_goto (tgt := 12) hx hb xd_Mo_bindsFor_210 (by decide) ?_
        exact ih1 (k + 1, s8, L8, g8) _ _ _ (show 3 * us + 3 - (k + 1) < 3 * us + 3 - k by omega) (lv_sub hl [0, 2, 3, 4, 5] rfl) hP hD hS ⟨(show 3 * us ≤ (k + 1) from by first | assumption | omega), (show (k + 1) ≤ 3 * us + 3 from by first | assumption | omega), (show MI v g8 from hM8), (show ∀ j, j ≠ 20 → j ≠ 21 → j ≠ 23 → g8 j = g j from hfr8), (show RW g g8 nl from hRW8), (show LT (g8 20) (g8 21) nl L8 from hL8), (show GL nd L8 from hG8), (show bUg g nd (g 18 nl) lq us L0 = bUs (bSv g nd (g 18 nl) lq) (g 14) (3 * us + 3 - (k + 1)) (k + 1) L8 from by rw [hU, bUs_s (by omega), hB, cif_neg (fun q => Int32.not_le.mpr q (by rw [← hfr8 14 (by decide) (by decide) (by decide)]; exact hc5))]), (show (s8 = 0 ∧ L8 = L0) ∨ (s8 = 1 ∧ L0.length < L8.length) from hsm8)⟩
      · refine xjoin (D := D) (cl := xcl) (A := A) (H0 := s.heap) (σ := Int32) (ml := 9) 112 (fun (gv : Int32) => [(6, .int gv), (5, .int (nI d)), (4, .int (nI k)), (3, .int s8), (2, .int (nI nl)), (0, .ref h), (1, .int (nI us))]) (fun (gv : Int32) => []) (fun (gv : Int32) => moW h mm kA v g8) (fun (gv : Int32) => ((gv = 1 ∧ gvP g d (g 14 k)) ∨ (gv = 0 ∧ ¬ gvP g d (g 14 k)))) ?_ (fun jn6 => ?_)
        · intro a9 ls H locs hl hP hD hS hI
          obtain ⟨gv, rfl⟩ : ∃ z, z = a9 := ⟨_, rfl⟩
          have hgv : (gv = 1 ∧ gvP g d (g 14 k)) ∨ (gv = 0 ∧ ¬ gvP g d (g 14 k)) := hI
          have hl : lv_has ls 9 [(6, .int gv), (5, .int (nI d)), (4, .int (nI k)), (3, .int s8), (2, .int (nI nl)), (0, .ref h), (1, .int (nI us))] := hl
          have hP : va_P D xcl (moW h mm kA v g8) H := hP
          have hD : va_D A (moW h mm kA v g8) := hD
          refine lv_aload_n hx hb xd_Mo_bindsFor_112 rfl (lv_at hl 5 rfl) ?_
          refine va_get (D := D) (ci := 4) (v := .ref (mm 3)) (C := xR_Mo) (T := xT_Mo) (N := 31) hx hb hT xi_Mo hown hK.1 hP 0 rfl rfl 8 (by decide) (hT _ k4j_3) (fun _ h9 => h9) rfl xd_Mo_bindsFor_113 ?_
          refine lv_iload hx hb xd_Mo_bindsFor_116 (lv_at hl 1 rfl) ?_
          refine xn_iald (i := d) hx hb hK.1 hP 4 0 rfl rfl (by omega) (by decide) xd_Mo_bindsFor_118 ?_
          refine lv_aload_n hx hb xd_Mo_bindsFor_119 rfl (lv_at hl 5 rfl) ?_
          refine va_get (D := D) (ci := 4) (v := .ref (mm 18)) (C := xR_Mo) (T := xT_Mo) (N := 31) hx hb hT xi_Mo hown hK.1 hP 0 rfl rfl 24 (by decide) (hT _ k4j_4) (fun _ h9 => h9) rfl xd_Mo_bindsFor_120 ?_
          refine lv_iload_n hx hb xd_Mo_bindsFor_123 rfl (lv_at hl 4 rfl) ?_
          refine xn_iald (i := nl) hx hb hK.1 hP 19 0 rfl rfl (by omega) (by decide) xd_Mo_bindsFor_124 ?_
          refine lv_icmp_ne (tgt := 201) hx hb xd_Mo_bindsFor_125 (by decide) (fun hc7 => ?_) (fun hc7 => ?_)
          · refine lv_iinc (k := 1) (x := (nI d)) (v := (nI (d + 1))) hx hb xd_Mo_bindsFor_201 hl rfl (xb_inc d 1) (Nat.le_of_ble_eq_true rfl) rfl (fun ls hl => ?_)
            have hl : lv_has ls 9 [(5, .int (nI (d + 1))), (6, .int gv), (4, .int (nI k)), (3, .int s8), (2, .int (nI nl)), (0, .ref h), (1, .int (nI us))] := hl
            refine lv_goto (tgt := 25) hx hb xd_Mo_bindsFor_204 (by decide) ?_
            exact ih3 (d + 1, s8, L8, g8) _ _ _ (show nd - (d + 1) < nd - d by omega) (lv_sub hl [0, 2, 3, 4, 5, 6] rfl) hP hD hS ⟨(show (d + 1) ≤ nd from by first | assumption | omega), (show MI v g8 from hM8), (show ∀ j, j ≠ 20 → j ≠ 21 → j ≠ 23 → g8 j = g j from hfr8), (show RW g g8 nl from hRW8), (show LT (g8 20) (g8 21) nl L8 from hL8), (show GL nd L8 from hG8), (show cif (0 < g 14 k) (bSv g nd (g 18 nl) lq (g 14 k) L) L = cif (0 < g 14 k) (bD (adG g nd (g 18 nl) lq) (g 4) (okB g (g 18 nl) (g 14 k)) (nd - (d + 1)) (d + 1) L8) L8 from by rw [hB, cif_pos (show 0 < g 14 k from by rw [← hfr8 14 (by decide) (by decide) (by decide)]; exact Int32.not_le.mp hc5), cif_pos (show 0 < g 14 k from by rw [← hfr8 14 (by decide) (by decide) (by decide)]; exact Int32.not_le.mp hc5), bD_s (by omega), bE_no (fun q => hc7 (by rw [hfr8 3 (by decide) (by decide) (by decide), hfr8 18 (by decide) (by decide) (by decide)]; exact q.1.1))]), (show (s8 = 0 ∧ L8 = L0) ∨ (s8 = 1 ∧ L0.length < L8.length) from hsm8)⟩
          · refine lv_iload hx hb xd_Mo_bindsFor_128 (lv_at hl 0 rfl) ?_
            refine lv_if_eq (tgt := 201) hx hb xd_Mo_bindsFor_130 (by decide) (fun hc8 => ?_) (fun hc8 => ?_)
            · refine lv_iinc (k := 1) (x := (nI d)) (v := (nI (d + 1))) hx hb xd_Mo_bindsFor_201 hl rfl (xb_inc d 1) (Nat.le_of_ble_eq_true rfl) rfl (fun ls hl => ?_)
              have hl : lv_has ls 9 [(5, .int (nI (d + 1))), (6, .int gv), (4, .int (nI k)), (3, .int s8), (2, .int (nI nl)), (0, .ref h), (1, .int (nI us))] := hl
              refine lv_goto (tgt := 25) hx hb xd_Mo_bindsFor_204 (by decide) ?_
              exact ih3 (d + 1, s8, L8, g8) _ _ _ (show nd - (d + 1) < nd - d by omega) (lv_sub hl [0, 2, 3, 4, 5, 6] rfl) hP hD hS ⟨(show (d + 1) ≤ nd from by first | assumption | omega), (show MI v g8 from hM8), (show ∀ j, j ≠ 20 → j ≠ 21 → j ≠ 23 → g8 j = g j from hfr8), (show RW g g8 nl from hRW8), (show LT (g8 20) (g8 21) nl L8 from hL8), (show GL nd L8 from hG8), (show cif (0 < g 14 k) (bSv g nd (g 18 nl) lq (g 14 k) L) L = cif (0 < g 14 k) (bD (adG g nd (g 18 nl) lq) (g 4) (okB g (g 18 nl) (g 14 k)) (nd - (d + 1)) (d + 1) L8) L8 from by rw [hB, cif_pos (show 0 < g 14 k from by rw [← hfr8 14 (by decide) (by decide) (by decide)]; exact Int32.not_le.mp hc5), cif_pos (show 0 < g 14 k from by rw [← hfr8 14 (by decide) (by decide) (by decide)]; exact Int32.not_le.mp hc5), bD_s (by omega), bE_no (fun q => by rcases hgv with ⟨q1, q2⟩ | ⟨q1, q2⟩; exact absurd (q1.symm.trans hc8) (by decide); exact q2 q.1.2)]), (show (s8 = 0 ∧ L8 = L0) ∨ (s8 = 1 ∧ L0.length < L8.length) from hsm8)⟩
            · refine lv_aload_n hx hb xd_Mo_bindsFor_133 rfl (lv_at hl 5 rfl) ?_
              refine lv_iload_n hx hb xd_Mo_bindsFor_134 rfl (lv_at hl 4 rfl) ?_
              refine lv_iload hx hb xd_Mo_bindsFor_135 (lv_at hl 1 rfl) ?_
              have hFc := va_free (wc := (moW h mm kA v g8)) hD hS hA [0, 1, 2, 3, 4, 5, 6, 7, 8, 9, 10, 11, 12, 13, 14, 15, 16, 17, 18, 19, 20, 21, 22, 23, 24, 25] rfl
              refine va_calli (va_runV (As := [.int (nI nl), .int (nI d)]) (rest := []) ⟨hx, hb, hml, hown, hT⟩ (xc_Mo_isIn l D kA H.size h mm v g8 nl (nI d) L8.length (by first | assumption | omega) (by first | assumption | omega) (by first | assumption | omega)) (cwV 2 hT (wT_V k4j_6 k4j_7 k4j_8 k4j_9 k4j_5) rfl rfl rfl (by decide +kernel) ⟨Nat.le_of_ble_eq_true rfl, Nat.le_of_ble_eq_true rfl⟩) (x_preV hK hP hD 0 rfl rfl) rfl rfl hl.1 rfl (lv_room (Nat.le_of_ble_eq_true rfl)) xd_Mo_bindsFor_137 ⟨Nat.le_of_ble_eq_true rfl, Nat.le_of_ble_eq_true rfl⟩) hS (fun q _ h => hFc q h) hFc (fun r9 u10 t H1 locs ht hvm hp11 hB hz1 hk1 hS => ?_)
              obtain ⟨hP1, hD1⟩ := hB
              rw [ht] at hP1
              have hD1 := hD1.weaken (fun _ _ _ h => hFc _ h)
              generalize H1 = H at hP1 hS ⊢
              have hP := hP1
              have hD := hD1
              have hP : va_P D xcl (moW h mm kA v g8) H := hP
              have hD : va_D A (moW h mm kA v g8) := hD
              rcases hp11 with ⟨rfl, z12, z13, z14, z15⟩ | ⟨rfl, z16⟩
              · refine xz_ne (a := 1) (tgt := 201) hx hb xd_Mo_bindsFor_140 (by decide) (by omega) (fun _ => ?_) (fun hc17 => absurd hc17 (by omega))
                refine lv_iinc (k := 1) (x := (nI d)) (v := (nI (d + 1))) hx hb xd_Mo_bindsFor_201 hl rfl (xb_inc d 1) (Nat.le_of_ble_eq_true rfl) rfl (fun ls hl => ?_)
                have hl : lv_has ls 9 [(5, .int (nI (d + 1))), (6, .int gv), (4, .int (nI k)), (3, .int s8), (2, .int (nI nl)), (0, .ref h), (1, .int (nI us))] := hl
                refine lv_goto (tgt := 25) hx hb xd_Mo_bindsFor_204 (by decide) ?_
                exact ih3 (d + 1, s8, L8, g8) _ _ _ (show nd - (d + 1) < nd - d by omega) (lv_sub hl [0, 2, 3, 4, 5, 6] rfl) hP hD hS ⟨(show (d + 1) ≤ nd from by first | assumption | omega), (show MI v g8 from hM8), (show ∀ j, j ≠ 20 → j ≠ 21 → j ≠ 23 → g8 j = g j from hfr8), (show RW g g8 nl from hRW8), (show LT (g8 20) (g8 21) nl L8 from hL8), (show GL nd L8 from hG8), (show cif (0 < g 14 k) (bSv g nd (g 18 nl) lq (g 14 k) L) L = cif (0 < g 14 k) (bD (adG g nd (g 18 nl) lq) (g 4) (okB g (g 18 nl) (g 14 k)) (nd - (d + 1)) (d + 1) L8) L8 from by rw [hB, cif_pos (show 0 < g 14 k from by rw [← hfr8 14 (by decide) (by decide) (by decide)]; exact Int32.not_le.mp hc5), cif_pos (show 0 < g 14 k from by rw [← hfr8 14 (by decide) (by decide) (by decide)]; exact Int32.not_le.mp hc5), bD_s (by omega), bE_no (fun q => q.2 (LT_in hL8 hG8 hnd12 (by omega) z13 z14 z15))]), (show (s8 = 0 ∧ L8 = L0) ∨ (s8 = 1 ∧ L0.length < L8.length) from hsm8)⟩
              · refine xz_ne (a := 0) (tgt := 201) hx hb xd_Mo_bindsFor_140 (by decide) (by omega) (fun hc18 => absurd hc18 (by omega)) (fun _ => ?_)
                refine lv_aload_n hx hb xd_Mo_bindsFor_143 rfl (lv_at hl 5 rfl) ?_
                refine va_get (D := D) (ci := 4) (v := .ref (mm 20)) (C := xR_Mo) (T := xT_Mo) (N := 31) hx hb hT xi_Mo hown hK.1 hP 0 rfl rfl 26 (by decide) (hT _ k4j_10) (fun _ h9 => h9) rfl xd_Mo_bindsFor_144 ?_
                refine lv_iload_n hx hb xd_Mo_bindsFor_147 rfl (lv_at hl 4 rfl) ?_
                refine xn_iald (i := nl) hx hb hK.1 hP 21 0 rfl rfl (by omega) (by decide) xd_Mo_bindsFor_148 ?_
                refine xn_top (x := (g8 20 nl)) (y := nI L8.length) hmk8 ?_
                refine lv_istore hx hb xd_Mo_bindsFor_149 hl (Nat.le_of_ble_eq_true rfl) rfl (fun ls hl => ?_)
                have hl : lv_has ls 9 [(7, .int (nI (L8.length))), (6, .int gv), (5, .int (nI d)), (4, .int (nI k)), (3, .int s8), (2, .int (nI nl)), (0, .ref h), (1, .int (nI us))] := hl
                refine lv_aload_n hx hb xd_Mo_bindsFor_151 rfl (lv_at hl 6 rfl) ?_
                refine lv_aload_n hx hb xd_Mo_bindsFor_152 rfl (lv_at hl 6 rfl) ?_
                refine va_get (D := D) (ci := 4) (v := .ref (mm 4)) (C := xR_Mo) (T := xT_Mo) (N := 31) hx hb hT xi_Mo hown hK.1 hP 0 rfl rfl 9 (by decide) (hT _ k4j_11) (fun _ h9 => h9) rfl xd_Mo_bindsFor_153 ?_
                refine lv_iload hx hb xd_Mo_bindsFor_156 (lv_at hl 2 rfl) ?_
                refine xn_iald (i := d) hx hb hK.1 hP 5 0 rfl rfl (by omega) (by decide) xd_Mo_bindsFor_158 ?_
                have hFc := va_free (wc := (moW h mm kA v g8)) hD hS hA [0, 1, 2, 3, 4, 5, 6, 7, 8, 9, 10, 11, 12, 13, 14, 15, 16, 17, 18, 19, 20, 21, 22, 23, 24, 25] rfl
                refine va_calli (va_runV (As := [.int (g8 4 d)]) (rest := []) ⟨hx, hb, hml, hown, hT⟩ (xc_Mo_addsX l D kA H.size h mm v g8 (g8 4 d) nd nl lq L8 hM8 (by first | assumption | omega) (by first | assumption | omega) (by first | assumption | omega) (by first | assumption | omega) hpar8 hlqe8 (by first | assumption | omega) hL8 hG8) (cwV 1 hT (wT_V k4j_13 k4j_14 k4j_15 k4j_9 k4j_12) rfl rfl rfl (by decide +kernel) ⟨Nat.le_of_ble_eq_true rfl, Nat.le_of_ble_eq_true rfl⟩) (x_preV hK hP hD 0 rfl rfl) rfl rfl hl.1 rfl (lv_room (Nat.le_of_ble_eq_true rfl)) xd_Mo_bindsFor_159 ⟨Nat.le_of_ble_eq_true rfl, Nat.le_of_ble_eq_true rfl⟩) hS (fun q _ h => hFc q h) hFc (fun r19 u20 t H1 locs ht hvm hp21 hB hz1 hk1 hS => ?_)
                obtain ⟨hP1, hD1⟩ := hB
                rw [ht] at hP1
                have hD1 := hD1.weaken (fun _ _ _ h => hFc _ h)
                obtain ⟨v22, g23⟩ := u20
                generalize H1 = H at hP1 hS ⊢
                have hP := hP1
                have hD := hD1
                have hP : va_P D xcl (moW h mm kA v22 g23) H := hP
                have hD : va_D A (moW h mm kA v22 g23) := hD
                obtain ⟨hu9, hM9, hfr9, hRW9, L9, hx2, hx3, hx5⟩ := hp21
                have hu9 : v = v22 := hu9.symm
                subst hu9
                have hM9 : MI v g23 := hM9
                have hfr9 : ∀ j, j ≠ 20 → j ≠ 21 → j ≠ 23 → g23 j = g8 j := hfr9
                have hRW9 : RW g8 g23 nl := hRW9
                have hx3 : LT (g23 20) (g23 21) nl L9 := hx3
                rw [hSM8, hfr8 4 (by decide) (by decide) (by decide)] at hx5
                have hx9 := GL_len hx2
                have hx3l := hx3.1
                have hxp : ∃ T9, L9 = L8 ++ T9 := by
                  obtain ⟨T9, hT9⟩ := aN_pre (ds := dsG g nd (g 18 nl)) (up := upG g lq) (rq := rqG g) (f := 12) (L := L8) (n := g 4 d)
                  have e9 : (adG g nd (g 18 nl) lq L8 (g 4 d)).2 = L9 := by rcases hx5 with ⟨_, q⟩ | ⟨_, q⟩ <;> rw [q]
                  exact ⟨T9, e9.symm.trans hT9⟩
                obtain ⟨T9, hxT⟩ := hxp
                have hxc : LT (g23 20) (g23 21) nl (L8 ++ T9) := by rw [← hxT]; exact hx3
                have hx1 : L8.length ≤ L9.length := by rw [hxT, List.length_append]; omega
                have hP : va_P D xcl (moW h mm kA v g23) H := hP
                have hD : va_D A (moW h mm kA v g23) := hD
                rcases hx5 with ⟨rfl, hgood⟩ | ⟨rfl, hgood⟩
                · have hgr9 := hgood
                  refine lv_istore hx hb xd_Mo_bindsFor_162 hl (Nat.le_of_ble_eq_true rfl) rfl (fun ls hl => ?_)
                  have hl : lv_has ls 9 [(8, .int 0), (7, .int (nI (L8.length))), (6, .int gv), (5, .int (nI d)), (4, .int (nI k)), (3, .int s8), (2, .int (nI nl)), (0, .ref h), (1, .int (nI us))] := hl
                  refine lv_aload_n hx hb xd_Mo_bindsFor_164 rfl (lv_at hl 7 rfl) ?_
                  refine va_get (D := D) (ci := 4) (v := .ref (mm 20)) (C := xR_Mo) (T := xT_Mo) (N := 31) hx hb hT xi_Mo hown hK.1 hP 0 rfl rfl 26 (by decide) (hT _ k4j_10) (fun _ h9 => h9) rfl xd_Mo_bindsFor_165 ?_
                  refine lv_iload_n hx hb xd_Mo_bindsFor_168 rfl (lv_at hl 6 rfl) ?_
                  refine lv_iload hx hb xd_Mo_bindsFor_169 (lv_at hl 0 rfl) ?_
                  refine xz_eq (a := 0) (tgt := 183) hx hb xd_Mo_bindsFor_171 (by decide) (by omega) (fun _ => ?_) (fun hc24 => absurd hc24 (by omega))
                  refine lv_iload hx hb xd_Mo_bindsFor_183 (lv_at hl 1 rfl) ?_
                  refine xn_iast (i := nl) hx hb hK.1 hP hD hS 21 0 rfl rfl (by omega) (by decide) xd_Mo_bindsFor_185 (fun H locs hP hD hS => ?_)
                  have hP : va_P D xcl (moW h mm kA v (va_up g23 20 (upd (g23 20) nl (nI (L8.length))))) H := hP
                  have hD : va_D A (moW h mm kA v (va_up g23 20 (upd (g23 20) nl (nI (L8.length))))) := hD
                  refine lv_iload_n hx hb xd_Mo_bindsFor_186 rfl (lv_at hl 5 rfl) ?_
                  refine lv_if_ne (tgt := 195) hx hb xd_Mo_bindsFor_187 (by decide) (fun hc25 => ?_) (fun hc25 => ?_)
                  · refine lv_iconst (v := 1) hx hb xd_Mo_bindsFor_195 (by decide) ?_
                    refine lv_goto (tgt := 200) hx hb xd_Mo_bindsFor_196 (by decide) ?_
                    refine lv_istore_n hx hb xd_Mo_bindsFor_200 rfl hl (Nat.le_of_ble_eq_true rfl) rfl (fun ls hl => ?_)
                    have hl : lv_has ls 9 [(3, .int 1), (8, .int 0), (7, .int (nI (L8.length))), (6, .int gv), (5, .int (nI d)), (4, .int (nI k)), (2, .int (nI nl)), (0, .ref h), (1, .int (nI us))] := hl
                    refine lv_iinc (k := 4) (x := (nI d)) (v := (nI (d + 1))) hx hb xd_Mo_bindsFor_201 hl rfl (xb_inc d 1) (Nat.le_of_ble_eq_true rfl) rfl (fun ls hl => ?_)
                    have hl : lv_has ls 9 [(5, .int (nI (d + 1))), (3, .int 1), (8, .int 0), (7, .int (nI (L8.length))), (6, .int gv), (4, .int (nI k)), (2, .int (nI nl)), (0, .ref h), (1, .int (nI us))] := hl
                    refine lv_goto (tgt := 25) hx hb xd_Mo_bindsFor_204 (by decide) ?_
                    exact ih3 (d + 1, 1, L8, (va_up g23 20 (upd (g23 20) nl (nI (L8.length))))) _ _ _ (show nd - (d + 1) < nd - d by omega) (lv_sub hl [0, 5, 1, 6, 7, 8] rfl) hP hD hS ⟨(show (d + 1) ≤ nd from by first | assumption | omega), (show MI v (va_up g23 20 (upd (g23 20) nl (nI (L8.length)))) from MI_cut hx3.1 (by omega) hx1 hM9), (show ∀ j, j ≠ 20 → j ≠ 21 → j ≠ 23 → (va_up g23 20 (upd (g23 20) nl (nI (L8.length)))) j = g j from fun j h1 h2 h3 => by rw [← hfr8 j h1 h2 h3, ← hfr9 j h1 h2 h3]; simp [va_up, h1]), (show RW g (va_up g23 20 (upd (g23 20) nl (nI (L8.length)))) nl from RW_tr hRW8 (fun la hla => ⟨(show upd (g23 20) nl _ la = _ by rw [pk_un (by omega)]; exact (hRW9 la hla).1), (hRW9 la hla).2⟩)), (show LT ((va_up g23 20 (upd (g23 20) nl (nI (L8.length)))) 20) ((va_up g23 20 (upd (g23 20) nl (nI (L8.length)))) 21) nl L8 from LT_cut hxc), (show GL nd L8 from hG8), (show cif (0 < g 14 k) (bSv g nd (g 18 nl) lq (g 14 k) L) L = cif (0 < g 14 k) (bD (adG g nd (g 18 nl) lq) (g 4) (okB g (g 18 nl) (g 14 k)) (nd - (d + 1)) (d + 1) L8) L8 from by rw [hB, cif_pos (show 0 < g 14 k from by rw [← hfr8 14 (by decide) (by decide) (by decide)]; exact Int32.not_le.mp hc5), cif_pos (show 0 < g 14 k from by rw [← hfr8 14 (by decide) (by decide) (by decide)]; exact Int32.not_le.mp hc5), bD_s (by omega), bE_f hgood]), (show (1 = 0 ∧ L8 = L0) ∨ (1 = 1 ∧ L0.length < L8.length) from by rcases hsm8 with ⟨q, q2⟩ | ⟨q, q2⟩; exact absurd q hc25; exact Or.inr ⟨rfl, q2⟩)⟩
                  · refine lv_iload hx hb xd_Mo_bindsFor_190 (lv_at hl 0 rfl) ?_
                    refine xz_eq (a := 0) (tgt := 199) hx hb xd_Mo_bindsFor_192 (by decide) (by omega) (fun _ => ?_) (fun hc26 => absurd hc26 (by omega))
                    refine lv_iconst (v := 0) hx hb xd_Mo_bindsFor_199 (by decide) ?_
                    refine lv_istore_n hx hb xd_Mo_bindsFor_200 rfl hl (Nat.le_of_ble_eq_true rfl) rfl (fun ls hl => ?_)
                    have hl : lv_has ls 9 [(3, .int 0), (8, .int 0), (7, .int (nI (L8.length))), (6, .int gv), (5, .int (nI d)), (4, .int (nI k)), (2, .int (nI nl)), (0, .ref h), (1, .int (nI us))] := hl
                    refine lv_iinc (k := 4) (x := (nI d)) (v := (nI (d + 1))) hx hb xd_Mo_bindsFor_201 hl rfl (xb_inc d 1) (Nat.le_of_ble_eq_true rfl) rfl (fun ls hl => ?_)
                    have hl : lv_has ls 9 [(5, .int (nI (d + 1))), (3, .int 0), (8, .int 0), (7, .int (nI (L8.length))), (6, .int gv), (4, .int (nI k)), (2, .int (nI nl)), (0, .ref h), (1, .int (nI us))] := hl
                    refine lv_goto (tgt := 25) hx hb xd_Mo_bindsFor_204 (by decide) ?_
                    exact ih3 (d + 1, 0, L8, (va_up g23 20 (upd (g23 20) nl (nI (L8.length))))) _ _ _ (show nd - (d + 1) < nd - d by omega) (lv_sub hl [0, 5, 1, 6, 7, 8] rfl) hP hD hS ⟨(show (d + 1) ≤ nd from by first | assumption | omega), (show MI v (va_up g23 20 (upd (g23 20) nl (nI (L8.length)))) from MI_cut hx3.1 (by omega) hx1 hM9), (show ∀ j, j ≠ 20 → j ≠ 21 → j ≠ 23 → (va_up g23 20 (upd (g23 20) nl (nI (L8.length)))) j = g j from fun j h1 h2 h3 => by rw [← hfr8 j h1 h2 h3, ← hfr9 j h1 h2 h3]; simp [va_up, h1]), (show RW g (va_up g23 20 (upd (g23 20) nl (nI (L8.length)))) nl from RW_tr hRW8 (fun la hla => ⟨(show upd (g23 20) nl _ la = _ by rw [pk_un (by omega)]; exact (hRW9 la hla).1), (hRW9 la hla).2⟩)), (show LT ((va_up g23 20 (upd (g23 20) nl (nI (L8.length)))) 20) ((va_up g23 20 (upd (g23 20) nl (nI (L8.length)))) 21) nl L8 from LT_cut hxc), (show GL nd L8 from hG8), (show cif (0 < g 14 k) (bSv g nd (g 18 nl) lq (g 14 k) L) L = cif (0 < g 14 k) (bD (adG g nd (g 18 nl) lq) (g 4) (okB g (g 18 nl) (g 14 k)) (nd - (d + 1)) (d + 1) L8) L8 from by rw [hB, cif_pos (show 0 < g 14 k from by rw [← hfr8 14 (by decide) (by decide) (by decide)]; exact Int32.not_le.mp hc5), cif_pos (show 0 < g 14 k from by rw [← hfr8 14 (by decide) (by decide) (by decide)]; exact Int32.not_le.mp hc5), bD_s (by omega), bE_f hgood]), (show (0 = 0 ∧ L8 = L0) ∨ (0 = 1 ∧ L0.length < L8.length) from by rcases hsm8 with ⟨q, q2⟩ | ⟨q, q2⟩; exact Or.inl ⟨rfl, q2⟩; exact absurd (q.symm.trans hc25) (by decide))⟩
                · have hgvp : gvP g d (g 14 k) := by rcases hgv with ⟨q1, q2⟩ | ⟨q1, q2⟩; exact q2; exact absurd q1 hc8
                  have hgrow : L8.length < L9.length := by
                    obtain ⟨T8, hT8⟩ := adG_in (g := g) (nd := nd) (lq := lq) (d := d) (fi := g 18 nl) (L := L8) (by omega) (by rw [← hfr8 3 (by decide) (by decide) (by decide), ← hfr8 18 (by decide) (by decide) (by decide)]; exact hc7) (fun j hj q1 q2 => huq nd hnd hnd12 j d hj (by omega) q1 q2) (LT_out hL8 z16)
                    rw [hgood] at hT8
                    rw [show L9 = (L8 ++ [d]) ++ T8 from hT8, List.length_append, len_app]; omega
                  refine lv_istore hx hb xd_Mo_bindsFor_162 hl (Nat.le_of_ble_eq_true rfl) rfl (fun ls hl => ?_)
                  have hl : lv_has ls 9 [(8, .int 1), (7, .int (nI (L8.length))), (6, .int gv), (5, .int (nI d)), (4, .int (nI k)), (3, .int s8), (2, .int (nI nl)), (0, .ref h), (1, .int (nI us))] := hl
                  refine lv_aload_n hx hb xd_Mo_bindsFor_164 rfl (lv_at hl 7 rfl) ?_
                  refine va_get (D := D) (ci := 4) (v := .ref (mm 20)) (C := xR_Mo) (T := xT_Mo) (N := 31) hx hb hT xi_Mo hown hK.1 hP 0 rfl rfl 26 (by decide) (hT _ k4j_10) (fun _ h9 => h9) rfl xd_Mo_bindsFor_165 ?_
                  refine lv_iload_n hx hb xd_Mo_bindsFor_168 rfl (lv_at hl 6 rfl) ?_
                  refine lv_iload hx hb xd_Mo_bindsFor_169 (lv_at hl 0 rfl) ?_
                  refine xz_eq (a := 1) (tgt := 183) hx hb xd_Mo_bindsFor_171 (by decide) (by omega) (fun hc27 => absurd hc27 (by omega)) (fun _ => ?_)
                  refine lv_aload_n hx hb xd_Mo_bindsFor_174 rfl (lv_at hl 7 rfl) ?_
                  refine va_get (D := D) (ci := 4) (v := .ref (mm 20)) (C := xR_Mo) (T := xT_Mo) (N := 31) hx hb hT xi_Mo hown hK.1 hP 0 rfl rfl 26 (by decide) (hT _ k4j_10) (fun _ h9 => h9) rfl xd_Mo_bindsFor_175 ?_
                  refine lv_iload_n hx hb xd_Mo_bindsFor_178 rfl (lv_at hl 6 rfl) ?_
                  refine xn_iald (i := nl) hx hb hK.1 hP 21 0 rfl rfl (by omega) (by decide) xd_Mo_bindsFor_179 ?_
                  refine xn_top (x := (g23 20 nl)) (y := nI L9.length) hx3l ?_
                  refine lv_goto (tgt := 185) hx hb xd_Mo_bindsFor_180 (by decide) ?_
                  refine xn_iast (i := nl) hx hb hK.1 hP hD hS 21 0 rfl rfl (by omega) (by decide) xd_Mo_bindsFor_185 (fun H locs hP hD hS => ?_)
                  have hP : va_P D xcl (moW h mm kA v (va_up g23 20 (upd (g23 20) nl (nI (L9.length))))) H := hP
                  have hD : va_D A (moW h mm kA v (va_up g23 20 (upd (g23 20) nl (nI (L9.length))))) := hD
                  refine lv_iload_n hx hb xd_Mo_bindsFor_186 rfl (lv_at hl 5 rfl) ?_
                  refine lv_if_ne (tgt := 195) hx hb xd_Mo_bindsFor_187 (by decide) (fun hc28 => ?_) (fun hc28 => ?_)
                  · refine lv_iconst (v := 1) hx hb xd_Mo_bindsFor_195 (by decide) ?_
                    refine lv_goto (tgt := 200) hx hb xd_Mo_bindsFor_196 (by decide) ?_
                    refine lv_istore_n hx hb xd_Mo_bindsFor_200 rfl hl (Nat.le_of_ble_eq_true rfl) rfl (fun ls hl => ?_)
                    have hl : lv_has ls 9 [(3, .int 1), (8, .int 1), (7, .int (nI (L8.length))), (6, .int gv), (5, .int (nI d)), (4, .int (nI k)), (2, .int (nI nl)), (0, .ref h), (1, .int (nI us))] := hl
                    refine lv_iinc (k := 4) (x := (nI d)) (v := (nI (d + 1))) hx hb xd_Mo_bindsFor_201 hl rfl (xb_inc d 1) (Nat.le_of_ble_eq_true rfl) rfl (fun ls hl => ?_)
                    have hl : lv_has ls 9 [(5, .int (nI (d + 1))), (3, .int 1), (8, .int 1), (7, .int (nI (L8.length))), (6, .int gv), (4, .int (nI k)), (2, .int (nI nl)), (0, .ref h), (1, .int (nI us))] := hl
                    refine lv_goto (tgt := 25) hx hb xd_Mo_bindsFor_204 (by decide) ?_
                    exact ih3 (d + 1, 1, L9, (va_up g23 20 (upd (g23 20) nl (nI (L9.length))))) _ _ _ (show nd - (d + 1) < nd - d by omega) (lv_sub hl [0, 5, 1, 6, 7, 8] rfl) hP hD hS ⟨(show (d + 1) ≤ nd from by first | assumption | omega), (show MI v (va_up g23 20 (upd (g23 20) nl (nI (L9.length)))) from MI_cut hx3.1 (by omega) (Nat.le_refl _) hM9), (show ∀ j, j ≠ 20 → j ≠ 21 → j ≠ 23 → (va_up g23 20 (upd (g23 20) nl (nI (L9.length)))) j = g j from fun j h1 h2 h3 => by rw [← hfr8 j h1 h2 h3, ← hfr9 j h1 h2 h3]; simp [va_up, h1]), (show RW g (va_up g23 20 (upd (g23 20) nl (nI (L9.length)))) nl from RW_tr hRW8 (fun la hla => ⟨(show upd (g23 20) nl _ la = _ by rw [pk_un (by omega)]; exact (hRW9 la hla).1), (hRW9 la hla).2⟩)), (show LT ((va_up g23 20 (upd (g23 20) nl (nI (L9.length)))) 20) ((va_up g23 20 (upd (g23 20) nl (nI (L9.length)))) 21) nl L9 from ⟨pk_us, hx3.2⟩), (show GL nd L9 from hx2), (show cif (0 < g 14 k) (bSv g nd (g 18 nl) lq (g 14 k) L) L = cif (0 < g 14 k) (bD (adG g nd (g 18 nl) lq) (g 4) (okB g (g 18 nl) (g 14 k)) (nd - (d + 1)) (d + 1) L9) L9 from by rw [hB, cif_pos (show 0 < g 14 k from by rw [← hfr8 14 (by decide) (by decide) (by decide)]; exact Int32.not_le.mp hc5), cif_pos (show 0 < g 14 k from by rw [← hfr8 14 (by decide) (by decide) (by decide)]; exact Int32.not_le.mp hc5), bD_s (by omega), bE_t ⟨by rw [← hfr8 3 (by decide) (by decide) (by decide), ← hfr8 18 (by decide) (by decide) (by decide)]; exact hc7, hgvp⟩ (LT_out hL8 z16) hgood]), (show (1 = 0 ∧ L9 = L0) ∨ (1 = 1 ∧ L0.length < L9.length) from Or.inr ⟨rfl, by have q := hgrow; rcases hsm8 with ⟨_, q2⟩ | ⟨_, q2⟩; rw [q2] at q; exact q; omega⟩)⟩
                  · refine lv_iload hx hb xd_Mo_bindsFor_190 (lv_at hl 0 rfl) ?_
                    refine xz_eq (a := 1) (tgt := 199) hx hb xd_Mo_bindsFor_192 (by decide) (by omega) (fun hc29 => absurd hc29 (by omega)) (fun _ => ?_)
                    refine lv_iconst (v := 1) hx hb xd_Mo_bindsFor_195 (by decide) ?_
                    refine lv_goto (tgt := 200) hx hb xd_Mo_bindsFor_196 (by decide) ?_
                    refine lv_istore_n hx hb xd_Mo_bindsFor_200 rfl hl (Nat.le_of_ble_eq_true rfl) rfl (fun ls hl => ?_)
                    have hl : lv_has ls 9 [(3, .int 1), (8, .int 1), (7, .int (nI (L8.length))), (6, .int gv), (5, .int (nI d)), (4, .int (nI k)), (2, .int (nI nl)), (0, .ref h), (1, .int (nI us))] := hl
                    refine lv_iinc (k := 4) (x := (nI d)) (v := (nI (d + 1))) hx hb xd_Mo_bindsFor_201 hl rfl (xb_inc d 1) (Nat.le_of_ble_eq_true rfl) rfl (fun ls hl => ?_)
                    have hl : lv_has ls 9 [(5, .int (nI (d + 1))), (3, .int 1), (8, .int 1), (7, .int (nI (L8.length))), (6, .int gv), (4, .int (nI k)), (2, .int (nI nl)), (0, .ref h), (1, .int (nI us))] := hl
                    refine lv_goto (tgt := 25) hx hb xd_Mo_bindsFor_204 (by decide) ?_
                    exact ih3 (d + 1, 1, L9, (va_up g23 20 (upd (g23 20) nl (nI (L9.length))))) _ _ _ (show nd - (d + 1) < nd - d by omega) (lv_sub hl [0, 5, 1, 6, 7, 8] rfl) hP hD hS ⟨(show (d + 1) ≤ nd from by first | assumption | omega), (show MI v (va_up g23 20 (upd (g23 20) nl (nI (L9.length)))) from MI_cut hx3.1 (by omega) (Nat.le_refl _) hM9), (show ∀ j, j ≠ 20 → j ≠ 21 → j ≠ 23 → (va_up g23 20 (upd (g23 20) nl (nI (L9.length)))) j = g j from fun j h1 h2 h3 => by rw [← hfr8 j h1 h2 h3, ← hfr9 j h1 h2 h3]; simp [va_up, h1]), (show RW g (va_up g23 20 (upd (g23 20) nl (nI (L9.length)))) nl from RW_tr hRW8 (fun la hla => ⟨(show upd (g23 20) nl _ la = _ by rw [pk_un (by omega)]; exact (hRW9 la hla).1), (hRW9 la hla).2⟩)), (show LT ((va_up g23 20 (upd (g23 20) nl (nI (L9.length)))) 20) ((va_up g23 20 (upd (g23 20) nl (nI (L9.length)))) 21) nl L9 from ⟨pk_us, hx3.2⟩), (show GL nd L9 from hx2), (show cif (0 < g 14 k) (bSv g nd (g 18 nl) lq (g 14 k) L) L = cif (0 < g 14 k) (bD (adG g nd (g 18 nl) lq) (g 4) (okB g (g 18 nl) (g 14 k)) (nd - (d + 1)) (d + 1) L9) L9 from by rw [hB, cif_pos (show 0 < g 14 k from by rw [← hfr8 14 (by decide) (by decide) (by decide)]; exact Int32.not_le.mp hc5), cif_pos (show 0 < g 14 k from by rw [← hfr8 14 (by decide) (by decide) (by decide)]; exact Int32.not_le.mp hc5), bD_s (by omega), bE_t ⟨by rw [← hfr8 3 (by decide) (by decide) (by decide), ← hfr8 18 (by decide) (by decide) (by decide)]; exact hc7, hgvp⟩ (LT_out hL8 z16) hgood]), (show (1 = 0 ∧ L9 = L0) ∨ (1 = 1 ∧ L0.length < L9.length) from Or.inr ⟨rfl, by have q := hgrow; rcases hsm8 with ⟨_, q2⟩ | ⟨_, q2⟩; rw [q2] at q; exact q; omega⟩)⟩
        refine lv_aload_n hx hb xd_Mo_bindsFor_44 rfl (lv_at hl 4 rfl) ?_
        refine va_get (D := D) (ci := 4) (v := .ref (mm 15)) (C := xR_Mo) (T := xT_Mo) (N := 31) hx hb hT xi_Mo hown hK.1 hP 0 rfl rfl 20 (by decide) (hT _ k4j_16) (fun _ h9 => h9) rfl xd_Mo_bindsFor_45 ?_
        refine lv_iconst (v := 3) hx hb xd_Mo_bindsFor_48 (by decide) ?_
        refine lv_iload hx hb xd_Mo_bindsFor_49 (lv_at hl 0 rfl) ?_
        refine lv_imul hx hb xd_Mo_bindsFor_51 ?_
        refine xn_top (y := nI (3 * d)) (pk_mul 3 d) ?_
        refine xn_iald (i := 3 * d) hx hb hK.1 hP 16 0 rfl rfl (by omega) (by decide) xd_Mo_bindsFor_52 ?_
        refine lv_aload_n hx hb xd_Mo_bindsFor_53 rfl (lv_at hl 4 rfl) ?_
        refine va_get (D := D) (ci := 4) (v := .ref (mm 14)) (C := xR_Mo) (T := xT_Mo) (N := 31) hx hb hT xi_Mo hown hK.1 hP 0 rfl rfl 19 (by decide) (hT _ k4j_2) (fun _ h9 => h9) rfl xd_Mo_bindsFor_54 ?_
        refine lv_iload hx hb xd_Mo_bindsFor_57 (lv_at hl 1 rfl) ?_
        refine xn_iald (i := k) hx hb hK.1 hP 15 0 rfl rfl (by omega) (by decide) xd_Mo_bindsFor_59 ?_
        refine lv_icmp_eq (tgt := 105) hx hb xd_Mo_bindsFor_60 (by decide) (fun hc30 => ?_) (fun hc30 => ?_)
        · refine lv_iconst (v := 1) hx hb xd_Mo_bindsFor_105 (by decide) ?_
          refine lv_goto (tgt := 110) hx hb xd_Mo_bindsFor_106 (by decide) ?_
          refine lv_istore hx hb xd_Mo_bindsFor_110 hl (Nat.le_of_ble_eq_true rfl) rfl (fun ls hl => ?_)
          have hl : lv_has ls 9 [(6, .int 1), (5, .int (nI d)), (4, .int (nI k)), (3, .int s8), (2, .int (nI nl)), (0, .ref h), (1, .int (nI us))] := hl
          exact jn6 1 _ _ _ (lv_sub hl [0, 1, 2, 3, 4, 5, 6] rfl) hP hD hS (show (1 = 1 ∧ gvP g d (g 14 k)) ∨ (1 = 0 ∧ ¬ gvP g d (g 14 k)) from Or.inl ⟨rfl, by unfold gvP; rw [← hfr8 15 (by decide) (by decide) (by decide), ← hfr8 14 (by decide) (by decide) (by decide)]; exact Or.inl hc30⟩)
        · refine lv_aload_n hx hb xd_Mo_bindsFor_63 rfl (lv_at hl 4 rfl) ?_
          refine va_get (D := D) (ci := 4) (v := .ref (mm 15)) (C := xR_Mo) (T := xT_Mo) (N := 31) hx hb hT xi_Mo hown hK.1 hP 0 rfl rfl 20 (by decide) (hT _ k4j_16) (fun _ h9 => h9) rfl xd_Mo_bindsFor_64 ?_
          refine lv_iconst (v := 3) hx hb xd_Mo_bindsFor_67 (by decide) ?_
          refine lv_iload hx hb xd_Mo_bindsFor_68 (lv_at hl 0 rfl) ?_
          refine lv_imul hx hb xd_Mo_bindsFor_70 ?_
          refine xn_top (y := nI (3 * d)) (pk_mul 3 d) ?_
          refine lv_iconst (v := 1) hx hb xd_Mo_bindsFor_71 (by decide) ?_
          refine lv_iadd hx hb xd_Mo_bindsFor_72 ?_
          refine xn_top (y := nI ((3 * d) + 1)) (nI_add (3 * d) 1) ?_
          refine xn_iald (i := (3 * d) + 1) hx hb hK.1 hP 16 0 rfl rfl (by omega) (by decide) xd_Mo_bindsFor_73 ?_
          refine lv_aload_n hx hb xd_Mo_bindsFor_74 rfl (lv_at hl 4 rfl) ?_
          refine va_get (D := D) (ci := 4) (v := .ref (mm 14)) (C := xR_Mo) (T := xT_Mo) (N := 31) hx hb hT xi_Mo hown hK.1 hP 0 rfl rfl 19 (by decide) (hT _ k4j_2) (fun _ h9 => h9) rfl xd_Mo_bindsFor_75 ?_
          refine lv_iload hx hb xd_Mo_bindsFor_78 (lv_at hl 1 rfl) ?_
          refine xn_iald (i := k) hx hb hK.1 hP 15 0 rfl rfl (by omega) (by decide) xd_Mo_bindsFor_80 ?_
          refine lv_icmp_eq (tgt := 105) hx hb xd_Mo_bindsFor_81 (by decide) (fun hc31 => ?_) (fun hc31 => ?_)
          · refine lv_iconst (v := 1) hx hb xd_Mo_bindsFor_105 (by decide) ?_
            refine lv_goto (tgt := 110) hx hb xd_Mo_bindsFor_106 (by decide) ?_
            refine lv_istore hx hb xd_Mo_bindsFor_110 hl (Nat.le_of_ble_eq_true rfl) rfl (fun ls hl => ?_)
            have hl : lv_has ls 9 [(6, .int 1), (5, .int (nI d)), (4, .int (nI k)), (3, .int s8), (2, .int (nI nl)), (0, .ref h), (1, .int (nI us))] := hl
            exact jn6 1 _ _ _ (lv_sub hl [0, 1, 2, 3, 4, 5, 6] rfl) hP hD hS (show (1 = 1 ∧ gvP g d (g 14 k)) ∨ (1 = 0 ∧ ¬ gvP g d (g 14 k)) from Or.inl ⟨rfl, by unfold gvP; rw [← hfr8 15 (by decide) (by decide) (by decide), ← hfr8 14 (by decide) (by decide) (by decide)]; exact Or.inr (Or.inl hc31)⟩)
          · refine lv_aload_n hx hb xd_Mo_bindsFor_84 rfl (lv_at hl 4 rfl) ?_
            refine va_get (D := D) (ci := 4) (v := .ref (mm 15)) (C := xR_Mo) (T := xT_Mo) (N := 31) hx hb hT xi_Mo hown hK.1 hP 0 rfl rfl 20 (by decide) (hT _ k4j_16) (fun _ h9 => h9) rfl xd_Mo_bindsFor_85 ?_
            refine lv_iconst (v := 3) hx hb xd_Mo_bindsFor_88 (by decide) ?_
            refine lv_iload hx hb xd_Mo_bindsFor_89 (lv_at hl 0 rfl) ?_
            refine lv_imul hx hb xd_Mo_bindsFor_91 ?_
            refine xn_top (y := nI (3 * d)) (pk_mul 3 d) ?_
            refine lv_iconst (v := 2) hx hb xd_Mo_bindsFor_92 (by decide) ?_
            refine lv_iadd hx hb xd_Mo_bindsFor_93 ?_
            refine xn_top (y := nI ((3 * d) + 2)) (nI_add (3 * d) 2) ?_
            refine xn_iald (i := (3 * d) + 2) hx hb hK.1 hP 16 0 rfl rfl (by omega) (by decide) xd_Mo_bindsFor_94 ?_
            refine lv_aload_n hx hb xd_Mo_bindsFor_95 rfl (lv_at hl 4 rfl) ?_
            refine va_get (D := D) (ci := 4) (v := .ref (mm 14)) (C := xR_Mo) (T := xT_Mo) (N := 31) hx hb hT xi_Mo hown hK.1 hP 0 rfl rfl 19 (by decide) (hT _ k4j_2) (fun _ h9 => h9) rfl xd_Mo_bindsFor_96 ?_
            refine lv_iload hx hb xd_Mo_bindsFor_99 (lv_at hl 1 rfl) ?_
            refine xn_iald (i := k) hx hb hK.1 hP 15 0 rfl rfl (by omega) (by decide) xd_Mo_bindsFor_101 ?_
            refine lv_icmp_ne (tgt := 109) hx hb xd_Mo_bindsFor_102 (by decide) (fun hc32 => ?_) (fun hc32 => ?_)
            · refine lv_iconst (v := 0) hx hb xd_Mo_bindsFor_109 (by decide) ?_
              refine lv_istore hx hb xd_Mo_bindsFor_110 hl (Nat.le_of_ble_eq_true rfl) rfl (fun ls hl => ?_)
              have hl : lv_has ls 9 [(6, .int 0), (5, .int (nI d)), (4, .int (nI k)), (3, .int s8), (2, .int (nI nl)), (0, .ref h), (1, .int (nI us))] := hl
              exact jn6 0 _ _ _ (lv_sub hl [0, 1, 2, 3, 4, 5, 6] rfl) hP hD hS (show (0 = 1 ∧ gvP g d (g 14 k)) ∨ (0 = 0 ∧ ¬ gvP g d (g 14 k)) from Or.inr ⟨rfl, by unfold gvP; rw [← hfr8 15 (by decide) (by decide) (by decide), ← hfr8 14 (by decide) (by decide) (by decide)]; exact fun q => q.elim hc30 (fun q => q.elim hc31 hc32)⟩)
            · refine lv_iconst (v := 1) hx hb xd_Mo_bindsFor_105 (by decide) ?_
              refine lv_goto (tgt := 110) hx hb xd_Mo_bindsFor_106 (by decide) ?_
              refine lv_istore hx hb xd_Mo_bindsFor_110 hl (Nat.le_of_ble_eq_true rfl) rfl (fun ls hl => ?_)
              have hl : lv_has ls 9 [(6, .int 1), (5, .int (nI d)), (4, .int (nI k)), (3, .int s8), (2, .int (nI nl)), (0, .ref h), (1, .int (nI us))] := hl
              exact jn6 1 _ _ _ (lv_sub hl [0, 1, 2, 3, 4, 5, 6] rfl) hP hD hS (show (1 = 1 ∧ gvP g d (g 14 k)) ∨ (1 = 0 ∧ ¬ gvP g d (g 14 k)) from Or.inl ⟨rfl, by unfold gvP; rw [← hfr8 15 (by decide) (by decide) (by decide), ← hfr8 14 (by decide) (by decide) (by decide)]; exact Or.inr (Or.inr hc32)⟩)
