theorem k4e_0 : (Cond.fieldLink "LayerDeskModel" 94 "LayerDeskModel" "words" "I") ∈ wT := wT_t (List.mem_append_right _ (List.mem_append_right _ (List.mem_append_right _ (List.mem_append_left _ (List.mem_of_getElem? (i := 88) rfl))))) rfl
theorem k4e_1 : (Cond.code xy_Mo_nameOf xb_Mo_nameOf 4 (some .int)) ∈ wT := wT_t (List.mem_append_right _ (List.mem_append_right _ (List.mem_append_right _ (List.mem_append_left _ (List.mem_of_getElem? (i := 212) rfl))))) rfl
theorem k4e_2 : (Cond.methodLink "LayerDeskModel" 133 xy_Mo_nameOf) ∈ wT := wT_t (List.mem_append_right _ (List.mem_append_right _ (List.mem_append_right _ (List.mem_append_left _ (List.mem_of_getElem? (i := 209) rfl))))) rfl
theorem k4e_3 : (Cond.instanceMethod xy_Mo_nameOf) ∈ wT := wT_t (List.mem_append_right _ (List.mem_append_right _ (List.mem_append_right _ (List.mem_append_left _ (List.mem_of_getElem? (i := 211) rfl))))) rfl
theorem k4e_4 : (Cond.selects "LayerDeskModel" xy_Mo_nameOf xy_Mo_nameOf) ∈ wT := wT_s (q := (xy_Mo_nameOf, 31)) (by decide +kernel) rfl
theorem k4e_5 : (Cond.initialized "LayerDeskModel") ∈ wT := wT_t (List.mem_append_left _ (List.mem_of_getElem? (i := 5) rfl)) rfl
theorem k4e_6 : (Cond.fieldLink "LayerDeskModel" 140 "LayerDeskModel" "descriptors" "I") ∈ wT := wT_t (List.mem_append_right _ (List.mem_append_right _ (List.mem_append_right _ (List.mem_append_left _ (List.mem_of_getElem? (i := 91) rfl))))) rfl
theorem k4e_7 : (Cond.code xy_Mo_isShut xb_Mo_isShut 1 (some .boolean)) ∈ wT := wT_t (List.mem_append_right _ (List.mem_append_right _ (List.mem_append_right _ (List.mem_append_left _ (List.mem_of_getElem? (i := 228) rfl))))) rfl
theorem k4e_8 : (Cond.methodLink "LayerDeskModel" 146 xy_Mo_isShut) ∈ wT := wT_t (List.mem_append_right _ (List.mem_append_right _ (List.mem_append_right _ (List.mem_append_left _ (List.mem_of_getElem? (i := 225) rfl))))) rfl
theorem k4e_9 : (Cond.instanceMethod xy_Mo_isShut) ∈ wT := wT_t (List.mem_append_right _ (List.mem_append_right _ (List.mem_append_right _ (List.mem_append_left _ (List.mem_of_getElem? (i := 227) rfl))))) rfl
theorem k4e_10 : (Cond.selects "LayerDeskModel" xy_Mo_isShut xy_Mo_isShut) ∈ wT := wT_s (q := (xy_Mo_isShut, 31)) (by decide +kernel) rfl
theorem k4e_11 : (Cond.fieldLink "LayerDeskModel" 54 "LayerDeskModel" "use" "[I") ∈ wT := wT_t (List.mem_append_right _ (List.mem_append_right _ (List.mem_append_right _ (List.mem_append_left _ (List.mem_of_getElem? (i := 103) rfl))))) rfl
theorem k4e_12 : (Cond.fieldLink "LayerDeskModel" 57 "LayerDeskModel" "provide" "[I") ∈ wT := wT_t (List.mem_append_right _ (List.mem_append_right _ (List.mem_append_right _ (List.mem_append_left _ (List.mem_of_getElem? (i := 104) rfl))))) rfl
set_option maxHeartbeats 4000000 in
set_option maxRecDepth 100000 in
theorem xc_Mo_newService0X (l : Launch) (D : va_G) (kA : Nat → ClassId) (sz h : Nat) (mm : Nat → Nat) (v : Nat → Int32) (g : Nat → Nat → Int32) (wl : List (Nat × Nat)) (nd : Nat) (hMI : MI v g) (hWX : WX v g wl) (hnd : v 4 = nI nd) (hnd12 : nd ≤ 12) : Met l xy_Mo_newService (.code xy_Mo_newService xb_Mo_newService 7 (some .int) :: wT) { frames := 1, cells := 0, slots := 0, locals := 23 } (va_Pc [.ref h, .int 0] (xPre D kA sz (moW h mm kA v g))) (va_Qi (fun (r : Int32) (u : (Nat → Int32) × (Nat → Nat → Int32)) => MI u.1 u.2 ∧ u.1 2 = v 2 ∧ (r = -1 ∨ r = -2 ∨ r = 1 ∨ r = 2) ∧ u = (v, lS 14 (g 0) wl nd g)) (fun (u : (Nat → Int32) × (Nat → Nat → Int32)) t => va_P D xcl (moW h mm kA u.1 u.2) t.heap ∧ va_D (va_A (moW h mm kA v g) sz) (moW h mm kA u.1 u.2)) (va_A (moW h mm kA v g) sz)) 0 0 (va_A (moW h mm kA v g) sz) := by
  refine Met.ofW (cc := xb_Mo_newService) (maxL := 7) (ret := (some .int)) (by decide) rfl ?_
  intro p e s m args below meth c s₁ B hml hv
  obtain ⟨rfl, hsz, hP, hK, hD0⟩ := hv
  have hx := B.exec
  have hb := B.bytes
  have hr := B.returns
  have hT := x_hT B.pre
  have hown : s.vm.findClass xR_Mo = some m.cls := findClass_of_methodNamed B.named
  have hlocks := B.notSynchronized
  subst hsz
  have hD := hD0.self (sz := s.heap.size)
  generalize hAe : va_A (moW h mm kA v g) s.heap.size = A at hD ⊢
  have hA : ∀ q : Nat, s.heap.size ≤ q → A q := fun q h => by rw [← hAe]; exact Or.inr h
  have hS : va_S A s.heap s.heap [] := va_S.rf
  have hl := lv_entry ([.ref h, .int 0]) (n := 7) (Nat.le_of_ble_eq_true rfl)
  rw [lg_entry_eq]
  generalize (lg_sl ([.ref h, .int 0]) ++ List.replicate (7 - (lg_sl ([.ref h, .int 0])).length) Slot.unset).toArray = ls at hl ⊢
  have hl : lv_has ls 7 [(0, .ref h), (1, .int 0)] := hl
  have hP : va_P D xcl (moW h mm kA v g) s.heap := hP
  obtain ⟨-, ⟨nl, hnl5, hnl, hpar⟩, hch, hpk, hrq, hmd, huq⟩ := id hMI
  obtain ⟨hwn, ⟨hwn20, hwlr⟩, hws⟩ := id hWX
  refine lv_aload_n hx hb xd_Mo_newService_0 rfl (lv_at hl 0 rfl) ?_
  refine va_get (D := D) (ci := 4) (v := .int (v 3)) (C := xR_Mo) (T := xT_Mo) (N := 31) hx hb hT xi_Mo hown hK.1 hP 0 rfl rfl 4 (by decide) (hT _ k4e_0) (fun _ h9 => h9) rfl xd_Mo_newService_1 ?_
  refine xn_top (x := (v 3)) (y := nI wl.length) hwn ?_
  refine lv_iconst (v := 2) hx hb xd_Mo_newService_4 (by decide) ?_
  refine xn_ne (a := wl.length) (b := 2) (tgt := 16) hx hb xd_Mo_newService_5 (by decide) (by omega) (by omega) (fun hc1 => ?_) (fun hc1 => ?_)
  · refine lv_iconst (v := 0) hx hb xd_Mo_newService_16 (by decide) ?_
    refine lv_istore_n hx hb xd_Mo_newService_17 rfl hl (Nat.le_of_ble_eq_true rfl) rfl (fun ls hl => ?_)
    have hl : lv_has ls 7 [(2, .int 0), (0, .ref h), (1, .int 0)] := hl
    refine lv_iload_n hx hb xd_Mo_newService_18 rfl (lv_at hl 0 rfl) ?_
    refine xz_ne (a := 0) (tgt := 24) hx hb xd_Mo_newService_19 (by decide) (by omega) (fun hc2 => absurd hc2 (by omega)) (fun _ => ?_)
    refine lv_iconst (v := (-1)) hx hb xd_Mo_newService_22 (by decide) ?_
    exact W.iret (v := (-1)) hx hb hr (fun t ht hW => ⟨⟨(-1), (v, g), rfl, ⟨hMI, rfl, Or.inl rfl, congrArg (Prod.mk v) (lS_no1 (fun q => absurd q.1 (by omega)))⟩, by rw [ht]; exact hP, hD⟩, hS.F ht⟩) hS.2.2 xd_Mo_newService_23
  · have hbe1 := (hwlr 1 (by omega)).1
    have he1 := (hwlr 1 (by omega)).2
    have eb1 := (hws 1 (by omega)).1
    have ee1 := (hws 1 (by omega)).2
    refine lv_aload_n hx hb xd_Mo_newService_8 rfl (lv_at hl 0 rfl) ?_
    refine lv_iconst (v := 1) hx hb xd_Mo_newService_9 (by decide) ?_
    have hFc := va_free (wc := (moW h mm kA v g)) hD hS hA [0, 1, 2, 3, 4, 5, 6, 7, 8, 9, 10, 11, 12, 13, 14, 15, 16, 17, 18, 19, 20, 21, 22, 23, 24, 25] rfl
    refine va_calli (va_runV (As := [.int 1]) (rest := []) ⟨hx, hb, hml, hown, hT⟩ (xc_Mo_nameOfX l D kA s.heap.size h mm v g 1 (wb wl 1) (we wl 1) (by first | assumption | omega) (by first | assumption | omega) (by first | assumption | omega) (by first | assumption | omega) (by first | assumption | omega)) (cwV 1 hT (wT_V k4e_2 k4e_3 k4e_4 k4e_5 k4e_1) rfl rfl rfl (by decide +kernel) ⟨Nat.le_of_ble_eq_true rfl, Nat.le_of_ble_eq_true rfl⟩) (x_preV hK hP hD 0 rfl rfl) rfl rfl hl.1 rfl (lv_room (Nat.le_of_ble_eq_true rfl)) xd_Mo_newService_10 ⟨Nat.le_of_ble_eq_true rfl, Nat.le_of_ble_eq_true rfl⟩) hS (fun q _ h => hFc q h) hFc (fun r3 u4 t H1 locs ht hvm hp5 hB hz1 hk1 hS => ?_)
    obtain ⟨hP1, hD1⟩ := hB
    rw [ht] at hP1
    have hD1 := hD1.weaken (fun _ _ _ h => hFc _ h)
    generalize H1 = H at hP1 hS ⊢
    have hP := hP1
    have hD := hD1
    have hP : va_P D xcl (moW h mm kA v g) H := hP
    have hD : va_D A (moW h mm kA v g) := hD
    have hp5 : r3 = nV (g 0) (wb wl 1) (we wl 1) := hp5
    subst hp5
    have hP : va_P D xcl (moW h mm kA v g) H := hP
    have hD : va_D A (moW h mm kA v g) := hD
    refine lv_goto (tgt := 17) hx hb xd_Mo_newService_13 (by decide) ?_
    refine lv_istore_n hx hb xd_Mo_newService_17 rfl hl (Nat.le_of_ble_eq_true rfl) rfl (fun ls hl => ?_)
    have hl : lv_has ls 7 [(2, .int (nV (g 0) (wb wl 1) (we wl 1))), (0, .ref h), (1, .int 0)] := hl
    refine lv_iload_n hx hb xd_Mo_newService_18 rfl (lv_at hl 0 rfl) ?_
    refine lv_if_ne (tgt := 24) hx hb xd_Mo_newService_19 (by decide) (fun hc6 => ?_) (fun hc6 => ?_)
    · rcases Nat.eq_zero_or_pos nd with hz | hz
      · have hnd0 : v 4 = nI 0 := by rw [hnd, hz]
        have hn1 : wN (g 0) wl 1 = nV (g 0) (wb wl 1) (we wl 1) := wN_in (by omega)
        refine lv_aload_n hx hb xd_Mo_newService_24 rfl (lv_at hl 1 rfl) ?_
        refine va_get (D := D) (ci := 4) (v := .int (v 4)) (C := xR_Mo) (T := xT_Mo) (N := 31) hx hb hT xi_Mo hown hK.1 hP 0 rfl rfl 7 (by decide) (hT _ k4e_6) (fun _ h9 => h9) rfl xd_Mo_newService_25 ?_
        refine xn_top (x := (v 4)) (y := nI 0) hnd0 ?_
        refine lv_iconst (v := 1) hx hb xd_Mo_newService_28 (by decide) ?_
        refine lv_isub hx hb xd_Mo_newService_29 ?_
        refine lv_istore_n hx hb xd_Mo_newService_30 rfl hl (Nat.le_of_ble_eq_true rfl) rfl (fun ls hl => ?_)
        have hl : lv_has ls 7 [(3, .int ((nI 0) - 1)), (2, .int (nV (g 0) (wb wl 1) (we wl 1))), (0, .ref h), (1, .int 0)] := hl
        refine lv_iconst (v := (-1)) hx hb xd_Mo_newService_31 (by decide) ?_
        refine lv_istore hx hb xd_Mo_newService_32 hl (Nat.le_of_ble_eq_true rfl) rfl (fun ls hl => ?_)
        have hl : lv_has ls 7 [(4, .int (-1)), (3, .int ((nI 0) - 1)), (2, .int (nV (g 0) (wb wl 1) (we wl 1))), (0, .ref h), (1, .int 0)] := hl
        refine lv_iconst (v := 2) hx hb xd_Mo_newService_34 (by decide) ?_
        refine lv_istore hx hb xd_Mo_newService_35 hl (Nat.le_of_ble_eq_true rfl) rfl (fun ls hl => ?_)
        have hl : lv_has ls 7 [(5, .int 2), (4, .int (-1)), (3, .int ((nI 0) - 1)), (2, .int (nV (g 0) (wb wl 1) (we wl 1))), (0, .ref h), (1, .int 0)] := hl
        refine lv_iload_n hx hb xd_Mo_newService_37 rfl (lv_at hl 2 rfl) ?_
        refine lv_if_lt (tgt := 105) hx hb xd_Mo_newService_38 (by decide) (fun _ => ?_) (fun hc7 => absurd hc7 (by decide))
        refine lv_aload_n hx hb xd_Mo_newService_105 rfl (lv_at hl 4 rfl) ?_
        have hFc := va_free (wc := (moW h mm kA v g)) hD hS hA [0, 1, 2, 3, 4, 5, 6, 7, 8, 9, 10, 11, 12, 13, 14, 15, 16, 17, 18, 19, 20, 21, 22, 23, 24, 25] rfl
        refine va_calli (va_runV (As := []) (rest := []) ⟨hx, hb, hml, hown, hT⟩ (xc_Mo_isShut l D kA H.size h mm v g nd (by first | assumption | omega) (by first | assumption | omega)) (cwV 0 hT (wT_V k4e_8 k4e_9 k4e_10 k4e_5 k4e_7) rfl rfl rfl (by decide +kernel) ⟨Nat.le_of_ble_eq_true rfl, Nat.le_of_ble_eq_true rfl⟩) (x_preV hK hP hD 0 rfl rfl) rfl rfl hl.1 rfl (lv_room (Nat.le_of_ble_eq_true rfl)) xd_Mo_newService_106 ⟨Nat.le_of_ble_eq_true rfl, Nat.le_of_ble_eq_true rfl⟩) hS (fun q _ h => hFc q h) hFc (fun r8 u9 t H1 locs ht hvm hp10 hB hz1 hk1 hS => ?_)
        obtain ⟨hP1, hD1⟩ := hB
        rw [ht] at hP1
        have hD1 := hD1.weaken (fun _ _ _ h => hFc _ h)
        generalize H1 = H at hP1 hS ⊢
        have hP := hP1
        have hD := hD1
        have hP : va_P D xcl (moW h mm kA v g) H := hP
        have hD : va_D A (moW h mm kA v g) := hD
        rcases hp10 with ⟨rfl, z11⟩ | ⟨rfl, z12, z13⟩
        · refine xz_ne (a := 1) (tgt := 117) hx hb xd_Mo_newService_109 (by decide) (by omega) (fun _ => ?_) (fun hc14 => absurd hc14 (by omega))
          refine lv_bipush (v := (-2)) hx hb xd_Mo_newService_117 (by decide) ?_
          exact W.iret (v := (-2)) hx hb hr (fun t ht hW => ⟨⟨(-2), (v, g), rfl, ⟨hMI, rfl, Or.inr (Or.inl rfl), congrArg (Prod.mk v) (lS_no1 (fun q => absurd q.2.2.1 (by omega)))⟩, by rw [ht]; exact hP, hD⟩, hS.F ht⟩) hS.2.2 xd_Mo_newService_119
        · exact absurd hz z12
      · have hn1 : wN (g 0) wl 1 = nV (g 0) (wb wl 1) (we wl 1) := wN_in (by omega)
        refine lv_aload_n hx hb xd_Mo_newService_24 rfl (lv_at hl 1 rfl) ?_
        refine va_get (D := D) (ci := 4) (v := .int (v 4)) (C := xR_Mo) (T := xT_Mo) (N := 31) hx hb hT xi_Mo hown hK.1 hP 0 rfl rfl 7 (by decide) (hT _ k4e_6) (fun _ h9 => h9) rfl xd_Mo_newService_25 ?_
        refine xn_top (x := (v 4)) (y := nI nd) hnd ?_
        refine lv_iconst (v := 1) hx hb xd_Mo_newService_28 (by decide) ?_
        refine lv_isub hx hb xd_Mo_newService_29 ?_
        refine xn_top (y := nI (nd - 1)) (pk_sub (a := nd) (b := 1) (by omega)) ?_
        refine lv_istore_n hx hb xd_Mo_newService_30 rfl hl (Nat.le_of_ble_eq_true rfl) rfl (fun ls hl => ?_)
        have hl : lv_has ls 7 [(3, .int (nI (nd - 1))), (2, .int (nV (g 0) (wb wl 1) (we wl 1))), (0, .ref h), (1, .int 0)] := hl
        refine lv_iconst (v := (-1)) hx hb xd_Mo_newService_31 (by decide) ?_
        refine lv_istore hx hb xd_Mo_newService_32 hl (Nat.le_of_ble_eq_true rfl) rfl (fun ls hl => ?_)
        have hl : lv_has ls 7 [(4, .int (-1)), (3, .int (nI (nd - 1))), (2, .int (nV (g 0) (wb wl 1) (we wl 1))), (0, .ref h), (1, .int 0)] := hl
        refine lv_iconst (v := 2) hx hb xd_Mo_newService_34 (by decide) ?_
        refine lv_istore hx hb xd_Mo_newService_35 hl (Nat.le_of_ble_eq_true rfl) rfl (fun ls hl => ?_)
        have hl : lv_has ls 7 [(5, .int 2), (4, .int (-1)), (3, .int (nI (nd - 1))), (2, .int (nV (g 0) (wb wl 1) (we wl 1))), (0, .ref h), (1, .int 0)] := hl
        have e25 : (2 : Int32) = nI 3 - 1 := by decide
        rw [e25] at hl
        refine xlab (σ := Nat × Int32) (ml := 7) 37 (fun (kk, fr) => [(5, .int (nI kk - 1)), (4, .int fr), (0, .ref h), (1, .int 0), (2, .int (nV (g 0) (wb wl 1) (we wl 1))), (3, .int (nI (nd - 1)))]) (fun (kk, fr) => []) (fun (kk, fr) => moW h mm kA v g) (fun (kk, fr) => (kk ≤ 3) ∧ (∀ k9, kk ≤ k9 → k9 < 3 → ¬ g 14 (3 * (nd - 1) + k9) = nV (g 0) (wb wl 1) (we wl 1)) ∧ ((fr = -1 ∧ ∀ k9, kk ≤ k9 → k9 < 3 → ¬ g 14 (3 * (nd - 1) + k9) = 0) ∨ ∃ f9, f9 < 3 ∧ fr = nI f9 ∧ kk ≤ f9 ∧ g 14 (3 * (nd - 1) + f9) = 0 ∧ ∀ k9, kk ≤ k9 → k9 < f9 → ¬ g 14 (3 * (nd - 1) + k9) = 0)) (fun (kk, fr) => kk) ?_ (3, (-1)) _ _ _ (lv_sub hl [0, 1, 4, 5, 3, 2] rfl) hP hD hS ⟨(show 3 ≤ 3 from by omega), (show ∀ k9, 3 ≤ k9 → k9 < 3 → ¬ g 14 (3 * (nd - 1) + k9) = nV (g 0) (wb wl 1) (we wl 1) from fun k9 a9 b9 => absurd b9 (by omega)), (show ((-1) = -1 ∧ ∀ k9, 3 ≤ k9 → k9 < 3 → ¬ g 14 (3 * (nd - 1) + k9) = 0) ∨ ∃ f9, f9 < 3 ∧ (-1) = nI f9 ∧ 3 ≤ f9 ∧ g 14 (3 * (nd - 1) + f9) = 0 ∧ ∀ k9, 3 ≤ k9 → k9 < f9 → ¬ g 14 (3 * (nd - 1) + k9) = 0 from Or.inl ⟨rfl, fun k9 a9 b9 => absurd b9 (by omega)⟩)⟩
        intro n9 ih15 a9 ls H locs hμ hl hP hD hS hI
        subst hμ
        obtain ⟨kk, fr⟩ := a9
        obtain ⟨hkk, hs9, hfr⟩ := hI
        have hkk : kk ≤ 3 := hkk
        have hs9 : ∀ k9, kk ≤ k9 → k9 < 3 → ¬ g 14 (3 * (nd - 1) + k9) = nV (g 0) (wb wl 1) (we wl 1) := hs9
        have hfr : (fr = -1 ∧ ∀ k9, kk ≤ k9 → k9 < 3 → ¬ g 14 (3 * (nd - 1) + k9) = 0) ∨ ∃ f9, f9 < 3 ∧ fr = nI f9 ∧ kk ≤ f9 ∧ g 14 (3 * (nd - 1) + f9) = 0 ∧ ∀ k9, kk ≤ k9 → k9 < f9 → ¬ g 14 (3 * (nd - 1) + k9) = 0 := hfr
        have hl : lv_has ls 7 [(5, .int (nI kk - 1)), (4, .int fr), (0, .ref h), (1, .int 0), (2, .int (nV (g 0) (wb wl 1) (we wl 1))), (3, .int (nI (nd - 1)))] := hl
        have hP : va_P D xcl (moW h mm kA v g) H := hP
        have hD : va_D A (moW h mm kA v g) := hD
        refine lv_iload_n hx hb xd_Mo_newService_37 rfl (lv_at hl 5 rfl) ?_
        refine xz_lt (a := nd - 1) (tgt := 105) hx hb xd_Mo_newService_38 (by decide) (by omega) ?_
        rcases Nat.eq_zero_or_pos kk with hz5 | hz5
        · have e5 : nI kk - 1 = -1 := by rw [hz5]; decide
          rw [e5] at hl
          refine lv_iload hx hb xd_Mo_newService_41 (lv_at hl 0 rfl) ?_
          refine lv_if_lt (tgt := 105) hx hb xd_Mo_newService_43 (by decide) (fun _ => ?_) (fun hc17 => absurd hc17 (by decide))
          rcases hfr with ⟨hfr, hfz⟩ | ⟨f9, hf9, hfr, hfk, hf0, hfz⟩
          · rw [hfr] at hl
            refine lv_aload_n hx hb xd_Mo_newService_105 rfl (lv_at hl 2 rfl) ?_
            have hFc := va_free (wc := (moW h mm kA v g)) hD hS hA [0, 1, 2, 3, 4, 5, 6, 7, 8, 9, 10, 11, 12, 13, 14, 15, 16, 17, 18, 19, 20, 21, 22, 23, 24, 25] rfl
            refine va_calli (va_runV (As := []) (rest := []) ⟨hx, hb, hml, hown, hT⟩ (xc_Mo_isShut l D kA H.size h mm v g nd (by first | assumption | omega) (by first | assumption | omega)) (cwV 0 hT (wT_V k4e_8 k4e_9 k4e_10 k4e_5 k4e_7) rfl rfl rfl (by decide +kernel) ⟨Nat.le_of_ble_eq_true rfl, Nat.le_of_ble_eq_true rfl⟩) (x_preV hK hP hD 0 rfl rfl) rfl rfl hl.1 rfl (lv_room (Nat.le_of_ble_eq_true rfl)) xd_Mo_newService_106 ⟨Nat.le_of_ble_eq_true rfl, Nat.le_of_ble_eq_true rfl⟩) hS (fun q _ h => hFc q h) hFc (fun r18 u19 t H1 locs ht hvm hp20 hB hz1 hk1 hS => ?_)
            obtain ⟨hP1, hD1⟩ := hB
            rw [ht] at hP1
            have hD1 := hD1.weaken (fun _ _ _ h => hFc _ h)
            generalize H1 = H at hP1 hS ⊢
            have hP := hP1
            have hD := hD1
            have hP : va_P D xcl (moW h mm kA v g) H := hP
            have hD : va_D A (moW h mm kA v g) := hD
            rcases hp20 with ⟨rfl, z21⟩ | ⟨rfl, z22, z23⟩
            · refine xz_ne (a := 1) (tgt := 117) hx hb xd_Mo_newService_109 (by decide) (by omega) (fun _ => ?_) (fun hc24 => absurd hc24 (by omega))
              refine lv_bipush (v := (-2)) hx hb xd_Mo_newService_117 (by decide) ?_
              exact W.iret (v := (-2)) hx hb hr (fun t ht hW => ⟨⟨(-2), (v, g), rfl, ⟨hMI, rfl, Or.inr (Or.inl rfl), congrArg (Prod.mk v) (lS_no1 (fun q => z21.elim (fun z => absurd q.2.2.1 (by omega)) (fun z => z q.2.2.2.2)))⟩, by rw [ht]; exact hP, hD⟩, hS.F ht⟩) hS.2.2 xd_Mo_newService_119
            · refine xz_ne (a := 0) (tgt := 117) hx hb xd_Mo_newService_109 (by decide) (by omega) (fun hc25 => absurd hc25 (by omega)) (fun _ => ?_)
              refine lv_iload hx hb xd_Mo_newService_112 (lv_at hl 1 rfl) ?_
              refine lv_if_ge (tgt := 120) hx hb xd_Mo_newService_114 (by decide) (fun hc26 => absurd hc26 (by decide)) (fun _ => ?_)
              refine lv_bipush (v := (-2)) hx hb xd_Mo_newService_117 (by decide) ?_
              exact W.iret (v := (-2)) hx hb hr (fun t ht hW => ⟨⟨(-2), (v, g), rfl, ⟨hMI, rfl, Or.inr (Or.inl rfl), congrArg (Prod.mk v) (lS_no2 (by unfold svF; exact ff_none (fun k9 hk9 => hfz k9 (by omega) hk9)))⟩, by rw [ht]; exact hP, hD⟩, hS.F ht⟩) hS.2.2 xd_Mo_newService_119
          · rw [hfr] at hl
            refine lv_aload_n hx hb xd_Mo_newService_105 rfl (lv_at hl 2 rfl) ?_
            have hFc := va_free (wc := (moW h mm kA v g)) hD hS hA [0, 1, 2, 3, 4, 5, 6, 7, 8, 9, 10, 11, 12, 13, 14, 15, 16, 17, 18, 19, 20, 21, 22, 23, 24, 25] rfl
            refine va_calli (va_runV (As := []) (rest := []) ⟨hx, hb, hml, hown, hT⟩ (xc_Mo_isShut l D kA H.size h mm v g nd (by first | assumption | omega) (by first | assumption | omega)) (cwV 0 hT (wT_V k4e_8 k4e_9 k4e_10 k4e_5 k4e_7) rfl rfl rfl (by decide +kernel) ⟨Nat.le_of_ble_eq_true rfl, Nat.le_of_ble_eq_true rfl⟩) (x_preV hK hP hD 0 rfl rfl) rfl rfl hl.1 rfl (lv_room (Nat.le_of_ble_eq_true rfl)) xd_Mo_newService_106 ⟨Nat.le_of_ble_eq_true rfl, Nat.le_of_ble_eq_true rfl⟩) hS (fun q _ h => hFc q h) hFc (fun r27 u28 t H1 locs ht hvm hp29 hB hz1 hk1 hS => ?_)
            obtain ⟨hP1, hD1⟩ := hB
            rw [ht] at hP1
            have hD1 := hD1.weaken (fun _ _ _ h => hFc _ h)
            generalize H1 = H at hP1 hS ⊢
            have hP := hP1
            have hD := hD1
            have hP : va_P D xcl (moW h mm kA v g) H := hP
            have hD : va_D A (moW h mm kA v g) := hD
            rcases hp29 with ⟨rfl, z30⟩ | ⟨rfl, z31, z32⟩
            · refine xz_ne (a := 1) (tgt := 117) hx hb xd_Mo_newService_109 (by decide) (by omega) (fun _ => ?_) (fun hc33 => absurd hc33 (by omega))
              refine lv_bipush (v := (-2)) hx hb xd_Mo_newService_117 (by decide) ?_
              exact W.iret (v := (-2)) hx hb hr (fun t ht hW => ⟨⟨(-2), (v, g), rfl, ⟨hMI, rfl, Or.inr (Or.inl rfl), congrArg (Prod.mk v) (lS_no1 (fun q => z30.elim (fun z => absurd q.2.2.1 (by omega)) (fun z => z q.2.2.2.2)))⟩, by rw [ht]; exact hP, hD⟩, hS.F ht⟩) hS.2.2 xd_Mo_newService_119
            · refine xz_ne (a := 0) (tgt := 117) hx hb xd_Mo_newService_109 (by decide) (by omega) (fun hc34 => absurd hc34 (by omega)) (fun _ => ?_)
              refine lv_iload hx hb xd_Mo_newService_112 (lv_at hl 1 rfl) ?_
              refine xz_ge (a := f9) (tgt := 120) hx hb xd_Mo_newService_114 (by decide) (by omega) ?_
              refine lv_iload_n hx hb xd_Mo_newService_120 rfl (lv_at hl 3 rfl) ?_
              refine xz_eq (a := 0) (tgt := 139) hx hb xd_Mo_newService_121 (by decide) (by omega) (fun _ => ?_) (fun hc36 => absurd hc36 (by omega))
              refine lv_aload_n hx hb xd_Mo_newService_139 rfl (lv_at hl 2 rfl) ?_
              refine va_get (D := D) (ci := 4) (v := .ref (mm 14)) (C := xR_Mo) (T := xT_Mo) (N := 31) hx hb hT xi_Mo hown hK.1 hP 0 rfl rfl 19 (by decide) (hT _ k4e_11) (fun _ h9 => h9) rfl xd_Mo_newService_140 ?_
              refine lv_iconst (v := 3) hx hb xd_Mo_newService_143 (by decide) ?_
              refine lv_iload_n hx hb xd_Mo_newService_144 rfl (lv_at hl 5 rfl) ?_
              refine lv_imul hx hb xd_Mo_newService_145 ?_
              refine xn_top (y := nI (3 * (nd - 1))) (pk_mul 3 (nd - 1)) ?_
              refine lv_iload hx hb xd_Mo_newService_146 (lv_at hl 1 rfl) ?_
              refine lv_iadd hx hb xd_Mo_newService_148 ?_
              refine xn_top (y := nI ((3 * (nd - 1)) + f9)) (nI_add (3 * (nd - 1)) f9) ?_
              refine lv_iload_n hx hb xd_Mo_newService_149 rfl (lv_at hl 4 rfl) ?_
              refine xn_iast (i := (3 * (nd - 1)) + f9) hx hb hK.1 hP hD hS 15 0 rfl rfl (by omega) (by decide) xd_Mo_newService_150 (fun H locs hP hD hS => ?_)
              have hP : va_P D xcl (moW h mm kA v (va_up g 14 (upd (g 14) ((3 * (nd - 1)) + f9) (nV (g 0) (wb wl 1) (we wl 1))))) H := hP
              have hD : va_D A (moW h mm kA v (va_up g 14 (upd (g 14) ((3 * (nd - 1)) + f9) (nV (g 0) (wb wl 1) (we wl 1))))) := hD
              refine lv_iconst (v := 2) hx hb xd_Mo_newService_151 (by decide) ?_
              exact W.iret (v := 2) hx hb hr (fun t ht hW => ⟨⟨2, (v, (va_up g 14 (upd (g 14) ((3 * (nd - 1)) + f9) (nV (g 0) (wb wl 1) (we wl 1))))), rfl, ⟨MI_g rfl rfl rfl rfl rfl rfl rfl rfl hMI, rfl, Or.inr (Or.inr (Or.inr rfl)), congrArg (Prod.mk v) (lS_ok (by unfold svF; exact ff_some hf9 hf0 (fun k9 hk9 => hfz k9 (by omega) hk9)) ⟨by omega, fun q => hc6 (hn1.symm.trans q), by omega, fun k9 hk9 q => hs9 k9 (by omega) hk9 (q.trans hn1), z32⟩ hn1.symm)⟩, by rw [ht]; exact hP, hD⟩, hS.F ht⟩) hS.2.2 xd_Mo_newService_152
        · have e5 : nI kk - 1 = nI (kk - 1) := pk_sub (a := kk) (b := 1) hz5
          rw [e5] at hl
          refine lv_iload hx hb xd_Mo_newService_41 (lv_at hl 0 rfl) ?_
          refine xz_lt (a := kk - 1) (tgt := 105) hx hb xd_Mo_newService_43 (by decide) (by omega) ?_
          refine lv_iload_n hx hb xd_Mo_newService_46 rfl (lv_at hl 3 rfl) ?_
          refine xz_eq (a := 0) (tgt := 64) hx hb xd_Mo_newService_47 (by decide) (by omega) (fun _ => ?_) (fun hc38 => absurd hc38 (by omega))
          refine lv_aload_n hx hb xd_Mo_newService_64 rfl (lv_at hl 2 rfl) ?_
          refine va_get (D := D) (ci := 4) (v := .ref (mm 14)) (C := xR_Mo) (T := xT_Mo) (N := 31) hx hb hT xi_Mo hown hK.1 hP 0 rfl rfl 19 (by decide) (hT _ k4e_11) (fun _ h9 => h9) rfl xd_Mo_newService_65 ?_
          refine lv_iconst (v := 3) hx hb xd_Mo_newService_68 (by decide) ?_
          refine lv_iload_n hx hb xd_Mo_newService_69 rfl (lv_at hl 5 rfl) ?_
          refine lv_imul hx hb xd_Mo_newService_70 ?_
          refine xn_top (y := nI (3 * (nd - 1))) (pk_mul 3 (nd - 1)) ?_
          refine lv_iload hx hb xd_Mo_newService_71 (lv_at hl 0 rfl) ?_
          refine lv_iadd hx hb xd_Mo_newService_73 ?_
          refine xn_top (y := nI ((3 * (nd - 1)) + (kk - 1))) (nI_add (3 * (nd - 1)) (kk - 1)) ?_
          refine xn_iald (i := (3 * (nd - 1)) + (kk - 1)) hx hb hK.1 hP 15 0 rfl rfl (by omega) (by decide) xd_Mo_newService_74 ?_
          refine lv_istore hx hb xd_Mo_newService_75 hl (Nat.le_of_ble_eq_true rfl) rfl (fun ls hl => ?_)
          have hl : lv_has ls 7 [(6, .int (g 14 ((3 * (nd - 1)) + (kk - 1)))), (5, .int (nI (kk - 1))), (4, .int fr), (0, .ref h), (1, .int 0), (2, .int (nV (g 0) (wb wl 1) (we wl 1))), (3, .int (nI (nd - 1)))] := hl
          refine lv_iload hx hb xd_Mo_newService_77 (lv_at hl 0 rfl) ?_
          refine lv_iload_n hx hb xd_Mo_newService_79 rfl (lv_at hl 5 rfl) ?_
          refine lv_icmp_ne (tgt := 85) hx hb xd_Mo_newService_80 (by decide) (fun hc39 => ?_) (fun hc39 => ?_)
          · refine lv_iload hx hb xd_Mo_newService_85 (lv_at hl 0 rfl) ?_
            refine lv_if_ne (tgt := 95) hx hb xd_Mo_newService_87 (by decide) (fun hc40 => ?_) (fun hc40 => ?_)
            · refine lv_iload hx hb xd_Mo_newService_95 (lv_at hl 2 rfl) ?_
              refine lv_istore hx hb xd_Mo_newService_97 hl (Nat.le_of_ble_eq_true rfl) rfl (fun ls hl => ?_)
              have hl : lv_has ls 7 [(4, .int fr), (6, .int (g 14 ((3 * (nd - 1)) + (kk - 1)))), (5, .int (nI (kk - 1))), (0, .ref h), (1, .int 0), (2, .int (nV (g 0) (wb wl 1) (we wl 1))), (3, .int (nI (nd - 1)))] := hl
              refine lv_iinc (k := 2) (x := (nI (kk - 1))) (v := (nI (kk - 1) - 1)) hx hb xd_Mo_newService_99 hl rfl (by rw [Int32.sub_eq_add_neg]; rfl) (Nat.le_of_ble_eq_true rfl) rfl (fun ls hl => ?_)
              have hl : lv_has ls 7 [(5, .int (nI (kk - 1) - 1)), (4, .int fr), (6, .int (g 14 ((3 * (nd - 1)) + (kk - 1)))), (0, .ref h), (1, .int 0), (2, .int (nV (g 0) (wb wl 1) (we wl 1))), (3, .int (nI (nd - 1)))] := hl
              refine lv_goto (tgt := 37) hx hb xd_Mo_newService_102 (by decide) ?_
              exact ih15 (kk - 1, fr) _ _ _ (show (kk - 1) < kk by omega) (lv_sub hl [0, 1, 3, 4, 5, 6] rfl) hP hD hS ⟨(show (kk - 1) ≤ 3 from by omega), (show ∀ k9, (kk - 1) ≤ k9 → k9 < 3 → ¬ g 14 (3 * (nd - 1) + k9) = nV (g 0) (wb wl 1) (we wl 1) from fun k9 a9 b9 => by
        rcases Nat.lt_or_ge k9 kk with z | z
        · rw [show k9 = kk - 1 by omega]; exact hc39
        · exact hs9 k9 z b9), (show (fr = -1 ∧ ∀ k9, (kk - 1) ≤ k9 → k9 < 3 → ¬ g 14 (3 * (nd - 1) + k9) = 0) ∨ ∃ f9, f9 < 3 ∧ fr = nI f9 ∧ (kk - 1) ≤ f9 ∧ g 14 (3 * (nd - 1) + f9) = 0 ∧ ∀ k9, (kk - 1) ≤ k9 → k9 < f9 → ¬ g 14 (3 * (nd - 1) + k9) = 0 from by
        rcases hfr with ⟨q1, q2⟩ | ⟨f9, q1, q2, q3, q4, q5⟩
        · exact Or.inl ⟨q1, (fun k9 a9 b9 => by
          rcases Nat.lt_or_ge k9 kk with z | z
          · rw [show k9 = kk - 1 by omega]; exact hc40
          · exact q2 k9 z b9)⟩
        · exact Or.inr ⟨f9, q1, q2, by omega, q4, (fun k9 a9 b9 => by
          rcases Nat.lt_or_ge k9 kk with z | z
          · rw [show k9 = kk - 1 by omega]; exact hc40
          · exact q5 k9 z b9)⟩)⟩
            · refine lv_iload hx hb xd_Mo_newService_90 (lv_at hl 1 rfl) ?_
              refine lv_goto (tgt := 97) hx hb xd_Mo_newService_92 (by decide) ?_
              refine lv_istore hx hb xd_Mo_newService_97 hl (Nat.le_of_ble_eq_true rfl) rfl (fun ls hl => ?_)
              have hl : lv_has ls 7 [(4, .int (nI (kk - 1))), (6, .int (g 14 ((3 * (nd - 1)) + (kk - 1)))), (5, .int (nI (kk - 1))), (0, .ref h), (1, .int 0), (2, .int (nV (g 0) (wb wl 1) (we wl 1))), (3, .int (nI (nd - 1)))] := hl
              refine lv_iinc (k := 2) (x := (nI (kk - 1))) (v := (nI (kk - 1) - 1)) hx hb xd_Mo_newService_99 hl rfl (by rw [Int32.sub_eq_add_neg]; rfl) (Nat.le_of_ble_eq_true rfl) rfl (fun ls hl => ?_)
              have hl : lv_has ls 7 [(5, .int (nI (kk - 1) - 1)), (4, .int (nI (kk - 1))), (6, .int (g 14 ((3 * (nd - 1)) + (kk - 1)))), (0, .ref h), (1, .int 0), (2, .int (nV (g 0) (wb wl 1) (we wl 1))), (3, .int (nI (nd - 1)))] := hl
              refine lv_goto (tgt := 37) hx hb xd_Mo_newService_102 (by decide) ?_
              exact ih15 (kk - 1, (nI (kk - 1))) _ _ _ (show (kk - 1) < kk by omega) (lv_sub hl [0, 1, 3, 4, 5, 6] rfl) hP hD hS ⟨(show (kk - 1) ≤ 3 from by omega), (show ∀ k9, (kk - 1) ≤ k9 → k9 < 3 → ¬ g 14 (3 * (nd - 1) + k9) = nV (g 0) (wb wl 1) (we wl 1) from fun k9 a9 b9 => by
        rcases Nat.lt_or_ge k9 kk with z | z
        · rw [show k9 = kk - 1 by omega]; exact hc39
        · exact hs9 k9 z b9), (show ((nI (kk - 1)) = -1 ∧ ∀ k9, (kk - 1) ≤ k9 → k9 < 3 → ¬ g 14 (3 * (nd - 1) + k9) = 0) ∨ ∃ f9, f9 < 3 ∧ (nI (kk - 1)) = nI f9 ∧ (kk - 1) ≤ f9 ∧ g 14 (3 * (nd - 1) + f9) = 0 ∧ ∀ k9, (kk - 1) ≤ k9 → k9 < f9 → ¬ g 14 (3 * (nd - 1) + k9) = 0 from Or.inr ⟨kk - 1, by omega, rfl, by omega, hc40, fun k9 a9 b9 => absurd b9 (by omega)⟩)⟩
          · refine lv_iconst (v := (-1)) hx hb xd_Mo_newService_83 (by decide) ?_
            exact W.iret (v := (-1)) hx hb hr (fun t ht hW => ⟨⟨(-1), (v, g), rfl, ⟨hMI, rfl, Or.inl rfl, congrArg (Prod.mk v) (lS_no1 (fun q => q.2.2.2.1 (kk - 1) (by omega) (hc39.trans hn1.symm)))⟩, by rw [ht]; exact hP, hD⟩, hS.F ht⟩) hS.2.2 xd_Mo_newService_84
    · refine lv_iconst (v := (-1)) hx hb xd_Mo_newService_22 (by decide) ?_
      exact W.iret (v := (-1)) hx hb hr (fun t ht hW => ⟨⟨(-1), (v, g), rfl, ⟨hMI, rfl, Or.inl rfl, congrArg (Prod.mk v) (lS_no1 (fun q => q.2.1 ((wN_in (by omega)).trans hc6)))⟩, by rw [ht]; exact hP, hD⟩, hS.F ht⟩) hS.2.2 xd_Mo_newService_23
set_option maxHeartbeats 4000000 in
set_option maxRecDepth 100000 in
theorem xc_Mo_newService1X (l : Launch) (D : va_G) (kA : Nat → ClassId) (sz h : Nat) (mm : Nat → Nat) (v : Nat → Int32) (g : Nat → Nat → Int32) (wl : List (Nat × Nat)) (nd : Nat) (hMI : MI v g) (hWX : WX v g wl) (hnd : v 4 = nI nd) (hnd12 : nd ≤ 12) : Met l xy_Mo_newService (.code xy_Mo_newService xb_Mo_newService 7 (some .int) :: wT) { frames := 1, cells := 0, slots := 0, locals := 23 } (va_Pc [.ref h, .int 1] (xPre D kA sz (moW h mm kA v g))) (va_Qi (fun (r : Int32) (u : (Nat → Int32) × (Nat → Nat → Int32)) => MI u.1 u.2 ∧ u.1 2 = v 2 ∧ (r = -1 ∨ r = -2 ∨ r = 1 ∨ r = 2) ∧ u = (v, lS 15 (g 0) wl nd g)) (fun (u : (Nat → Int32) × (Nat → Nat → Int32)) t => va_P D xcl (moW h mm kA u.1 u.2) t.heap ∧ va_D (va_A (moW h mm kA v g) sz) (moW h mm kA u.1 u.2)) (va_A (moW h mm kA v g) sz)) 0 0 (va_A (moW h mm kA v g) sz) := by
  refine Met.ofW (cc := xb_Mo_newService) (maxL := 7) (ret := (some .int)) (by decide) rfl ?_
  intro p e s m args below meth c s₁ B hml hv
  obtain ⟨rfl, hsz, hP, hK, hD0⟩ := hv
  have hx := B.exec
  have hb := B.bytes
  have hr := B.returns
  have hT := x_hT B.pre
  have hown : s.vm.findClass xR_Mo = some m.cls := findClass_of_methodNamed B.named
  have hlocks := B.notSynchronized
  subst hsz
  have hD := hD0.self (sz := s.heap.size)
  generalize hAe : va_A (moW h mm kA v g) s.heap.size = A at hD ⊢
  have hA : ∀ q : Nat, s.heap.size ≤ q → A q := fun q h => by rw [← hAe]; exact Or.inr h
  have hS : va_S A s.heap s.heap [] := va_S.rf
  have hl := lv_entry ([.ref h, .int 1]) (n := 7) (Nat.le_of_ble_eq_true rfl)
  rw [lg_entry_eq]
  generalize (lg_sl ([.ref h, .int 1]) ++ List.replicate (7 - (lg_sl ([.ref h, .int 1])).length) Slot.unset).toArray = ls at hl ⊢
  have hl : lv_has ls 7 [(0, .ref h), (1, .int 1)] := hl
  have hP : va_P D xcl (moW h mm kA v g) s.heap := hP
  obtain ⟨-, ⟨nl, hnl5, hnl, hpar⟩, hch, hpk, hrq, hmd, huq⟩ := id hMI
  obtain ⟨hwn, ⟨hwn20, hwlr⟩, hws⟩ := id hWX
  refine lv_aload_n hx hb xd_Mo_newService_0 rfl (lv_at hl 0 rfl) ?_
  refine va_get (D := D) (ci := 4) (v := .int (v 3)) (C := xR_Mo) (T := xT_Mo) (N := 31) hx hb hT xi_Mo hown hK.1 hP 0 rfl rfl 4 (by decide) (hT _ k4e_0) (fun _ h9 => h9) rfl xd_Mo_newService_1 ?_
  refine xn_top (x := (v 3)) (y := nI wl.length) hwn ?_
  refine lv_iconst (v := 2) hx hb xd_Mo_newService_4 (by decide) ?_
  refine xn_ne (a := wl.length) (b := 2) (tgt := 16) hx hb xd_Mo_newService_5 (by decide) (by omega) (by omega) (fun hc1 => ?_) (fun hc1 => ?_)
  · refine lv_iconst (v := 0) hx hb xd_Mo_newService_16 (by decide) ?_
    refine lv_istore_n hx hb xd_Mo_newService_17 rfl hl (Nat.le_of_ble_eq_true rfl) rfl (fun ls hl => ?_)
    have hl : lv_has ls 7 [(2, .int 0), (0, .ref h), (1, .int 1)] := hl
    refine lv_iload_n hx hb xd_Mo_newService_18 rfl (lv_at hl 0 rfl) ?_
    refine xz_ne (a := 0) (tgt := 24) hx hb xd_Mo_newService_19 (by decide) (by omega) (fun hc2 => absurd hc2 (by omega)) (fun _ => ?_)
    refine lv_iconst (v := (-1)) hx hb xd_Mo_newService_22 (by decide) ?_
    exact W.iret (v := (-1)) hx hb hr (fun t ht hW => ⟨⟨(-1), (v, g), rfl, ⟨hMI, rfl, Or.inl rfl, congrArg (Prod.mk v) (lS_no1 (fun q => absurd q.1 (by omega)))⟩, by rw [ht]; exact hP, hD⟩, hS.F ht⟩) hS.2.2 xd_Mo_newService_23
  · have hbe1 := (hwlr 1 (by omega)).1
    have he1 := (hwlr 1 (by omega)).2
    have eb1 := (hws 1 (by omega)).1
    have ee1 := (hws 1 (by omega)).2
    refine lv_aload_n hx hb xd_Mo_newService_8 rfl (lv_at hl 0 rfl) ?_
    refine lv_iconst (v := 1) hx hb xd_Mo_newService_9 (by decide) ?_
    have hFc := va_free (wc := (moW h mm kA v g)) hD hS hA [0, 1, 2, 3, 4, 5, 6, 7, 8, 9, 10, 11, 12, 13, 14, 15, 16, 17, 18, 19, 20, 21, 22, 23, 24, 25] rfl
    refine va_calli (va_runV (As := [.int 1]) (rest := []) ⟨hx, hb, hml, hown, hT⟩ (xc_Mo_nameOfX l D kA s.heap.size h mm v g 1 (wb wl 1) (we wl 1) (by first | assumption | omega) (by first | assumption | omega) (by first | assumption | omega) (by first | assumption | omega) (by first | assumption | omega)) (cwV 1 hT (wT_V k4e_2 k4e_3 k4e_4 k4e_5 k4e_1) rfl rfl rfl (by decide +kernel) ⟨Nat.le_of_ble_eq_true rfl, Nat.le_of_ble_eq_true rfl⟩) (x_preV hK hP hD 0 rfl rfl) rfl rfl hl.1 rfl (lv_room (Nat.le_of_ble_eq_true rfl)) xd_Mo_newService_10 ⟨Nat.le_of_ble_eq_true rfl, Nat.le_of_ble_eq_true rfl⟩) hS (fun q _ h => hFc q h) hFc (fun r3 u4 t H1 locs ht hvm hp5 hB hz1 hk1 hS => ?_)
    obtain ⟨hP1, hD1⟩ := hB
    rw [ht] at hP1
    have hD1 := hD1.weaken (fun _ _ _ h => hFc _ h)
    generalize H1 = H at hP1 hS ⊢
    have hP := hP1
    have hD := hD1
    have hP : va_P D xcl (moW h mm kA v g) H := hP
    have hD : va_D A (moW h mm kA v g) := hD
    have hp5 : r3 = nV (g 0) (wb wl 1) (we wl 1) := hp5
    subst hp5
    have hP : va_P D xcl (moW h mm kA v g) H := hP
    have hD : va_D A (moW h mm kA v g) := hD
    refine lv_goto (tgt := 17) hx hb xd_Mo_newService_13 (by decide) ?_
    refine lv_istore_n hx hb xd_Mo_newService_17 rfl hl (Nat.le_of_ble_eq_true rfl) rfl (fun ls hl => ?_)
    have hl : lv_has ls 7 [(2, .int (nV (g 0) (wb wl 1) (we wl 1))), (0, .ref h), (1, .int 1)] := hl
    refine lv_iload_n hx hb xd_Mo_newService_18 rfl (lv_at hl 0 rfl) ?_
    refine lv_if_ne (tgt := 24) hx hb xd_Mo_newService_19 (by decide) (fun hc6 => ?_) (fun hc6 => ?_)
    · rcases Nat.eq_zero_or_pos nd with hz | hz
      · have hnd0 : v 4 = nI 0 := by rw [hnd, hz]
        have hn1 : wN (g 0) wl 1 = nV (g 0) (wb wl 1) (we wl 1) := wN_in (by omega)
        refine lv_aload_n hx hb xd_Mo_newService_24 rfl (lv_at hl 1 rfl) ?_
        refine va_get (D := D) (ci := 4) (v := .int (v 4)) (C := xR_Mo) (T := xT_Mo) (N := 31) hx hb hT xi_Mo hown hK.1 hP 0 rfl rfl 7 (by decide) (hT _ k4e_6) (fun _ h9 => h9) rfl xd_Mo_newService_25 ?_
        refine xn_top (x := (v 4)) (y := nI 0) hnd0 ?_
        refine lv_iconst (v := 1) hx hb xd_Mo_newService_28 (by decide) ?_
        refine lv_isub hx hb xd_Mo_newService_29 ?_
        refine lv_istore_n hx hb xd_Mo_newService_30 rfl hl (Nat.le_of_ble_eq_true rfl) rfl (fun ls hl => ?_)
        have hl : lv_has ls 7 [(3, .int ((nI 0) - 1)), (2, .int (nV (g 0) (wb wl 1) (we wl 1))), (0, .ref h), (1, .int 1)] := hl
        refine lv_iconst (v := (-1)) hx hb xd_Mo_newService_31 (by decide) ?_
        refine lv_istore hx hb xd_Mo_newService_32 hl (Nat.le_of_ble_eq_true rfl) rfl (fun ls hl => ?_)
        have hl : lv_has ls 7 [(4, .int (-1)), (3, .int ((nI 0) - 1)), (2, .int (nV (g 0) (wb wl 1) (we wl 1))), (0, .ref h), (1, .int 1)] := hl
        refine lv_iconst (v := 2) hx hb xd_Mo_newService_34 (by decide) ?_
        refine lv_istore hx hb xd_Mo_newService_35 hl (Nat.le_of_ble_eq_true rfl) rfl (fun ls hl => ?_)
        have hl : lv_has ls 7 [(5, .int 2), (4, .int (-1)), (3, .int ((nI 0) - 1)), (2, .int (nV (g 0) (wb wl 1) (we wl 1))), (0, .ref h), (1, .int 1)] := hl
        refine lv_iload_n hx hb xd_Mo_newService_37 rfl (lv_at hl 2 rfl) ?_
        refine lv_if_lt (tgt := 105) hx hb xd_Mo_newService_38 (by decide) (fun _ => ?_) (fun hc7 => absurd hc7 (by decide))
        refine lv_aload_n hx hb xd_Mo_newService_105 rfl (lv_at hl 4 rfl) ?_
        have hFc := va_free (wc := (moW h mm kA v g)) hD hS hA [0, 1, 2, 3, 4, 5, 6, 7, 8, 9, 10, 11, 12, 13, 14, 15, 16, 17, 18, 19, 20, 21, 22, 23, 24, 25] rfl
        refine va_calli (va_runV (As := []) (rest := []) ⟨hx, hb, hml, hown, hT⟩ (xc_Mo_isShut l D kA H.size h mm v g nd (by first | assumption | omega) (by first | assumption | omega)) (cwV 0 hT (wT_V k4e_8 k4e_9 k4e_10 k4e_5 k4e_7) rfl rfl rfl (by decide +kernel) ⟨Nat.le_of_ble_eq_true rfl, Nat.le_of_ble_eq_true rfl⟩) (x_preV hK hP hD 0 rfl rfl) rfl rfl hl.1 rfl (lv_room (Nat.le_of_ble_eq_true rfl)) xd_Mo_newService_106 ⟨Nat.le_of_ble_eq_true rfl, Nat.le_of_ble_eq_true rfl⟩) hS (fun q _ h => hFc q h) hFc (fun r8 u9 t H1 locs ht hvm hp10 hB hz1 hk1 hS => ?_)
        obtain ⟨hP1, hD1⟩ := hB
        rw [ht] at hP1
        have hD1 := hD1.weaken (fun _ _ _ h => hFc _ h)
        generalize H1 = H at hP1 hS ⊢
        have hP := hP1
        have hD := hD1
        have hP : va_P D xcl (moW h mm kA v g) H := hP
        have hD : va_D A (moW h mm kA v g) := hD
        rcases hp10 with ⟨rfl, z11⟩ | ⟨rfl, z12, z13⟩
        · refine xz_ne (a := 1) (tgt := 117) hx hb xd_Mo_newService_109 (by decide) (by omega) (fun _ => ?_) (fun hc14 => absurd hc14 (by omega))
          refine lv_bipush (v := (-2)) hx hb xd_Mo_newService_117 (by decide) ?_
          exact W.iret (v := (-2)) hx hb hr (fun t ht hW => ⟨⟨(-2), (v, g), rfl, ⟨hMI, rfl, Or.inr (Or.inl rfl), congrArg (Prod.mk v) (lS_no1 (fun q => absurd q.2.2.1 (by omega)))⟩, by rw [ht]; exact hP, hD⟩, hS.F ht⟩) hS.2.2 xd_Mo_newService_119
        · exact absurd hz z12
      · have hn1 : wN (g 0) wl 1 = nV (g 0) (wb wl 1) (we wl 1) := wN_in (by omega)
        refine lv_aload_n hx hb xd_Mo_newService_24 rfl (lv_at hl 1 rfl) ?_
        refine va_get (D := D) (ci := 4) (v := .int (v 4)) (C := xR_Mo) (T := xT_Mo) (N := 31) hx hb hT xi_Mo hown hK.1 hP 0 rfl rfl 7 (by decide) (hT _ k4e_6) (fun _ h9 => h9) rfl xd_Mo_newService_25 ?_
        refine xn_top (x := (v 4)) (y := nI nd) hnd ?_
        refine lv_iconst (v := 1) hx hb xd_Mo_newService_28 (by decide) ?_
        refine lv_isub hx hb xd_Mo_newService_29 ?_
        refine xn_top (y := nI (nd - 1)) (pk_sub (a := nd) (b := 1) (by omega)) ?_
        refine lv_istore_n hx hb xd_Mo_newService_30 rfl hl (Nat.le_of_ble_eq_true rfl) rfl (fun ls hl => ?_)
        have hl : lv_has ls 7 [(3, .int (nI (nd - 1))), (2, .int (nV (g 0) (wb wl 1) (we wl 1))), (0, .ref h), (1, .int 1)] := hl
        refine lv_iconst (v := (-1)) hx hb xd_Mo_newService_31 (by decide) ?_
        refine lv_istore hx hb xd_Mo_newService_32 hl (Nat.le_of_ble_eq_true rfl) rfl (fun ls hl => ?_)
        have hl : lv_has ls 7 [(4, .int (-1)), (3, .int (nI (nd - 1))), (2, .int (nV (g 0) (wb wl 1) (we wl 1))), (0, .ref h), (1, .int 1)] := hl
        refine lv_iconst (v := 2) hx hb xd_Mo_newService_34 (by decide) ?_
        refine lv_istore hx hb xd_Mo_newService_35 hl (Nat.le_of_ble_eq_true rfl) rfl (fun ls hl => ?_)
        have hl : lv_has ls 7 [(5, .int 2), (4, .int (-1)), (3, .int (nI (nd - 1))), (2, .int (nV (g 0) (wb wl 1) (we wl 1))), (0, .ref h), (1, .int 1)] := hl
        have e25 : (2 : Int32) = nI 3 - 1 := by decide
        rw [e25] at hl
        refine xlab (σ := Nat × Int32) (ml := 7) 37 (fun (kk, fr) => [(5, .int (nI kk - 1)), (4, .int fr), (0, .ref h), (1, .int 1), (2, .int (nV (g 0) (wb wl 1) (we wl 1))), (3, .int (nI (nd - 1)))]) (fun (kk, fr) => []) (fun (kk, fr) => moW h mm kA v g) (fun (kk, fr) => (kk ≤ 3) ∧ (∀ k9, kk ≤ k9 → k9 < 3 → ¬ g 15 (3 * (nd - 1) + k9) = nV (g 0) (wb wl 1) (we wl 1)) ∧ ((fr = -1 ∧ ∀ k9, kk ≤ k9 → k9 < 3 → ¬ g 15 (3 * (nd - 1) + k9) = 0) ∨ ∃ f9, f9 < 3 ∧ fr = nI f9 ∧ kk ≤ f9 ∧ g 15 (3 * (nd - 1) + f9) = 0 ∧ ∀ k9, kk ≤ k9 → k9 < f9 → ¬ g 15 (3 * (nd - 1) + k9) = 0)) (fun (kk, fr) => kk) ?_ (3, (-1)) _ _ _ (lv_sub hl [0, 1, 4, 5, 3, 2] rfl) hP hD hS ⟨(show 3 ≤ 3 from by omega), (show ∀ k9, 3 ≤ k9 → k9 < 3 → ¬ g 15 (3 * (nd - 1) + k9) = nV (g 0) (wb wl 1) (we wl 1) from fun k9 a9 b9 => absurd b9 (by omega)), (show ((-1) = -1 ∧ ∀ k9, 3 ≤ k9 → k9 < 3 → ¬ g 15 (3 * (nd - 1) + k9) = 0) ∨ ∃ f9, f9 < 3 ∧ (-1) = nI f9 ∧ 3 ≤ f9 ∧ g 15 (3 * (nd - 1) + f9) = 0 ∧ ∀ k9, 3 ≤ k9 → k9 < f9 → ¬ g 15 (3 * (nd - 1) + k9) = 0 from Or.inl ⟨rfl, fun k9 a9 b9 => absurd b9 (by omega)⟩)⟩
        intro n9 ih15 a9 ls H locs hμ hl hP hD hS hI
        subst hμ
        obtain ⟨kk, fr⟩ := a9
        obtain ⟨hkk, hs9, hfr⟩ := hI
        have hkk : kk ≤ 3 := hkk
        have hs9 : ∀ k9, kk ≤ k9 → k9 < 3 → ¬ g 15 (3 * (nd - 1) + k9) = nV (g 0) (wb wl 1) (we wl 1) := hs9
        have hfr : (fr = -1 ∧ ∀ k9, kk ≤ k9 → k9 < 3 → ¬ g 15 (3 * (nd - 1) + k9) = 0) ∨ ∃ f9, f9 < 3 ∧ fr = nI f9 ∧ kk ≤ f9 ∧ g 15 (3 * (nd - 1) + f9) = 0 ∧ ∀ k9, kk ≤ k9 → k9 < f9 → ¬ g 15 (3 * (nd - 1) + k9) = 0 := hfr
        have hl : lv_has ls 7 [(5, .int (nI kk - 1)), (4, .int fr), (0, .ref h), (1, .int 1), (2, .int (nV (g 0) (wb wl 1) (we wl 1))), (3, .int (nI (nd - 1)))] := hl
        have hP : va_P D xcl (moW h mm kA v g) H := hP
        have hD : va_D A (moW h mm kA v g) := hD
        refine lv_iload_n hx hb xd_Mo_newService_37 rfl (lv_at hl 5 rfl) ?_
        refine xz_lt (a := nd - 1) (tgt := 105) hx hb xd_Mo_newService_38 (by decide) (by omega) ?_
        rcases Nat.eq_zero_or_pos kk with hz5 | hz5
        · have e5 : nI kk - 1 = -1 := by rw [hz5]; decide
          rw [e5] at hl
          refine lv_iload hx hb xd_Mo_newService_41 (lv_at hl 0 rfl) ?_
          refine lv_if_lt (tgt := 105) hx hb xd_Mo_newService_43 (by decide) (fun _ => ?_) (fun hc17 => absurd hc17 (by decide))
          rcases hfr with ⟨hfr, hfz⟩ | ⟨f9, hf9, hfr, hfk, hf0, hfz⟩
          · rw [hfr] at hl
            refine lv_aload_n hx hb xd_Mo_newService_105 rfl (lv_at hl 2 rfl) ?_
            have hFc := va_free (wc := (moW h mm kA v g)) hD hS hA [0, 1, 2, 3, 4, 5, 6, 7, 8, 9, 10, 11, 12, 13, 14, 15, 16, 17, 18, 19, 20, 21, 22, 23, 24, 25] rfl
            refine va_calli (va_runV (As := []) (rest := []) ⟨hx, hb, hml, hown, hT⟩ (xc_Mo_isShut l D kA H.size h mm v g nd (by first | assumption | omega) (by first | assumption | omega)) (cwV 0 hT (wT_V k4e_8 k4e_9 k4e_10 k4e_5 k4e_7) rfl rfl rfl (by decide +kernel) ⟨Nat.le_of_ble_eq_true rfl, Nat.le_of_ble_eq_true rfl⟩) (x_preV hK hP hD 0 rfl rfl) rfl rfl hl.1 rfl (lv_room (Nat.le_of_ble_eq_true rfl)) xd_Mo_newService_106 ⟨Nat.le_of_ble_eq_true rfl, Nat.le_of_ble_eq_true rfl⟩) hS (fun q _ h => hFc q h) hFc (fun r18 u19 t H1 locs ht hvm hp20 hB hz1 hk1 hS => ?_)
            obtain ⟨hP1, hD1⟩ := hB
            rw [ht] at hP1
            have hD1 := hD1.weaken (fun _ _ _ h => hFc _ h)
            generalize H1 = H at hP1 hS ⊢
            have hP := hP1
            have hD := hD1
            have hP : va_P D xcl (moW h mm kA v g) H := hP
            have hD : va_D A (moW h mm kA v g) := hD
            rcases hp20 with ⟨rfl, z21⟩ | ⟨rfl, z22, z23⟩
            · refine xz_ne (a := 1) (tgt := 117) hx hb xd_Mo_newService_109 (by decide) (by omega) (fun _ => ?_) (fun hc24 => absurd hc24 (by omega))
              refine lv_bipush (v := (-2)) hx hb xd_Mo_newService_117 (by decide) ?_
              exact W.iret (v := (-2)) hx hb hr (fun t ht hW => ⟨⟨(-2), (v, g), rfl, ⟨hMI, rfl, Or.inr (Or.inl rfl), congrArg (Prod.mk v) (lS_no1 (fun q => z21.elim (fun z => absurd q.2.2.1 (by omega)) (fun z => z q.2.2.2.2)))⟩, by rw [ht]; exact hP, hD⟩, hS.F ht⟩) hS.2.2 xd_Mo_newService_119
            · refine xz_ne (a := 0) (tgt := 117) hx hb xd_Mo_newService_109 (by decide) (by omega) (fun hc25 => absurd hc25 (by omega)) (fun _ => ?_)
              refine lv_iload hx hb xd_Mo_newService_112 (lv_at hl 1 rfl) ?_
              refine lv_if_ge (tgt := 120) hx hb xd_Mo_newService_114 (by decide) (fun hc26 => absurd hc26 (by decide)) (fun _ => ?_)
              refine lv_bipush (v := (-2)) hx hb xd_Mo_newService_117 (by decide) ?_
              exact W.iret (v := (-2)) hx hb hr (fun t ht hW => ⟨⟨(-2), (v, g), rfl, ⟨hMI, rfl, Or.inr (Or.inl rfl), congrArg (Prod.mk v) (lS_no2 (by unfold svF; exact ff_none (fun k9 hk9 => hfz k9 (by omega) hk9)))⟩, by rw [ht]; exact hP, hD⟩, hS.F ht⟩) hS.2.2 xd_Mo_newService_119
          · rw [hfr] at hl
            refine lv_aload_n hx hb xd_Mo_newService_105 rfl (lv_at hl 2 rfl) ?_
            have hFc := va_free (wc := (moW h mm kA v g)) hD hS hA [0, 1, 2, 3, 4, 5, 6, 7, 8, 9, 10, 11, 12, 13, 14, 15, 16, 17, 18, 19, 20, 21, 22, 23, 24, 25] rfl
            refine va_calli (va_runV (As := []) (rest := []) ⟨hx, hb, hml, hown, hT⟩ (xc_Mo_isShut l D kA H.size h mm v g nd (by first | assumption | omega) (by first | assumption | omega)) (cwV 0 hT (wT_V k4e_8 k4e_9 k4e_10 k4e_5 k4e_7) rfl rfl rfl (by decide +kernel) ⟨Nat.le_of_ble_eq_true rfl, Nat.le_of_ble_eq_true rfl⟩) (x_preV hK hP hD 0 rfl rfl) rfl rfl hl.1 rfl (lv_room (Nat.le_of_ble_eq_true rfl)) xd_Mo_newService_106 ⟨Nat.le_of_ble_eq_true rfl, Nat.le_of_ble_eq_true rfl⟩) hS (fun q _ h => hFc q h) hFc (fun r27 u28 t H1 locs ht hvm hp29 hB hz1 hk1 hS => ?_)
            obtain ⟨hP1, hD1⟩ := hB
            rw [ht] at hP1
            have hD1 := hD1.weaken (fun _ _ _ h => hFc _ h)
            generalize H1 = H at hP1 hS ⊢
            have hP := hP1
            have hD := hD1
            have hP : va_P D xcl (moW h mm kA v g) H := hP
            have hD : va_D A (moW h mm kA v g) := hD
            rcases hp29 with ⟨rfl, z30⟩ | ⟨rfl, z31, z32⟩
            · refine xz_ne (a := 1) (tgt := 117) hx hb xd_Mo_newService_109 (by decide) (by omega) (fun _ => ?_) (fun hc33 => absurd hc33 (by omega))
              refine lv_bipush (v := (-2)) hx hb xd_Mo_newService_117 (by decide) ?_
              exact W.iret (v := (-2)) hx hb hr (fun t ht hW => ⟨⟨(-2), (v, g), rfl, ⟨hMI, rfl, Or.inr (Or.inl rfl), congrArg (Prod.mk v) (lS_no1 (fun q => z30.elim (fun z => absurd q.2.2.1 (by omega)) (fun z => z q.2.2.2.2)))⟩, by rw [ht]; exact hP, hD⟩, hS.F ht⟩) hS.2.2 xd_Mo_newService_119
            · refine xz_ne (a := 0) (tgt := 117) hx hb xd_Mo_newService_109 (by decide) (by omega) (fun hc34 => absurd hc34 (by omega)) (fun _ => ?_)
              refine lv_iload hx hb xd_Mo_newService_112 (lv_at hl 1 rfl) ?_
              refine xz_ge (a := f9) (tgt := 120) hx hb xd_Mo_newService_114 (by decide) (by omega) ?_
              refine lv_iload_n hx hb xd_Mo_newService_120 rfl (lv_at hl 3 rfl) ?_
              refine xz_eq (a := 1) (tgt := 139) hx hb xd_Mo_newService_121 (by decide) (by omega) (fun hc36 => absurd hc36 (by omega)) (fun _ => ?_)
              refine lv_aload_n hx hb xd_Mo_newService_124 rfl (lv_at hl 2 rfl) ?_
              refine va_get (D := D) (ci := 4) (v := .ref (mm 15)) (C := xR_Mo) (T := xT_Mo) (N := 31) hx hb hT xi_Mo hown hK.1 hP 0 rfl rfl 20 (by decide) (hT _ k4e_12) (fun _ h9 => h9) rfl xd_Mo_newService_125 ?_
              refine lv_iconst (v := 3) hx hb xd_Mo_newService_128 (by decide) ?_
              refine lv_iload_n hx hb xd_Mo_newService_129 rfl (lv_at hl 5 rfl) ?_
              refine lv_imul hx hb xd_Mo_newService_130 ?_
              refine xn_top (y := nI (3 * (nd - 1))) (pk_mul 3 (nd - 1)) ?_
              refine lv_iload hx hb xd_Mo_newService_131 (lv_at hl 1 rfl) ?_
              refine lv_iadd hx hb xd_Mo_newService_133 ?_
              refine xn_top (y := nI ((3 * (nd - 1)) + f9)) (nI_add (3 * (nd - 1)) f9) ?_
              refine lv_iload_n hx hb xd_Mo_newService_134 rfl (lv_at hl 4 rfl) ?_
              refine xn_iast (i := (3 * (nd - 1)) + f9) hx hb hK.1 hP hD hS 16 0 rfl rfl (by omega) (by decide) xd_Mo_newService_135 (fun H locs hP hD hS => ?_)
              have hP : va_P D xcl (moW h mm kA v (va_up g 15 (upd (g 15) ((3 * (nd - 1)) + f9) (nV (g 0) (wb wl 1) (we wl 1))))) H := hP
              have hD : va_D A (moW h mm kA v (va_up g 15 (upd (g 15) ((3 * (nd - 1)) + f9) (nV (g 0) (wb wl 1) (we wl 1))))) := hD
              refine lv_goto (tgt := 151) hx hb xd_Mo_newService_136 (by decide) ?_
              refine lv_iconst (v := 2) hx hb xd_Mo_newService_151 (by decide) ?_
              exact W.iret (v := 2) hx hb hr (fun t ht hW => ⟨⟨2, (v, (va_up g 15 (upd (g 15) ((3 * (nd - 1)) + f9) (nV (g 0) (wb wl 1) (we wl 1))))), rfl, ⟨MI_g rfl rfl rfl rfl rfl rfl rfl rfl hMI, rfl, Or.inr (Or.inr (Or.inr rfl)), congrArg (Prod.mk v) (lS_ok (by unfold svF; exact ff_some hf9 hf0 (fun k9 hk9 => hfz k9 (by omega) hk9)) ⟨by omega, fun q => hc6 (hn1.symm.trans q), by omega, fun k9 hk9 q => hs9 k9 (by omega) hk9 (q.trans hn1), z32⟩ hn1.symm)⟩, by rw [ht]; exact hP, hD⟩, hS.F ht⟩) hS.2.2 xd_Mo_newService_152
        · have e5 : nI kk - 1 = nI (kk - 1) := pk_sub (a := kk) (b := 1) hz5
          rw [e5] at hl
          refine lv_iload hx hb xd_Mo_newService_41 (lv_at hl 0 rfl) ?_
          refine xz_lt (a := kk - 1) (tgt := 105) hx hb xd_Mo_newService_43 (by decide) (by omega) ?_
          refine lv_iload_n hx hb xd_Mo_newService_46 rfl (lv_at hl 3 rfl) ?_
          refine xz_eq (a := 1) (tgt := 64) hx hb xd_Mo_newService_47 (by decide) (by omega) (fun hc38 => absurd hc38 (by omega)) (fun _ => ?_)
          refine lv_aload_n hx hb xd_Mo_newService_50 rfl (lv_at hl 2 rfl) ?_
          refine va_get (D := D) (ci := 4) (v := .ref (mm 15)) (C := xR_Mo) (T := xT_Mo) (N := 31) hx hb hT xi_Mo hown hK.1 hP 0 rfl rfl 20 (by decide) (hT _ k4e_12) (fun _ h9 => h9) rfl xd_Mo_newService_51 ?_
          refine lv_iconst (v := 3) hx hb xd_Mo_newService_54 (by decide) ?_
          refine lv_iload_n hx hb xd_Mo_newService_55 rfl (lv_at hl 5 rfl) ?_
          refine lv_imul hx hb xd_Mo_newService_56 ?_
          refine xn_top (y := nI (3 * (nd - 1))) (pk_mul 3 (nd - 1)) ?_
          refine lv_iload hx hb xd_Mo_newService_57 (lv_at hl 0 rfl) ?_
          refine lv_iadd hx hb xd_Mo_newService_59 ?_
          refine xn_top (y := nI ((3 * (nd - 1)) + (kk - 1))) (nI_add (3 * (nd - 1)) (kk - 1)) ?_
          refine xn_iald (i := (3 * (nd - 1)) + (kk - 1)) hx hb hK.1 hP 16 0 rfl rfl (by omega) (by decide) xd_Mo_newService_60 ?_
          refine lv_goto (tgt := 75) hx hb xd_Mo_newService_61 (by decide) ?_
          refine lv_istore hx hb xd_Mo_newService_75 hl (Nat.le_of_ble_eq_true rfl) rfl (fun ls hl => ?_)
          have hl : lv_has ls 7 [(6, .int (g 15 ((3 * (nd - 1)) + (kk - 1)))), (5, .int (nI (kk - 1))), (4, .int fr), (0, .ref h), (1, .int 1), (2, .int (nV (g 0) (wb wl 1) (we wl 1))), (3, .int (nI (nd - 1)))] := hl
          refine lv_iload hx hb xd_Mo_newService_77 (lv_at hl 0 rfl) ?_
          refine lv_iload_n hx hb xd_Mo_newService_79 rfl (lv_at hl 5 rfl) ?_
          refine lv_icmp_ne (tgt := 85) hx hb xd_Mo_newService_80 (by decide) (fun hc39 => ?_) (fun hc39 => ?_)
          · refine lv_iload hx hb xd_Mo_newService_85 (lv_at hl 0 rfl) ?_
            refine lv_if_ne (tgt := 95) hx hb xd_Mo_newService_87 (by decide) (fun hc40 => ?_) (fun hc40 => ?_)
            · refine lv_iload hx hb xd_Mo_newService_95 (lv_at hl 2 rfl) ?_
              refine lv_istore hx hb xd_Mo_newService_97 hl (Nat.le_of_ble_eq_true rfl) rfl (fun ls hl => ?_)
              have hl : lv_has ls 7 [(4, .int fr), (6, .int (g 15 ((3 * (nd - 1)) + (kk - 1)))), (5, .int (nI (kk - 1))), (0, .ref h), (1, .int 1), (2, .int (nV (g 0) (wb wl 1) (we wl 1))), (3, .int (nI (nd - 1)))] := hl
              refine lv_iinc (k := 2) (x := (nI (kk - 1))) (v := (nI (kk - 1) - 1)) hx hb xd_Mo_newService_99 hl rfl (by rw [Int32.sub_eq_add_neg]; rfl) (Nat.le_of_ble_eq_true rfl) rfl (fun ls hl => ?_)
              have hl : lv_has ls 7 [(5, .int (nI (kk - 1) - 1)), (4, .int fr), (6, .int (g 15 ((3 * (nd - 1)) + (kk - 1)))), (0, .ref h), (1, .int 1), (2, .int (nV (g 0) (wb wl 1) (we wl 1))), (3, .int (nI (nd - 1)))] := hl
              refine lv_goto (tgt := 37) hx hb xd_Mo_newService_102 (by decide) ?_
              exact ih15 (kk - 1, fr) _ _ _ (show (kk - 1) < kk by omega) (lv_sub hl [0, 1, 3, 4, 5, 6] rfl) hP hD hS ⟨(show (kk - 1) ≤ 3 from by omega), (show ∀ k9, (kk - 1) ≤ k9 → k9 < 3 → ¬ g 15 (3 * (nd - 1) + k9) = nV (g 0) (wb wl 1) (we wl 1) from fun k9 a9 b9 => by
        rcases Nat.lt_or_ge k9 kk with z | z
        · rw [show k9 = kk - 1 by omega]; exact hc39
        · exact hs9 k9 z b9), (show (fr = -1 ∧ ∀ k9, (kk - 1) ≤ k9 → k9 < 3 → ¬ g 15 (3 * (nd - 1) + k9) = 0) ∨ ∃ f9, f9 < 3 ∧ fr = nI f9 ∧ (kk - 1) ≤ f9 ∧ g 15 (3 * (nd - 1) + f9) = 0 ∧ ∀ k9, (kk - 1) ≤ k9 → k9 < f9 → ¬ g 15 (3 * (nd - 1) + k9) = 0 from by
        rcases hfr with ⟨q1, q2⟩ | ⟨f9, q1, q2, q3, q4, q5⟩
        · exact Or.inl ⟨q1, (fun k9 a9 b9 => by
          rcases Nat.lt_or_ge k9 kk with z | z
          · rw [show k9 = kk - 1 by omega]; exact hc40
          · exact q2 k9 z b9)⟩
        · exact Or.inr ⟨f9, q1, q2, by omega, q4, (fun k9 a9 b9 => by
          rcases Nat.lt_or_ge k9 kk with z | z
          · rw [show k9 = kk - 1 by omega]; exact hc40
          · exact q5 k9 z b9)⟩)⟩
            · refine lv_iload hx hb xd_Mo_newService_90 (lv_at hl 1 rfl) ?_
              refine lv_goto (tgt := 97) hx hb xd_Mo_newService_92 (by decide) ?_
              refine lv_istore hx hb xd_Mo_newService_97 hl (Nat.le_of_ble_eq_true rfl) rfl (fun ls hl => ?_)
              have hl : lv_has ls 7 [(4, .int (nI (kk - 1))), (6, .int (g 15 ((3 * (nd - 1)) + (kk - 1)))), (5, .int (nI (kk - 1))), (0, .ref h), (1, .int 1), (2, .int (nV (g 0) (wb wl 1) (we wl 1))), (3, .int (nI (nd - 1)))] := hl
              refine lv_iinc (k := 2) (x := (nI (kk - 1))) (v := (nI (kk - 1) - 1)) hx hb xd_Mo_newService_99 hl rfl (by rw [Int32.sub_eq_add_neg]; rfl) (Nat.le_of_ble_eq_true rfl) rfl (fun ls hl => ?_)
              have hl : lv_has ls 7 [(5, .int (nI (kk - 1) - 1)), (4, .int (nI (kk - 1))), (6, .int (g 15 ((3 * (nd - 1)) + (kk - 1)))), (0, .ref h), (1, .int 1), (2, .int (nV (g 0) (wb wl 1) (we wl 1))), (3, .int (nI (nd - 1)))] := hl
              refine lv_goto (tgt := 37) hx hb xd_Mo_newService_102 (by decide) ?_
              exact ih15 (kk - 1, (nI (kk - 1))) _ _ _ (show (kk - 1) < kk by omega) (lv_sub hl [0, 1, 3, 4, 5, 6] rfl) hP hD hS ⟨(show (kk - 1) ≤ 3 from by omega), (show ∀ k9, (kk - 1) ≤ k9 → k9 < 3 → ¬ g 15 (3 * (nd - 1) + k9) = nV (g 0) (wb wl 1) (we wl 1) from fun k9 a9 b9 => by
        rcases Nat.lt_or_ge k9 kk with z | z
        · rw [show k9 = kk - 1 by omega]; exact hc39
        · exact hs9 k9 z b9), (show ((nI (kk - 1)) = -1 ∧ ∀ k9, (kk - 1) ≤ k9 → k9 < 3 → ¬ g 15 (3 * (nd - 1) + k9) = 0) ∨ ∃ f9, f9 < 3 ∧ (nI (kk - 1)) = nI f9 ∧ (kk - 1) ≤ f9 ∧ g 15 (3 * (nd - 1) + f9) = 0 ∧ ∀ k9, (kk - 1) ≤ k9 → k9 < f9 → ¬ g 15 (3 * (nd - 1) + k9) = 0 from Or.inr ⟨kk - 1, by omega, rfl, by omega, hc40, fun k9 a9 b9 => absurd b9 (by omega)⟩)⟩
          · refine lv_iconst (v := (-1)) hx hb xd_Mo_newService_83 (by decide) ?_
            exact W.iret (v := (-1)) hx hb hr (fun t ht hW => ⟨⟨(-1), (v, g), rfl, ⟨hMI, rfl, Or.inl rfl, congrArg (Prod.mk v) (lS_no1 (fun q => q.2.2.2.1 (kk - 1) (by omega) (hc39.trans hn1.symm)))⟩, by rw [ht]; exact hP, hD⟩, hS.F ht⟩) hS.2.2 xd_Mo_newService_84
    · refine lv_iconst (v := (-1)) hx hb xd_Mo_newService_22 (by decide) ?_
      exact W.iret (v := (-1)) hx hb hr (fun t ht hW => ⟨⟨(-1), (v, g), rfl, ⟨hMI, rfl, Or.inl rfl, congrArg (Prod.mk v) (lS_no1 (fun q => q.2.1 ((wN_in (by omega)).trans hc6)))⟩, by rw [ht]; exact hP, hD⟩, hS.F ht⟩) hS.2.2 xd_Mo_newService_23
