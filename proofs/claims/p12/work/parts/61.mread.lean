theorem k4a_0 : (Cond.fieldLink "LayerDeskModel" 13 "LayerDeskModel" "begin" "[I") ∈ wT := wT_t (List.mem_append_right _ (List.mem_append_right _ (List.mem_append_right _ (List.mem_append_left _ (List.mem_of_getElem? (i := 89) rfl))))) rfl
theorem k4a_1 : (Cond.fieldLink "LayerDeskModel" 17 "LayerDeskModel" "end" "[I") ∈ wT := wT_t (List.mem_append_right _ (List.mem_append_right _ (List.mem_append_right _ (List.mem_append_left _ (List.mem_of_getElem? (i := 90) rfl))))) rfl
theorem k4a_2 : (Cond.fieldLink "LayerDeskModel" 7 "LayerDeskModel" "text" "[C") ∈ wT := wT_t (List.mem_append_right _ (List.mem_append_right _ (List.mem_append_right _ (List.mem_append_left _ (List.mem_of_getElem? (i := 86) rfl))))) rfl
theorem k4a_3 : (Cond.code xy_Mo_letter xb_Mo_letter 3 (some .char)) ∈ wT := wT_t (List.mem_append_right _ (List.mem_append_right _ (List.mem_append_right _ (List.mem_append_left _ (List.mem_of_getElem? (i := 204) rfl))))) rfl
theorem k4a_4 : (Cond.methodLink "LayerDeskModel" 97 xy_Mo_letter) ∈ wT := wT_t (List.mem_append_right _ (List.mem_append_right _ (List.mem_append_right _ (List.mem_append_left _ (List.mem_of_getElem? (i := 201) rfl))))) rfl
theorem k4a_5 : (Cond.instanceMethod xy_Mo_letter) ∈ wT := wT_t (List.mem_append_right _ (List.mem_append_right _ (List.mem_append_right _ (List.mem_append_left _ (List.mem_of_getElem? (i := 203) rfl))))) rfl
theorem k4a_6 : (Cond.selects "LayerDeskModel" xy_Mo_letter xy_Mo_letter) ∈ wT := wT_s (q := (xy_Mo_letter, 31)) (by decide +kernel) rfl
theorem k4a_7 : (Cond.initialized "LayerDeskModel") ∈ wT := wT_t (List.mem_append_left _ (List.mem_of_getElem? (i := 5) rfl)) rfl
theorem k4a_8 : (Cond.fieldLink "LayerDeskModel" 94 "LayerDeskModel" "words" "I") ∈ wT := wT_t (List.mem_append_right _ (List.mem_append_right _ (List.mem_append_right _ (List.mem_append_left _ (List.mem_of_getElem? (i := 88) rfl))))) rfl
theorem k4a_9 : (Cond.fieldLink "LayerDeskModel" 91 "LayerDeskModel" "written" "I") ∈ wT := wT_t (List.mem_append_right _ (List.mem_append_right _ (List.mem_append_right _ (List.mem_append_left _ (List.mem_of_getElem? (i := 87) rfl))))) rfl
set_option maxHeartbeats 4000000 in
set_option maxRecDepth 100000 in
theorem xc_Mo_letterX (l : Launch) (D : va_G) (kA : Nat → ClassId) (sz h : Nat) (mm : Nat → Nat) (v : Nat → Int32) (g : Nat → Nat → Int32) (w : Nat) (b0 : Nat) (e0 : Nat) (k : Nat) (hw20 : w < 20) (hb0 : g 1 w = nI b0) (he0 : g 2 w = nI e0) (hbe : b0 ≤ e0) (he40 : e0 ≤ 40) (hch : ∀ i, i < 40 → narrow .char (.int (g 0 i)) = .int (g 0 i)) (hk40 : k ≤ 40) : Met l xy_Mo_letter (.code xy_Mo_letter xb_Mo_letter 3 (some .char) :: wT) { frames := 0, cells := 0, slots := 0, locals := 0 } (va_Pc [.ref h, .int (nI w), .int (nI k)] (xPre D kA sz (moW h mm kA v g))) (va_Qi (fun (r : Int32) (u : Unit) => r = sL (g 0) b0 e0 k) (fun (u : Unit) t => va_P D xcl (moW h mm kA v g) t.heap ∧ va_D (va_A (moW h mm kA v g) sz) (moW h mm kA v g)) (va_A (moW h mm kA v g) sz)) 0 0 (va_A (moW h mm kA v g) sz) := by
  refine Met.ofW (cc := xb_Mo_letter) (maxL := 3) (ret := (some .char)) (by decide) rfl ?_
  intro p e s m args below meth c s₁ B hml hv
  obtain ⟨rfl, hsz, hP, hK, hD0⟩ := hv
  have hx := B.exec
  have hb := B.bytes
  have hr := B.returns
  have hT := x_hT B.pre
  have hown : s.vm.findClass xR_Mo = some m.cls := findClass_of_methodNamed B.named
  have hlocks := B.notSynchronized
  subst hsz
  have hD := hD0.self (sz := s.heap.size)
  generalize hAe : va_A (moW h mm kA v g) s.heap.size = A at hD ⊢
  have hA : ∀ q : Nat, s.heap.size ≤ q → A q := fun q h => by rw [← hAe]; exact Or.inr h
  have hS : va_S A s.heap s.heap [] := va_S.rf
  have hl := lv_entry ([.ref h, .int (nI w), .int (nI k)]) (n := 3) (Nat.le_of_ble_eq_true rfl)
  rw [lg_entry_eq]
  generalize (lg_sl ([.ref h, .int (nI w), .int (nI k)]) ++ List.replicate (3 - (lg_sl ([.ref h, .int (nI w), .int (nI k)])).length) Slot.unset).toArray = ls at hl ⊢
  have hl : lv_has ls 3 [(0, .ref h), (1, .int (nI w)), (2, .int (nI k))] := hl
  have hP : va_P D xcl (moW h mm kA v g) s.heap := hP
  refine lv_aload_n hx hb xd_Mo_letter_0 rfl (lv_at hl 0 rfl) ?_
  refine va_get (D := D) (ci := 4) (v := .ref (mm 1)) (C := xR_Mo) (T := xT_Mo) (N := 31) hx hb hT xi_Mo hown hK.1 hP 0 rfl rfl 5 (by decide) (hT _ k4a_0) (fun _ h9 => h9) rfl xd_Mo_letter_1 ?_
  refine lv_iload_n hx hb xd_Mo_letter_4 rfl (lv_at hl 1 rfl) ?_
  refine xn_iald (i := w) hx hb hK.1 hP 2 0 rfl rfl (by omega) (by decide) xd_Mo_letter_5 ?_
  refine xn_top (x := (g 1 w)) (y := nI b0) hb0 ?_
  refine lv_iload_n hx hb xd_Mo_letter_6 rfl (lv_at hl 2 rfl) ?_
  refine lv_iadd hx hb xd_Mo_letter_7 ?_
  refine xn_top (y := nI (b0 + k)) (nI_add b0 k) ?_
  refine lv_aload_n hx hb xd_Mo_letter_8 rfl (lv_at hl 0 rfl) ?_
  refine va_get (D := D) (ci := 4) (v := .ref (mm 2)) (C := xR_Mo) (T := xT_Mo) (N := 31) hx hb hT xi_Mo hown hK.1 hP 0 rfl rfl 6 (by decide) (hT _ k4a_1) (fun _ h9 => h9) rfl xd_Mo_letter_9 ?_
  refine lv_iload_n hx hb xd_Mo_letter_12 rfl (lv_at hl 1 rfl) ?_
  refine xn_iald (i := w) hx hb hK.1 hP 3 0 rfl rfl (by omega) (by decide) xd_Mo_letter_13 ?_
  refine xn_top (x := (g 2 w)) (y := nI e0) he0 ?_
  refine xn_ge (a := b0 + k) (b := e0) (tgt := 33) hx hb xd_Mo_letter_14 (by decide) (by omega) (by omega) (fun hc1 => ?_) (fun hc1 => ?_)
  · refine lv_iconst (v := 0) hx hb xd_Mo_letter_33 (by decide) ?_
    exact W.zret (v := 0) hx hb hr rfl (fun t ht hW => ⟨⟨0, (), rfl, (by unfold sL; rw [if_neg (by omega)]), by rw [ht]; exact hP, hD⟩, hS.F ht⟩) hS.2.2 xd_Mo_letter_34
  · refine lv_aload_n hx hb xd_Mo_letter_17 rfl (lv_at hl 0 rfl) ?_
    refine va_get (D := D) (ci := 4) (v := .ref (mm 0)) (C := xR_Mo) (T := xT_Mo) (N := 31) hx hb hT xi_Mo hown hK.1 hP 0 rfl rfl 2 (by decide) (hT _ k4a_2) (fun _ h9 => h9) rfl xd_Mo_letter_18 ?_
    refine lv_aload_n hx hb xd_Mo_letter_21 rfl (lv_at hl 0 rfl) ?_
    refine va_get (D := D) (ci := 4) (v := .ref (mm 1)) (C := xR_Mo) (T := xT_Mo) (N := 31) hx hb hT xi_Mo hown hK.1 hP 0 rfl rfl 5 (by decide) (hT _ k4a_0) (fun _ h9 => h9) rfl xd_Mo_letter_22 ?_
    refine lv_iload_n hx hb xd_Mo_letter_25 rfl (lv_at hl 1 rfl) ?_
    refine xn_iald (i := w) hx hb hK.1 hP 2 0 rfl rfl (by omega) (by decide) xd_Mo_letter_26 ?_
    refine xn_top (x := (g 1 w)) (y := nI b0) hb0 ?_
    refine lv_iload_n hx hb xd_Mo_letter_27 rfl (lv_at hl 2 rfl) ?_
    refine lv_iadd hx hb xd_Mo_letter_28 ?_
    refine xn_top (y := nI (b0 + k)) (nI_add b0 k) ?_
    refine xn_cald (i := b0 + k) hx hb hK.1 hP 1 1 rfl rfl (by omega) (by decide) xd_Mo_letter_29 ?_
    refine lv_goto (tgt := 34) hx hb xd_Mo_letter_30 (by decide) ?_
    exact W.zret (v := (g 0 (b0 + k))) hx hb hr (hch _ (by omega)) (fun t ht hW => ⟨⟨(g 0 (b0 + k)), (), rfl, (by unfold sL; rw [if_pos (by omega)]), by rw [ht]; exact hP, hD⟩, hS.F ht⟩) hS.2.2 xd_Mo_letter_34
set_option maxHeartbeats 4000000 in
set_option maxRecDepth 100000 in
theorem xc_Mo_nameOfX (l : Launch) (D : va_G) (kA : Nat → ClassId) (sz h : Nat) (mm : Nat → Nat) (v : Nat → Int32) (g : Nat → Nat → Int32) (w : Nat) (b0 : Nat) (e0 : Nat) (hw20 : w < 20) (hb0 : g 1 w = nI b0) (he0 : g 2 w = nI e0) (hbe : b0 ≤ e0) (he40 : e0 ≤ 40) : Met l xy_Mo_nameOf (.code xy_Mo_nameOf xb_Mo_nameOf 4 (some .int) :: wT) { frames := 0, cells := 0, slots := 0, locals := 0 } (va_Pc [.ref h, .int (nI w)] (xPre D kA sz (moW h mm kA v g))) (va_Qi (fun (r : Int32) (u : Unit) => r = nV (g 0) b0 e0) (fun (u : Unit) t => va_P D xcl (moW h mm kA v g) t.heap ∧ va_D (va_A (moW h mm kA v g) sz) (moW h mm kA v g)) (va_A (moW h mm kA v g) sz)) 0 0 (va_A (moW h mm kA v g) sz) := by
  refine Met.ofW (cc := xb_Mo_nameOf) (maxL := 4) (ret := (some .int)) (by decide) rfl ?_
  intro p e s m args below meth c s₁ B hml hv
  obtain ⟨rfl, hsz, hP, hK, hD0⟩ := hv
  have hx := B.exec
  have hb := B.bytes
  have hr := B.returns
  have hT := x_hT B.pre
  have hown : s.vm.findClass xR_Mo = some m.cls := findClass_of_methodNamed B.named
  have hlocks := B.notSynchronized
  subst hsz
  have hD := hD0.self (sz := s.heap.size)
  generalize hAe : va_A (moW h mm kA v g) s.heap.size = A at hD ⊢
  have hA : ∀ q : Nat, s.heap.size ≤ q → A q := fun q h => by rw [← hAe]; exact Or.inr h
  have hS : va_S A s.heap s.heap [] := va_S.rf
  have hl := lv_entry ([.ref h, .int (nI w)]) (n := 4) (Nat.le_of_ble_eq_true rfl)
  rw [lg_entry_eq]
  generalize (lg_sl ([.ref h, .int (nI w)]) ++ List.replicate (4 - (lg_sl ([.ref h, .int (nI w)])).length) Slot.unset).toArray = ls at hl ⊢
  have hl : lv_has ls 4 [(0, .ref h), (1, .int (nI w))] := hl
  have hP : va_P D xcl (moW h mm kA v g) s.heap := hP
  refine lv_iconst (v := 0) hx hb xd_Mo_nameOf_0 (by decide) ?_
  refine lv_istore_n hx hb xd_Mo_nameOf_1 rfl hl (Nat.le_of_ble_eq_true rfl) rfl (fun ls hl => ?_)
  have hl : lv_has ls 4 [(2, .int 0), (0, .ref h), (1, .int (nI w))] := hl
  refine lv_aload_n hx hb xd_Mo_nameOf_2 rfl (lv_at hl 1 rfl) ?_
  refine va_get (D := D) (ci := 4) (v := .ref (mm 1)) (C := xR_Mo) (T := xT_Mo) (N := 31) hx hb hT xi_Mo hown hK.1 hP 0 rfl rfl 5 (by decide) (hT _ k4a_0) (fun _ h9 => h9) rfl xd_Mo_nameOf_3 ?_
  refine lv_iload_n hx hb xd_Mo_nameOf_6 rfl (lv_at hl 2 rfl) ?_
  refine xn_iald (i := w) hx hb hK.1 hP 2 0 rfl rfl (by omega) (by decide) xd_Mo_nameOf_7 ?_
  refine xn_top (x := (g 1 w)) (y := nI b0) hb0 ?_
  refine lv_istore_n hx hb xd_Mo_nameOf_8 rfl hl (Nat.le_of_ble_eq_true rfl) rfl (fun ls hl => ?_)
  have hl : lv_has ls 4 [(3, .int (nI b0)), (2, .int 0), (0, .ref h), (1, .int (nI w))] := hl
  refine xlab (σ := Nat × Int32) (ml := 4) 9 (fun (k, vv) => [(3, .int (nI k)), (2, .int vv), (0, .ref h), (1, .int (nI w))]) (fun (k, vv) => []) (fun (k, vv) => moW h mm kA v g) (fun (k, vv) => (b0 ≤ k) ∧ (k ≤ e0) ∧ (vv = n_fold (g 0) b0 (k - b0) 0) ∧ (n_small (g 0) b0 (k - b0)) ∧ (k = b0 ∨ e0 - b0 ≤ 4)) (fun (k, vv) => e0 - k) ?_ (b0, 0) _ _ _ (lv_sub hl [0, 1, 2, 3] rfl) hP hD hS ⟨(show b0 ≤ b0 from by first | assumption | omega), (show b0 ≤ e0 from by first | assumption | omega), (show 0 = n_fold (g 0) b0 (b0 - b0) 0 from by rw [Nat.sub_self]; rfl), (show n_small (g 0) b0 (b0 - b0) from by rw [Nat.sub_self]; trivial), (show b0 = b0 ∨ e0 - b0 ≤ 4 from by omega)⟩
  intro n9 ih1 a9 ls H locs hμ hl hP hD hS hI
  subst hμ
  obtain ⟨k, vv⟩ := a9
  obtain ⟨hk1, hk2, hvv, hsm, hl4⟩ := hI
  have hk1 : b0 ≤ k := hk1
  have hk2 : k ≤ e0 := hk2
  have hvv : vv = n_fold (g 0) b0 (k - b0) 0 := hvv
  have hsm : n_small (g 0) b0 (k - b0) := hsm
  have hl4 : k = b0 ∨ e0 - b0 ≤ 4 := hl4
  have hl : lv_has ls 4 [(3, .int (nI k)), (2, .int vv), (0, .ref h), (1, .int (nI w))] := hl
  have hP : va_P D xcl (moW h mm kA v g) H := hP
  have hD : va_D A (moW h mm kA v g) := hD
  refine lv_iload_n hx hb xd_Mo_nameOf_9 rfl (lv_at hl 0 rfl) ?_
  refine lv_aload_n hx hb xd_Mo_nameOf_10 rfl (lv_at hl 2 rfl) ?_
  refine va_get (D := D) (ci := 4) (v := .ref (mm 2)) (C := xR_Mo) (T := xT_Mo) (N := 31) hx hb hT xi_Mo hown hK.1 hP 0 rfl rfl 6 (by decide) (hT _ k4a_1) (fun _ h9 => h9) rfl xd_Mo_nameOf_11 ?_
  refine lv_iload_n hx hb xd_Mo_nameOf_14 rfl (lv_at hl 3 rfl) ?_
  refine xn_iald (i := w) hx hb hK.1 hP 3 0 rfl rfl (by omega) (by decide) xd_Mo_nameOf_15 ?_
  refine xn_top (x := (g 2 w)) (y := nI e0) he0 ?_
  refine xn_ge (a := k) (b := e0) (tgt := 81) hx hb xd_Mo_nameOf_16 (by decide) (by omega) (by omega) (fun hc2 => ?_) (fun hc2 => ?_)
  · refine lv_iload_n hx hb xd_Mo_nameOf_81 rfl (lv_at hl 1 rfl) ?_
    exact W.iret (v := vv) hx hb hr (fun t ht hW => ⟨⟨vv, (), rfl, nV_ok (by omega) (by rw [show e0 - b0 = k - b0 by omega]; exact hsm) (by rw [show e0 - b0 = k - b0 by omega]; exact hvv), by rw [ht]; exact hP, hD⟩, hS.F ht⟩) hS.2.2 xd_Mo_nameOf_82
  · refine lv_aload_n hx hb xd_Mo_nameOf_19 rfl (lv_at hl 2 rfl) ?_
    refine va_get (D := D) (ci := 4) (v := .ref (mm 0)) (C := xR_Mo) (T := xT_Mo) (N := 31) hx hb hT xi_Mo hown hK.1 hP 0 rfl rfl 2 (by decide) (hT _ k4a_2) (fun _ h9 => h9) rfl xd_Mo_nameOf_20 ?_
    refine lv_iload_n hx hb xd_Mo_nameOf_23 rfl (lv_at hl 0 rfl) ?_
    refine xn_cald (i := k) hx hb hK.1 hP 1 1 rfl rfl (by omega) (by decide) xd_Mo_nameOf_24 ?_
    refine lv_bipush (v := 97) hx hb xd_Mo_nameOf_25 (by decide) ?_
    refine lv_icmp_lt (tgt := 58) hx hb xd_Mo_nameOf_27 (by decide) (fun hc3 => ?_) (fun hc3 => ?_)
    · refine lv_iconst (v := 0) hx hb xd_Mo_nameOf_58 (by decide) ?_
      exact W.iret (v := 0) hx hb hr (fun t ht hW => ⟨⟨0, (), rfl, nV_no (fun q => (n_small_at q.2 (p := k - b0) (by omega)).1 (by rw [show b0 + (k - b0) = k by omega]; exact hc3)), by rw [ht]; exact hP, hD⟩, hS.F ht⟩) hS.2.2 xd_Mo_nameOf_59
    · refine lv_aload_n hx hb xd_Mo_nameOf_30 rfl (lv_at hl 2 rfl) ?_
      refine va_get (D := D) (ci := 4) (v := .ref (mm 0)) (C := xR_Mo) (T := xT_Mo) (N := 31) hx hb hT xi_Mo hown hK.1 hP 0 rfl rfl 2 (by decide) (hT _ k4a_2) (fun _ h9 => h9) rfl xd_Mo_nameOf_31 ?_
      refine lv_iload_n hx hb xd_Mo_nameOf_34 rfl (lv_at hl 0 rfl) ?_
      refine xn_cald (i := k) hx hb hK.1 hP 1 1 rfl rfl (by omega) (by decide) xd_Mo_nameOf_35 ?_
      refine lv_bipush (v := 122) hx hb xd_Mo_nameOf_36 (by decide) ?_
      refine lv_icmp_gt (tgt := 58) hx hb xd_Mo_nameOf_38 (by decide) (fun hc4 => ?_) (fun hc4 => ?_)
      · refine lv_iconst (v := 0) hx hb xd_Mo_nameOf_58 (by decide) ?_
        exact W.iret (v := 0) hx hb hr (fun t ht hW => ⟨⟨0, (), rfl, nV_no (fun q => (n_small_at q.2 (p := k - b0) (by omega)).2 (by rw [show b0 + (k - b0) = k by omega]; exact hc4)), by rw [ht]; exact hP, hD⟩, hS.F ht⟩) hS.2.2 xd_Mo_nameOf_59
      · refine lv_aload_n hx hb xd_Mo_nameOf_41 rfl (lv_at hl 2 rfl) ?_
        refine va_get (D := D) (ci := 4) (v := .ref (mm 2)) (C := xR_Mo) (T := xT_Mo) (N := 31) hx hb hT xi_Mo hown hK.1 hP 0 rfl rfl 6 (by decide) (hT _ k4a_1) (fun _ h9 => h9) rfl xd_Mo_nameOf_42 ?_
        refine lv_iload_n hx hb xd_Mo_nameOf_45 rfl (lv_at hl 3 rfl) ?_
        refine xn_iald (i := w) hx hb hK.1 hP 3 0 rfl rfl (by omega) (by decide) xd_Mo_nameOf_46 ?_
        refine xn_top (x := (g 2 w)) (y := nI e0) he0 ?_
        refine lv_aload_n hx hb xd_Mo_nameOf_47 rfl (lv_at hl 2 rfl) ?_
        refine va_get (D := D) (ci := 4) (v := .ref (mm 1)) (C := xR_Mo) (T := xT_Mo) (N := 31) hx hb hT xi_Mo hown hK.1 hP 0 rfl rfl 5 (by decide) (hT _ k4a_0) (fun _ h9 => h9) rfl xd_Mo_nameOf_48 ?_
        refine lv_iload_n hx hb xd_Mo_nameOf_51 rfl (lv_at hl 3 rfl) ?_
        refine xn_iald (i := w) hx hb hK.1 hP 2 0 rfl rfl (by omega) (by decide) xd_Mo_nameOf_52 ?_
        refine xn_top (x := (g 1 w)) (y := nI b0) hb0 ?_
        refine lv_isub hx hb xd_Mo_nameOf_53 ?_
        refine xn_top (y := nI (e0 - b0)) (pk_sub (a := e0) (b := b0) (by omega)) ?_
        refine lv_iconst (v := 4) hx hb xd_Mo_nameOf_54 (by decide) ?_
        refine xn_le (a := e0 - b0) (b := 4) (tgt := 60) hx hb xd_Mo_nameOf_55 (by decide) (by omega) (by omega) (fun hc5 => ?_) (fun hc5 => ?_)
        · refine lv_bipush (v := 27) hx hb xd_Mo_nameOf_60 (by decide) ?_
          refine lv_iload_n hx hb xd_Mo_nameOf_62 rfl (lv_at hl 1 rfl) ?_
          refine lv_imul hx hb xd_Mo_nameOf_63 ?_
          refine lv_aload_n hx hb xd_Mo_nameOf_64 rfl (lv_at hl 2 rfl) ?_
          refine va_get (D := D) (ci := 4) (v := .ref (mm 0)) (C := xR_Mo) (T := xT_Mo) (N := 31) hx hb hT xi_Mo hown hK.1 hP 0 rfl rfl 2 (by decide) (hT _ k4a_2) (fun _ h9 => h9) rfl xd_Mo_nameOf_65 ?_
          refine lv_iload_n hx hb xd_Mo_nameOf_68 rfl (lv_at hl 0 rfl) ?_
          refine xn_cald (i := k) hx hb hK.1 hP 1 1 rfl rfl (by omega) (by decide) xd_Mo_nameOf_69 ?_
          refine lv_iadd hx hb xd_Mo_nameOf_70 ?_
          refine lv_bipush (v := 96) hx hb xd_Mo_nameOf_71 (by decide) ?_
          refine lv_isub hx hb xd_Mo_nameOf_73 ?_
          refine lv_istore_n hx hb xd_Mo_nameOf_74 rfl hl (Nat.le_of_ble_eq_true rfl) rfl (fun ls hl => ?_)
          have hl : lv_has ls 4 [(2, .int (((27 * vv) + (g 0 k)) - 96)), (3, .int (nI k)), (0, .ref h), (1, .int (nI w))] := hl
          refine lv_iinc (k := 1) (x := (nI k)) (v := (nI (k + 1))) hx hb xd_Mo_nameOf_75 hl rfl (xb_inc k 1) (Nat.le_of_ble_eq_true rfl) rfl (fun ls hl => ?_)
          have hl : lv_has ls 4 [(3, .int (nI (k + 1))), (2, .int (((27 * vv) + (g 0 k)) - 96)), (0, .ref h), (1, .int (nI w))] := hl
          refine lv_goto (tgt := 9) hx hb xd_Mo_nameOf_78 (by decide) ?_
          exact ih1 (k + 1, (((27 * vv) + (g 0 k)) - 96)) _ _ _ (show e0 - (k + 1) < e0 - k by omega) (lv_sub hl [0, 1, 2, 3] rfl) hP hD hS ⟨(show b0 ≤ (k + 1) from by first | assumption | omega), (show (k + 1) ≤ e0 from by first | assumption | omega), (show (((27 * vv) + (g 0 k)) - 96) = n_fold (g 0) b0 ((k + 1) - b0) 0 from by rw [n_step, hvv, show k + 1 - b0 = k - b0 + 1 by omega, n_fold_r, show b0 + (k - b0) = k by omega]), (show n_small (g 0) b0 ((k + 1) - b0) from by rw [show k + 1 - b0 = k - b0 + 1 by omega, n_small_r, show b0 + (k - b0) = k by omega]; exact ⟨hsm, hc3, hc4⟩), (show (k + 1) = b0 ∨ e0 - b0 ≤ 4 from by omega)⟩
        · refine lv_iconst (v := 0) hx hb xd_Mo_nameOf_58 (by decide) ?_
          exact W.iret (v := 0) hx hb hr (fun t ht hW => ⟨⟨0, (), rfl, nV_no (fun q => absurd q.1 (by omega)), by rw [ht]; exact hP, hD⟩, hS.F ht⟩) hS.2.2 xd_Mo_nameOf_59
set_option maxHeartbeats 4000000 in
set_option maxRecDepth 100000 in
theorem xc_Mo_saysX (l : Launch) (D : va_G) (kA : Nat → ClassId) (sz h : Nat) (mm : Nat → Nat) (v : Nat → Int32) (g : Nat → Nat → Int32) (w : Nat) (b0 : Nat) (e0 : Nat) (a9 : Int32) (c9 : Int32) (hw20 : w < 20) (hb0 : g 1 w = nI b0) (he0 : g 2 w = nI e0) (hbe : b0 ≤ e0) (he40 : e0 ≤ 40) (hch : ∀ i, i < 40 → narrow .char (.int (g 0 i)) = .int (g 0 i)) : Met l xy_Mo_says (.code xy_Mo_says xb_Mo_says 8 (some .boolean) :: wT) { frames := 1, cells := 0, slots := 0, locals := 22 } (va_Pc [.ref h, .int (nI w), .int a9, .int c9] (xPre D kA sz (moW h mm kA v g))) (va_Qi (fun (r : Int32) (u : Unit) => (r = 1 ∧ sQ (g 0) b0 e0 a9 c9) ∨ (r = 0 ∧ ¬ sQ (g 0) b0 e0 a9 c9)) (fun (u : Unit) t => va_P D xcl (moW h mm kA v g) t.heap ∧ va_D (va_A (moW h mm kA v g) sz) (moW h mm kA v g)) (va_A (moW h mm kA v g) sz)) 0 0 (va_A (moW h mm kA v g) sz) := by
  refine Met.ofW (cc := xb_Mo_says) (maxL := 8) (ret := (some .boolean)) (by decide) rfl ?_
  intro p e s m args below meth c s₁ B hml hv
  obtain ⟨rfl, hsz, hP, hK, hD0⟩ := hv
  have hx := B.exec
  have hb := B.bytes
  have hr := B.returns
  have hT := x_hT B.pre
  have hown : s.vm.findClass xR_Mo = some m.cls := findClass_of_methodNamed B.named
  have hlocks := B.notSynchronized
  subst hsz
  have hD := hD0.self (sz := s.heap.size)
  generalize hAe : va_A (moW h mm kA v g) s.heap.size = A at hD ⊢
  have hA : ∀ q : Nat, s.heap.size ≤ q → A q := fun q h => by rw [← hAe]; exact Or.inr h
  have hS : va_S A s.heap s.heap [] := va_S.rf
  have hl := lv_entry ([.ref h, .int (nI w), .int a9, .int c9]) (n := 8) (Nat.le_of_ble_eq_true rfl)
  rw [lg_entry_eq]
  generalize (lg_sl ([.ref h, .int (nI w), .int a9, .int c9]) ++ List.replicate (8 - (lg_sl ([.ref h, .int (nI w), .int a9, .int c9])).length) Slot.unset).toArray = ls at hl ⊢
  have hl : lv_has ls 8 [(0, .ref h), (1, .int (nI w)), (2, .int a9), (3, .int c9)] := hl
  have hP : va_P D xcl (moW h mm kA v g) s.heap := hP
  refine lv_iconst (v := 0) hx hb xd_Mo_says_0 (by decide) ?_
  refine lv_istore hx hb xd_Mo_says_1 hl (Nat.le_of_ble_eq_true rfl) rfl (fun ls hl => ?_)
  have hl : lv_has ls 8 [(4, .int 0), (0, .ref h), (1, .int (nI w)), (2, .int a9), (3, .int c9)] := hl
  refine lv_iconst (v := 0) hx hb xd_Mo_says_3 (by decide) ?_
  refine lv_istore hx hb xd_Mo_says_4 hl (Nat.le_of_ble_eq_true rfl) rfl (fun ls hl => ?_)
  have hl : lv_has ls 8 [(5, .int 0), (4, .int 0), (0, .ref h), (1, .int (nI w)), (2, .int a9), (3, .int c9)] := hl
  refine lv_iconst (v := 0) hx hb xd_Mo_says_6 (by decide) ?_
  refine lv_istore hx hb xd_Mo_says_7 hl (Nat.le_of_ble_eq_true rfl) rfl (fun ls hl => ?_)
  have hl : lv_has ls 8 [(6, .int 0), (5, .int 0), (4, .int 0), (0, .ref h), (1, .int (nI w)), (2, .int a9), (3, .int c9)] := hl
  refine xlab (σ := Nat × Int32) (ml := 8) 9 (fun (i, x4) => [(6, .int (nI i)), (4, .int x4), (5, .int 0), (0, .ref h), (1, .int (nI w)), (2, .int a9), (3, .int c9)]) (fun (i, x4) => []) (fun (i, x4) => moW h mm kA v g) (fun (i, x4) => (i ≤ 5) ∧ (x4 = sC (g 0) b0 e0 0 i)) (fun (i, x4) => 5 - i) ?_ (0, 0) _ _ _ (lv_sub hl [0, 2, 1, 3, 4, 5, 6] rfl) hP hD hS ⟨(show 0 ≤ 5 from by first | assumption | omega), (show 0 = sC (g 0) b0 e0 0 0 from rfl)⟩
  intro n9 ih1 a9 ls H locs hμ hl hP hD hS hI
  subst hμ
  obtain ⟨i, x4⟩ := a9
  obtain ⟨hi5, hx4⟩ := hI
  have hi5 : i ≤ 5 := hi5
  have hx4 : x4 = sC (g 0) b0 e0 0 i := hx4
  have hl : lv_has ls 8 [(6, .int (nI i)), (4, .int x4), (5, .int 0), (0, .ref h), (1, .int (nI w)), (2, .int a9), (3, .int c9)] := hl
  have hP : va_P D xcl (moW h mm kA v g) H := hP
  have hD : va_D A (moW h mm kA v g) := hD
  refine lv_iload hx hb xd_Mo_says_9 (lv_at hl 0 rfl) ?_
  refine lv_iconst (v := 5) hx hb xd_Mo_says_11 (by decide) ?_
  refine xn_ge (a := i) (b := 5) (tgt := 54) hx hb xd_Mo_says_12 (by decide) (by omega) (by omega) (fun hc2 => ?_) (fun hc2 => ?_)
  · refine lv_iconst (v := 5) hx hb xd_Mo_says_54 (by decide) ?_
    refine lv_istore hx hb xd_Mo_says_55 hl (Nat.le_of_ble_eq_true rfl) rfl (fun ls hl => ?_)
    have hl : lv_has ls 8 [(6, .int 5), (4, .int x4), (5, .int 0), (0, .ref h), (1, .int (nI w)), (2, .int a9), (3, .int c9)] := hl
    refine xlab (σ := Nat × Int32) (ml := 8) 57 (fun (i2, x5) => [(6, .int (nI i2)), (5, .int x5), (4, .int x4), (0, .ref h), (1, .int (nI w)), (2, .int a9), (3, .int c9)]) (fun (i2, x5) => []) (fun (i2, x5) => moW h mm kA v g) (fun (i2, x5) => (5 ≤ i2) ∧ (i2 ≤ 10) ∧ (x5 = sC (g 0) b0 e0 5 (i2 - 5))) (fun (i2, x5) => 10 - i2) ?_ (5, 0) _ _ _ (lv_sub hl [0, 2, 1, 3, 4, 5, 6] rfl) hP hD hS ⟨(show 5 ≤ 5 from by first | assumption | omega), (show 5 ≤ 10 from by first | assumption | omega), (show 0 = sC (g 0) b0 e0 5 (5 - 5) from rfl)⟩
    intro n9 ih3 a9 ls H locs hμ hl hP hD hS hI
    subst hμ
    obtain ⟨i2, x5⟩ := a9
    obtain ⟨hi55, hi10, hx5⟩ := hI
    have hi55 : 5 ≤ i2 := hi55
    have hi10 : i2 ≤ 10 := hi10
    have hx5 : x5 = sC (g 0) b0 e0 5 (i2 - 5) := hx5
    have hl : lv_has ls 8 [(6, .int (nI i2)), (5, .int x5), (4, .int x4), (0, .ref h), (1, .int (nI w)), (2, .int a9), (3, .int c9)] := hl
    have hP : va_P D xcl (moW h mm kA v g) H := hP
    have hD : va_D A (moW h mm kA v g) := hD
    refine lv_iload hx hb xd_Mo_says_57 (lv_at hl 0 rfl) ?_
    refine lv_bipush (v := 10) hx hb xd_Mo_says_59 (by decide) ?_
    refine xn_ge (a := i2) (b := 10) (tgt := 103) hx hb xd_Mo_says_61 (by decide) (by omega) (by omega) (fun hc4 => ?_) (fun hc4 => ?_)
    · refine lv_aload_n hx hb xd_Mo_says_103 rfl (lv_at hl 3 rfl) ?_
      refine va_get (D := D) (ci := 4) (v := .ref (mm 2)) (C := xR_Mo) (T := xT_Mo) (N := 31) hx hb hT xi_Mo hown hK.1 hP 0 rfl rfl 6 (by decide) (hT _ k4a_1) (fun _ h9 => h9) rfl xd_Mo_says_104 ?_
      refine lv_iload_n hx hb xd_Mo_says_107 rfl (lv_at hl 4 rfl) ?_
      refine xn_iald (i := w) hx hb hK.1 hP 3 0 rfl rfl (by omega) (by decide) xd_Mo_says_108 ?_
      refine xn_top (x := (g 2 w)) (y := nI e0) he0 ?_
      refine lv_aload_n hx hb xd_Mo_says_109 rfl (lv_at hl 3 rfl) ?_
      refine va_get (D := D) (ci := 4) (v := .ref (mm 1)) (C := xR_Mo) (T := xT_Mo) (N := 31) hx hb hT xi_Mo hown hK.1 hP 0 rfl rfl 5 (by decide) (hT _ k4a_0) (fun _ h9 => h9) rfl xd_Mo_says_110 ?_
      refine lv_iload_n hx hb xd_Mo_says_113 rfl (lv_at hl 4 rfl) ?_
      refine xn_iald (i := w) hx hb hK.1 hP 2 0 rfl rfl (by omega) (by decide) xd_Mo_says_114 ?_
      refine xn_top (x := (g 1 w)) (y := nI b0) hb0 ?_
      refine lv_isub hx hb xd_Mo_says_115 ?_
      refine xn_top (y := nI (e0 - b0)) (pk_sub (a := e0) (b := b0) (by omega)) ?_
      refine lv_bipush (v := 10) hx hb xd_Mo_says_116 (by decide) ?_
      refine xn_gt (a := e0 - b0) (b := 10) (tgt := 125) hx hb xd_Mo_says_118 (by decide) (by omega) (by omega) (fun hc5 => ?_) (fun hc5 => ?_)
      · refine lv_iconst (v := 0) hx hb xd_Mo_says_125 (by decide) ?_
        refine lv_istore hx hb xd_Mo_says_126 hl (Nat.le_of_ble_eq_true rfl) rfl (fun ls hl => ?_)
        have hl : lv_has ls 8 [(6, .int 0), (5, .int x5), (4, .int x4), (0, .ref h), (1, .int (nI w)), (2, .int a9), (3, .int c9)] := hl
        refine lv_aload_n hx hb xd_Mo_says_128 rfl (lv_at hl 3 rfl) ?_
        refine va_get (D := D) (ci := 4) (v := .ref (mm 1)) (C := xR_Mo) (T := xT_Mo) (N := 31) hx hb hT xi_Mo hown hK.1 hP 0 rfl rfl 5 (by decide) (hT _ k4a_0) (fun _ h9 => h9) rfl xd_Mo_says_129 ?_
        refine lv_iload_n hx hb xd_Mo_says_132 rfl (lv_at hl 4 rfl) ?_
        refine xn_iald (i := w) hx hb hK.1 hP 2 0 rfl rfl (by omega) (by decide) xd_Mo_says_133 ?_
        refine xn_top (x := (g 1 w)) (y := nI b0) hb0 ?_
        refine lv_istore hx hb xd_Mo_says_134 hl (Nat.le_of_ble_eq_true rfl) rfl (fun ls hl => ?_)
        have hl : lv_has ls 8 [(7, .int (nI b0)), (6, .int 0), (5, .int x5), (4, .int x4), (0, .ref h), (1, .int (nI w)), (2, .int a9), (3, .int c9)] := hl
        refine xlab (σ := Nat × Int32) (ml := 8) 136 (fun (k7, s6) => [(7, .int (nI k7)), (6, .int s6), (5, .int x5), (4, .int x4), (0, .ref h), (1, .int (nI w)), (2, .int a9), (3, .int c9)]) (fun (k7, s6) => []) (fun (k7, s6) => moW h mm kA v g) (fun (k7, s6) => (b0 ≤ k7) ∧ (k7 ≤ e0) ∧ ((s6 = 1 ∧ e0 - b0 ≤ 10 ∧ n_small (g 0) b0 (k7 - b0)) ∨ (s6 = 0 ∧ ¬ (e0 - b0 ≤ 10 ∧ n_small (g 0) b0 (k7 - b0))))) (fun (k7, s6) => e0 - k7) ?_ (b0, 0) _ _ _ (lv_sub hl [0, 1, 2, 3, 4, 5, 6, 7] rfl) hP hD hS ⟨(show b0 ≤ b0 from by first | assumption | omega), (show b0 ≤ e0 from by first | assumption | omega), (show (0 = 1 ∧ e0 - b0 ≤ 10 ∧ n_small (g 0) b0 (b0 - b0)) ∨ (0 = 0 ∧ ¬ (e0 - b0 ≤ 10 ∧ n_small (g 0) b0 (b0 - b0))) from Or.inr ⟨rfl, fun q => absurd q.1 (by omega)⟩)⟩
        intro n9 ih6 a9 ls H locs hμ hl hP hD hS hI
        subst hμ
        obtain ⟨k7, s6⟩ := a9
        obtain ⟨hk1, hk2, hs6⟩ := hI
        have hk1 : b0 ≤ k7 := hk1
        have hk2 : k7 ≤ e0 := hk2
        have hs6 : (s6 = 1 ∧ e0 - b0 ≤ 10 ∧ n_small (g 0) b0 (k7 - b0)) ∨ (s6 = 0 ∧ ¬ (e0 - b0 ≤ 10 ∧ n_small (g 0) b0 (k7 - b0))) := hs6
        have hl : lv_has ls 8 [(7, .int (nI k7)), (6, .int s6), (5, .int x5), (4, .int x4), (0, .ref h), (1, .int (nI w)), (2, .int a9), (3, .int c9)] := hl
        have hP : va_P D xcl (moW h mm kA v g) H := hP
        have hD : va_D A (moW h mm kA v g) := hD
        refine lv_iload hx hb xd_Mo_says_136 (lv_at hl 0 rfl) ?_
        refine lv_aload_n hx hb xd_Mo_says_138 rfl (lv_at hl 4 rfl) ?_
        refine va_get (D := D) (ci := 4) (v := .ref (mm 2)) (C := xR_Mo) (T := xT_Mo) (N := 31) hx hb hT xi_Mo hown hK.1 hP 0 rfl rfl 6 (by decide) (hT _ k4a_1) (fun _ h9 => h9) rfl xd_Mo_says_139 ?_
        refine lv_iload_n hx hb xd_Mo_says_142 rfl (lv_at hl 5 rfl) ?_
        refine xn_iald (i := w) hx hb hK.1 hP 3 0 rfl rfl (by omega) (by decide) xd_Mo_says_143 ?_
        refine xn_top (x := (g 2 w)) (y := nI e0) he0 ?_
        refine xn_ge (a := k7) (b := e0) (tgt := 189) hx hb xd_Mo_says_144 (by decide) (by omega) (by omega) (fun hc7 => ?_) (fun hc7 => ?_)
        · refine lv_iload hx hb xd_Mo_says_189 (lv_at hl 1 rfl) ?_
          refine lv_if_eq (tgt := 210) hx hb xd_Mo_says_191 (by decide) (fun hc8 => ?_) (fun hc8 => ?_)
          · refine lv_iconst (v := 0) hx hb xd_Mo_says_210 (by decide) ?_
            exact W.zret (v := 0) hx hb hr rfl (fun t ht hW => ⟨⟨0, (), rfl, by
        have e1 : i = 5 := by omega
        have e2 : i2 - 5 = 5 := by omega
        have e3 : k7 = e0 := by omega
        rw [e1] at hx4
        rw [e2] at hx5
        rw [e3] at hs6
        rcases hs6 with ⟨q, q1, q2⟩ | ⟨q, q1⟩
        · exact absurd (q.symm.trans hc8) (by decide)
        · exact Or.inr ⟨rfl, fun z => q1 z.1⟩, by rw [ht]; exact hP, hD⟩, hS.F ht⟩) hS.2.2 xd_Mo_says_211
          · refine lv_iload hx hb xd_Mo_says_194 (lv_at hl 3 rfl) ?_
            refine lv_iload_n hx hb xd_Mo_says_196 rfl (lv_at hl 6 rfl) ?_
            refine lv_icmp_ne (tgt := 210) hx hb xd_Mo_says_197 (by decide) (fun hc9 => ?_) (fun hc9 => ?_)
            · refine lv_iconst (v := 0) hx hb xd_Mo_says_210 (by decide) ?_
              exact W.zret (v := 0) hx hb hr rfl (fun t ht hW => ⟨⟨0, (), rfl, by
        have e1 : i = 5 := by omega
        have e2 : i2 - 5 = 5 := by omega
        have e3 : k7 = e0 := by omega
        rw [e1] at hx4
        rw [e2] at hx5
        rw [e3] at hs6
        exact Or.inr ⟨rfl, fun z => hc9 (hx4.trans z.2.1)⟩, by rw [ht]; exact hP, hD⟩, hS.F ht⟩) hS.2.2 xd_Mo_says_211
            · refine lv_iload hx hb xd_Mo_says_200 (lv_at hl 2 rfl) ?_
              refine lv_iload_n hx hb xd_Mo_says_202 rfl (lv_at hl 7 rfl) ?_
              refine lv_icmp_ne (tgt := 210) hx hb xd_Mo_says_203 (by decide) (fun hc10 => ?_) (fun hc10 => ?_)
              · refine lv_iconst (v := 0) hx hb xd_Mo_says_210 (by decide) ?_
                exact W.zret (v := 0) hx hb hr rfl (fun t ht hW => ⟨⟨0, (), rfl, by
        have e1 : i = 5 := by omega
        have e2 : i2 - 5 = 5 := by omega
        have e3 : k7 = e0 := by omega
        rw [e1] at hx4
        rw [e2] at hx5
        rw [e3] at hs6
        exact Or.inr ⟨rfl, fun z => hc10 (hx5.trans z.2.2)⟩, by rw [ht]; exact hP, hD⟩, hS.F ht⟩) hS.2.2 xd_Mo_says_211
              · refine lv_iconst (v := 1) hx hb xd_Mo_says_206 (by decide) ?_
                refine lv_goto (tgt := 211) hx hb xd_Mo_says_207 (by decide) ?_
                exact W.zret (v := 1) hx hb hr rfl (fun t ht hW => ⟨⟨1, (), rfl, by
        have e1 : i = 5 := by omega
        have e2 : i2 - 5 = 5 := by omega
        have e3 : k7 = e0 := by omega
        rw [e1] at hx4
        rw [e2] at hx5
        rw [e3] at hs6
        rcases hs6 with ⟨q, q1, q2⟩ | ⟨q, q1⟩
        · exact Or.inl ⟨rfl, ⟨q1, q2⟩, hx4.symm.trans hc9, hx5.symm.trans hc10⟩
        · exact absurd q hc8, by rw [ht]; exact hP, hD⟩, hS.F ht⟩) hS.2.2 xd_Mo_says_211
        · refine lv_iload hx hb xd_Mo_says_147 (lv_at hl 1 rfl) ?_
          refine lv_if_eq (tgt := 180) hx hb xd_Mo_says_149 (by decide) (fun hc11 => ?_) (fun hc11 => ?_)
          · refine lv_iconst (v := 0) hx hb xd_Mo_says_180 (by decide) ?_
            refine lv_istore hx hb xd_Mo_says_181 hl (Nat.le_of_ble_eq_true rfl) rfl (fun ls hl => ?_)
            have hl : lv_has ls 8 [(6, .int 0), (7, .int (nI k7)), (5, .int x5), (4, .int x4), (0, .ref h), (1, .int (nI w)), (2, .int a9), (3, .int c9)] := hl
            refine lv_iinc (k := 1) (x := (nI k7)) (v := (nI (k7 + 1))) hx hb xd_Mo_says_183 hl rfl (xb_inc k7 1) (Nat.le_of_ble_eq_true rfl) rfl (fun ls hl => ?_)
            have hl : lv_has ls 8 [(7, .int (nI (k7 + 1))), (6, .int 0), (5, .int x5), (4, .int x4), (0, .ref h), (1, .int (nI w)), (2, .int a9), (3, .int c9)] := hl
            refine lv_goto (tgt := 136) hx hb xd_Mo_says_186 (by decide) ?_
            exact ih6 (k7 + 1, 0) _ _ _ (show e0 - (k7 + 1) < e0 - k7 by omega) (lv_sub hl [0, 1, 2, 3, 4, 5, 6, 7] rfl) hP hD hS ⟨(show b0 ≤ (k7 + 1) from by first | assumption | omega), (show (k7 + 1) ≤ e0 from by first | assumption | omega), (show (0 = 1 ∧ e0 - b0 ≤ 10 ∧ n_small (g 0) b0 ((k7 + 1) - b0)) ∨ (0 = 0 ∧ ¬ (e0 - b0 ≤ 10 ∧ n_small (g 0) b0 ((k7 + 1) - b0))) from by
        rcases hs6 with ⟨q, q1, q2⟩ | ⟨q, q1⟩
        · exact absurd (q.symm.trans hc11) (by decide)
        · exact Or.inr ⟨rfl, fun z => q1 ⟨z.1, (n_small_r.mp (by rw [← show k7 + 1 - b0 = k7 - b0 + 1 by omega]; exact z.2)).1⟩⟩)⟩
          · refine lv_aload_n hx hb xd_Mo_says_152 rfl (lv_at hl 4 rfl) ?_
            refine va_get (D := D) (ci := 4) (v := .ref (mm 0)) (C := xR_Mo) (T := xT_Mo) (N := 31) hx hb hT xi_Mo hown hK.1 hP 0 rfl rfl 2 (by decide) (hT _ k4a_2) (fun _ h9 => h9) rfl xd_Mo_says_153 ?_
            refine lv_iload hx hb xd_Mo_says_156 (lv_at hl 0 rfl) ?_
            refine xn_cald (i := k7) hx hb hK.1 hP 1 1 rfl rfl (by omega) (by decide) xd_Mo_says_158 ?_
            refine lv_bipush (v := 97) hx hb xd_Mo_says_159 (by decide) ?_
            refine lv_icmp_lt (tgt := 180) hx hb xd_Mo_says_161 (by decide) (fun hc12 => ?_) (fun hc12 => ?_)
            · refine lv_iconst (v := 0) hx hb xd_Mo_says_180 (by decide) ?_
              refine lv_istore hx hb xd_Mo_says_181 hl (Nat.le_of_ble_eq_true rfl) rfl (fun ls hl => ?_)
              have hl : lv_has ls 8 [(6, .int 0), (7, .int (nI k7)), (5, .int x5), (4, .int x4), (0, .ref h), (1, .int (nI w)), (2, .int a9), (3, .int c9)] := hl
              refine lv_iinc (k := 1) (x := (nI k7)) (v := (nI (k7 + 1))) hx hb xd_Mo_says_183 hl rfl (xb_inc k7 1) (Nat.le_of_ble_eq_true rfl) rfl (fun ls hl => ?_)
              have hl : lv_has ls 8 [(7, .int (nI (k7 + 1))), (6, .int 0), (5, .int x5), (4, .int x4), (0, .ref h), (1, .int (nI w)), (2, .int a9), (3, .int c9)] := hl
              refine lv_goto (tgt := 136) hx hb xd_Mo_says_186 (by decide) ?_
              exact ih6 (k7 + 1, 0) _ _ _ (show e0 - (k7 + 1) < e0 - k7 by omega) (lv_sub hl [0, 1, 2, 3, 4, 5, 6, 7] rfl) hP hD hS ⟨(show b0 ≤ (k7 + 1) from by first | assumption | omega), (show (k7 + 1) ≤ e0 from by first | assumption | omega), (show (0 = 1 ∧ e0 - b0 ≤ 10 ∧ n_small (g 0) b0 ((k7 + 1) - b0)) ∨ (0 = 0 ∧ ¬ (e0 - b0 ≤ 10 ∧ n_small (g 0) b0 ((k7 + 1) - b0))) from Or.inr ⟨rfl, fun z => (n_small_at z.2 (p := k7 - b0) (by omega)).1 (by rw [show b0 + (k7 - b0) = k7 by omega]; exact hc12)⟩)⟩
            · refine lv_aload_n hx hb xd_Mo_says_164 rfl (lv_at hl 4 rfl) ?_
              refine va_get (D := D) (ci := 4) (v := .ref (mm 0)) (C := xR_Mo) (T := xT_Mo) (N := 31) hx hb hT xi_Mo hown hK.1 hP 0 rfl rfl 2 (by decide) (hT _ k4a_2) (fun _ h9 => h9) rfl xd_Mo_says_165 ?_
              refine lv_iload hx hb xd_Mo_says_168 (lv_at hl 0 rfl) ?_
              refine xn_cald (i := k7) hx hb hK.1 hP 1 1 rfl rfl (by omega) (by decide) xd_Mo_says_170 ?_
              refine lv_bipush (v := 122) hx hb xd_Mo_says_171 (by decide) ?_
              refine lv_icmp_gt (tgt := 180) hx hb xd_Mo_says_173 (by decide) (fun hc13 => ?_) (fun hc13 => ?_)
              · refine lv_iconst (v := 0) hx hb xd_Mo_says_180 (by decide) ?_
                refine lv_istore hx hb xd_Mo_says_181 hl (Nat.le_of_ble_eq_true rfl) rfl (fun ls hl => ?_)
                have hl : lv_has ls 8 [(6, .int 0), (7, .int (nI k7)), (5, .int x5), (4, .int x4), (0, .ref h), (1, .int (nI w)), (2, .int a9), (3, .int c9)] := hl
                refine lv_iinc (k := 1) (x := (nI k7)) (v := (nI (k7 + 1))) hx hb xd_Mo_says_183 hl rfl (xb_inc k7 1) (Nat.le_of_ble_eq_true rfl) rfl (fun ls hl => ?_)
                have hl : lv_has ls 8 [(7, .int (nI (k7 + 1))), (6, .int 0), (5, .int x5), (4, .int x4), (0, .ref h), (1, .int (nI w)), (2, .int a9), (3, .int c9)] := hl
                refine lv_goto (tgt := 136) hx hb xd_Mo_says_186 (by decide) ?_
                exact ih6 (k7 + 1, 0) _ _ _ (show e0 - (k7 + 1) < e0 - k7 by omega) (lv_sub hl [0, 1, 2, 3, 4, 5, 6, 7] rfl) hP hD hS ⟨(show b0 ≤ (k7 + 1) from by first | assumption | omega), (show (k7 + 1) ≤ e0 from by first | assumption | omega), (show (0 = 1 ∧ e0 - b0 ≤ 10 ∧ n_small (g 0) b0 ((k7 + 1) - b0)) ∨ (0 = 0 ∧ ¬ (e0 - b0 ≤ 10 ∧ n_small (g 0) b0 ((k7 + 1) - b0))) from Or.inr ⟨rfl, fun z => (n_small_at z.2 (p := k7 - b0) (by omega)).2 (by rw [show b0 + (k7 - b0) = k7 by omega]; exact hc13)⟩)⟩
              · refine lv_iconst (v := 1) hx hb xd_Mo_says_176 (by decide) ?_
                refine lv_goto (tgt := 181) hx hb xd_Mo_says_177 (by decide) ?_
                refine lv_istore hx hb xd_Mo_says_181 hl (Nat.le_of_ble_eq_true rfl) rfl (fun ls hl => ?_)
                have hl : lv_has ls 8 [(6, .int 1), (7, .int (nI k7)), (5, .int x5), (4, .int x4), (0, .ref h), (1, .int (nI w)), (2, .int a9), (3, .int c9)] := hl
                refine lv_iinc (k := 1) (x := (nI k7)) (v := (nI (k7 + 1))) hx hb xd_Mo_says_183 hl rfl (xb_inc k7 1) (Nat.le_of_ble_eq_true rfl) rfl (fun ls hl => ?_)
                have hl : lv_has ls 8 [(7, .int (nI (k7 + 1))), (6, .int 1), (5, .int x5), (4, .int x4), (0, .ref h), (1, .int (nI w)), (2, .int a9), (3, .int c9)] := hl
                refine lv_goto (tgt := 136) hx hb xd_Mo_says_186 (by decide) ?_
                exact ih6 (k7 + 1, 1) _ _ _ (show e0 - (k7 + 1) < e0 - k7 by omega) (lv_sub hl [0, 1, 2, 3, 4, 5, 6, 7] rfl) hP hD hS ⟨(show b0 ≤ (k7 + 1) from by first | assumption | omega), (show (k7 + 1) ≤ e0 from by first | assumption | omega), (show (1 = 1 ∧ e0 - b0 ≤ 10 ∧ n_small (g 0) b0 ((k7 + 1) - b0)) ∨ (1 = 0 ∧ ¬ (e0 - b0 ≤ 10 ∧ n_small (g 0) b0 ((k7 + 1) - b0))) from by
        rcases hs6 with ⟨q, q1, q2⟩ | ⟨q, q1⟩
        · exact Or.inl ⟨rfl, q1, (by rw [show k7 + 1 - b0 = k7 - b0 + 1 by omega, n_small_r, show b0 + (k7 - b0) = k7 by omega]; exact ⟨q2, hc12, hc13⟩)⟩
        · exact absurd q hc11)⟩
      · refine lv_iconst (v := 1) hx hb xd_Mo_says_121 (by decide) ?_
        refine lv_goto (tgt := 126) hx hb xd_Mo_says_122 (by decide) ?_
        refine lv_istore hx hb xd_Mo_says_126 hl (Nat.le_of_ble_eq_true rfl) rfl (fun ls hl => ?_)
        have hl : lv_has ls 8 [(6, .int 1), (5, .int x5), (4, .int x4), (0, .ref h), (1, .int (nI w)), (2, .int a9), (3, .int c9)] := hl
        refine lv_aload_n hx hb xd_Mo_says_128 rfl (lv_at hl 3 rfl) ?_
        refine va_get (D := D) (ci := 4) (v := .ref (mm 1)) (C := xR_Mo) (T := xT_Mo) (N := 31) hx hb hT xi_Mo hown hK.1 hP 0 rfl rfl 5 (by decide) (hT _ k4a_0) (fun _ h9 => h9) rfl xd_Mo_says_129 ?_
        refine lv_iload_n hx hb xd_Mo_says_132 rfl (lv_at hl 4 rfl) ?_
        refine xn_iald (i := w) hx hb hK.1 hP 2 0 rfl rfl (by omega) (by decide) xd_Mo_says_133 ?_
        refine xn_top (x := (g 1 w)) (y := nI b0) hb0 ?_
        refine lv_istore hx hb xd_Mo_says_134 hl (Nat.le_of_ble_eq_true rfl) rfl (fun ls hl => ?_)
        have hl : lv_has ls 8 [(7, .int (nI b0)), (6, .int 1), (5, .int x5), (4, .int x4), (0, .ref h), (1, .int (nI w)), (2, .int a9), (3, .int c9)] := hl
        refine xlab (σ := Nat × Int32) (ml := 8) 136 (fun (k7, s6) => [(7, .int (nI k7)), (6, .int s6), (5, .int x5), (4, .int x4), (0, .ref h), (1, .int (nI w)), (2, .int a9), (3, .int c9)]) (fun (k7, s6) => []) (fun (k7, s6) => moW h mm kA v g) (fun (k7, s6) => (b0 ≤ k7) ∧ (k7 ≤ e0) ∧ ((s6 = 1 ∧ e0 - b0 ≤ 10 ∧ n_small (g 0) b0 (k7 - b0)) ∨ (s6 = 0 ∧ ¬ (e0 - b0 ≤ 10 ∧ n_small (g 0) b0 (k7 - b0))))) (fun (k7, s6) => e0 - k7) ?_ (b0, 1) _ _ _ (lv_sub hl [0, 1, 2, 3, 4, 5, 6, 7] rfl) hP hD hS ⟨(show b0 ≤ b0 from by first | assumption | omega), (show b0 ≤ e0 from by first | assumption | omega), (show (1 = 1 ∧ e0 - b0 ≤ 10 ∧ n_small (g 0) b0 (b0 - b0)) ∨ (1 = 0 ∧ ¬ (e0 - b0 ≤ 10 ∧ n_small (g 0) b0 (b0 - b0))) from Or.inl ⟨rfl, by omega, by rw [Nat.sub_self]; trivial⟩)⟩
        intro n9 ih14 a9 ls H locs hμ hl hP hD hS hI
        subst hμ
        obtain ⟨k7, s6⟩ := a9
        obtain ⟨hk1, hk2, hs6⟩ := hI
        have hk1 : b0 ≤ k7 := hk1
        have hk2 : k7 ≤ e0 := hk2
        have hs6 : (s6 = 1 ∧ e0 - b0 ≤ 10 ∧ n_small (g 0) b0 (k7 - b0)) ∨ (s6 = 0 ∧ ¬ (e0 - b0 ≤ 10 ∧ n_small (g 0) b0 (k7 - b0))) := hs6
        have hl : lv_has ls 8 [(7, .int (nI k7)), (6, .int s6), (5, .int x5), (4, .int x4), (0, .ref h), (1, .int (nI w)), (2, .int a9), (3, .int c9)] := hl
        have hP : va_P D xcl (moW h mm kA v g) H := hP
        have hD : va_D A (moW h mm kA v g) := hD
        refine lv_iload hx hb xd_Mo_says_136 (lv_at hl 0 rfl) ?_
        refine lv_aload_n hx hb xd_Mo_says_138 rfl (lv_at hl 4 rfl) ?_
        refine va_get (D := D) (ci := 4) (v := .ref (mm 2)) (C := xR_Mo) (T := xT_Mo) (N := 31) hx hb hT xi_Mo hown hK.1 hP 0 rfl rfl 6 (by decide) (hT _ k4a_1) (fun _ h9 => h9) rfl xd_Mo_says_139 ?_
        refine lv_iload_n hx hb xd_Mo_says_142 rfl (lv_at hl 5 rfl) ?_
        refine xn_iald (i := w) hx hb hK.1 hP 3 0 rfl rfl (by omega) (by decide) xd_Mo_says_143 ?_
        refine xn_top (x := (g 2 w)) (y := nI e0) he0 ?_
        refine xn_ge (a := k7) (b := e0) (tgt := 189) hx hb xd_Mo_says_144 (by decide) (by omega) (by omega) (fun hc15 => ?_) (fun hc15 => ?_)
        · refine lv_iload hx hb xd_Mo_says_189 (lv_at hl 1 rfl) ?_
          refine lv_if_eq (tgt := 210) hx hb xd_Mo_says_191 (by decide) (fun hc16 => ?_) (fun hc16 => ?_)
          · refine lv_iconst (v := 0) hx hb xd_Mo_says_210 (by decide) ?_
            exact W.zret (v := 0) hx hb hr rfl (fun t ht hW => ⟨⟨0, (), rfl, by
        have e1 : i = 5 := by omega
        have e2 : i2 - 5 = 5 := by omega
        have e3 : k7 = e0 := by omega
        rw [e1] at hx4
        rw [e2] at hx5
        rw [e3] at hs6
        rcases hs6 with ⟨q, q1, q2⟩ | ⟨q, q1⟩
        · exact absurd (q.symm.trans hc16) (by decide)
        · exact Or.inr ⟨rfl, fun z => q1 z.1⟩, by rw [ht]; exact hP, hD⟩, hS.F ht⟩) hS.2.2 xd_Mo_says_211
          · refine lv_iload hx hb xd_Mo_says_194 (lv_at hl 3 rfl) ?_
            refine lv_iload_n hx hb xd_Mo_says_196 rfl (lv_at hl 6 rfl) ?_
            refine lv_icmp_ne (tgt := 210) hx hb xd_Mo_says_197 (by decide) (fun hc17 => ?_) (fun hc17 => ?_)
            · refine lv_iconst (v := 0) hx hb xd_Mo_says_210 (by decide) ?_
              exact W.zret (v := 0) hx hb hr rfl (fun t ht hW => ⟨⟨0, (), rfl, by
        have e1 : i = 5 := by omega
        have e2 : i2 - 5 = 5 := by omega
        have e3 : k7 = e0 := by omega
        rw [e1] at hx4
        rw [e2] at hx5
        rw [e3] at hs6
        exact Or.inr ⟨rfl, fun z => hc17 (hx4.trans z.2.1)⟩, by rw [ht]; exact hP, hD⟩, hS.F ht⟩) hS.2.2 xd_Mo_says_211
            · refine lv_iload hx hb xd_Mo_says_200 (lv_at hl 2 rfl) ?_
              refine lv_iload_n hx hb xd_Mo_says_202 rfl (lv_at hl 7 rfl) ?_
              refine lv_icmp_ne (tgt := 210) hx hb xd_Mo_says_203 (by decide) (fun hc18 => ?_) (fun hc18 => ?_)
              · refine lv_iconst (v := 0) hx hb xd_Mo_says_210 (by decide) ?_
                exact W.zret (v := 0) hx hb hr rfl (fun t ht hW => ⟨⟨0, (), rfl, by
        have e1 : i = 5 := by omega
        have e2 : i2 - 5 = 5 := by omega
        have e3 : k7 = e0 := by omega
        rw [e1] at hx4
        rw [e2] at hx5
        rw [e3] at hs6
        exact Or.inr ⟨rfl, fun z => hc18 (hx5.trans z.2.2)⟩, by rw [ht]; exact hP, hD⟩, hS.F ht⟩) hS.2.2 xd_Mo_says_211
              · refine lv_iconst (v := 1) hx hb xd_Mo_says_206 (by decide) ?_
                refine lv_goto (tgt := 211) hx hb xd_Mo_says_207 (by decide) ?_
                exact W.zret (v := 1) hx hb hr rfl (fun t ht hW => ⟨⟨1, (), rfl, by
        have e1 : i = 5 := by omega
        have e2 : i2 - 5 = 5 := by omega
        have e3 : k7 = e0 := by omega
        rw [e1] at hx4
        rw [e2] at hx5
        rw [e3] at hs6
        rcases hs6 with ⟨q, q1, q2⟩ | ⟨q, q1⟩
        · exact Or.inl ⟨rfl, ⟨q1, q2⟩, hx4.symm.trans hc17, hx5.symm.trans hc18⟩
        · exact absurd q hc16, by rw [ht]; exact hP, hD⟩, hS.F ht⟩) hS.2.2 xd_Mo_says_211
        · refine lv_iload hx hb xd_Mo_says_147 (lv_at hl 1 rfl) ?_
          refine lv_if_eq (tgt := 180) hx hb xd_Mo_says_149 (by decide) (fun hc19 => ?_) (fun hc19 => ?_)
          · refine lv_iconst (v := 0) hx hb xd_Mo_says_180 (by decide) ?_
            refine lv_istore hx hb xd_Mo_says_181 hl (Nat.le_of_ble_eq_true rfl) rfl (fun ls hl => ?_)
            have hl : lv_has ls 8 [(6, .int 0), (7, .int (nI k7)), (5, .int x5), (4, .int x4), (0, .ref h), (1, .int (nI w)), (2, .int a9), (3, .int c9)] := hl
            refine lv_iinc (k := 1) (x := (nI k7)) (v := (nI (k7 + 1))) hx hb xd_Mo_says_183 hl rfl (xb_inc k7 1) (Nat.le_of_ble_eq_true rfl) rfl (fun ls hl => ?_)
            have hl : lv_has ls 8 [(7, .int (nI (k7 + 1))), (6, .int 0), (5, .int x5), (4, .int x4), (0, .ref h), (1, .int (nI w)), (2, .int a9), (3, .int c9)] := hl
            refine lv_goto (tgt := 136) hx hb xd_Mo_says_186 (by decide) ?_
            exact ih14 (k7 + 1, 0) _ _ _ (show e0 - (k7 + 1) < e0 - k7 by omega) (lv_sub hl [0, 1, 2, 3, 4, 5, 6, 7] rfl) hP hD hS ⟨(show b0 ≤ (k7 + 1) from by first | assumption | omega), (show (k7 + 1) ≤ e0 from by first | assumption | omega), (show (0 = 1 ∧ e0 - b0 ≤ 10 ∧ n_small (g 0) b0 ((k7 + 1) - b0)) ∨ (0 = 0 ∧ ¬ (e0 - b0 ≤ 10 ∧ n_small (g 0) b0 ((k7 + 1) - b0))) from by
        rcases hs6 with ⟨q, q1, q2⟩ | ⟨q, q1⟩
        · exact absurd (q.symm.trans hc19) (by decide)
        · exact Or.inr ⟨rfl, fun z => q1 ⟨z.1, (n_small_r.mp (by rw [← show k7 + 1 - b0 = k7 - b0 + 1 by omega]; exact z.2)).1⟩⟩)⟩
          · refine lv_aload_n hx hb xd_Mo_says_152 rfl (lv_at hl 4 rfl) ?_
            refine va_get (D := D) (ci := 4) (v := .ref (mm 0)) (C := xR_Mo) (T := xT_Mo) (N := 31) hx hb hT xi_Mo hown hK.1 hP 0 rfl rfl 2 (by decide) (hT _ k4a_2) (fun _ h9 => h9) rfl xd_Mo_says_153 ?_
            refine lv_iload hx hb xd_Mo_says_156 (lv_at hl 0 rfl) ?_
            refine xn_cald (i := k7) hx hb hK.1 hP 1 1 rfl rfl (by omega) (by decide) xd_Mo_says_158 ?_
            refine lv_bipush (v := 97) hx hb xd_Mo_says_159 (by decide) ?_
            refine lv_icmp_lt (tgt := 180) hx hb xd_Mo_says_161 (by decide) (fun hc20 => ?_) (fun hc20 => ?_)
            · refine lv_iconst (v := 0) hx hb xd_Mo_says_180 (by decide) ?_
              refine lv_istore hx hb xd_Mo_says_181 hl (Nat.le_of_ble_eq_true rfl) rfl (fun ls hl => ?_)
              have hl : lv_has ls 8 [(6, .int 0), (7, .int (nI k7)), (5, .int x5), (4, .int x4), (0, .ref h), (1, .int (nI w)), (2, .int a9), (3, .int c9)] := hl
              refine lv_iinc (k := 1) (x := (nI k7)) (v := (nI (k7 + 1))) hx hb xd_Mo_says_183 hl rfl (xb_inc k7 1) (Nat.le_of_ble_eq_true rfl) rfl (fun ls hl => ?_)
              have hl : lv_has ls 8 [(7, .int (nI (k7 + 1))), (6, .int 0), (5, .int x5), (4, .int x4), (0, .ref h), (1, .int (nI w)), (2, .int a9), (3, .int c9)] := hl
              refine lv_goto (tgt := 136) hx hb xd_Mo_says_186 (by decide) ?_
              exact ih14 (k7 + 1, 0) _ _ _ (show e0 - (k7 + 1) < e0 - k7 by omega) (lv_sub hl [0, 1, 2, 3, 4, 5, 6, 7] rfl) hP hD hS ⟨(show b0 ≤ (k7 + 1) from by first | assumption | omega), (show (k7 + 1) ≤ e0 from by first | assumption | omega), (show (0 = 1 ∧ e0 - b0 ≤ 10 ∧ n_small (g 0) b0 ((k7 + 1) - b0)) ∨ (0 = 0 ∧ ¬ (e0 - b0 ≤ 10 ∧ n_small (g 0) b0 ((k7 + 1) - b0))) from Or.inr ⟨rfl, fun z => (n_small_at z.2 (p := k7 - b0) (by omega)).1 (by rw [show b0 + (k7 - b0) = k7 by omega]; exact hc20)⟩)⟩
            · refine lv_aload_n hx hb xd_Mo_says_164 rfl (lv_at hl 4 rfl) ?_
              refine va_get (D := D) (ci := 4) (v := .ref (mm 0)) (C := xR_Mo) (T := xT_Mo) (N := 31) hx hb hT xi_Mo hown hK.1 hP 0 rfl rfl 2 (by decide) (hT _ k4a_2) (fun _ h9 => h9) rfl xd_Mo_says_165 ?_
              refine lv_iload hx hb xd_Mo_says_168 (lv_at hl 0 rfl) ?_
              refine xn_cald (i := k7) hx hb hK.1 hP 1 1 rfl rfl (by omega) (by decide) xd_Mo_says_170 ?_
              refine lv_bipush (v := 122) hx hb xd_Mo_says_171 (by decide) ?_
              refine lv_icmp_gt (tgt := 180) hx hb xd_Mo_says_173 (by decide) (fun hc21 => ?_) (fun hc21 => ?_)
              · refine lv_iconst (v := 0) hx hb xd_Mo_says_180 (by decide) ?_
                refine lv_istore hx hb xd_Mo_says_181 hl (Nat.le_of_ble_eq_true rfl) rfl (fun ls hl => ?_)
                have hl : lv_has ls 8 [(6, .int 0), (7, .int (nI k7)), (5, .int x5), (4, .int x4), (0, .ref h), (1, .int (nI w)), (2, .int a9), (3, .int c9)] := hl
                refine lv_iinc (k := 1) (x := (nI k7)) (v := (nI (k7 + 1))) hx hb xd_Mo_says_183 hl rfl (xb_inc k7 1) (Nat.le_of_ble_eq_true rfl) rfl (fun ls hl => ?_)
                have hl : lv_has ls 8 [(7, .int (nI (k7 + 1))), (6, .int 0), (5, .int x5), (4, .int x4), (0, .ref h), (1, .int (nI w)), (2, .int a9), (3, .int c9)] := hl
                refine lv_goto (tgt := 136) hx hb xd_Mo_says_186 (by decide) ?_
                exact ih14 (k7 + 1, 0) _ _ _ (show e0 - (k7 + 1) < e0 - k7 by omega) (lv_sub hl [0, 1, 2, 3, 4, 5, 6, 7] rfl) hP hD hS ⟨(show b0 ≤ (k7 + 1) from by first | assumption | omega), (show (k7 + 1) ≤ e0 from by first | assumption | omega), (show (0 = 1 ∧ e0 - b0 ≤ 10 ∧ n_small (g 0) b0 ((k7 + 1) - b0)) ∨ (0 = 0 ∧ ¬ (e0 - b0 ≤ 10 ∧ n_small (g 0) b0 ((k7 + 1) - b0))) from Or.inr ⟨rfl, fun z => (n_small_at z.2 (p := k7 - b0) (by omega)).2 (by rw [show b0 + (k7 - b0) = k7 by omega]; exact hc21)⟩)⟩
              · refine lv_iconst (v := 1) hx hb xd_Mo_says_176 (by decide) ?_
                refine lv_goto (tgt := 181) hx hb xd_Mo_says_177 (by decide) ?_
                refine lv_istore hx hb xd_Mo_says_181 hl (Nat.le_of_ble_eq_true rfl) rfl (fun ls hl => ?_)
                have hl : lv_has ls 8 [(6, .int 1), (7, .int (nI k7)), (5, .int x5), (4, .int x4), (0, .ref h), (1, .int (nI w)), (2, .int a9), (3, .int c9)] := hl
                refine lv_iinc (k := 1) (x := (nI k7)) (v := (nI (k7 + 1))) hx hb xd_Mo_says_183 hl rfl (xb_inc k7 1) (Nat.le_of_ble_eq_true rfl) rfl (fun ls hl => ?_)
                have hl : lv_has ls 8 [(7, .int (nI (k7 + 1))), (6, .int 1), (5, .int x5), (4, .int x4), (0, .ref h), (1, .int (nI w)), (2, .int a9), (3, .int c9)] := hl
                refine lv_goto (tgt := 136) hx hb xd_Mo_says_186 (by decide) ?_
                exact ih14 (k7 + 1, 1) _ _ _ (show e0 - (k7 + 1) < e0 - k7 by omega) (lv_sub hl [0, 1, 2, 3, 4, 5, 6, 7] rfl) hP hD hS ⟨(show b0 ≤ (k7 + 1) from by first | assumption | omega), (show (k7 + 1) ≤ e0 from by first | assumption | omega), (show (1 = 1 ∧ e0 - b0 ≤ 10 ∧ n_small (g 0) b0 ((k7 + 1) - b0)) ∨ (1 = 0 ∧ ¬ (e0 - b0 ≤ 10 ∧ n_small (g 0) b0 ((k7 + 1) - b0))) from by
        rcases hs6 with ⟨q, q1, q2⟩ | ⟨q, q1⟩
        · exact Or.inl ⟨rfl, q1, (by rw [show k7 + 1 - b0 = k7 - b0 + 1 by omega, n_small_r, show b0 + (k7 - b0) = k7 by omega]; exact ⟨q2, hc20, hc21⟩)⟩
        · exact absurd q hc19)⟩
    · refine lv_aload_n hx hb xd_Mo_says_64 rfl (lv_at hl 3 rfl) ?_
      refine lv_iload_n hx hb xd_Mo_says_65 rfl (lv_at hl 4 rfl) ?_
      refine lv_iload hx hb xd_Mo_says_66 (lv_at hl 0 rfl) ?_
      have hFc := va_free (wc := (moW h mm kA v g)) hD hS hA [0, 1, 2, 3, 4, 5, 6, 7, 8, 9, 10, 11, 12, 13, 14, 15, 16, 17, 18, 19, 20, 21, 22, 23, 24, 25] rfl
      refine va_calli (va_runV (As := [.int (nI w), .int (nI i2)]) (rest := []) ⟨hx, hb, hml, hown, hT⟩ (xc_Mo_letterX l D kA H.size h mm v g w b0 e0 i2 (by first | assumption | omega) (by first | assumption | omega) (by first | assumption | omega) (by first | assumption | omega) (by first | assumption | omega) (by first | assumption | omega) (by first | assumption | omega)) (cwV 2 hT (wT_V k4a_4 k4a_5 k4a_6 k4a_7 k4a_3) rfl rfl rfl (by decide +kernel) ⟨Nat.le_of_ble_eq_true rfl, Nat.le_of_ble_eq_true rfl⟩) (x_preV hK hP hD 0 rfl rfl) rfl rfl hl.1 rfl (lv_room (Nat.le_of_ble_eq_true rfl)) xd_Mo_says_68 ⟨Nat.le_of_ble_eq_true rfl, Nat.le_of_ble_eq_true rfl⟩) hS (fun q _ h => hFc q h) hFc (fun r22 u23 t H1 locs ht hvm hp24 hB hz1 hk1 hS => ?_)
      obtain ⟨hP1, hD1⟩ := hB
      rw [ht] at hP1
      have hD1 := hD1.weaken (fun _ _ _ h => hFc _ h)
      generalize H1 = H at hP1 hS ⊢
      have hP := hP1
      have hD := hD1
      have hP : va_P D xcl (moW h mm kA v g) H := hP
      have hD : va_D A (moW h mm kA v g) := hD
      have hp24 : r22 = sL (g 0) b0 e0 i2 := hp24
      subst hp24
      have hP : va_P D xcl (moW h mm kA v g) H := hP
      have hD : va_D A (moW h mm kA v g) := hD
      refine lv_if_ne (tgt := 79) hx hb xd_Mo_says_71 (by decide) (fun hc25 => ?_) (fun hc25 => ?_)
      · refine lv_bipush (v := 32) hx hb xd_Mo_says_79 (by decide) ?_
        refine lv_iload hx hb xd_Mo_says_81 (lv_at hl 1 rfl) ?_
        refine lv_imul hx hb xd_Mo_says_83 ?_
        refine lv_aload_n hx hb xd_Mo_says_84 rfl (lv_at hl 3 rfl) ?_
        refine lv_iload_n hx hb xd_Mo_says_85 rfl (lv_at hl 4 rfl) ?_
        refine lv_iload hx hb xd_Mo_says_86 (lv_at hl 0 rfl) ?_
        have hFc := va_free (wc := (moW h mm kA v g)) hD hS hA [0, 1, 2, 3, 4, 5, 6, 7, 8, 9, 10, 11, 12, 13, 14, 15, 16, 17, 18, 19, 20, 21, 22, 23, 24, 25] rfl
        refine va_calli (va_runV (As := [.int (nI w), .int (nI i2)]) (rest := [.int (32 * x5)]) ⟨hx, hb, hml, hown, hT⟩ (xc_Mo_letterX l D kA H.size h mm v g w b0 e0 i2 (by first | assumption | omega) (by first | assumption | omega) (by first | assumption | omega) (by first | assumption | omega) (by first | assumption | omega) (by first | assumption | omega) (by first | assumption | omega)) (cwV 2 hT (wT_V k4a_4 k4a_5 k4a_6 k4a_7 k4a_3) rfl rfl rfl (by decide +kernel) ⟨Nat.le_of_ble_eq_true rfl, Nat.le_of_ble_eq_true rfl⟩) (x_preV hK hP hD 0 rfl rfl) rfl rfl hl.1 rfl (lv_room (Nat.le_of_ble_eq_true rfl)) xd_Mo_says_88 ⟨Nat.le_of_ble_eq_true rfl, Nat.le_of_ble_eq_true rfl⟩) hS (fun q _ h => hFc q h) hFc (fun r26 u27 t H1 locs ht hvm hp28 hB hz1 hk1 hS => ?_)
        obtain ⟨hP1, hD1⟩ := hB
        rw [ht] at hP1
        have hD1 := hD1.weaken (fun _ _ _ h => hFc _ h)
        generalize H1 = H at hP1 hS ⊢
        have hP := hP1
        have hD := hD1
        have hP : va_P D xcl (moW h mm kA v g) H := hP
        have hD : va_D A (moW h mm kA v g) := hD
        have hp28 : r26 = sL (g 0) b0 e0 i2 := hp28
        subst hp28
        have hP : va_P D xcl (moW h mm kA v g) H := hP
        have hD : va_D A (moW h mm kA v g) := hD
        refine lv_bipush (v := 31) hx hb xd_Mo_says_91 (by decide) ?_
        refine lv_iand hx hb xd_Mo_says_93 ?_
        refine lv_iadd hx hb xd_Mo_says_94 ?_
        refine lv_istore hx hb xd_Mo_says_95 hl (Nat.le_of_ble_eq_true rfl) rfl (fun ls hl => ?_)
        have hl : lv_has ls 8 [(5, .int ((32 * x5) + ((sL (g 0) b0 e0 i2) &&& 31))), (6, .int (nI i2)), (4, .int x4), (0, .ref h), (1, .int (nI w)), (2, .int a9), (3, .int c9)] := hl
        refine lv_iinc (k := 1) (x := (nI i2)) (v := (nI (i2 + 1))) hx hb xd_Mo_says_97 hl rfl (xb_inc i2 1) (Nat.le_of_ble_eq_true rfl) rfl (fun ls hl => ?_)
        have hl : lv_has ls 8 [(6, .int (nI (i2 + 1))), (5, .int ((32 * x5) + ((sL (g 0) b0 e0 i2) &&& 31))), (4, .int x4), (0, .ref h), (1, .int (nI w)), (2, .int a9), (3, .int c9)] := hl
        refine lv_goto (tgt := 57) hx hb xd_Mo_says_100 (by decide) ?_
        exact ih3 (i2 + 1, ((32 * x5) + ((sL (g 0) b0 e0 i2) &&& 31))) _ _ _ (show 10 - (i2 + 1) < 10 - i2 by omega) (lv_sub hl [0, 1, 2, 3, 4, 5, 6] rfl) hP hD hS ⟨(show 5 ≤ (i2 + 1) from by first | assumption | omega), (show (i2 + 1) ≤ 10 from by first | assumption | omega), (show ((32 * x5) + ((sL (g 0) b0 e0 i2) &&& 31)) = sC (g 0) b0 e0 5 ((i2 + 1) - 5) from by rw [show i2 + 1 - 5 = i2 - 5 + 1 by omega, sC_n (by rw [show 5 + (i2 - 5) = i2 by omega]; exact hc25), hx5, show 5 + (i2 - 5) = i2 by omega])⟩
      · refine lv_iload hx hb xd_Mo_says_74 (lv_at hl 1 rfl) ?_
        refine lv_goto (tgt := 95) hx hb xd_Mo_says_76 (by decide) ?_
        refine lv_istore hx hb xd_Mo_says_95 hl (Nat.le_of_ble_eq_true rfl) rfl (fun ls hl => ?_)
        have hl : lv_has ls 8 [(5, .int x5), (6, .int (nI i2)), (4, .int x4), (0, .ref h), (1, .int (nI w)), (2, .int a9), (3, .int c9)] := hl
        refine lv_iinc (k := 1) (x := (nI i2)) (v := (nI (i2 + 1))) hx hb xd_Mo_says_97 hl rfl (xb_inc i2 1) (Nat.le_of_ble_eq_true rfl) rfl (fun ls hl => ?_)
        have hl : lv_has ls 8 [(6, .int (nI (i2 + 1))), (5, .int x5), (4, .int x4), (0, .ref h), (1, .int (nI w)), (2, .int a9), (3, .int c9)] := hl
        refine lv_goto (tgt := 57) hx hb xd_Mo_says_100 (by decide) ?_
        exact ih3 (i2 + 1, x5) _ _ _ (show 10 - (i2 + 1) < 10 - i2 by omega) (lv_sub hl [0, 1, 2, 3, 4, 5, 6] rfl) hP hD hS ⟨(show 5 ≤ (i2 + 1) from by first | assumption | omega), (show (i2 + 1) ≤ 10 from by first | assumption | omega), (show x5 = sC (g 0) b0 e0 5 ((i2 + 1) - 5) from by rw [show i2 + 1 - 5 = i2 - 5 + 1 by omega, sC_p (by rw [show 5 + (i2 - 5) = i2 by omega]; exact hc25)]; exact hx5)⟩
  · refine lv_aload_n hx hb xd_Mo_says_15 rfl (lv_at hl 3 rfl) ?_
    refine lv_iload_n hx hb xd_Mo_says_16 rfl (lv_at hl 4 rfl) ?_
    refine lv_iload hx hb xd_Mo_says_17 (lv_at hl 0 rfl) ?_
    have hFc := va_free (wc := (moW h mm kA v g)) hD hS hA [0, 1, 2, 3, 4, 5, 6, 7, 8, 9, 10, 11, 12, 13, 14, 15, 16, 17, 18, 19, 20, 21, 22, 23, 24, 25] rfl
    refine va_calli (va_runV (As := [.int (nI w), .int (nI i)]) (rest := []) ⟨hx, hb, hml, hown, hT⟩ (xc_Mo_letterX l D kA H.size h mm v g w b0 e0 i (by first | assumption | omega) (by first | assumption | omega) (by first | assumption | omega) (by first | assumption | omega) (by first | assumption | omega) (by first | assumption | omega) (by first | assumption | omega)) (cwV 2 hT (wT_V k4a_4 k4a_5 k4a_6 k4a_7 k4a_3) rfl rfl rfl (by decide +kernel) ⟨Nat.le_of_ble_eq_true rfl, Nat.le_of_ble_eq_true rfl⟩) (x_preV hK hP hD 0 rfl rfl) rfl rfl hl.1 rfl (lv_room (Nat.le_of_ble_eq_true rfl)) xd_Mo_says_19 ⟨Nat.le_of_ble_eq_true rfl, Nat.le_of_ble_eq_true rfl⟩) hS (fun q _ h => hFc q h) hFc (fun r29 u30 t H1 locs ht hvm hp31 hB hz1 hk1 hS => ?_)
    obtain ⟨hP1, hD1⟩ := hB
    rw [ht] at hP1
    have hD1 := hD1.weaken (fun _ _ _ h => hFc _ h)
    generalize H1 = H at hP1 hS ⊢
    have hP := hP1
    have hD := hD1
    have hP : va_P D xcl (moW h mm kA v g) H := hP
    have hD : va_D A (moW h mm kA v g) := hD
    have hp31 : r29 = sL (g 0) b0 e0 i := hp31
    subst hp31
    have hP : va_P D xcl (moW h mm kA v g) H := hP
    have hD : va_D A (moW h mm kA v g) := hD
    refine lv_if_ne (tgt := 30) hx hb xd_Mo_says_22 (by decide) (fun hc32 => ?_) (fun hc32 => ?_)
    · refine lv_bipush (v := 32) hx hb xd_Mo_says_30 (by decide) ?_
      refine lv_iload hx hb xd_Mo_says_32 (lv_at hl 1 rfl) ?_
      refine lv_imul hx hb xd_Mo_says_34 ?_
      refine lv_aload_n hx hb xd_Mo_says_35 rfl (lv_at hl 3 rfl) ?_
      refine lv_iload_n hx hb xd_Mo_says_36 rfl (lv_at hl 4 rfl) ?_
      refine lv_iload hx hb xd_Mo_says_37 (lv_at hl 0 rfl) ?_
      have hFc := va_free (wc := (moW h mm kA v g)) hD hS hA [0, 1, 2, 3, 4, 5, 6, 7, 8, 9, 10, 11, 12, 13, 14, 15, 16, 17, 18, 19, 20, 21, 22, 23, 24, 25] rfl
      refine va_calli (va_runV (As := [.int (nI w), .int (nI i)]) (rest := [.int (32 * x4)]) ⟨hx, hb, hml, hown, hT⟩ (xc_Mo_letterX l D kA H.size h mm v g w b0 e0 i (by first | assumption | omega) (by first | assumption | omega) (by first | assumption | omega) (by first | assumption | omega) (by first | assumption | omega) (by first | assumption | omega) (by first | assumption | omega)) (cwV 2 hT (wT_V k4a_4 k4a_5 k4a_6 k4a_7 k4a_3) rfl rfl rfl (by decide +kernel) ⟨Nat.le_of_ble_eq_true rfl, Nat.le_of_ble_eq_true rfl⟩) (x_preV hK hP hD 0 rfl rfl) rfl rfl hl.1 rfl (lv_room (Nat.le_of_ble_eq_true rfl)) xd_Mo_says_39 ⟨Nat.le_of_ble_eq_true rfl, Nat.le_of_ble_eq_true rfl⟩) hS (fun q _ h => hFc q h) hFc (fun r33 u34 t H1 locs ht hvm hp35 hB hz1 hk1 hS => ?_)
      obtain ⟨hP1, hD1⟩ := hB
      rw [ht] at hP1
      have hD1 := hD1.weaken (fun _ _ _ h => hFc _ h)
      generalize H1 = H at hP1 hS ⊢
      have hP := hP1
      have hD := hD1
      have hP : va_P D xcl (moW h mm kA v g) H := hP
      have hD : va_D A (moW h mm kA v g) := hD
      have hp35 : r33 = sL (g 0) b0 e0 i := hp35
      subst hp35
      have hP : va_P D xcl (moW h mm kA v g) H := hP
      have hD : va_D A (moW h mm kA v g) := hD
      refine lv_bipush (v := 31) hx hb xd_Mo_says_42 (by decide) ?_
      refine lv_iand hx hb xd_Mo_says_44 ?_
      refine lv_iadd hx hb xd_Mo_says_45 ?_
      refine lv_istore hx hb xd_Mo_says_46 hl (Nat.le_of_ble_eq_true rfl) rfl (fun ls hl => ?_)
      have hl : lv_has ls 8 [(4, .int ((32 * x4) + ((sL (g 0) b0 e0 i) &&& 31))), (6, .int (nI i)), (5, .int 0), (0, .ref h), (1, .int (nI w)), (2, .int a9), (3, .int c9)] := hl
      refine lv_iinc (k := 1) (x := (nI i)) (v := (nI (i + 1))) hx hb xd_Mo_says_48 hl rfl (xb_inc i 1) (Nat.le_of_ble_eq_true rfl) rfl (fun ls hl => ?_)
      have hl : lv_has ls 8 [(6, .int (nI (i + 1))), (4, .int ((32 * x4) + ((sL (g 0) b0 e0 i) &&& 31))), (5, .int 0), (0, .ref h), (1, .int (nI w)), (2, .int a9), (3, .int c9)] := hl
      refine lv_goto (tgt := 9) hx hb xd_Mo_says_51 (by decide) ?_
      exact ih1 (i + 1, ((32 * x4) + ((sL (g 0) b0 e0 i) &&& 31))) _ _ _ (show 5 - (i + 1) < 5 - i by omega) (lv_sub hl [0, 1, 2, 3, 4, 5, 6] rfl) hP hD hS ⟨(show (i + 1) ≤ 5 from by first | assumption | omega), (show ((32 * x4) + ((sL (g 0) b0 e0 i) &&& 31)) = sC (g 0) b0 e0 0 (i + 1) from by rw [sC_n (by rw [Nat.zero_add]; exact hc32), hx4, Nat.zero_add])⟩
    · refine lv_iload hx hb xd_Mo_says_25 (lv_at hl 1 rfl) ?_
      refine lv_goto (tgt := 46) hx hb xd_Mo_says_27 (by decide) ?_
      refine lv_istore hx hb xd_Mo_says_46 hl (Nat.le_of_ble_eq_true rfl) rfl (fun ls hl => ?_)
      have hl : lv_has ls 8 [(4, .int x4), (6, .int (nI i)), (5, .int 0), (0, .ref h), (1, .int (nI w)), (2, .int a9), (3, .int c9)] := hl
      refine lv_iinc (k := 1) (x := (nI i)) (v := (nI (i + 1))) hx hb xd_Mo_says_48 hl rfl (xb_inc i 1) (Nat.le_of_ble_eq_true rfl) rfl (fun ls hl => ?_)
      have hl : lv_has ls 8 [(6, .int (nI (i + 1))), (4, .int x4), (5, .int 0), (0, .ref h), (1, .int (nI w)), (2, .int a9), (3, .int c9)] := hl
      refine lv_goto (tgt := 9) hx hb xd_Mo_says_51 (by decide) ?_
      exact ih1 (i + 1, x4) _ _ _ (show 5 - (i + 1) < 5 - i by omega) (lv_sub hl [0, 1, 2, 3, 4, 5, 6] rfl) hP hD hS ⟨(show (i + 1) ≤ 5 from by first | assumption | omega), (show x4 = sC (g 0) b0 e0 0 (i + 1) from by rw [sC_p (by rw [Nat.zero_add]; exact hc32)]; exact hx4)⟩
set_option maxHeartbeats 4000000 in
set_option maxRecDepth 100000 in
theorem xc_Mo_codeX (l : Launch) (D : va_G) (kA : Nat → ClassId) (sz h : Nat) (mm : Nat → Nat) (v : Nat → Int32) (g : Nat → Nat → Int32) (c0 : Int32) (c1 : Int32) (c2 : Int32) (c3 : Int32) (c4 : Int32) : Met l xy_Mo_code (.code xy_Mo_code xb_Mo_code 6 (some .int) :: wT) { frames := 0, cells := 0, slots := 0, locals := 0 } (va_Pc [.int c0, .int c1, .int c2, .int c3, .int c4] (xPre D kA sz (moW h mm kA v g))) (va_Qi (fun (r : Int32) (u : Unit) => r = cdV c0 c1 c2 c3 c4) (fun (u : Unit) t => va_P D xcl (moW h mm kA v g) t.heap ∧ va_D (va_A (moW h mm kA v g) sz) (moW h mm kA v g)) (va_A (moW h mm kA v g) sz)) 0 0 (va_A (moW h mm kA v g) sz) := by
  refine Met.ofW (cc := xb_Mo_code) (maxL := 6) (ret := (some .int)) (by decide) rfl ?_
  intro p e s m args below meth c s₁ B hml hv
  obtain ⟨rfl, hsz, hP, hK, hD0⟩ := hv
  have hx := B.exec
  have hb := B.bytes
  have hr := B.returns
  have hT := x_hT B.pre
  have hown : s.vm.findClass xR_Mo = some m.cls := findClass_of_methodNamed B.named
  have hlocks := B.notSynchronized
  subst hsz
  have hD := hD0.self (sz := s.heap.size)
  generalize hAe : va_A (moW h mm kA v g) s.heap.size = A at hD ⊢
  have hA : ∀ q : Nat, s.heap.size ≤ q → A q := fun q h => by rw [← hAe]; exact Or.inr h
  have hS : va_S A s.heap s.heap [] := va_S.rf
  have hl := lv_entry ([.int c0, .int c1, .int c2, .int c3, .int c4]) (n := 6) (Nat.le_of_ble_eq_true rfl)
  rw [lg_entry_eq]
  generalize (lg_sl ([.int c0, .int c1, .int c2, .int c3, .int c4]) ++ List.replicate (6 - (lg_sl ([.int c0, .int c1, .int c2, .int c3, .int c4])).length) Slot.unset).toArray = ls at hl ⊢
  have hl : lv_has ls 6 [(0, .int c0), (1, .int c1), (2, .int c2), (3, .int c3), (4, .int c4)] := hl
  have hP : va_P D xcl (moW h mm kA v g) s.heap := hP
  refine lv_iload_n hx hb xd_Mo_code_0 rfl (lv_at hl 0 rfl) ?_
  refine lv_bipush (v := 96) hx hb xd_Mo_code_1 (by decide) ?_
  refine lv_isub hx hb xd_Mo_code_3 ?_
  refine lv_istore hx hb xd_Mo_code_4 hl (Nat.le_of_ble_eq_true rfl) rfl (fun ls hl => ?_)
  have hl : lv_has ls 6 [(5, .int (c0 - 96)), (0, .int c0), (1, .int c1), (2, .int c2), (3, .int c3), (4, .int c4)] := hl
  refine lv_iload_n hx hb xd_Mo_code_6 rfl (lv_at hl 2 rfl) ?_
  refine lv_if_ne (tgt := 15) hx hb xd_Mo_code_7 (by decide) (fun hc1 => ?_) (fun hc1 => ?_)
  · refine lv_bipush (v := 32) hx hb xd_Mo_code_15 (by decide) ?_
    refine lv_iload hx hb xd_Mo_code_17 (lv_at hl 0 rfl) ?_
    refine lv_imul hx hb xd_Mo_code_19 ?_
    refine lv_iload_n hx hb xd_Mo_code_20 rfl (lv_at hl 2 rfl) ?_
    refine lv_iadd hx hb xd_Mo_code_21 ?_
    refine lv_bipush (v := 96) hx hb xd_Mo_code_22 (by decide) ?_
    refine lv_isub hx hb xd_Mo_code_24 ?_
    refine lv_istore hx hb xd_Mo_code_25 hl (Nat.le_of_ble_eq_true rfl) rfl (fun ls hl => ?_)
    have hl : lv_has ls 6 [(5, .int (((32 * (c0 - 96)) + c1) - 96)), (0, .int c0), (1, .int c1), (2, .int c2), (3, .int c3), (4, .int c4)] := hl
    refine lv_iload_n hx hb xd_Mo_code_27 rfl (lv_at hl 3 rfl) ?_
    refine lv_if_ne (tgt := 36) hx hb xd_Mo_code_28 (by decide) (fun hc2 => ?_) (fun hc2 => ?_)
    · refine lv_bipush (v := 32) hx hb xd_Mo_code_36 (by decide) ?_
      refine lv_iload hx hb xd_Mo_code_38 (lv_at hl 0 rfl) ?_
      refine lv_imul hx hb xd_Mo_code_40 ?_
      refine lv_iload_n hx hb xd_Mo_code_41 rfl (lv_at hl 3 rfl) ?_
      refine lv_iadd hx hb xd_Mo_code_42 ?_
      refine lv_bipush (v := 96) hx hb xd_Mo_code_43 (by decide) ?_
      refine lv_isub hx hb xd_Mo_code_45 ?_
      refine lv_istore hx hb xd_Mo_code_46 hl (Nat.le_of_ble_eq_true rfl) rfl (fun ls hl => ?_)
      have hl : lv_has ls 6 [(5, .int (((32 * (((32 * (c0 - 96)) + c1) - 96)) + c2) - 96)), (0, .int c0), (1, .int c1), (2, .int c2), (3, .int c3), (4, .int c4)] := hl
      refine lv_iload_n hx hb xd_Mo_code_48 rfl (lv_at hl 4 rfl) ?_
      refine lv_if_ne (tgt := 57) hx hb xd_Mo_code_49 (by decide) (fun hc3 => ?_) (fun hc3 => ?_)
      · refine lv_bipush (v := 32) hx hb xd_Mo_code_57 (by decide) ?_
        refine lv_iload hx hb xd_Mo_code_59 (lv_at hl 0 rfl) ?_
        refine lv_imul hx hb xd_Mo_code_61 ?_
        refine lv_iload_n hx hb xd_Mo_code_62 rfl (lv_at hl 4 rfl) ?_
        refine lv_iadd hx hb xd_Mo_code_63 ?_
        refine lv_bipush (v := 96) hx hb xd_Mo_code_64 (by decide) ?_
        refine lv_isub hx hb xd_Mo_code_66 ?_
        refine lv_istore hx hb xd_Mo_code_67 hl (Nat.le_of_ble_eq_true rfl) rfl (fun ls hl => ?_)
        have hl : lv_has ls 6 [(5, .int (((32 * (((32 * (((32 * (c0 - 96)) + c1) - 96)) + c2) - 96)) + c3) - 96)), (0, .int c0), (1, .int c1), (2, .int c2), (3, .int c3), (4, .int c4)] := hl
        refine lv_iload hx hb xd_Mo_code_69 (lv_at hl 5 rfl) ?_
        refine lv_if_ne (tgt := 79) hx hb xd_Mo_code_71 (by decide) (fun hc4 => ?_) (fun hc4 => ?_)
        · refine lv_bipush (v := 32) hx hb xd_Mo_code_79 (by decide) ?_
          refine lv_iload hx hb xd_Mo_code_81 (lv_at hl 0 rfl) ?_
          refine lv_imul hx hb xd_Mo_code_83 ?_
          refine lv_iload hx hb xd_Mo_code_84 (lv_at hl 5 rfl) ?_
          refine lv_iadd hx hb xd_Mo_code_86 ?_
          refine lv_bipush (v := 96) hx hb xd_Mo_code_87 (by decide) ?_
          refine lv_isub hx hb xd_Mo_code_89 ?_
          exact W.iret (v := (((32 * (((32 * (((32 * (((32 * (c0 - 96)) + c1) - 96)) + c2) - 96)) + c3) - 96)) + c4) - 96)) hx hb hr (fun t ht hW => ⟨⟨(((32 * (((32 * (((32 * (((32 * (c0 - 96)) + c1) - 96)) + c2) - 96)) + c3) - 96)) + c4) - 96), (), rfl, (by unfold cdV; rw [cd1_n hc1, cd1_n hc2, cd1_n hc3, cd1_n hc4]), by rw [ht]; exact hP, hD⟩, hS.F ht⟩) hS.2.2 xd_Mo_code_90
        · refine lv_iload hx hb xd_Mo_code_74 (lv_at hl 0 rfl) ?_
          refine lv_goto (tgt := 90) hx hb xd_Mo_code_76 (by decide) ?_
          exact W.iret (v := (((32 * (((32 * (((32 * (c0 - 96)) + c1) - 96)) + c2) - 96)) + c3) - 96)) hx hb hr (fun t ht hW => ⟨⟨(((32 * (((32 * (((32 * (c0 - 96)) + c1) - 96)) + c2) - 96)) + c3) - 96), (), rfl, (by unfold cdV; rw [cd1_n hc1, cd1_n hc2, cd1_n hc3, cd1_p hc4]), by rw [ht]; exact hP, hD⟩, hS.F ht⟩) hS.2.2 xd_Mo_code_90
      · refine lv_iload hx hb xd_Mo_code_52 (lv_at hl 0 rfl) ?_
        refine lv_goto (tgt := 67) hx hb xd_Mo_code_54 (by decide) ?_
        refine lv_istore hx hb xd_Mo_code_67 hl (Nat.le_of_ble_eq_true rfl) rfl (fun ls hl => ?_)
        have hl : lv_has ls 6 [(5, .int (((32 * (((32 * (c0 - 96)) + c1) - 96)) + c2) - 96)), (0, .int c0), (1, .int c1), (2, .int c2), (3, .int c3), (4, .int c4)] := hl
        refine lv_iload hx hb xd_Mo_code_69 (lv_at hl 5 rfl) ?_
        refine lv_if_ne (tgt := 79) hx hb xd_Mo_code_71 (by decide) (fun hc5 => ?_) (fun hc5 => ?_)
        · refine lv_bipush (v := 32) hx hb xd_Mo_code_79 (by decide) ?_
          refine lv_iload hx hb xd_Mo_code_81 (lv_at hl 0 rfl) ?_
          refine lv_imul hx hb xd_Mo_code_83 ?_
          refine lv_iload hx hb xd_Mo_code_84 (lv_at hl 5 rfl) ?_
          refine lv_iadd hx hb xd_Mo_code_86 ?_
          refine lv_bipush (v := 96) hx hb xd_Mo_code_87 (by decide) ?_
          refine lv_isub hx hb xd_Mo_code_89 ?_
          exact W.iret (v := (((32 * (((32 * (((32 * (c0 - 96)) + c1) - 96)) + c2) - 96)) + c4) - 96)) hx hb hr (fun t ht hW => ⟨⟨(((32 * (((32 * (((32 * (c0 - 96)) + c1) - 96)) + c2) - 96)) + c4) - 96), (), rfl, (by unfold cdV; rw [cd1_n hc1, cd1_n hc2, cd1_p hc3, cd1_n hc5]), by rw [ht]; exact hP, hD⟩, hS.F ht⟩) hS.2.2 xd_Mo_code_90
        · refine lv_iload hx hb xd_Mo_code_74 (lv_at hl 0 rfl) ?_
          refine lv_goto (tgt := 90) hx hb xd_Mo_code_76 (by decide) ?_
          exact W.iret (v := (((32 * (((32 * (c0 - 96)) + c1) - 96)) + c2) - 96)) hx hb hr (fun t ht hW => ⟨⟨(((32 * (((32 * (c0 - 96)) + c1) - 96)) + c2) - 96), (), rfl, (by unfold cdV; rw [cd1_n hc1, cd1_n hc2, cd1_p hc3, cd1_p hc5]), by rw [ht]; exact hP, hD⟩, hS.F ht⟩) hS.2.2 xd_Mo_code_90
    · refine lv_iload hx hb xd_Mo_code_31 (lv_at hl 0 rfl) ?_
      refine lv_goto (tgt := 46) hx hb xd_Mo_code_33 (by decide) ?_
      refine lv_istore hx hb xd_Mo_code_46 hl (Nat.le_of_ble_eq_true rfl) rfl (fun ls hl => ?_)
      have hl : lv_has ls 6 [(5, .int (((32 * (c0 - 96)) + c1) - 96)), (0, .int c0), (1, .int c1), (2, .int c2), (3, .int c3), (4, .int c4)] := hl
      refine lv_iload_n hx hb xd_Mo_code_48 rfl (lv_at hl 4 rfl) ?_
      refine lv_if_ne (tgt := 57) hx hb xd_Mo_code_49 (by decide) (fun hc6 => ?_) (fun hc6 => ?_)
      · refine lv_bipush (v := 32) hx hb xd_Mo_code_57 (by decide) ?_
        refine lv_iload hx hb xd_Mo_code_59 (lv_at hl 0 rfl) ?_
        refine lv_imul hx hb xd_Mo_code_61 ?_
        refine lv_iload_n hx hb xd_Mo_code_62 rfl (lv_at hl 4 rfl) ?_
        refine lv_iadd hx hb xd_Mo_code_63 ?_
        refine lv_bipush (v := 96) hx hb xd_Mo_code_64 (by decide) ?_
        refine lv_isub hx hb xd_Mo_code_66 ?_
        refine lv_istore hx hb xd_Mo_code_67 hl (Nat.le_of_ble_eq_true rfl) rfl (fun ls hl => ?_)
        have hl : lv_has ls 6 [(5, .int (((32 * (((32 * (c0 - 96)) + c1) - 96)) + c3) - 96)), (0, .int c0), (1, .int c1), (2, .int c2), (3, .int c3), (4, .int c4)] := hl
        refine lv_iload hx hb xd_Mo_code_69 (lv_at hl 5 rfl) ?_
        refine lv_if_ne (tgt := 79) hx hb xd_Mo_code_71 (by decide) (fun hc7 => ?_) (fun hc7 => ?_)
        · refine lv_bipush (v := 32) hx hb xd_Mo_code_79 (by decide) ?_
          refine lv_iload hx hb xd_Mo_code_81 (lv_at hl 0 rfl) ?_
          refine lv_imul hx hb xd_Mo_code_83 ?_
          refine lv_iload hx hb xd_Mo_code_84 (lv_at hl 5 rfl) ?_
          refine lv_iadd hx hb xd_Mo_code_86 ?_
          refine lv_bipush (v := 96) hx hb xd_Mo_code_87 (by decide) ?_
          refine lv_isub hx hb xd_Mo_code_89 ?_
          exact W.iret (v := (((32 * (((32 * (((32 * (c0 - 96)) + c1) - 96)) + c3) - 96)) + c4) - 96)) hx hb hr (fun t ht hW => ⟨⟨(((32 * (((32 * (((32 * (c0 - 96)) + c1) - 96)) + c3) - 96)) + c4) - 96), (), rfl, (by unfold cdV; rw [cd1_n hc1, cd1_p hc2, cd1_n hc6, cd1_n hc7]), by rw [ht]; exact hP, hD⟩, hS.F ht⟩) hS.2.2 xd_Mo_code_90
        · refine lv_iload hx hb xd_Mo_code_74 (lv_at hl 0 rfl) ?_
          refine lv_goto (tgt := 90) hx hb xd_Mo_code_76 (by decide) ?_
          exact W.iret (v := (((32 * (((32 * (c0 - 96)) + c1) - 96)) + c3) - 96)) hx hb hr (fun t ht hW => ⟨⟨(((32 * (((32 * (c0 - 96)) + c1) - 96)) + c3) - 96), (), rfl, (by unfold cdV; rw [cd1_n hc1, cd1_p hc2, cd1_n hc6, cd1_p hc7]), by rw [ht]; exact hP, hD⟩, hS.F ht⟩) hS.2.2 xd_Mo_code_90
      · refine lv_iload hx hb xd_Mo_code_52 (lv_at hl 0 rfl) ?_
        refine lv_goto (tgt := 67) hx hb xd_Mo_code_54 (by decide) ?_
        refine lv_istore hx hb xd_Mo_code_67 hl (Nat.le_of_ble_eq_true rfl) rfl (fun ls hl => ?_)
        have hl : lv_has ls 6 [(5, .int (((32 * (c0 - 96)) + c1) - 96)), (0, .int c0), (1, .int c1), (2, .int c2), (3, .int c3), (4, .int c4)] := hl
        refine lv_iload hx hb xd_Mo_code_69 (lv_at hl 5 rfl) ?_
        refine lv_if_ne (tgt := 79) hx hb xd_Mo_code_71 (by decide) (fun hc8 => ?_) (fun hc8 => ?_)
        · refine lv_bipush (v := 32) hx hb xd_Mo_code_79 (by decide) ?_
          refine lv_iload hx hb xd_Mo_code_81 (lv_at hl 0 rfl) ?_
          refine lv_imul hx hb xd_Mo_code_83 ?_
          refine lv_iload hx hb xd_Mo_code_84 (lv_at hl 5 rfl) ?_
          refine lv_iadd hx hb xd_Mo_code_86 ?_
          refine lv_bipush (v := 96) hx hb xd_Mo_code_87 (by decide) ?_
          refine lv_isub hx hb xd_Mo_code_89 ?_
          exact W.iret (v := (((32 * (((32 * (c0 - 96)) + c1) - 96)) + c4) - 96)) hx hb hr (fun t ht hW => ⟨⟨(((32 * (((32 * (c0 - 96)) + c1) - 96)) + c4) - 96), (), rfl, (by unfold cdV; rw [cd1_n hc1, cd1_p hc2, cd1_p hc6, cd1_n hc8]), by rw [ht]; exact hP, hD⟩, hS.F ht⟩) hS.2.2 xd_Mo_code_90
        · refine lv_iload hx hb xd_Mo_code_74 (lv_at hl 0 rfl) ?_
          refine lv_goto (tgt := 90) hx hb xd_Mo_code_76 (by decide) ?_
          exact W.iret (v := (((32 * (c0 - 96)) + c1) - 96)) hx hb hr (fun t ht hW => ⟨⟨(((32 * (c0 - 96)) + c1) - 96), (), rfl, (by unfold cdV; rw [cd1_n hc1, cd1_p hc2, cd1_p hc6, cd1_p hc8]), by rw [ht]; exact hP, hD⟩, hS.F ht⟩) hS.2.2 xd_Mo_code_90
  · refine lv_iload hx hb xd_Mo_code_10 (lv_at hl 0 rfl) ?_
    refine lv_goto (tgt := 25) hx hb xd_Mo_code_12 (by decide) ?_
    refine lv_istore hx hb xd_Mo_code_25 hl (Nat.le_of_ble_eq_true rfl) rfl (fun ls hl => ?_)
    have hl : lv_has ls 6 [(5, .int (c0 - 96)), (0, .int c0), (1, .int c1), (2, .int c2), (3, .int c3), (4, .int c4)] := hl
    refine lv_iload_n hx hb xd_Mo_code_27 rfl (lv_at hl 3 rfl) ?_
    refine lv_if_ne (tgt := 36) hx hb xd_Mo_code_28 (by decide) (fun hc9 => ?_) (fun hc9 => ?_)
    · refine lv_bipush (v := 32) hx hb xd_Mo_code_36 (by decide) ?_
      refine lv_iload hx hb xd_Mo_code_38 (lv_at hl 0 rfl) ?_
      refine lv_imul hx hb xd_Mo_code_40 ?_
      refine lv_iload_n hx hb xd_Mo_code_41 rfl (lv_at hl 3 rfl) ?_
      refine lv_iadd hx hb xd_Mo_code_42 ?_
      refine lv_bipush (v := 96) hx hb xd_Mo_code_43 (by decide) ?_
      refine lv_isub hx hb xd_Mo_code_45 ?_
      refine lv_istore hx hb xd_Mo_code_46 hl (Nat.le_of_ble_eq_true rfl) rfl (fun ls hl => ?_)
      have hl : lv_has ls 6 [(5, .int (((32 * (c0 - 96)) + c2) - 96)), (0, .int c0), (1, .int c1), (2, .int c2), (3, .int c3), (4, .int c4)] := hl
      refine lv_iload_n hx hb xd_Mo_code_48 rfl (lv_at hl 4 rfl) ?_
      refine lv_if_ne (tgt := 57) hx hb xd_Mo_code_49 (by decide) (fun hc10 => ?_) (fun hc10 => ?_)
      · refine lv_bipush (v := 32) hx hb xd_Mo_code_57 (by decide) ?_
        refine lv_iload hx hb xd_Mo_code_59 (lv_at hl 0 rfl) ?_
        refine lv_imul hx hb xd_Mo_code_61 ?_
        refine lv_iload_n hx hb xd_Mo_code_62 rfl (lv_at hl 4 rfl) ?_
        refine lv_iadd hx hb xd_Mo_code_63 ?_
        refine lv_bipush (v := 96) hx hb xd_Mo_code_64 (by decide) ?_
        refine lv_isub hx hb xd_Mo_code_66 ?_
        refine lv_istore hx hb xd_Mo_code_67 hl (Nat.le_of_ble_eq_true rfl) rfl (fun ls hl => ?_)
        have hl : lv_has ls 6 [(5, .int (((32 * (((32 * (c0 - 96)) + c2) - 96)) + c3) - 96)), (0, .int c0), (1, .int c1), (2, .int c2), (3, .int c3), (4, .int c4)] := hl
        refine lv_iload hx hb xd_Mo_code_69 (lv_at hl 5 rfl) ?_
        refine lv_if_ne (tgt := 79) hx hb xd_Mo_code_71 (by decide) (fun hc11 => ?_) (fun hc11 => ?_)
        · refine lv_bipush (v := 32) hx hb xd_Mo_code_79 (by decide) ?_
          refine lv_iload hx hb xd_Mo_code_81 (lv_at hl 0 rfl) ?_
          refine lv_imul hx hb xd_Mo_code_83 ?_
          refine lv_iload hx hb xd_Mo_code_84 (lv_at hl 5 rfl) ?_
          refine lv_iadd hx hb xd_Mo_code_86 ?_
          refine lv_bipush (v := 96) hx hb xd_Mo_code_87 (by decide) ?_
          refine lv_isub hx hb xd_Mo_code_89 ?_
          exact W.iret (v := (((32 * (((32 * (((32 * (c0 - 96)) + c2) - 96)) + c3) - 96)) + c4) - 96)) hx hb hr (fun t ht hW => ⟨⟨(((32 * (((32 * (((32 * (c0 - 96)) + c2) - 96)) + c3) - 96)) + c4) - 96), (), rfl, (by unfold cdV; rw [cd1_p hc1, cd1_n hc9, cd1_n hc10, cd1_n hc11]), by rw [ht]; exact hP, hD⟩, hS.F ht⟩) hS.2.2 xd_Mo_code_90
        · refine lv_iload hx hb xd_Mo_code_74 (lv_at hl 0 rfl) ?_
          refine lv_goto (tgt := 90) hx hb xd_Mo_code_76 (by decide) ?_
          exact W.iret (v := (((32 * (((32 * (c0 - 96)) + c2) - 96)) + c3) - 96)) hx hb hr (fun t ht hW => ⟨⟨(((32 * (((32 * (c0 - 96)) + c2) - 96)) + c3) - 96), (), rfl, (by unfold cdV; rw [cd1_p hc1, cd1_n hc9, cd1_n hc10, cd1_p hc11]), by rw [ht]; exact hP, hD⟩, hS.F ht⟩) hS.2.2 xd_Mo_code_90
      · refine lv_iload hx hb xd_Mo_code_52 (lv_at hl 0 rfl) ?_
        refine lv_goto (tgt := 67) hx hb xd_Mo_code_54 (by decide) ?_
        refine lv_istore hx hb xd_Mo_code_67 hl (Nat.le_of_ble_eq_true rfl) rfl (fun ls hl => ?_)
        have hl : lv_has ls 6 [(5, .int (((32 * (c0 - 96)) + c2) - 96)), (0, .int c0), (1, .int c1), (2, .int c2), (3, .int c3), (4, .int c4)] := hl
        refine lv_iload hx hb xd_Mo_code_69 (lv_at hl 5 rfl) ?_
        refine lv_if_ne (tgt := 79) hx hb xd_Mo_code_71 (by decide) (fun hc12 => ?_) (fun hc12 => ?_)
        · refine lv_bipush (v := 32) hx hb xd_Mo_code_79 (by decide) ?_
          refine lv_iload hx hb xd_Mo_code_81 (lv_at hl 0 rfl) ?_
          refine lv_imul hx hb xd_Mo_code_83 ?_
          refine lv_iload hx hb xd_Mo_code_84 (lv_at hl 5 rfl) ?_
          refine lv_iadd hx hb xd_Mo_code_86 ?_
          refine lv_bipush (v := 96) hx hb xd_Mo_code_87 (by decide) ?_
          refine lv_isub hx hb xd_Mo_code_89 ?_
          exact W.iret (v := (((32 * (((32 * (c0 - 96)) + c2) - 96)) + c4) - 96)) hx hb hr (fun t ht hW => ⟨⟨(((32 * (((32 * (c0 - 96)) + c2) - 96)) + c4) - 96), (), rfl, (by unfold cdV; rw [cd1_p hc1, cd1_n hc9, cd1_p hc10, cd1_n hc12]), by rw [ht]; exact hP, hD⟩, hS.F ht⟩) hS.2.2 xd_Mo_code_90
        · refine lv_iload hx hb xd_Mo_code_74 (lv_at hl 0 rfl) ?_
          refine lv_goto (tgt := 90) hx hb xd_Mo_code_76 (by decide) ?_
          exact W.iret (v := (((32 * (c0 - 96)) + c2) - 96)) hx hb hr (fun t ht hW => ⟨⟨(((32 * (c0 - 96)) + c2) - 96), (), rfl, (by unfold cdV; rw [cd1_p hc1, cd1_n hc9, cd1_p hc10, cd1_p hc12]), by rw [ht]; exact hP, hD⟩, hS.F ht⟩) hS.2.2 xd_Mo_code_90
    · refine lv_iload hx hb xd_Mo_code_31 (lv_at hl 0 rfl) ?_
      refine lv_goto (tgt := 46) hx hb xd_Mo_code_33 (by decide) ?_
      refine lv_istore hx hb xd_Mo_code_46 hl (Nat.le_of_ble_eq_true rfl) rfl (fun ls hl => ?_)
      have hl : lv_has ls 6 [(5, .int (c0 - 96)), (0, .int c0), (1, .int c1), (2, .int c2), (3, .int c3), (4, .int c4)] := hl
      refine lv_iload_n hx hb xd_Mo_code_48 rfl (lv_at hl 4 rfl) ?_
      refine lv_if_ne (tgt := 57) hx hb xd_Mo_code_49 (by decide) (fun hc13 => ?_) (fun hc13 => ?_)
      · refine lv_bipush (v := 32) hx hb xd_Mo_code_57 (by decide) ?_
        refine lv_iload hx hb xd_Mo_code_59 (lv_at hl 0 rfl) ?_
        refine lv_imul hx hb xd_Mo_code_61 ?_
        refine lv_iload_n hx hb xd_Mo_code_62 rfl (lv_at hl 4 rfl) ?_
        refine lv_iadd hx hb xd_Mo_code_63 ?_
        refine lv_bipush (v := 96) hx hb xd_Mo_code_64 (by decide) ?_
        refine lv_isub hx hb xd_Mo_code_66 ?_
        refine lv_istore hx hb xd_Mo_code_67 hl (Nat.le_of_ble_eq_true rfl) rfl (fun ls hl => ?_)
        have hl : lv_has ls 6 [(5, .int (((32 * (c0 - 96)) + c3) - 96)), (0, .int c0), (1, .int c1), (2, .int c2), (3, .int c3), (4, .int c4)] := hl
        refine lv_iload hx hb xd_Mo_code_69 (lv_at hl 5 rfl) ?_
        refine lv_if_ne (tgt := 79) hx hb xd_Mo_code_71 (by decide) (fun hc14 => ?_) (fun hc14 => ?_)
        · refine lv_bipush (v := 32) hx hb xd_Mo_code_79 (by decide) ?_
          refine lv_iload hx hb xd_Mo_code_81 (lv_at hl 0 rfl) ?_
          refine lv_imul hx hb xd_Mo_code_83 ?_
          refine lv_iload hx hb xd_Mo_code_84 (lv_at hl 5 rfl) ?_
          refine lv_iadd hx hb xd_Mo_code_86 ?_
          refine lv_bipush (v := 96) hx hb xd_Mo_code_87 (by decide) ?_
          refine lv_isub hx hb xd_Mo_code_89 ?_
          exact W.iret (v := (((32 * (((32 * (c0 - 96)) + c3) - 96)) + c4) - 96)) hx hb hr (fun t ht hW => ⟨⟨(((32 * (((32 * (c0 - 96)) + c3) - 96)) + c4) - 96), (), rfl, (by unfold cdV; rw [cd1_p hc1, cd1_p hc9, cd1_n hc13, cd1_n hc14]), by rw [ht]; exact hP, hD⟩, hS.F ht⟩) hS.2.2 xd_Mo_code_90
        · refine lv_iload hx hb xd_Mo_code_74 (lv_at hl 0 rfl) ?_
          refine lv_goto (tgt := 90) hx hb xd_Mo_code_76 (by decide) ?_
          exact W.iret (v := (((32 * (c0 - 96)) + c3) - 96)) hx hb hr (fun t ht hW => ⟨⟨(((32 * (c0 - 96)) + c3) - 96), (), rfl, (by unfold cdV; rw [cd1_p hc1, cd1_p hc9, cd1_n hc13, cd1_p hc14]), by rw [ht]; exact hP, hD⟩, hS.F ht⟩) hS.2.2 xd_Mo_code_90
      · refine lv_iload hx hb xd_Mo_code_52 (lv_at hl 0 rfl) ?_
        refine lv_goto (tgt := 67) hx hb xd_Mo_code_54 (by decide) ?_
        refine lv_istore hx hb xd_Mo_code_67 hl (Nat.le_of_ble_eq_true rfl) rfl (fun ls hl => ?_)
        have hl : lv_has ls 6 [(5, .int (c0 - 96)), (0, .int c0), (1, .int c1), (2, .int c2), (3, .int c3), (4, .int c4)] := hl
        refine lv_iload hx hb xd_Mo_code_69 (lv_at hl 5 rfl) ?_
        refine lv_if_ne (tgt := 79) hx hb xd_Mo_code_71 (by decide) (fun hc15 => ?_) (fun hc15 => ?_)
        · refine lv_bipush (v := 32) hx hb xd_Mo_code_79 (by decide) ?_
          refine lv_iload hx hb xd_Mo_code_81 (lv_at hl 0 rfl) ?_
          refine lv_imul hx hb xd_Mo_code_83 ?_
          refine lv_iload hx hb xd_Mo_code_84 (lv_at hl 5 rfl) ?_
          refine lv_iadd hx hb xd_Mo_code_86 ?_
          refine lv_bipush (v := 96) hx hb xd_Mo_code_87 (by decide) ?_
          refine lv_isub hx hb xd_Mo_code_89 ?_
          exact W.iret (v := (((32 * (c0 - 96)) + c4) - 96)) hx hb hr (fun t ht hW => ⟨⟨(((32 * (c0 - 96)) + c4) - 96), (), rfl, (by unfold cdV; rw [cd1_p hc1, cd1_p hc9, cd1_p hc13, cd1_n hc15]), by rw [ht]; exact hP, hD⟩, hS.F ht⟩) hS.2.2 xd_Mo_code_90
        · refine lv_iload hx hb xd_Mo_code_74 (lv_at hl 0 rfl) ?_
          refine lv_goto (tgt := 90) hx hb xd_Mo_code_76 (by decide) ?_
          exact W.iret (v := (c0 - 96)) hx hb hr (fun t ht hW => ⟨⟨(c0 - 96), (), rfl, (by unfold cdV; rw [cd1_p hc1, cd1_p hc9, cd1_p hc13, cd1_p hc15]), by rw [ht]; exact hP, hD⟩, hS.F ht⟩) hS.2.2 xd_Mo_code_90
set_option maxHeartbeats 4000000 in
set_option maxRecDepth 100000 in
theorem xc_Mo_splitX (l : Launch) (D : va_G) (kA : Nat → ClassId) (sz h : Nat) (mm : Nat → Nat) (v : Nat → Int32) (g : Nat → Nat → Int32) (wr : Nat) (hwr : v 2 = nI wr) (hwr40 : wr ≤ 40) : Met l xy_Mo_split (.code xy_Mo_split xb_Mo_split 2 none :: wT) { frames := 0, cells := 0, slots := 0, locals := 0 } (va_Pc [.ref h] (xPre D kA sz (moW h mm kA v g))) (va_Qv (fun (u : (Nat → Int32) × (Nat → Nat → Int32)) => u.1 = va_up (va_up v 2 0) 3 (nI (w_all (g 0) wr).length) ∧ (∀ j, j ≠ 1 → j ≠ 2 → u.2 j = g j) ∧ fT g (u.2 1) (u.2 2) (w_all (g 0) wr)) (fun (u : (Nat → Int32) × (Nat → Nat → Int32)) t => va_P D xcl (moW h mm kA u.1 u.2) t.heap ∧ va_D (va_A (moW h mm kA v g) sz) (moW h mm kA u.1 u.2)) (va_A (moW h mm kA v g) sz)) 0 0 (va_A (moW h mm kA v g) sz) := by
  refine Met.ofW (cc := xb_Mo_split) (maxL := 2) (ret := none) (by decide) rfl ?_
  intro p e s m args below meth c s₁ B hml hv
  obtain ⟨rfl, hsz, hP, hK, hD0⟩ := hv
  have hx := B.exec
  have hb := B.bytes
  have hr := B.returns
  have hT := x_hT B.pre
  have hown : s.vm.findClass xR_Mo = some m.cls := findClass_of_methodNamed B.named
  have hlocks := B.notSynchronized
  subst hsz
  have hD := hD0.self (sz := s.heap.size)
  generalize hAe : va_A (moW h mm kA v g) s.heap.size = A at hD ⊢
  have hA : ∀ q : Nat, s.heap.size ≤ q → A q := fun q h => by rw [← hAe]; exact Or.inr h
  have hS : va_S A s.heap s.heap [] := va_S.rf
  have hl := lv_entry ([.ref h]) (n := 2) (Nat.le_of_ble_eq_true rfl)
  rw [lg_entry_eq]
  generalize (lg_sl ([.ref h]) ++ List.replicate (2 - (lg_sl ([.ref h])).length) Slot.unset).toArray = ls at hl ⊢
  have hl : lv_has ls 2 [(0, .ref h)] := hl
  have hP : va_P D xcl (moW h mm kA v g) s.heap := hP
  refine lv_aload_n hx hb xd_Mo_split_0 rfl (lv_at hl 0 rfl) ?_
  refine lv_iconst (v := 0) hx hb xd_Mo_split_1 (by decide) ?_
  refine va_put (D := D) (ci := 4) (v := .int 0) (ty := .int) (C := xR_Mo) (T := xT_Mo) (N := 31) hx hb hT xi_Mo xt_Mo xt_Mo_ok xn_Mo hown hK.1 hP hD hS 0 rfl rfl 4 (by decide) (hT _ k4a_8) (fun _ h9 => h9) rfl (by decide +kernel) rfl rfl (Nat.le_of_ble_eq_true rfl) xd_Mo_split_2 (fun H locs hP hD hS => ?_)
  have hP : va_P D xcl (moW h mm kA (va_up v 3 0) g) H := hP
  have hD : va_D A (moW h mm kA (va_up v 3 0) g) := hD
  refine lv_iconst (v := 0) hx hb xd_Mo_split_5 (by decide) ?_
  refine lv_istore_n hx hb xd_Mo_split_6 rfl hl (Nat.le_of_ble_eq_true rfl) rfl (fun ls hl => ?_)
  have hl : lv_has ls 2 [(1, .int 0), (0, .ref h)] := hl
  refine xlab (σ := Nat × Nat × (Nat → Int32) × (Nat → Int32)) (ml := 2) 7 (fun (k, wn, f1, f2) => [(1, .int (nI k)), (0, .ref h)]) (fun (k, wn, f1, f2) => []) (fun (k, wn, f1, f2) => moW h mm kA (va_up v 3 (nI wn)) (va_up (va_up g 1 f1) 2 f2)) (fun (k, wn, f1, f2) => (k ≤ wr) ∧ (wn = (w_all (g 0) k).length) ∧ (k = 0 ∨ k = wr ∨ g 0 k = 32) ∧ (fT g f1 f2 (w_all (g 0) k))) (fun (k, wn, f1, f2) => wr - k) ?_ (0, 0, (g 1), (g 2)) _ _ _ (lv_sub hl [0, 1] rfl) hP hD hS ⟨(show 0 ≤ wr from by first | assumption | omega), (show 0 = (w_all (g 0) 0).length from rfl), (show 0 = 0 ∨ 0 = wr ∨ g 0 0 = 32 from Or.inl rfl), (show fT g (g 1) (g 2) (w_all (g 0) 0) from fT_nil)⟩
  intro n9 ih1 a9 ls H locs hμ hl hP hD hS hI
  subst hμ
  obtain ⟨k, wn, f1, f2⟩ := a9
  obtain ⟨hk, hwn, hbl, hsg⟩ := hI
  have hk : k ≤ wr := hk
  have hwn : wn = (w_all (g 0) k).length := hwn
  have hbl : k = 0 ∨ k = wr ∨ g 0 k = 32 := hbl
  have hsg : fT g f1 f2 (w_all (g 0) k) := hsg
  have hl : lv_has ls 2 [(1, .int (nI k)), (0, .ref h)] := hl
  have hP : va_P D xcl (moW h mm kA (va_up v 3 (nI wn)) (va_up (va_up g 1 f1) 2 f2)) H := hP
  have hD : va_D A (moW h mm kA (va_up v 3 (nI wn)) (va_up (va_up g 1 f1) 2 f2)) := hD
  refine lv_iload_n hx hb xd_Mo_split_7 rfl (lv_at hl 0 rfl) ?_
  refine lv_aload_n hx hb xd_Mo_split_8 rfl (lv_at hl 1 rfl) ?_
  refine va_get (D := D) (ci := 4) (v := .int (v 2)) (C := xR_Mo) (T := xT_Mo) (N := 31) hx hb hT xi_Mo hown hK.1 hP 0 rfl rfl 3 (by decide) (hT _ k4a_9) (fun _ h9 => h9) rfl xd_Mo_split_9 ?_
  refine xn_top (x := (v 2)) (y := nI wr) hwr ?_
  refine xn_ge (a := k) (b := wr) (tgt := 106) hx hb xd_Mo_split_12 (by decide) (by omega) (by omega) (fun hc2 => ?_) (fun hc2 => ?_)
  · refine lv_aload_n hx hb xd_Mo_split_106 rfl (lv_at hl 1 rfl) ?_
    refine lv_iconst (v := 0) hx hb xd_Mo_split_107 (by decide) ?_
    refine va_put (D := D) (ci := 4) (v := .int 0) (ty := .int) (C := xR_Mo) (T := xT_Mo) (N := 31) hx hb hT xi_Mo xt_Mo xt_Mo_ok xn_Mo hown hK.1 hP hD hS 0 rfl rfl 3 (by decide) (hT _ k4a_9) (fun _ h9 => h9) rfl (by decide +kernel) rfl rfl (Nat.le_of_ble_eq_true rfl) xd_Mo_split_108 (fun H locs hP hD hS => ?_)
    have hP : va_P D xcl (moW h mm kA (va_up (va_up v 2 0) 3 (nI wn)) (va_up (va_up g 1 f1) 2 f2)) H := hP
    have hD : va_D A (moW h mm kA (va_up (va_up v 2 0) 3 (nI wn)) (va_up (va_up g 1 f1) 2 f2)) := hD
    exact W.vret hx hb hr (fun t ht hW => ⟨⟨((va_up (va_up v 2 0) 3 (nI wn)), (va_up (va_up g 1 f1) 2 f2)), rfl, ⟨by rw [show wr = k by omega, ← hwn], fun j h1 h2 => by simp [va_up, h1, h2], by rw [show wr = k by omega]; exact hsg⟩, by rw [ht]; exact hP, hD⟩, hS.F ht⟩) hS.2.2 xd_Mo_split_111
  · refine xlab (σ := Nat) (ml := 2) 15 (fun (k1 : Nat) => [(1, .int (nI k1)), (0, .ref h)]) (fun (k1 : Nat) => []) (fun (k1 : Nat) => moW h mm kA (va_up v 3 (nI wn)) (va_up (va_up g 1 f1) 2 f2)) (fun (k1 : Nat) => (k ≤ k1) ∧ (k1 ≤ wr) ∧ (w_all (g 0) k1 = w_all (g 0) k) ∧ (k1 = k ∨ w_st (g 0) k1 = k1)) (fun (k1 : Nat) => wr - k1) ?_ k _ _ _ (lv_sub hl [0, 1] rfl) hP hD hS ⟨(show k ≤ k from by first | assumption | omega), (show k ≤ wr from by first | assumption | omega), (show w_all (g 0) k = w_all (g 0) k from rfl), (show k = k ∨ w_st (g 0) k = k from Or.inl rfl)⟩
    intro n9 ih3 a9 ls H locs hμ hl hP hD hS hI
    subst hμ
    obtain ⟨k1, rfl⟩ : ∃ z, z = a9 := ⟨_, rfl⟩
    obtain ⟨hk1, hk2, hall, hst⟩ := hI
    have hk1 : k ≤ k1 := hk1
    have hk2 : k1 ≤ wr := hk2
    have hall : w_all (g 0) k1 = w_all (g 0) k := hall
    have hst : k1 = k ∨ w_st (g 0) k1 = k1 := hst
    have hl : lv_has ls 2 [(1, .int (nI k1)), (0, .ref h)] := hl
    have hP : va_P D xcl (moW h mm kA (va_up v 3 (nI wn)) (va_up (va_up g 1 f1) 2 f2)) H := hP
    have hD : va_D A (moW h mm kA (va_up v 3 (nI wn)) (va_up (va_up g 1 f1) 2 f2)) := hD
    refine lv_iload_n hx hb xd_Mo_split_15 rfl (lv_at hl 0 rfl) ?_
    refine lv_aload_n hx hb xd_Mo_split_16 rfl (lv_at hl 1 rfl) ?_
    refine va_get (D := D) (ci := 4) (v := .int (v 2)) (C := xR_Mo) (T := xT_Mo) (N := 31) hx hb hT xi_Mo hown hK.1 hP 0 rfl rfl 3 (by decide) (hT _ k4a_9) (fun _ h9 => h9) rfl xd_Mo_split_17 ?_
    refine xn_top (x := (v 2)) (y := nI wr) hwr ?_
    refine xn_ge (a := k1) (b := wr) (tgt := 40) hx hb xd_Mo_split_20 (by decide) (by omega) (by omega) (fun hc4 => ?_) (fun hc4 => ?_)
    · refine lv_iload_n hx hb xd_Mo_split_40 rfl (lv_at hl 0 rfl) ?_
      refine lv_aload_n hx hb xd_Mo_split_41 rfl (lv_at hl 1 rfl) ?_
      refine va_get (D := D) (ci := 4) (v := .int (v 2)) (C := xR_Mo) (T := xT_Mo) (N := 31) hx hb hT xi_Mo hown hK.1 hP 0 rfl rfl 3 (by decide) (hT _ k4a_9) (fun _ h9 => h9) rfl xd_Mo_split_42 ?_
      refine xn_top (x := (v 2)) (y := nI wr) hwr ?_
      refine xn_ge (a := k1) (b := wr) (tgt := 7) hx hb xd_Mo_split_45 (by decide) (by omega) (by omega) (fun _ => ?_) (fun hc5 => absurd hc5 (by omega))
      exact ih1 (k1, wn, f1, f2) _ _ _ (show wr - k1 < wr - k by omega) (lv_sub hl [0, 1] rfl) hP hD hS ⟨(show k1 ≤ wr from by first | assumption | omega), (show wn = (w_all (g 0) k1).length from by rw [hall]; exact hwn), (show k1 = 0 ∨ k1 = wr ∨ g 0 k1 = 32 from Or.inr (Or.inl (by omega))), (show fT g f1 f2 (w_all (g 0) k1) from by rw [hall]; exact hsg)⟩
    · refine lv_aload_n hx hb xd_Mo_split_23 rfl (lv_at hl 1 rfl) ?_
      refine va_get (D := D) (ci := 4) (v := .ref (mm 0)) (C := xR_Mo) (T := xT_Mo) (N := 31) hx hb hT xi_Mo hown hK.1 hP 0 rfl rfl 2 (by decide) (hT _ k4a_2) (fun _ h9 => h9) rfl xd_Mo_split_24 ?_
      refine lv_iload_n hx hb xd_Mo_split_27 rfl (lv_at hl 0 rfl) ?_
      refine xn_cald (i := k1) hx hb hK.1 hP 1 1 rfl rfl (by omega) (by decide) xd_Mo_split_28 ?_
      refine lv_bipush (v := 32) hx hb xd_Mo_split_29 (by decide) ?_
      refine lv_icmp_ne (tgt := 40) hx hb xd_Mo_split_31 (by decide) (fun hc6 => ?_) (fun hc6 => ?_)
      · have hst2 : w_st (g 0) k1 = k1 := by
          rcases hst with q | q
          · rcases hbl with q2 | q2 | q2
            · rw [q, q2]; rfl
            · omega
            · rw [q] at hc6; exact absurd q2 hc6
          · exact q
        have hwn20 : wn < 20 := by
          have q := w_l_len (g 0) k1
          rw [hst2, ← w_all_st hst2, hall, ← hwn] at q
          omega
        refine lv_iload_n hx hb xd_Mo_split_40 rfl (lv_at hl 0 rfl) ?_
        refine lv_aload_n hx hb xd_Mo_split_41 rfl (lv_at hl 1 rfl) ?_
        refine va_get (D := D) (ci := 4) (v := .int (v 2)) (C := xR_Mo) (T := xT_Mo) (N := 31) hx hb hT xi_Mo hown hK.1 hP 0 rfl rfl 3 (by decide) (hT _ k4a_9) (fun _ h9 => h9) rfl xd_Mo_split_42 ?_
        refine xn_top (x := (v 2)) (y := nI wr) hwr ?_
        refine xn_ge (a := k1) (b := wr) (tgt := 7) hx hb xd_Mo_split_45 (by decide) (by omega) (by omega) (fun hc7 => absurd hc7 (by omega)) (fun _ => ?_)
        refine lv_aload_n hx hb xd_Mo_split_48 rfl (lv_at hl 1 rfl) ?_
        refine va_get (D := D) (ci := 4) (v := .ref (mm 1)) (C := xR_Mo) (T := xT_Mo) (N := 31) hx hb hT xi_Mo hown hK.1 hP 0 rfl rfl 5 (by decide) (hT _ k4a_0) (fun _ h9 => h9) rfl xd_Mo_split_49 ?_
        refine lv_aload_n hx hb xd_Mo_split_52 rfl (lv_at hl 1 rfl) ?_
        refine va_get (D := D) (ci := 4) (v := .int (nI wn)) (C := xR_Mo) (T := xT_Mo) (N := 31) hx hb hT xi_Mo hown hK.1 hP 0 rfl rfl 4 (by decide) (hT _ k4a_8) (fun _ h9 => h9) rfl xd_Mo_split_53 ?_
        refine lv_iload_n hx hb xd_Mo_split_56 rfl (lv_at hl 0 rfl) ?_
        refine xn_iast (i := wn) hx hb hK.1 hP hD hS 2 0 rfl rfl (by omega) (by decide) xd_Mo_split_57 (fun H locs hP hD hS => ?_)
        have hP : va_P D xcl (moW h mm kA (va_up v 3 (nI wn)) (va_up (va_up g 1 (upd f1 wn (nI k1))) 2 f2)) H := hP
        have hD : va_D A (moW h mm kA (va_up v 3 (nI wn)) (va_up (va_up g 1 (upd f1 wn (nI k1))) 2 f2)) := hD
        refine xlab (σ := Nat) (ml := 2) 58 (fun (k2 : Nat) => [(1, .int (nI k2)), (0, .ref h)]) (fun (k2 : Nat) => []) (fun (k2 : Nat) => moW h mm kA (va_up v 3 (nI wn)) (va_up (va_up g 1 (upd f1 wn (nI k1))) 2 f2)) (fun (k2 : Nat) => (k1 ≤ k2) ∧ (k2 ≤ wr) ∧ (w_l (g 0) k2 = w_l (g 0) k1 ∧ w_st (g 0) k2 = k1) ∧ (k1 < k2 ∨ ¬ g 0 k2 = 32)) (fun (k2 : Nat) => wr - k2) ?_ k1 _ _ _ (lv_sub hl [0, 1] rfl) hP hD hS ⟨(show k1 ≤ k1 from by first | assumption | omega), (show k1 ≤ wr from by first | assumption | omega), (show w_l (g 0) k1 = w_l (g 0) k1 ∧ w_st (g 0) k1 = k1 from ⟨rfl, hst2⟩), (show k1 < k1 ∨ ¬ g 0 k1 = 32 from Or.inr hc6)⟩
        intro n9 ih8 a9 ls H locs hμ hl hP hD hS hI
        subst hμ
        obtain ⟨k2, rfl⟩ : ∃ z, z = a9 := ⟨_, rfl⟩
        obtain ⟨hk3, hk4, hws2, hne⟩ := hI
        have hk3 : k1 ≤ k2 := hk3
        have hk4 : k2 ≤ wr := hk4
        have hws2 : w_l (g 0) k2 = w_l (g 0) k1 ∧ w_st (g 0) k2 = k1 := hws2
        have hne : k1 < k2 ∨ ¬ g 0 k2 = 32 := hne
        have hl : lv_has ls 2 [(1, .int (nI k2)), (0, .ref h)] := hl
        have hP : va_P D xcl (moW h mm kA (va_up v 3 (nI wn)) (va_up (va_up g 1 (upd f1 wn (nI k1))) 2 f2)) H := hP
        have hD : va_D A (moW h mm kA (va_up v 3 (nI wn)) (va_up (va_up g 1 (upd f1 wn (nI k1))) 2 f2)) := hD
        refine lv_iload_n hx hb xd_Mo_split_58 rfl (lv_at hl 0 rfl) ?_
        refine lv_aload_n hx hb xd_Mo_split_59 rfl (lv_at hl 1 rfl) ?_
        refine va_get (D := D) (ci := 4) (v := .int (v 2)) (C := xR_Mo) (T := xT_Mo) (N := 31) hx hb hT xi_Mo hown hK.1 hP 0 rfl rfl 3 (by decide) (hT _ k4a_9) (fun _ h9 => h9) rfl xd_Mo_split_60 ?_
        refine xn_top (x := (v 2)) (y := nI wr) hwr ?_
        refine xn_ge (a := k2) (b := wr) (tgt := 83) hx hb xd_Mo_split_63 (by decide) (by omega) (by omega) (fun hc9 => ?_) (fun hc9 => ?_)
        · have hk12 : k1 < k2 := by omega
          have hrun : w_all (g 0) k2 = w_all (g 0) k ++ [(k1, k2)] := by
            rw [w_all_run (by rw [hws2.2]; exact hk12), hws2.1, hws2.2, ← hall, w_all_st hst2]
          refine lv_aload_n hx hb xd_Mo_split_83 rfl (lv_at hl 1 rfl) ?_
          refine va_get (D := D) (ci := 4) (v := .ref (mm 2)) (C := xR_Mo) (T := xT_Mo) (N := 31) hx hb hT xi_Mo hown hK.1 hP 0 rfl rfl 6 (by decide) (hT _ k4a_1) (fun _ h9 => h9) rfl xd_Mo_split_84 ?_
          refine lv_aload_n hx hb xd_Mo_split_87 rfl (lv_at hl 1 rfl) ?_
          refine va_get (D := D) (ci := 4) (v := .int (nI wn)) (C := xR_Mo) (T := xT_Mo) (N := 31) hx hb hT xi_Mo hown hK.1 hP 0 rfl rfl 4 (by decide) (hT _ k4a_8) (fun _ h9 => h9) rfl xd_Mo_split_88 ?_
          refine lv_iload_n hx hb xd_Mo_split_91 rfl (lv_at hl 0 rfl) ?_
          refine xn_iast (i := wn) hx hb hK.1 hP hD hS 3 0 rfl rfl (by omega) (by decide) xd_Mo_split_92 (fun H locs hP hD hS => ?_)
          have hP : va_P D xcl (moW h mm kA (va_up v 3 (nI wn)) (va_up (va_up g 1 (upd f1 wn (nI k1))) 2 (upd f2 wn (nI k2)))) H := hP
          have hD : va_D A (moW h mm kA (va_up v 3 (nI wn)) (va_up (va_up g 1 (upd f1 wn (nI k1))) 2 (upd f2 wn (nI k2)))) := hD
          refine lv_aload_n hx hb xd_Mo_split_93 rfl (lv_at hl 1 rfl) ?_
          refine lv_dup hx hb xd_Mo_split_94 rfl ?_
          refine va_get (D := D) (ci := 4) (v := .int (nI wn)) (C := xR_Mo) (T := xT_Mo) (N := 31) hx hb hT xi_Mo hown hK.1 hP 0 rfl rfl 4 (by decide) (hT _ k4a_8) (fun _ h9 => h9) rfl xd_Mo_split_95 ?_
          refine lv_iconst (v := 1) hx hb xd_Mo_split_98 (by decide) ?_
          refine lv_iadd hx hb xd_Mo_split_99 ?_
          refine xn_top (y := nI (wn + 1)) (nI_add wn 1) ?_
          refine va_put (D := D) (ci := 4) (v := .int (nI (wn + 1))) (ty := .int) (C := xR_Mo) (T := xT_Mo) (N := 31) hx hb hT xi_Mo xt_Mo xt_Mo_ok xn_Mo hown hK.1 hP hD hS 0 rfl rfl 4 (by decide) (hT _ k4a_8) (fun _ h9 => h9) rfl (by decide +kernel) rfl rfl (Nat.le_of_ble_eq_true rfl) xd_Mo_split_100 (fun H locs hP hD hS => ?_)
          have hP : va_P D xcl (moW h mm kA (va_up v 3 (nI (wn + 1))) (va_up (va_up g 1 (upd f1 wn (nI k1))) 2 (upd f2 wn (nI k2)))) H := hP
          have hD : va_D A (moW h mm kA (va_up v 3 (nI (wn + 1))) (va_up (va_up g 1 (upd f1 wn (nI k1))) 2 (upd f2 wn (nI k2)))) := hD
          refine lv_goto (tgt := 7) hx hb xd_Mo_split_103 (by decide) ?_
          exact ih1 (k2, wn + 1, (upd f1 wn (nI k1)), (upd f2 wn (nI k2))) _ _ _ (show wr - k2 < wr - k by omega) (lv_sub hl [0, 1] rfl) hP hD hS ⟨(show k2 ≤ wr from by first | assumption | omega), (show (wn + 1) = (w_all (g 0) k2).length from by rw [hrun, List.length_append, ← hwn]; rfl), (show k2 = 0 ∨ k2 = wr ∨ g 0 k2 = 32 from Or.inr (Or.inl (by omega))), (show fT g (upd f1 wn (nI k1)) (upd f2 wn (nI k2)) (w_all (g 0) k2) from by
      have q := fT_add (b := k1) (e := k2) hsg
      rw [← hwn, ← hrun] at q
      exact q)⟩
        · refine lv_aload_n hx hb xd_Mo_split_66 rfl (lv_at hl 1 rfl) ?_
          refine va_get (D := D) (ci := 4) (v := .ref (mm 0)) (C := xR_Mo) (T := xT_Mo) (N := 31) hx hb hT xi_Mo hown hK.1 hP 0 rfl rfl 2 (by decide) (hT _ k4a_2) (fun _ h9 => h9) rfl xd_Mo_split_67 ?_
          refine lv_iload_n hx hb xd_Mo_split_70 rfl (lv_at hl 0 rfl) ?_
          refine xn_cald (i := k2) hx hb hK.1 hP 1 1 rfl rfl (by omega) (by decide) xd_Mo_split_71 ?_
          refine lv_bipush (v := 32) hx hb xd_Mo_split_72 (by decide) ?_
          refine lv_icmp_eq (tgt := 83) hx hb xd_Mo_split_74 (by decide) (fun hc10 => ?_) (fun hc10 => ?_)
          · have hk12 : k1 < k2 := by
              rcases hne with q | q
              · exact q
              · exact absurd hc10 q
            have hrun : w_all (g 0) k2 = w_all (g 0) k ++ [(k1, k2)] := by
              rw [w_all_run (by rw [hws2.2]; exact hk12), hws2.1, hws2.2, ← hall, w_all_st hst2]
            refine lv_aload_n hx hb xd_Mo_split_83 rfl (lv_at hl 1 rfl) ?_
            refine va_get (D := D) (ci := 4) (v := .ref (mm 2)) (C := xR_Mo) (T := xT_Mo) (N := 31) hx hb hT xi_Mo hown hK.1 hP 0 rfl rfl 6 (by decide) (hT _ k4a_1) (fun _ h9 => h9) rfl xd_Mo_split_84 ?_
            refine lv_aload_n hx hb xd_Mo_split_87 rfl (lv_at hl 1 rfl) ?_
            refine va_get (D := D) (ci := 4) (v := .int (nI wn)) (C := xR_Mo) (T := xT_Mo) (N := 31) hx hb hT xi_Mo hown hK.1 hP 0 rfl rfl 4 (by decide) (hT _ k4a_8) (fun _ h9 => h9) rfl xd_Mo_split_88 ?_
            refine lv_iload_n hx hb xd_Mo_split_91 rfl (lv_at hl 0 rfl) ?_
            refine xn_iast (i := wn) hx hb hK.1 hP hD hS 3 0 rfl rfl (by omega) (by decide) xd_Mo_split_92 (fun H locs hP hD hS => ?_)
            have hP : va_P D xcl (moW h mm kA (va_up v 3 (nI wn)) (va_up (va_up g 1 (upd f1 wn (nI k1))) 2 (upd f2 wn (nI k2)))) H := hP
            have hD : va_D A (moW h mm kA (va_up v 3 (nI wn)) (va_up (va_up g 1 (upd f1 wn (nI k1))) 2 (upd f2 wn (nI k2)))) := hD
            refine lv_aload_n hx hb xd_Mo_split_93 rfl (lv_at hl 1 rfl) ?_
            refine lv_dup hx hb xd_Mo_split_94 rfl ?_
            refine va_get (D := D) (ci := 4) (v := .int (nI wn)) (C := xR_Mo) (T := xT_Mo) (N := 31) hx hb hT xi_Mo hown hK.1 hP 0 rfl rfl 4 (by decide) (hT _ k4a_8) (fun _ h9 => h9) rfl xd_Mo_split_95 ?_
            refine lv_iconst (v := 1) hx hb xd_Mo_split_98 (by decide) ?_
            refine lv_iadd hx hb xd_Mo_split_99 ?_
            refine xn_top (y := nI (wn + 1)) (nI_add wn 1) ?_
            refine va_put (D := D) (ci := 4) (v := .int (nI (wn + 1))) (ty := .int) (C := xR_Mo) (T := xT_Mo) (N := 31) hx hb hT xi_Mo xt_Mo xt_Mo_ok xn_Mo hown hK.1 hP hD hS 0 rfl rfl 4 (by decide) (hT _ k4a_8) (fun _ h9 => h9) rfl (by decide +kernel) rfl rfl (Nat.le_of_ble_eq_true rfl) xd_Mo_split_100 (fun H locs hP hD hS => ?_)
            have hP : va_P D xcl (moW h mm kA (va_up v 3 (nI (wn + 1))) (va_up (va_up g 1 (upd f1 wn (nI k1))) 2 (upd f2 wn (nI k2)))) H := hP
            have hD : va_D A (moW h mm kA (va_up v 3 (nI (wn + 1))) (va_up (va_up g 1 (upd f1 wn (nI k1))) 2 (upd f2 wn (nI k2)))) := hD
            refine lv_goto (tgt := 7) hx hb xd_Mo_split_103 (by decide) ?_
            exact ih1 (k2, wn + 1, (upd f1 wn (nI k1)), (upd f2 wn (nI k2))) _ _ _ (show wr - k2 < wr - k by omega) (lv_sub hl [0, 1] rfl) hP hD hS ⟨(show k2 ≤ wr from by first | assumption | omega), (show (wn + 1) = (w_all (g 0) k2).length from by rw [hrun, List.length_append, ← hwn]; rfl), (show k2 = 0 ∨ k2 = wr ∨ g 0 k2 = 32 from Or.inr (Or.inr hc10)), (show fT g (upd f1 wn (nI k1)) (upd f2 wn (nI k2)) (w_all (g 0) k2) from by
      have q := fT_add (b := k1) (e := k2) hsg
      rw [← hwn, ← hrun] at q
      exact q)⟩
          · refine lv_iinc (k := 0) (x := (nI k2)) (v := (nI (k2 + 1))) hx hb xd_Mo_split_77 hl rfl (xb_inc k2 1) (Nat.le_of_ble_eq_true rfl) rfl (fun ls hl => ?_)
            have hl : lv_has ls 2 [(1, .int (nI (k2 + 1))), (0, .ref h)] := hl
            refine lv_goto (tgt := 58) hx hb xd_Mo_split_80 (by decide) ?_
            exact ih8 (k2 + 1) _ _ _ (show wr - (k2 + 1) < wr - k2 by omega) (lv_sub hl [0, 1] rfl) hP hD hS ⟨(show k1 ≤ (k2 + 1) from by first | assumption | omega), (show (k2 + 1) ≤ wr from by first | assumption | omega), (show w_l (g 0) (k2 + 1) = w_l (g 0) k1 ∧ w_st (g 0) (k2 + 1) = k1 from by rw [(w_ns (t := g 0) hc10).1, (w_ns (t := g 0) hc10).2]; exact hws2), (show k1 < (k2 + 1) ∨ ¬ g 0 (k2 + 1) = 32 from Or.inl (by omega))⟩
      · refine lv_iinc (k := 0) (x := (nI k1)) (v := (nI (k1 + 1))) hx hb xd_Mo_split_34 hl rfl (xb_inc k1 1) (Nat.le_of_ble_eq_true rfl) rfl (fun ls hl => ?_)
        have hl : lv_has ls 2 [(1, .int (nI (k1 + 1))), (0, .ref h)] := hl
        refine lv_goto (tgt := 15) hx hb xd_Mo_split_37 (by decide) ?_
        exact ih3 (k1 + 1) _ _ _ (show wr - (k1 + 1) < wr - k1 by omega) (lv_sub hl [0, 1] rfl) hP hD hS ⟨(show k ≤ (k1 + 1) from by first | assumption | omega), (show (k1 + 1) ≤ wr from by first | assumption | omega), (show w_all (g 0) (k1 + 1) = w_all (g 0) k from by rw [w_all_st (w_sp (t := g 0) hc6).2, (w_sp (t := g 0) hc6).1]; exact hall), (show (k1 + 1) = k ∨ w_st (g 0) (k1 + 1) = (k1 + 1) from Or.inr (w_sp (t := g 0) hc6).2)⟩
theorem up_self {α : Type} {v : Nat → α} {k : Nat} {x : α} (h : v k = x) : va_up v k x = v := by
  funext j
  unfold va_up
  by_cases q : j = k
  · rw [if_pos q, q, h]
  · rw [if_neg q]
noncomputable def ff (P : Nat → Prop) : Nat → Option Nat
  | 0 => none
  | n + 1 => match ff P n with
    | some k => some k
    | none => cif (P n) (some n) none
theorem ff_none {P : Nat → Prop} : ∀ {n : Nat}, (∀ j, j < n → ¬ P j) → ff P n = none
  | 0, _ => rfl
  | n + 1, h => by
    unfold ff
    rw [ff_none (n := n) (fun j hj => h j (by omega))]
    exact cif_neg (h n (by omega))
theorem ff_some {P : Nat → Prop} : ∀ {n k : Nat}, k < n → P k → (∀ j, j < k → ¬ P j) → ff P n = some k
  | 0, _, h, _, _ => absurd h (Nat.not_lt_zero _)
  | n + 1, k, h, hp, hn => by
    unfold ff
    rcases Nat.lt_or_ge k n with q | q
    · rw [ff_some (n := n) q hp hn]
    · have e : k = n := by omega
      subst e
      rw [ff_none hn]
      exact cif_pos hp
theorem ff_or {P : Nat → Prop} : ∀ (n : Nat), (∃ k, k < n ∧ P k ∧ (∀ j, j < k → ¬ P j) ∧ ff P n = some k) ∨ ((∀ j, j < n → ¬ P j) ∧ ff P n = none)
  | 0 => Or.inr ⟨fun j hj => absurd hj (Nat.not_lt_zero _), rfl⟩
  | n + 1 => by
    rcases ff_or (P := P) n with ⟨k, h1, h2, h3, _⟩ | ⟨h1, _⟩
    · exact Or.inl ⟨k, by omega, h2, h3, ff_some (by omega) h2 h3⟩
    · by_cases h : P n
      · exact Or.inl ⟨n, by omega, h, h1, ff_some (by omega) h h1⟩
      · have h4 : ∀ j, j < n + 1 → ¬ P j := fun j hj => by
          rcases Nat.lt_or_ge j n with q | q
          · exact h1 j q
          · rw [show j = n by omega]; exact h
        exact Or.inr ⟨h4, ff_none h4⟩
theorem ff_is {P : Nat → Prop} {n k : Nat} (h : ff P n = some k) : k < n ∧ P k ∧ ∀ j, j < k → ¬ P j := by
  rcases ff_or (P := P) n with ⟨k2, h1, h2, h3, h4⟩ | ⟨_, h4⟩
  · rw [h] at h4
    rw [Option.some.inj h4]; exact ⟨h1, h2, h3⟩
  · rw [h] at h4; cases h4
theorem ff_no {P : Nat → Prop} {n : Nat} (h : ff P n = none) : ∀ j, j < n → ¬ P j := by
  rcases ff_or (P := P) n with ⟨k2, _, _, _, h4⟩ | ⟨h4, _⟩
  · rw [h] at h4; cases h4
  · exact h4
theorem ff_congr {P Q : Nat → Prop} {n : Nat} (h : ∀ j, j < n → (P j ↔ Q j)) : ff P n = ff Q n := by
  rcases ff_or (P := P) n with ⟨k, h1, h2, h3, h4⟩ | ⟨h3, h4⟩
  · rw [h4, ff_some h1 ((h k h1).mp h2) (fun j hj q => h3 j hj ((h j (by omega)).mpr q))]
  · rw [h4, ff_none (fun j hj q => h3 j hj ((h j hj).mpr q))]
def zMo : List Nat := [109, 111, 100, 117, 108, 101]
def zPa : List Nat := [112, 97, 99, 107, 97, 103, 101]
def zEx : List Nat := [101, 120, 112, 111, 114, 116, 115]
def zOp : List Nat := [111, 112, 101, 110, 115]
def zRe : List Nat := [114, 101, 113, 117, 105, 114, 101, 115]
def zUs : List Nat := [117, 115, 101, 115]
def zPr : List Nat := [112, 114, 111, 118, 105, 100, 101, 115]
def zTr : List Nat := [116, 114, 97, 110, 115, 105, 116, 105, 118, 101]
def zSt : List Nat := [115, 116, 97, 116, 105, 99]
def zTo : List Nat := [116, 111]
theorem q_Mo {t : Nat → Int32} {b e : Nat} (h : b ≤ e) : sQ t b e (cdV 109 111 100 117 108) (cdV 101 0 0 0 0) ↔ wE t b e zMo := sQ_l zMo h (by decide) (by decide) (by decide) (by decide)
theorem q_Pa {t : Nat → Int32} {b e : Nat} (h : b ≤ e) : sQ t b e (cdV 112 97 99 107 97) (cdV 103 101 0 0 0) ↔ wE t b e zPa := sQ_l zPa h (by decide) (by decide) (by decide) (by decide)
theorem q_Ex {t : Nat → Int32} {b e : Nat} (h : b ≤ e) : sQ t b e (cdV 101 120 112 111 114) (cdV 116 115 0 0 0) ↔ wE t b e zEx := sQ_l zEx h (by decide) (by decide) (by decide) (by decide)
theorem q_Op {t : Nat → Int32} {b e : Nat} (h : b ≤ e) : sQ t b e (cdV 111 112 101 110 115) 0 ↔ wE t b e zOp := sQ_l zOp h (by decide) (by decide) (by decide) (by decide)
theorem q_Re {t : Nat → Int32} {b e : Nat} (h : b ≤ e) : sQ t b e (cdV 114 101 113 117 105) (cdV 114 101 115 0 0) ↔ wE t b e zRe := sQ_l zRe h (by decide) (by decide) (by decide) (by decide)
theorem q_Us {t : Nat → Int32} {b e : Nat} (h : b ≤ e) : sQ t b e (cdV 117 115 101 115 0) 0 ↔ wE t b e zUs := sQ_l zUs h (by decide) (by decide) (by decide) (by decide)
theorem q_Pr {t : Nat → Int32} {b e : Nat} (h : b ≤ e) : sQ t b e (cdV 112 114 111 118 105) (cdV 100 101 115 0 0) ↔ wE t b e zPr := sQ_l zPr h (by decide) (by decide) (by decide) (by decide)
theorem q_Tr {t : Nat → Int32} {b e : Nat} (h : b ≤ e) : sQ t b e (cdV 116 114 97 110 115) (cdV 105 116 105 118 101) ↔ wE t b e zTr := sQ_l zTr h (by decide) (by decide) (by decide) (by decide)
theorem q_St {t : Nat → Int32} {b e : Nat} (h : b ≤ e) : sQ t b e (cdV 115 116 97 116 105) (cdV 99 0 0 0 0) ↔ wE t b e zSt := sQ_l zSt h (by decide) (by decide) (by decide) (by decide)
theorem q_To {t : Nat → Int32} {b e : Nat} (h : b ≤ e) : sQ t b e (cdV 116 111 0 0 0) 0 ↔ wE t b e zTo := sQ_l zTo h (by decide) (by decide) (by decide) (by decide)
abbrev gT : Type := Nat → Nat → Int32
noncomputable def fF (t : Nat → Int32) (wl : List (Nat × Nat)) : Int32 := cif (wS t wl 1 [48]) 0 1
def okD (t : Nat → Int32) (wl : List (Nat × Nat)) (nd : Nat) (g : gT) : Prop := wl.length = 3 ∧ (wS t wl 1 [48] ∨ wS t wl 1 [49]) ∧ ¬ wN t wl 2 = 0 ∧ (∀ j, j < nd → ¬ (g 3 j = fF t wl ∧ g 4 j = wN t wl 2)) ∧ nd < 12
noncomputable def lD (t : Nat → Int32) (wl : List (Nat × Nat)) (nd : Nat) (g : gT) : Nat × gT := cif (okD t wl nd g) (nd + 1, va_up (va_up g 3 (upd (g 3) nd (fF t wl))) 4 (upd (g 4) nd (wN t wl 2))) (nd, g)
def okP (t : Nat → Int32) (wl : List (Nat × Nat)) (nd : Nat) (g : gT) : Prop := wl.length = 2 ∧ ¬ wN t wl 1 = 0 ∧ 0 < nd ∧ (∀ j, 6 * (nd - 1) ≤ j → j < 6 * (nd - 1) + iN (g 5 (nd - 1)) → ¬ g 6 j = wN t wl 1) ∧ g 11 (nd - 1) = 0 ∧ iN (g 5 (nd - 1)) < 6
noncomputable def lP (t : Nat → Int32) (wl : List (Nat × Nat)) (nd : Nat) (g : gT) : gT := cif (okP t wl nd g) (va_up (va_up g 5 (upd (g 5) (nd - 1) (nI (iN (g 5 (nd - 1)) + 1)))) 6 (upd (g 6) (6 * (nd - 1) + iN (g 5 (nd - 1))) (wN t wl 1))) g
noncomputable def bI (C : Prop) : Int32 := cif C 1 0
theorem bI_nar {C : Prop} : vp_nar .boolean (bI C) = bI C := by
  by_cases h : C
  · unfold bI; rw [cif_pos h]; rfl
  · unfold bI; rw [cif_neg h]; rfl
def rqT (t : Nat → Int32) (wl : List (Nat × Nat)) : Prop := 2 < wl.length ∧ wS t wl 1 zTr
noncomputable def rqA (t : Nat → Int32) (wl : List (Nat × Nat)) : Nat := cif (rqT t wl) 2 1
def rqO (t : Nat → Int32) (wl : List (Nat × Nat)) : Prop := rqA t wl + 1 < wl.length ∧ wS t wl (rqA t wl) zSt
noncomputable def rqB (t : Nat → Int32) (wl : List (Nat × Nat)) : Nat := cif (rqO t wl) (rqA t wl + 1) (rqA t wl)
def okR (t : Nat → Int32) (wl : List (Nat × Nat)) (nd : Nat) (g : gT) : Prop := wl.length = rqB t wl + 1 ∧ ¬ wN t wl (rqB t wl) = 0 ∧ 0 < nd ∧ ¬ g 4 (nd - 1) = wN t wl (rqB t wl) ∧ (∀ j, 5 * (nd - 1) ≤ j → j < 5 * (nd - 1) + iN (g 12 (nd - 1)) → ¬ g 13 j = wN t wl (rqB t wl)) ∧ g 11 (nd - 1) = 0 ∧ iN (g 12 (nd - 1)) < 5
noncomputable def lR (t : Nat → Int32) (wl : List (Nat × Nat)) (nd : Nat) (g : gT) : gT := cif (okR t wl nd g) (va_up (va_up (va_up (va_up g 12 (upd (g 12) (nd - 1) (nI (iN (g 12 (nd - 1)) + 1)))) 13 (upd (g 13) (5 * (nd - 1) + iN (g 12 (nd - 1))) (wN t wl (rqB t wl)))) 16 (upd (g 16) (5 * (nd - 1) + iN (g 12 (nd - 1))) (bI (rqT t wl)))) 17 (upd (g 17) (5 * (nd - 1) + iN (g 12 (nd - 1))) (bI (rqO t wl)))) g
noncomputable def svF (f : Nat → Int32) (d : Nat) : Option Nat := ff (fun k => f (3 * d + k) = 0) 3
def okS (a : Nat) (t : Nat → Int32) (wl : List (Nat × Nat)) (nd : Nat) (g : gT) : Prop := wl.length = 2 ∧ ¬ wN t wl 1 = 0 ∧ 0 < nd ∧ (∀ k, k < 3 → ¬ g a (3 * (nd - 1) + k) = wN t wl 1) ∧ g 11 (nd - 1) = 0
noncomputable def lS (a : Nat) (t : Nat → Int32) (wl : List (Nat × Nat)) (nd : Nat) (g : gT) : gT := match svF (g a) (nd - 1) with
  | none => g
  | some k => cif (okS a t wl nd g) (va_up g a (upd (g a) (3 * (nd - 1) + k) (wN t wl 1))) g
noncomputable def pI (g : gT) (d : Nat) (n : Int32) : Option Nat := ff (fun i => g 6 (6 * d + i) = n) (iN (g 5 d))
noncomputable def gS (g : gT) (a b : Nat) (to : Int32) : gT := match ff (fun k => g a (b + k) = to ∨ g a (b + k) = 0) 3 with
  | none => g
  | some k => cif (¬ g a (b + k) = to) (va_up g a (upd (g a) (b + k) to)) g
def okG (t : Nat → Int32) (wl : List (Nat × Nat)) (nd : Nat) (g : gT) : Prop := (wl.length = 2 ∨ (wl.length = 4 ∧ wS t wl 2 zTo ∧ ¬ wN t wl 3 = 0)) ∧ ¬ wN t wl 1 = 0 ∧ 0 < nd ∧ g 11 (nd - 1) = 0
noncomputable def lG (a a2 : Nat) (t : Nat → Int32) (wl : List (Nat × Nat)) (nd : Nat) (g : gT) : gT := match pI g (nd - 1) (wN t wl 1) with
  | none => g
  | some i => cif (okG t wl nd g) (cif (wl.length = 2) (va_up g a2 (upd (g a2) (6 * (nd - 1) + i) 1)) (gS g a (3 * (6 * (nd - 1) + i)) (wN t wl 3))) g
noncomputable def lnF (t : Nat → Int32) (wl : List (Nat × Nat)) (nd : Nat) (g : gT) : Nat × gT := cif (wS t wl 0 zMo) (lD t wl nd g) (cif (wS t wl 0 zPa) (nd, lP t wl nd g) (cif (wS t wl 0 zEx) (nd, lG 7 9 t wl nd g) (cif (wS t wl 0 zOp) (nd, lG 8 10 t wl nd g) (cif (wS t wl 0 zRe) (nd, lR t wl nd g) (cif (wS t wl 0 zUs) (nd, lS 14 t wl nd g) (cif (wS t wl 0 zPr) (nd, lS 15 t wl nd g) (nd, g)))))))
theorem w1_at {t : Nat → Int32} {wl : List (Nat × Nat)} {i c : Nat} : wS t wl i [c] ↔ (i < wl.length ∧ we wl i - wb wl i = 1 ∧ t (wb wl i) = nI c) := by
  constructor
  · intro ⟨h1, h2, h3⟩
    exact ⟨h1, h2, h3 0 (Nat.zero_lt_one)⟩
  · intro ⟨h1, h2, h3⟩
    refine ⟨h1, h2, fun p hp => ?_⟩
    have e : p = 0 := by simp only [List.length_cons, List.length_nil] at hp; omega
    subst e; exact h3
theorem wd_iff {t : Nat → Int32} {wl : List (Nat × Nat)} (h1 : 1 < wl.length) (hw : wb wl 1 < we wl 1) : (wS t wl 1 [48] ∨ wS t wl 1 [49]) ↔ (we wl 1 = wb wl 1 + 1 ∧ ¬ sL t (wb wl 1) (we wl 1) 0 < 48 ∧ ¬ 49 < sL t (wb wl 1) (we wl 1) 0) := by
  have e : sL t (wb wl 1) (we wl 1) 0 = t (wb wl 1) := by unfold sL; rw [if_pos (by omega)]; rfl
  rw [w1_at, w1_at, e]
  constructor
  · rintro (⟨_, h2, h3⟩ | ⟨_, h2, h3⟩)
    · rw [h3]; exact ⟨by omega, by decide, by decide⟩
    · rw [h3]; exact ⟨by omega, by decide, by decide⟩
  · intro ⟨h2, h3, h4⟩
    have h0 : ¬ t (wb wl 1) < 0 := fun q => h3 (Int32.lt_trans q (by decide))
    obtain ⟨j, hj, ej⟩ := nI_of h0
    rw [ej, show (48 : Int32) = nI 48 from rfl, nI_ltI hj (by decide)] at h3
    rw [ej, show (49 : Int32) = nI 49 from rfl, nI_ltI (by decide) hj] at h4
    rcases (show j = 48 ∨ j = 49 by omega) with q | q
    · exact Or.inl ⟨h1, by omega, by rw [ej, q]⟩
    · exact Or.inr ⟨h1, by omega, by rw [ej, q]⟩
theorem wd_f {t : Nat → Int32} {wl : List (Nat × Nat)} (hw : wb wl 1 < we wl 1) (h : wS t wl 1 [48] ∨ wS t wl 1 [49]) : fF t wl = sL t (wb wl 1) (we wl 1) 0 - 48 := by
  have e : sL t (wb wl 1) (we wl 1) 0 = t (wb wl 1) := by unfold sL; rw [if_pos (by omega)]; rfl
  rw [e]
  by_cases q : wS t wl 1 [48]
  · unfold fF; rw [cif_pos q, (w1_at.mp q).2.2]; decide
  · unfold fF; rw [cif_neg q, (w1_at.mp (h.resolve_left q)).2.2]; decide
theorem lD_no {t : Nat → Int32} {wl : List (Nat × Nat)} {nd : Nat} {g : gT} {v : Nat → Int32} (hv : v 4 = nI nd) (h : ¬ okD t wl nd g) : (v, g) = (va_up v 4 (nI (lD t wl nd g).1), (lD t wl nd g).2) := by
  unfold lD; rw [cif_neg h]; rw [up_self hv]
theorem lD_ok {t : Nat → Int32} {wl : List (Nat × Nat)} {nd : Nat} {g : gT} {v : Nat → Int32} {x y : Int32} (h : okD t wl nd g) (hx : x = fF t wl) (hy : y = wN t wl 2) : (va_up v 4 (nI (nd + 1)), va_up (va_up g 3 (upd (g 3) nd x)) 4 (upd (g 4) nd y)) = (va_up v 4 (nI (lD t wl nd g).1), (lD t wl nd g).2) := by
  unfold lD; rw [cif_pos h, hx, hy]
theorem lP_no {t : Nat → Int32} {wl : List (Nat × Nat)} {nd : Nat} {g : gT} (h : ¬ okP t wl nd g) : g = lP t wl nd g := by unfold lP; rw [cif_neg h]
theorem lP_ok {t : Nat → Int32} {wl : List (Nat × Nat)} {nd pk : Nat} {g : gT} {y : Int32} (hpk : g 5 (nd - 1) = nI pk) (hk : pk < 2147483648) (h : okP t wl nd g) (hy : y = wN t wl 1) : va_up (va_up g 5 (upd (g 5) (nd - 1) (nI (pk + 1)))) 6 (upd (g 6) (6 * (nd - 1) + pk) y) = lP t wl nd g := by
  have e : iN (g 5 (nd - 1)) = pk := by rw [hpk, iN_nI hk]
  unfold lP; rw [cif_pos h, hy, e]
theorem lR_no {t : Nat → Int32} {wl : List (Nat × Nat)} {nd : Nat} {g : gT} (h : ¬ okR t wl nd g) : g = lR t wl nd g := by unfold lR; rw [cif_neg h]
theorem lR_ok {t : Nat → Int32} {wl : List (Nat × Nat)} {nd rq : Nat} {g : gT} {y th qt : Int32} (hrq : g 12 (nd - 1) = nI rq) (hk : rq < 2147483648) (h : okR t wl nd g) (hy : y = wN t wl (rqB t wl)) (ht : th = bI (rqT t wl)) (hq : qt = bI (rqO t wl)) : va_up (va_up (va_up (va_up g 12 (upd (g 12) (nd - 1) (nI (rq + 1)))) 13 (upd (g 13) (5 * (nd - 1) + rq) y)) 16 (upd (g 16) (5 * (nd - 1) + rq) (vp_nar .boolean th))) 17 (upd (g 17) (5 * (nd - 1) + rq) (vp_nar .boolean qt)) = lR t wl nd g := by
  have e : iN (g 12 (nd - 1)) = rq := by rw [hrq, iN_nI hk]
  unfold lR; rw [cif_pos h, hy, ht, hq, bI_nar, bI_nar, e]
theorem bI_1 {C : Prop} (h : C) : (1 : Int32) = bI C := (cif_pos h).symm
theorem bI_0 {C : Prop} (h : ¬ C) : (0 : Int32) = bI C := (cif_neg h).symm
theorem lG_no1 {a a2 : Nat} {t : Nat → Int32} {wl : List (Nat × Nat)} {nd : Nat} {g : gT} (h : ¬ okG t wl nd g) : g = lG a a2 t wl nd g := by
  unfold lG
  split
  · rfl
  · rw [cif_neg h]
theorem lG_no2 {a a2 : Nat} {t : Nat → Int32} {wl : List (Nat × Nat)} {nd : Nat} {g : gT} (h : pI g (nd - 1) (wN t wl 1) = none) : g = lG a a2 t wl nd g := by
  unfold lG; rw [h]
theorem lG_all {a a2 : Nat} {t : Nat → Int32} {wl : List (Nat × Nat)} {nd i k : Nat} {g : gT} {x : Int32} (hp : pI g (nd - 1) (wN t wl 1) = some i) (h : okG t wl nd g) (h2 : wl.length = 2) (hk : k = 6 * (nd - 1) + i) (hx : x = 1) : va_up g a2 (upd (g a2) k x) = lG a a2 t wl nd g := by
  unfold lG; rw [hp]; simp only; rw [cif_pos h, cif_pos h2, hk, hx]
theorem lG_to {a a2 : Nat} {t : Nat → Int32} {wl : List (Nat × Nat)} {nd i k : Nat} {g : gT} (hp : pI g (nd - 1) (wN t wl 1) = some i) (h : okG t wl nd g) (h4 : wl.length = 4) (hk : k = 6 * (nd - 1) + i) : gS g a (3 * k) (wN t wl 3) = lG a a2 t wl nd g := by
  unfold lG; rw [hp]; simp only; rw [cif_pos h, cif_neg (by omega), hk]
theorem gS_same {g : gT} {a b k : Nat} {to : Int32} (hk : k < 3) (h : g a (b + k) = to) (hn : ∀ j, j < k → ¬ g a (b + j) = to ∧ ¬ g a (b + j) = 0) : g = gS g a b to := by
  have e := ff_some (P := fun k => g a (b + k) = to ∨ g a (b + k) = 0) hk (Or.inl h) (fun j hj q => q.elim (hn j hj).1 (hn j hj).2)
  unfold gS; rw [e]; simp only; rw [cif_neg (fun q => q h)]
theorem gS_set {g : gT} {a b k : Nat} {to : Int32} (hk : k < 3) (h0 : g a (b + k) = 0) (h : ¬ g a (b + k) = to) (hn : ∀ j, j < k → ¬ g a (b + j) = to ∧ ¬ g a (b + j) = 0) : va_up g a (upd (g a) (b + k) to) = gS g a b to := by
  have e := ff_some (P := fun k => g a (b + k) = to ∨ g a (b + k) = 0) hk (Or.inr h0) (fun j hj q => q.elim (hn j hj).1 (hn j hj).2)
  unfold gS; rw [e]; simp only; rw [cif_pos h]
theorem gS_full {g : gT} {a b : Nat} {to : Int32} (hn : ∀ j, j < 3 → ¬ g a (b + j) = to ∧ ¬ g a (b + j) = 0) : g = gS g a b to := by
  have e := ff_none (P := fun k => g a (b + k) = to ∨ g a (b + k) = 0) (n := 3) (fun j hj q => q.elim (hn j hj).1 (hn j hj).2)
  unfold gS; rw [e]
theorem pI_some {g : gT} {d pk k : Nat} {n : Int32} (hpk : g 5 d = nI pk) (hk6 : pk < 2147483648) (h0 : 6 * d ≤ k) (h1 : k < 6 * d + pk) (h2 : g 6 k = n) (h3 : ∀ j, 6 * d ≤ j → j < k → ¬ g 6 j = n) : pI g d n = some (k - 6 * d) := by
  unfold pI
  rw [hpk, iN_nI hk6]
  refine ff_some (by omega) ?_ (fun j hj q => h3 (6 * d + j) (by omega) (by omega) q)
  show g 6 (6 * d + (k - 6 * d)) = n
  rw [show 6 * d + (k - 6 * d) = k by omega]; exact h2
theorem pI_none {g : gT} {d pk : Nat} {n : Int32} (hpk : g 5 d = nI pk) (hk6 : pk < 2147483648) (h3 : ∀ j, 6 * d ≤ j → j < 6 * d + pk → ¬ g 6 j = n) : pI g d n = none := by
  unfold pI
  rw [hpk, iN_nI hk6]
  exact ff_none (fun j hj q => h3 (6 * d + j) (by omega) (by omega) q)
theorem lS_no1 {a : Nat} {t : Nat → Int32} {wl : List (Nat × Nat)} {nd : Nat} {g : gT} (h : ¬ okS a t wl nd g) : g = lS a t wl nd g := by
  unfold lS
  split
  · rfl
  · rw [cif_neg h]
theorem lS_no2 {a : Nat} {t : Nat → Int32} {wl : List (Nat × Nat)} {nd : Nat} {g : gT} (h : svF (g a) (nd - 1) = none) : g = lS a t wl nd g := by
  unfold lS; rw [h]
theorem lS_ok {a : Nat} {t : Nat → Int32} {wl : List (Nat × Nat)} {nd k : Nat} {g : gT} {y : Int32} (hp : svF (g a) (nd - 1) = some k) (h : okS a t wl nd g) (hy : y = wN t wl 1) : va_up g a (upd (g a) (3 * (nd - 1) + k) y) = lS a t wl nd g := by
  unfold lS; rw [hp]; simp only; rw [cif_pos h, hy]
theorem k4b_0 : (Cond.fieldLink "LayerDeskModel" 94 "LayerDeskModel" "words" "I") ∈ wT := wT_t (List.mem_append_right _ (List.mem_append_right _ (List.mem_append_right _ (List.mem_append_left _ (List.mem_of_getElem? (i := 88) rfl))))) rfl
theorem k4b_1 : (Cond.fieldLink "LayerDeskModel" 17 "LayerDeskModel" "end" "[I") ∈ wT := wT_t (List.mem_append_right _ (List.mem_append_right _ (List.mem_append_right _ (List.mem_append_left _ (List.mem_of_getElem? (i := 90) rfl))))) rfl
theorem k4b_2 : (Cond.fieldLink "LayerDeskModel" 13 "LayerDeskModel" "begin" "[I") ∈ wT := wT_t (List.mem_append_right _ (List.mem_append_right _ (List.mem_append_right _ (List.mem_append_left _ (List.mem_of_getElem? (i := 89) rfl))))) rfl
theorem k4b_3 : (Cond.code xy_Mo_letter xb_Mo_letter 3 (some .char)) ∈ wT := wT_t (List.mem_append_right _ (List.mem_append_right _ (List.mem_append_right _ (List.mem_append_left _ (List.mem_of_getElem? (i := 204) rfl))))) rfl
theorem k4b_4 : (Cond.methodLink "LayerDeskModel" 97 xy_Mo_letter) ∈ wT := wT_t (List.mem_append_right _ (List.mem_append_right _ (List.mem_append_right _ (List.mem_append_left _ (List.mem_of_getElem? (i := 201) rfl))))) rfl
theorem k4b_5 : (Cond.instanceMethod xy_Mo_letter) ∈ wT := wT_t (List.mem_append_right _ (List.mem_append_right _ (List.mem_append_right _ (List.mem_append_left _ (List.mem_of_getElem? (i := 203) rfl))))) rfl
theorem k4b_6 : (Cond.selects "LayerDeskModel" xy_Mo_letter xy_Mo_letter) ∈ wT := wT_s (q := (xy_Mo_letter, 31)) (by decide +kernel) rfl
theorem k4b_7 : (Cond.initialized "LayerDeskModel") ∈ wT := wT_t (List.mem_append_left _ (List.mem_of_getElem? (i := 5) rfl)) rfl
theorem k4b_8 : (Cond.code xy_Mo_nameOf xb_Mo_nameOf 4 (some .int)) ∈ wT := wT_t (List.mem_append_right _ (List.mem_append_right _ (List.mem_append_right _ (List.mem_append_left _ (List.mem_of_getElem? (i := 212) rfl))))) rfl
theorem k4b_9 : (Cond.methodLink "LayerDeskModel" 133 xy_Mo_nameOf) ∈ wT := wT_t (List.mem_append_right _ (List.mem_append_right _ (List.mem_append_right _ (List.mem_append_left _ (List.mem_of_getElem? (i := 209) rfl))))) rfl
theorem k4b_10 : (Cond.instanceMethod xy_Mo_nameOf) ∈ wT := wT_t (List.mem_append_right _ (List.mem_append_right _ (List.mem_append_right _ (List.mem_append_left _ (List.mem_of_getElem? (i := 211) rfl))))) rfl
theorem k4b_11 : (Cond.selects "LayerDeskModel" xy_Mo_nameOf xy_Mo_nameOf) ∈ wT := wT_s (q := (xy_Mo_nameOf, 31)) (by decide +kernel) rfl
theorem k4b_12 : (Cond.code xy_Mo_descriptorOf xb_Mo_descriptorOf 4 (some .int)) ∈ wT := wT_t (List.mem_append_right _ (List.mem_append_right _ (List.mem_append_right _ (List.mem_append_left _ (List.mem_of_getElem? (i := 216) rfl))))) rfl
theorem k4b_13 : (Cond.methodLink "LayerDeskModel" 136 xy_Mo_descriptorOf) ∈ wT := wT_t (List.mem_append_right _ (List.mem_append_right _ (List.mem_append_right _ (List.mem_append_left _ (List.mem_of_getElem? (i := 213) rfl))))) rfl
theorem k4b_14 : (Cond.instanceMethod xy_Mo_descriptorOf) ∈ wT := wT_t (List.mem_append_right _ (List.mem_append_right _ (List.mem_append_right _ (List.mem_append_left _ (List.mem_of_getElem? (i := 215) rfl))))) rfl
theorem k4b_15 : (Cond.selects "LayerDeskModel" xy_Mo_descriptorOf xy_Mo_descriptorOf) ∈ wT := wT_s (q := (xy_Mo_descriptorOf, 31)) (by decide +kernel) rfl
theorem k4b_16 : (Cond.fieldLink "LayerDeskModel" 140 "LayerDeskModel" "descriptors" "I") ∈ wT := wT_t (List.mem_append_right _ (List.mem_append_right _ (List.mem_append_right _ (List.mem_append_left _ (List.mem_of_getElem? (i := 91) rfl))))) rfl
theorem k4b_17 : (Cond.fieldLink "LayerDeskModel" 20 "LayerDeskModel" "finder" "[I") ∈ wT := wT_t (List.mem_append_right _ (List.mem_append_right _ (List.mem_append_right _ (List.mem_append_left _ (List.mem_of_getElem? (i := 92) rfl))))) rfl
theorem k4b_18 : (Cond.fieldLink "LayerDeskModel" 23 "LayerDeskModel" "name" "[I") ∈ wT := wT_t (List.mem_append_right _ (List.mem_append_right _ (List.mem_append_right _ (List.mem_append_left _ (List.mem_of_getElem? (i := 93) rfl))))) rfl
set_option maxHeartbeats 4000000 in
set_option maxRecDepth 100000 in
theorem xc_Mo_newDescriptorX (l : Launch) (D : va_G) (kA : Nat → ClassId) (sz h : Nat) (mm : Nat → Nat) (v : Nat → Int32) (g : Nat → Nat → Int32) (wl : List (Nat × Nat)) (nd : Nat) (hMI : MI v g) (hWX : WX v g wl) (hnd : v 4 = nI nd) (hnd12 : nd ≤ 12) : Met l xy_Mo_newDescriptor (.code xy_Mo_newDescriptor xb_Mo_newDescriptor 3 (some .int) :: wT) { frames := 1, cells := 0, slots := 0, locals := 23 } (va_Pc [.ref h] (xPre D kA sz (moW h mm kA v g))) (va_Qi (fun (r : Int32) (u : (Nat → Int32) × (Nat → Nat → Int32)) => MI u.1 u.2 ∧ u.1 2 = v 2 ∧ (r = -1 ∨ r = -2 ∨ r = 1 ∨ r = 2) ∧ u = (va_up v 4 (nI (lD (g 0) wl nd g).1), (lD (g 0) wl nd g).2)) (fun (u : (Nat → Int32) × (Nat → Nat → Int32)) t => va_P D xcl (moW h mm kA u.1 u.2) t.heap ∧ va_D (va_A (moW h mm kA v g) sz) (moW h mm kA u.1 u.2)) (va_A (moW h mm kA v g) sz)) 0 0 (va_A (moW h mm kA v g) sz) := by
  refine Met.ofW (cc := xb_Mo_newDescriptor) (maxL := 3) (ret := (some .int)) (by decide) rfl ?_
  intro p e s m args below meth c s₁ B hml hv
  obtain ⟨rfl, hsz, hP, hK, hD0⟩ := hv
  have hx := B.exec
  have hb := B.bytes
  have hr := B.returns
  have hT := x_hT B.pre
  have hown : s.vm.findClass xR_Mo = some m.cls := findClass_of_methodNamed B.named
  have hlocks := B.notSynchronized
  subst hsz
  have hD := hD0.self (sz := s.heap.size)
  generalize hAe : va_A (moW h mm kA v g) s.heap.size = A at hD ⊢
  have hA : ∀ q : Nat, s.heap.size ≤ q → A q := fun q h => by rw [← hAe]; exact Or.inr h
  have hS : va_S A s.heap s.heap [] := va_S.rf
  have hl := lv_entry ([.ref h]) (n := 3) (Nat.le_of_ble_eq_true rfl)
  rw [lg_entry_eq]
  generalize (lg_sl ([.ref h]) ++ List.replicate (3 - (lg_sl ([.ref h])).length) Slot.unset).toArray = ls at hl ⊢
  have hl : lv_has ls 3 [(0, .ref h)] := hl
  have hP : va_P D xcl (moW h mm kA v g) s.heap := hP
  obtain ⟨-, ⟨nl, hnl5, hnl, hpar⟩, hch, hpk, hrq, hmd, huq⟩ := id hMI
  obtain ⟨hwn, ⟨hwn20, hwlr⟩, hws⟩ := id hWX
  refine lv_aload_n hx hb xd_Mo_newDescriptor_0 rfl (lv_at hl 0 rfl) ?_
  refine va_get (D := D) (ci := 4) (v := .int (v 3)) (C := xR_Mo) (T := xT_Mo) (N := 31) hx hb hT xi_Mo hown hK.1 hP 0 rfl rfl 4 (by decide) (hT _ k4b_0) (fun _ h9 => h9) rfl xd_Mo_newDescriptor_1 ?_
  refine xn_top (x := (v 3)) (y := nI wl.length) hwn ?_
  refine lv_iconst (v := 3) hx hb xd_Mo_newDescriptor_4 (by decide) ?_
  refine xn_ne (a := wl.length) (b := 3) (tgt := 55) hx hb xd_Mo_newDescriptor_5 (by decide) (by omega) (by omega) (fun hc1 => ?_) (fun hc1 => ?_)
  · refine lv_iconst (v := (-1)) hx hb xd_Mo_newDescriptor_55 (by decide) ?_
    exact W.iret (v := (-1)) hx hb hr (fun t ht hW => ⟨⟨(-1), (v, g), rfl, ⟨hMI, rfl, Or.inl rfl, lD_no hnd (fun q => absurd q.1 (by omega))⟩, by rw [ht]; exact hP, hD⟩, hS.F ht⟩) hS.2.2 xd_Mo_newDescriptor_56
  · have hbe1 := (hwlr 1 (by omega)).1
    have he1 := (hwlr 1 (by omega)).2
    have eb1 := (hws 1 (by omega)).1
    have ee1 := (hws 1 (by omega)).2
    have hbe2 := (hwlr 2 (by omega)).1
    have he2 := (hwlr 2 (by omega)).2
    have eb2 := (hws 2 (by omega)).1
    have ee2 := (hws 2 (by omega)).2
    refine lv_aload_n hx hb xd_Mo_newDescriptor_8 rfl (lv_at hl 0 rfl) ?_
    refine va_get (D := D) (ci := 4) (v := .ref (mm 2)) (C := xR_Mo) (T := xT_Mo) (N := 31) hx hb hT xi_Mo hown hK.1 hP 0 rfl rfl 6 (by decide) (hT _ k4b_1) (fun _ h9 => h9) rfl xd_Mo_newDescriptor_9 ?_
    refine lv_iconst (v := 1) hx hb xd_Mo_newDescriptor_12 (by decide) ?_
    refine xn_iald (i := 1) hx hb hK.1 hP 3 0 rfl rfl (by omega) (by decide) xd_Mo_newDescriptor_13 ?_
    refine xn_top (x := (g 2 1)) (y := nI (we wl 1)) ee1 ?_
    refine lv_aload_n hx hb xd_Mo_newDescriptor_14 rfl (lv_at hl 0 rfl) ?_
    refine va_get (D := D) (ci := 4) (v := .ref (mm 1)) (C := xR_Mo) (T := xT_Mo) (N := 31) hx hb hT xi_Mo hown hK.1 hP 0 rfl rfl 5 (by decide) (hT _ k4b_2) (fun _ h9 => h9) rfl xd_Mo_newDescriptor_15 ?_
    refine lv_iconst (v := 1) hx hb xd_Mo_newDescriptor_18 (by decide) ?_
    refine xn_iald (i := 1) hx hb hK.1 hP 2 0 rfl rfl (by omega) (by decide) xd_Mo_newDescriptor_19 ?_
    refine xn_top (x := (g 1 1)) (y := nI (wb wl 1)) eb1 ?_
    refine lv_iconst (v := 1) hx hb xd_Mo_newDescriptor_20 (by decide) ?_
    refine lv_iadd hx hb xd_Mo_newDescriptor_21 ?_
    refine xn_top (y := nI ((wb wl 1) + 1)) (nI_add (wb wl 1) 1) ?_
    refine xn_ne (a := (we wl 1)) (b := (wb wl 1) + 1) (tgt := 55) hx hb xd_Mo_newDescriptor_22 (by decide) (by omega) (by omega) (fun hc2 => ?_) (fun hc2 => ?_)
    · refine lv_iconst (v := (-1)) hx hb xd_Mo_newDescriptor_55 (by decide) ?_
      exact W.iret (v := (-1)) hx hb hr (fun t ht hW => ⟨⟨(-1), (v, g), rfl, ⟨hMI, rfl, Or.inl rfl, lD_no hnd (fun q => absurd ((wd_iff (by omega) hbe1).mp q.2.1).1 (by omega))⟩, by rw [ht]; exact hP, hD⟩, hS.F ht⟩) hS.2.2 xd_Mo_newDescriptor_56
    · refine lv_aload_n hx hb xd_Mo_newDescriptor_25 rfl (lv_at hl 0 rfl) ?_
      refine lv_iconst (v := 1) hx hb xd_Mo_newDescriptor_26 (by decide) ?_
      refine lv_iconst (v := 0) hx hb xd_Mo_newDescriptor_27 (by decide) ?_
      have hFc := va_free (wc := (moW h mm kA v g)) hD hS hA [0, 1, 2, 3, 4, 5, 6, 7, 8, 9, 10, 11, 12, 13, 14, 15, 16, 17, 18, 19, 20, 21, 22, 23, 24, 25] rfl
      refine va_calli (va_runV (As := [.int 1, .int 0]) (rest := []) ⟨hx, hb, hml, hown, hT⟩ (xc_Mo_letterX l D kA s.heap.size h mm v g 1 (wb wl 1) (we wl 1) 0 (by first | assumption | omega) (by first | assumption | omega) (by first | assumption | omega) (by first | assumption | omega) (by first | assumption | omega) (by first | assumption | omega) (by first | assumption | omega)) (cwV 2 hT (wT_V k4b_4 k4b_5 k4b_6 k4b_7 k4b_3) rfl rfl rfl (by decide +kernel) ⟨Nat.le_of_ble_eq_true rfl, Nat.le_of_ble_eq_true rfl⟩) (x_preV hK hP hD 0 rfl rfl) rfl rfl hl.1 rfl (lv_room (Nat.le_of_ble_eq_true rfl)) xd_Mo_newDescriptor_28 ⟨Nat.le_of_ble_eq_true rfl, Nat.le_of_ble_eq_true rfl⟩) hS (fun q _ h => hFc q h) hFc (fun r3 u4 t H1 locs ht hvm hp5 hB hz1 hk1 hS => ?_)
      obtain ⟨hP1, hD1⟩ := hB
      rw [ht] at hP1
      have hD1 := hD1.weaken (fun _ _ _ h => hFc _ h)
      generalize H1 = H at hP1 hS ⊢
      have hP := hP1
      have hD := hD1
      have hP : va_P D xcl (moW h mm kA v g) H := hP
      have hD : va_D A (moW h mm kA v g) := hD
      have hp5 : r3 = sL (g 0) (wb wl 1) (we wl 1) 0 := hp5
      subst hp5
      have hP : va_P D xcl (moW h mm kA v g) H := hP
      have hD : va_D A (moW h mm kA v g) := hD
      refine lv_bipush (v := 48) hx hb xd_Mo_newDescriptor_31 (by decide) ?_
      refine lv_icmp_lt (tgt := 55) hx hb xd_Mo_newDescriptor_33 (by decide) (fun hc6 => ?_) (fun hc6 => ?_)
      · refine lv_iconst (v := (-1)) hx hb xd_Mo_newDescriptor_55 (by decide) ?_
        exact W.iret (v := (-1)) hx hb hr (fun t ht hW => ⟨⟨(-1), (v, g), rfl, ⟨hMI, rfl, Or.inl rfl, lD_no hnd (fun q => ((wd_iff (by omega) hbe1).mp q.2.1).2.1 hc6)⟩, by rw [ht]; exact hP, hD⟩, hS.F ht⟩) hS.2.2 xd_Mo_newDescriptor_56
      · refine lv_aload_n hx hb xd_Mo_newDescriptor_36 rfl (lv_at hl 0 rfl) ?_
        refine lv_iconst (v := 1) hx hb xd_Mo_newDescriptor_37 (by decide) ?_
        refine lv_iconst (v := 0) hx hb xd_Mo_newDescriptor_38 (by decide) ?_
        have hFc := va_free (wc := (moW h mm kA v g)) hD hS hA [0, 1, 2, 3, 4, 5, 6, 7, 8, 9, 10, 11, 12, 13, 14, 15, 16, 17, 18, 19, 20, 21, 22, 23, 24, 25] rfl
        refine va_calli (va_runV (As := [.int 1, .int 0]) (rest := []) ⟨hx, hb, hml, hown, hT⟩ (xc_Mo_letterX l D kA H.size h mm v g 1 (wb wl 1) (we wl 1) 0 (by first | assumption | omega) (by first | assumption | omega) (by first | assumption | omega) (by first | assumption | omega) (by first | assumption | omega) (by first | assumption | omega) (by first | assumption | omega)) (cwV 2 hT (wT_V k4b_4 k4b_5 k4b_6 k4b_7 k4b_3) rfl rfl rfl (by decide +kernel) ⟨Nat.le_of_ble_eq_true rfl, Nat.le_of_ble_eq_true rfl⟩) (x_preV hK hP hD 0 rfl rfl) rfl rfl hl.1 rfl (lv_room (Nat.le_of_ble_eq_true rfl)) xd_Mo_newDescriptor_39 ⟨Nat.le_of_ble_eq_true rfl, Nat.le_of_ble_eq_true rfl⟩) hS (fun q _ h => hFc q h) hFc (fun r7 u8 t H1 locs ht hvm hp9 hB hz1 hk1 hS => ?_)
        obtain ⟨hP1, hD1⟩ := hB
        rw [ht] at hP1
        have hD1 := hD1.weaken (fun _ _ _ h => hFc _ h)
        generalize H1 = H at hP1 hS ⊢
        have hP := hP1
        have hD := hD1
        have hP : va_P D xcl (moW h mm kA v g) H := hP
        have hD : va_D A (moW h mm kA v g) := hD
        have hp9 : r7 = sL (g 0) (wb wl 1) (we wl 1) 0 := hp9
        subst hp9
        have hP : va_P D xcl (moW h mm kA v g) H := hP
        have hD : va_D A (moW h mm kA v g) := hD
        refine lv_bipush (v := 49) hx hb xd_Mo_newDescriptor_42 (by decide) ?_
        refine lv_icmp_gt (tgt := 55) hx hb xd_Mo_newDescriptor_44 (by decide) (fun hc10 => ?_) (fun hc10 => ?_)
        · refine lv_iconst (v := (-1)) hx hb xd_Mo_newDescriptor_55 (by decide) ?_
          exact W.iret (v := (-1)) hx hb hr (fun t ht hW => ⟨⟨(-1), (v, g), rfl, ⟨hMI, rfl, Or.inl rfl, lD_no hnd (fun q => ((wd_iff (by omega) hbe1).mp q.2.1).2.2 hc10)⟩, by rw [ht]; exact hP, hD⟩, hS.F ht⟩) hS.2.2 xd_Mo_newDescriptor_56
        · refine lv_aload_n hx hb xd_Mo_newDescriptor_47 rfl (lv_at hl 0 rfl) ?_
          refine lv_iconst (v := 2) hx hb xd_Mo_newDescriptor_48 (by decide) ?_
          have hFc := va_free (wc := (moW h mm kA v g)) hD hS hA [0, 1, 2, 3, 4, 5, 6, 7, 8, 9, 10, 11, 12, 13, 14, 15, 16, 17, 18, 19, 20, 21, 22, 23, 24, 25] rfl
          refine va_calli (va_runV (As := [.int 2]) (rest := []) ⟨hx, hb, hml, hown, hT⟩ (xc_Mo_nameOfX l D kA H.size h mm v g 2 (wb wl 2) (we wl 2) (by first | assumption | omega) (by first | assumption | omega) (by first | assumption | omega) (by first | assumption | omega) (by first | assumption | omega)) (cwV 1 hT (wT_V k4b_9 k4b_10 k4b_11 k4b_7 k4b_8) rfl rfl rfl (by decide +kernel) ⟨Nat.le_of_ble_eq_true rfl, Nat.le_of_ble_eq_true rfl⟩) (x_preV hK hP hD 0 rfl rfl) rfl rfl hl.1 rfl (lv_room (Nat.le_of_ble_eq_true rfl)) xd_Mo_newDescriptor_49 ⟨Nat.le_of_ble_eq_true rfl, Nat.le_of_ble_eq_true rfl⟩) hS (fun q _ h => hFc q h) hFc (fun r11 u12 t H1 locs ht hvm hp13 hB hz1 hk1 hS => ?_)
          obtain ⟨hP1, hD1⟩ := hB
          rw [ht] at hP1
          have hD1 := hD1.weaken (fun _ _ _ h => hFc _ h)
          generalize H1 = H at hP1 hS ⊢
          have hP := hP1
          have hD := hD1
          have hP : va_P D xcl (moW h mm kA v g) H := hP
          have hD : va_D A (moW h mm kA v g) := hD
          have hp13 : r11 = nV (g 0) (wb wl 2) (we wl 2) := hp13
          subst hp13
          have hP : va_P D xcl (moW h mm kA v g) H := hP
          have hD : va_D A (moW h mm kA v g) := hD
          refine lv_if_ne (tgt := 57) hx hb xd_Mo_newDescriptor_52 (by decide) (fun hc14 => ?_) (fun hc14 => ?_)
          · have hwd : wS (g 0) wl 1 [48] ∨ wS (g 0) wl 1 [49] := (wd_iff (by omega) hbe1).mpr ⟨by omega, hc6, hc10⟩
            have hfF : fF (g 0) wl = sL (g 0) (wb wl 1) (we wl 1) 0 - 48 := wd_f hbe1 hwd
            have hn2 : wN (g 0) wl 2 = nV (g 0) (wb wl 2) (we wl 2) := wN_in (by omega)
            refine lv_aload_n hx hb xd_Mo_newDescriptor_57 rfl (lv_at hl 0 rfl) ?_
            refine lv_iconst (v := 1) hx hb xd_Mo_newDescriptor_58 (by decide) ?_
            refine lv_iconst (v := 0) hx hb xd_Mo_newDescriptor_59 (by decide) ?_
            have hFc := va_free (wc := (moW h mm kA v g)) hD hS hA [0, 1, 2, 3, 4, 5, 6, 7, 8, 9, 10, 11, 12, 13, 14, 15, 16, 17, 18, 19, 20, 21, 22, 23, 24, 25] rfl
            refine va_calli (va_runV (As := [.int 1, .int 0]) (rest := []) ⟨hx, hb, hml, hown, hT⟩ (xc_Mo_letterX l D kA H.size h mm v g 1 (wb wl 1) (we wl 1) 0 (by first | assumption | omega) (by first | assumption | omega) (by first | assumption | omega) (by first | assumption | omega) (by first | assumption | omega) (by first | assumption | omega) (by first | assumption | omega)) (cwV 2 hT (wT_V k4b_4 k4b_5 k4b_6 k4b_7 k4b_3) rfl rfl rfl (by decide +kernel) ⟨Nat.le_of_ble_eq_true rfl, Nat.le_of_ble_eq_true rfl⟩) (x_preV hK hP hD 0 rfl rfl) rfl rfl hl.1 rfl (lv_room (Nat.le_of_ble_eq_true rfl)) xd_Mo_newDescriptor_60 ⟨Nat.le_of_ble_eq_true rfl, Nat.le_of_ble_eq_true rfl⟩) hS (fun q _ h => hFc q h) hFc (fun r15 u16 t H1 locs ht hvm hp17 hB hz1 hk1 hS => ?_)
            obtain ⟨hP1, hD1⟩ := hB
            rw [ht] at hP1
            have hD1 := hD1.weaken (fun _ _ _ h => hFc _ h)
            generalize H1 = H at hP1 hS ⊢
            have hP := hP1
            have hD := hD1
            have hP : va_P D xcl (moW h mm kA v g) H := hP
            have hD : va_D A (moW h mm kA v g) := hD
            have hp17 : r15 = sL (g 0) (wb wl 1) (we wl 1) 0 := hp17
            subst hp17
            have hP : va_P D xcl (moW h mm kA v g) H := hP
            have hD : va_D A (moW h mm kA v g) := hD
            refine lv_bipush (v := 48) hx hb xd_Mo_newDescriptor_63 (by decide) ?_
            refine lv_isub hx hb xd_Mo_newDescriptor_65 ?_
            refine lv_istore_n hx hb xd_Mo_newDescriptor_66 rfl hl (Nat.le_of_ble_eq_true rfl) rfl (fun ls hl => ?_)
            have hl : lv_has ls 3 [(1, .int ((sL (g 0) (wb wl 1) (we wl 1) 0) - 48)), (0, .ref h)] := hl
            refine lv_aload_n hx hb xd_Mo_newDescriptor_67 rfl (lv_at hl 1 rfl) ?_
            refine lv_iconst (v := 2) hx hb xd_Mo_newDescriptor_68 (by decide) ?_
            have hFc := va_free (wc := (moW h mm kA v g)) hD hS hA [0, 1, 2, 3, 4, 5, 6, 7, 8, 9, 10, 11, 12, 13, 14, 15, 16, 17, 18, 19, 20, 21, 22, 23, 24, 25] rfl
            refine va_calli (va_runV (As := [.int 2]) (rest := []) ⟨hx, hb, hml, hown, hT⟩ (xc_Mo_nameOfX l D kA H.size h mm v g 2 (wb wl 2) (we wl 2) (by first | assumption | omega) (by first | assumption | omega) (by first | assumption | omega) (by first | assumption | omega) (by first | assumption | omega)) (cwV 1 hT (wT_V k4b_9 k4b_10 k4b_11 k4b_7 k4b_8) rfl rfl rfl (by decide +kernel) ⟨Nat.le_of_ble_eq_true rfl, Nat.le_of_ble_eq_true rfl⟩) (x_preV hK hP hD 0 rfl rfl) rfl rfl hl.1 rfl (lv_room (Nat.le_of_ble_eq_true rfl)) xd_Mo_newDescriptor_69 ⟨Nat.le_of_ble_eq_true rfl, Nat.le_of_ble_eq_true rfl⟩) hS (fun q _ h => hFc q h) hFc (fun r18 u19 t H1 locs ht hvm hp20 hB hz1 hk1 hS => ?_)
            obtain ⟨hP1, hD1⟩ := hB
            rw [ht] at hP1
            have hD1 := hD1.weaken (fun _ _ _ h => hFc _ h)
            generalize H1 = H at hP1 hS ⊢
            have hP := hP1
            have hD := hD1
            have hP : va_P D xcl (moW h mm kA v g) H := hP
            have hD : va_D A (moW h mm kA v g) := hD
            have hp20 : r18 = nV (g 0) (wb wl 2) (we wl 2) := hp20
            subst hp20
            have hP : va_P D xcl (moW h mm kA v g) H := hP
            have hD : va_D A (moW h mm kA v g) := hD
            refine lv_istore_n hx hb xd_Mo_newDescriptor_72 rfl hl (Nat.le_of_ble_eq_true rfl) rfl (fun ls hl => ?_)
            have hl : lv_has ls 3 [(2, .int (nV (g 0) (wb wl 2) (we wl 2))), (1, .int ((sL (g 0) (wb wl 1) (we wl 1) 0) - 48)), (0, .ref h)] := hl
            refine lv_aload_n hx hb xd_Mo_newDescriptor_73 rfl (lv_at hl 2 rfl) ?_
            refine lv_iload_n hx hb xd_Mo_newDescriptor_74 rfl (lv_at hl 1 rfl) ?_
            refine lv_iload_n hx hb xd_Mo_newDescriptor_75 rfl (lv_at hl 0 rfl) ?_
            have hFc := va_free (wc := (moW h mm kA v g)) hD hS hA [0, 1, 2, 3, 4, 5, 6, 7, 8, 9, 10, 11, 12, 13, 14, 15, 16, 17, 18, 19, 20, 21, 22, 23, 24, 25] rfl
            refine va_calli (va_runV (As := [.int ((sL (g 0) (wb wl 1) (we wl 1) 0) - 48), .int (nV (g 0) (wb wl 2) (we wl 2))]) (rest := []) ⟨hx, hb, hml, hown, hT⟩ (xc_Mo_descriptorOf l D kA H.size h mm v g ((sL (g 0) (wb wl 1) (we wl 1) 0) - 48) (nV (g 0) (wb wl 2) (we wl 2)) nd (by first | assumption | omega) (by first | assumption | omega)) (cwV 2 hT (wT_V k4b_13 k4b_14 k4b_15 k4b_7 k4b_12) rfl rfl rfl (by decide +kernel) ⟨Nat.le_of_ble_eq_true rfl, Nat.le_of_ble_eq_true rfl⟩) (x_preV hK hP hD 0 rfl rfl) rfl rfl hl.1 rfl (lv_room (Nat.le_of_ble_eq_true rfl)) xd_Mo_newDescriptor_76 ⟨Nat.le_of_ble_eq_true rfl, Nat.le_of_ble_eq_true rfl⟩) hS (fun q _ h => hFc q h) hFc (fun r21 u22 t H1 locs ht hvm hp23 hB hz1 hk1 hS => ?_)
            obtain ⟨hP1, hD1⟩ := hB
            rw [ht] at hP1
            have hD1 := hD1.weaken (fun _ _ _ h => hFc _ h)
            generalize H1 = H at hP1 hS ⊢
            have hP := hP1
            have hD := hD1
            have hP : va_P D xcl (moW h mm kA v g) H := hP
            have hD : va_D A (moW h mm kA v g) := hD
            rcases hp23 with ⟨z24, z25, rfl, z26, z27, z28⟩ | ⟨rfl, z29⟩
            · refine xz_lt (a := z24) (tgt := 84) hx hb xd_Mo_newDescriptor_79 (by decide) (by omega) ?_
              refine lv_iconst (v := (-1)) hx hb xd_Mo_newDescriptor_82 (by decide) ?_
              exact W.iret (v := (-1)) hx hb hr (fun t ht hW => ⟨⟨(-1), (v, g), rfl, ⟨hMI, rfl, Or.inl rfl, lD_no hnd (fun q => q.2.2.2.1 z24 z25 ⟨z26.trans hfF.symm, z27.trans hn2.symm⟩)⟩, by rw [ht]; exact hP, hD⟩, hS.F ht⟩) hS.2.2 xd_Mo_newDescriptor_83
            · refine lv_if_lt (tgt := 84) hx hb xd_Mo_newDescriptor_79 (by decide) (fun _ => ?_) (fun hc31 => absurd hc31 (by decide))
              refine lv_aload_n hx hb xd_Mo_newDescriptor_84 rfl (lv_at hl 2 rfl) ?_
              refine va_get (D := D) (ci := 4) (v := .int (v 4)) (C := xR_Mo) (T := xT_Mo) (N := 31) hx hb hT xi_Mo hown hK.1 hP 0 rfl rfl 7 (by decide) (hT _ k4b_16) (fun _ h9 => h9) rfl xd_Mo_newDescriptor_85 ?_
              refine xn_top (x := (v 4)) (y := nI nd) hnd ?_
              refine lv_bipush (v := 12) hx hb xd_Mo_newDescriptor_88 (by decide) ?_
              refine xn_ne (a := nd) (b := 12) (tgt := 96) hx hb xd_Mo_newDescriptor_90 (by decide) (by omega) (by omega) (fun hc32 => ?_) (fun hc32 => ?_)
              · refine lv_aload_n hx hb xd_Mo_newDescriptor_96 rfl (lv_at hl 2 rfl) ?_
                refine va_get (D := D) (ci := 4) (v := .ref (mm 3)) (C := xR_Mo) (T := xT_Mo) (N := 31) hx hb hT xi_Mo hown hK.1 hP 0 rfl rfl 8 (by decide) (hT _ k4b_17) (fun _ h9 => h9) rfl xd_Mo_newDescriptor_97 ?_
                refine lv_aload_n hx hb xd_Mo_newDescriptor_100 rfl (lv_at hl 2 rfl) ?_
                refine va_get (D := D) (ci := 4) (v := .int (v 4)) (C := xR_Mo) (T := xT_Mo) (N := 31) hx hb hT xi_Mo hown hK.1 hP 0 rfl rfl 7 (by decide) (hT _ k4b_16) (fun _ h9 => h9) rfl xd_Mo_newDescriptor_101 ?_
                refine xn_top (x := (v 4)) (y := nI nd) hnd ?_
                refine lv_iload_n hx hb xd_Mo_newDescriptor_104 rfl (lv_at hl 1 rfl) ?_
                refine xn_iast (i := nd) hx hb hK.1 hP hD hS 4 0 rfl rfl (by omega) (by decide) xd_Mo_newDescriptor_105 (fun H locs hP hD hS => ?_)
                have hP : va_P D xcl (moW h mm kA v (va_up g 3 (upd (g 3) nd ((sL (g 0) (wb wl 1) (we wl 1) 0) - 48)))) H := hP
                have hD : va_D A (moW h mm kA v (va_up g 3 (upd (g 3) nd ((sL (g 0) (wb wl 1) (we wl 1) 0) - 48)))) := hD
                refine lv_aload_n hx hb xd_Mo_newDescriptor_106 rfl (lv_at hl 2 rfl) ?_
                refine va_get (D := D) (ci := 4) (v := .ref (mm 4)) (C := xR_Mo) (T := xT_Mo) (N := 31) hx hb hT xi_Mo hown hK.1 hP 0 rfl rfl 9 (by decide) (hT _ k4b_18) (fun _ h9 => h9) rfl xd_Mo_newDescriptor_107 ?_
                refine lv_aload_n hx hb xd_Mo_newDescriptor_110 rfl (lv_at hl 2 rfl) ?_
                refine va_get (D := D) (ci := 4) (v := .int (v 4)) (C := xR_Mo) (T := xT_Mo) (N := 31) hx hb hT xi_Mo hown hK.1 hP 0 rfl rfl 7 (by decide) (hT _ k4b_16) (fun _ h9 => h9) rfl xd_Mo_newDescriptor_111 ?_
                refine xn_top (x := (v 4)) (y := nI nd) hnd ?_
                refine lv_iload_n hx hb xd_Mo_newDescriptor_114 rfl (lv_at hl 0 rfl) ?_
                refine xn_iast (i := nd) hx hb hK.1 hP hD hS 5 0 rfl rfl (by omega) (by decide) xd_Mo_newDescriptor_115 (fun H locs hP hD hS => ?_)
                have hP : va_P D xcl (moW h mm kA v (va_up (va_up g 3 (upd (g 3) nd ((sL (g 0) (wb wl 1) (we wl 1) 0) - 48))) 4 (upd (g 4) nd (nV (g 0) (wb wl 2) (we wl 2))))) H := hP
                have hD : va_D A (moW h mm kA v (va_up (va_up g 3 (upd (g 3) nd ((sL (g 0) (wb wl 1) (we wl 1) 0) - 48))) 4 (upd (g 4) nd (nV (g 0) (wb wl 2) (we wl 2))))) := hD
                refine lv_aload_n hx hb xd_Mo_newDescriptor_116 rfl (lv_at hl 2 rfl) ?_
                refine lv_dup hx hb xd_Mo_newDescriptor_117 rfl ?_
                refine va_get (D := D) (ci := 4) (v := .int (v 4)) (C := xR_Mo) (T := xT_Mo) (N := 31) hx hb hT xi_Mo hown hK.1 hP 0 rfl rfl 7 (by decide) (hT _ k4b_16) (fun _ h9 => h9) rfl xd_Mo_newDescriptor_118 ?_
                refine xn_top (x := (v 4)) (y := nI nd) hnd ?_
                refine lv_iconst (v := 1) hx hb xd_Mo_newDescriptor_121 (by decide) ?_
                refine lv_iadd hx hb xd_Mo_newDescriptor_122 ?_
                refine xn_top (y := nI (nd + 1)) (nI_add nd 1) ?_
                refine va_put (D := D) (ci := 4) (v := .int (nI (nd + 1))) (ty := .int) (C := xR_Mo) (T := xT_Mo) (N := 31) hx hb hT xi_Mo xt_Mo xt_Mo_ok xn_Mo hown hK.1 hP hD hS 0 rfl rfl 7 (by decide) (hT _ k4b_16) (fun _ h9 => h9) rfl (by decide +kernel) rfl rfl (Nat.le_of_ble_eq_true rfl) xd_Mo_newDescriptor_123 (fun H locs hP hD hS => ?_)
                have hP : va_P D xcl (moW h mm kA (va_up v 4 (nI (nd + 1))) (va_up (va_up g 3 (upd (g 3) nd ((sL (g 0) (wb wl 1) (we wl 1) 0) - 48))) 4 (upd (g 4) nd (nV (g 0) (wb wl 2) (we wl 2))))) H := hP
                have hD : va_D A (moW h mm kA (va_up v 4 (nI (nd + 1))) (va_up (va_up g 3 (upd (g 3) nd ((sL (g 0) (wb wl 1) (we wl 1) 0) - 48))) 4 (upd (g 4) nd (nV (g 0) (wb wl 2) (we wl 2))))) := hD
                refine lv_iconst (v := 1) hx hb xd_Mo_newDescriptor_126 (by decide) ?_
                exact W.iret (v := 1) hx hb hr (fun t ht hW => ⟨⟨1, ((va_up v 4 (nI (nd + 1))), (va_up (va_up g 3 (upd (g 3) nd ((sL (g 0) (wb wl 1) (we wl 1) 0) - 48))) 4 (upd (g 4) nd (nV (g 0) (wb wl 2) (we wl 2))))), rfl, ⟨MI_new hnd (by omega) z29 hMI, rfl, Or.inr (Or.inr (Or.inl rfl)), lD_ok ⟨by omega, hwd, fun q => hc14 (hn2.symm.trans q), fun j hj q => z29 j hj ⟨q.1.trans hfF, q.2.trans hn2⟩, by omega⟩ hfF.symm hn2.symm⟩, by rw [ht]; exact hP, hD⟩, hS.F ht⟩) hS.2.2 xd_Mo_newDescriptor_127
              · refine lv_bipush (v := (-2)) hx hb xd_Mo_newDescriptor_93 (by decide) ?_
                exact W.iret (v := (-2)) hx hb hr (fun t ht hW => ⟨⟨(-2), (v, g), rfl, ⟨hMI, rfl, Or.inr (Or.inl rfl), lD_no hnd (fun q => absurd q.2.2.2.2 (by omega))⟩, by rw [ht]; exact hP, hD⟩, hS.F ht⟩) hS.2.2 xd_Mo_newDescriptor_95
          · refine lv_iconst (v := (-1)) hx hb xd_Mo_newDescriptor_55 (by decide) ?_
            exact W.iret (v := (-1)) hx hb hr (fun t ht hW => ⟨⟨(-1), (v, g), rfl, ⟨hMI, rfl, Or.inl rfl, lD_no hnd (fun q => q.2.2.1 ((wN_in (by omega)).trans hc14))⟩, by rw [ht]; exact hP, hD⟩, hS.F ht⟩) hS.2.2 xd_Mo_newDescriptor_56
