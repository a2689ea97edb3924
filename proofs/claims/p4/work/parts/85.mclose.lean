theorem k4p_0 : (Cond.fieldLink "LayerDeskModel" 150 "LayerDeskModel" "layers" "I") ∈ wT := wT_t (List.mem_append_right _ (List.mem_append_right _ (List.mem_append_right _ (List.mem_append_left _ (List.mem_of_getElem? (i := 107) rfl))))) rfl
theorem k4p_1 : (Cond.fieldLink "LayerDeskModel" 78 "LayerDeskModel" "open" "[Z") ∈ wT := wT_t (List.mem_append_right _ (List.mem_append_right _ (List.mem_append_right _ (List.mem_append_left _ (List.mem_of_getElem? (i := 112) rfl))))) rfl
theorem k4p_2 : (Cond.fieldLink "LayerDeskModel" 87 "LayerDeskModel" "fault" "I") ∈ wT := wT_t (List.mem_append_right _ (List.mem_append_right _ (List.mem_append_right _ (List.mem_append_left _ (List.mem_of_getElem? (i := 84) rfl))))) rfl
theorem k4p_3 : (Cond.code xy_Mo_isOpen xb_Mo_isOpen 2 (some .boolean)) ∈ wT := wT_t (List.mem_append_right _ (List.mem_append_right _ (List.mem_append_right _ (List.mem_append_right _ (List.mem_of_getElem? (i := 12) rfl))))) rfl
theorem k4p_4 : (Cond.methodLink "LayerDeskModel" 190 xy_Mo_isOpen) ∈ wT := wT_t (List.mem_append_right _ (List.mem_append_right _ (List.mem_append_right _ (List.mem_append_right _ (List.mem_of_getElem? (i := 9) rfl))))) rfl
theorem k4p_5 : (Cond.instanceMethod xy_Mo_isOpen) ∈ wT := wT_t (List.mem_append_right _ (List.mem_append_right _ (List.mem_append_right _ (List.mem_append_right _ (List.mem_of_getElem? (i := 11) rfl))))) rfl
theorem k4p_6 : (Cond.selects "LayerDeskModel" xy_Mo_isOpen xy_Mo_isOpen) ∈ wT := wT_s (q := (xy_Mo_isOpen, 31)) (by decide +kernel) rfl
theorem k4p_7 : (Cond.initialized "LayerDeskModel") ∈ wT := wT_t (List.mem_append_left _ (List.mem_of_getElem? (i := 5) rfl)) rfl
theorem k4p_8 : (Cond.fieldLink "LayerDeskModel" 69 "LayerDeskModel" "parent" "[I") ∈ wT := wT_t (List.mem_append_right _ (List.mem_append_right _ (List.mem_append_right _ (List.mem_append_left _ (List.mem_of_getElem? (i := 109) rfl))))) rfl
set_option maxHeartbeats 4000000 in
set_option maxRecDepth 100000 in
theorem xc_Mo_isOpenX (l : Launch) (D : va_G) (kA : Nat → ClassId) (sz h : Nat) (mm : Nat → Nat) (v : Nat → Int32) (g : Nat → Nat → Int32) (ly : Int32) (nl : Nat) (hnl : v 5 = nI nl) (hnl5 : nl ≤ 5) : Met l xy_Mo_isOpen (.code xy_Mo_isOpen xb_Mo_isOpen 2 (some .boolean) :: wT) { frames := 0, cells := 0, slots := 0, locals := 0 } (va_Pc [.ref h, .int ly] (xPre D kA sz (moW h mm kA v g))) (va_Qi (fun (r : Int32) (u : Unit) => (r = 0 ∧ ¬ opP g nl ly) ∨ (r = 1 ∧ opP g nl ly)) (fun (u : Unit) t => va_P D xcl (moW h mm kA v g) t.heap ∧ va_D (va_A (moW h mm kA v g) sz) (moW h mm kA v g)) (va_A (moW h mm kA v g) sz)) 0 0 (va_A (moW h mm kA v g) sz) := by
  refine Met.ofW (cc := xb_Mo_isOpen) (maxL := 2) (ret := (some .boolean)) (by decide) rfl ?_
  intro p e s m args below meth c s₁ B hml hv
  obtain ⟨rfl, hsz, hP, hK, hD0⟩ := hv
  have hx := B.exec
  have hb := B.bytes
  have hr := B.returns
  have hT := x_hT B.pre
  have hown : s.vm.findClass xR_Mo = some m.cls := findClass_of_methodNamed B.named
  have hlocks := B.notSynchronized
  subst hsz
  have hD := hD0.self (sz := s.heap.size)
  generalize hAe : va_A (moW h mm kA v g) s.heap.size = A at hD ⊢
  have hA : ∀ q : Nat, s.heap.size ≤ q → A q := fun q h => by rw [← hAe]; exact Or.inr h
  have hS : va_S A s.heap s.heap [] := va_S.rf
  have hl := lv_entry ([.ref h, .int ly]) (n := 2) (Nat.le_of_ble_eq_true rfl)
  rw [lg_entry_eq]
  generalize (lg_sl ([.ref h, .int ly]) ++ List.replicate (2 - (lg_sl ([.ref h, .int ly])).length) Slot.unset).toArray = ls at hl ⊢
  have hl : lv_has ls 2 [(0, .ref h), (1, .int ly)] := hl
  have hP : va_P D xcl (moW h mm kA v g) s.heap := hP
  refine lv_iload_n hx hb xd_Mo_isOpen_0 rfl (lv_at hl 1 rfl) ?_
  refine lv_if_lt (tgt := 25) hx hb xd_Mo_isOpen_1 (by decide) (fun hc1 => ?_) (fun hc1 => ?_)
  · refine lv_iconst (v := 0) hx hb xd_Mo_isOpen_25 (by decide) ?_
    exact W.zret (v := 0) hx hb hr rfl (fun t ht hW => ⟨⟨0, (), rfl, Or.inl ⟨rfl, fun ⟨la9, q1, q2, q3⟩ => absurd (show nI la9 < 0 by rw [← q2]; exact hc1) (nI_pos (by rw [xb_31]; omega))⟩, by rw [ht]; exact hP, hD⟩, hS.F ht⟩) hS.2.2 xd_Mo_isOpen_26
  · obtain ⟨la, hla31, hly⟩ := nI_of hc1
    rw [xb_31] at hla31
    rw [hly] at hl
    refine lv_iload_n hx hb xd_Mo_isOpen_4 rfl (lv_at hl 1 rfl) ?_
    refine lv_aload_n hx hb xd_Mo_isOpen_5 rfl (lv_at hl 0 rfl) ?_
    refine va_get (D := D) (ci := 4) (v := .int (v 5)) (C := xR_Mo) (T := xT_Mo) (N := 31) hx hb hT xi_Mo hown hK.1 hP 0 rfl rfl 23 (by decide) (hT _ k4p_0) (fun _ h9 => h9) rfl xd_Mo_isOpen_6 ?_
    refine xn_top (x := (v 5)) (y := nI nl) hnl ?_
    refine xn_ge (a := la) (b := nl) (tgt := 25) hx hb xd_Mo_isOpen_9 (by decide) (by omega) (by omega) (fun hc2 => ?_) (fun hc2 => ?_)
    · refine lv_iconst (v := 0) hx hb xd_Mo_isOpen_25 (by decide) ?_
      exact W.zret (v := 0) hx hb hr rfl (fun t ht hW => ⟨⟨0, (), rfl, Or.inl ⟨rfl, fun ⟨la9, q1, q2, q3⟩ => by rw [hly] at q2; have e9 := (nI_eq (by rw [xb_31]; omega) (by rw [xb_31]; omega)).mp q2; omega⟩, by rw [ht]; exact hP, hD⟩, hS.F ht⟩) hS.2.2 xd_Mo_isOpen_26
    · refine lv_aload_n hx hb xd_Mo_isOpen_12 rfl (lv_at hl 0 rfl) ?_
      refine va_get (D := D) (ci := 4) (v := .ref (mm 22)) (C := xR_Mo) (T := xT_Mo) (N := 31) hx hb hT xi_Mo hown hK.1 hP 0 rfl rfl 28 (by decide) (hT _ k4p_1) (fun _ h9 => h9) rfl xd_Mo_isOpen_13 ?_
      refine lv_iload_n hx hb xd_Mo_isOpen_16 rfl (lv_at hl 1 rfl) ?_
      refine xn_zald (i := la) hx hb hK.1 hP 23 2 rfl rfl (by omega) (by decide) xd_Mo_isOpen_17 ?_
      refine lv_if_eq (tgt := 25) hx hb xd_Mo_isOpen_18 (by decide) (fun hc3 => ?_) (fun hc3 => ?_)
      · refine lv_iconst (v := 0) hx hb xd_Mo_isOpen_25 (by decide) ?_
        exact W.zret (v := 0) hx hb hr rfl (fun t ht hW => ⟨⟨0, (), rfl, Or.inl ⟨rfl, fun ⟨la9, q1, q2, q3⟩ => by rw [hly] at q2; have e9 := (nI_eq (by rw [xb_31]; omega) (by rw [xb_31]; omega)).mp q2; rw [← e9] at q3; exact q3 hc3⟩, by rw [ht]; exact hP, hD⟩, hS.F ht⟩) hS.2.2 xd_Mo_isOpen_26
      · refine lv_iconst (v := 1) hx hb xd_Mo_isOpen_21 (by decide) ?_
        refine lv_goto (tgt := 26) hx hb xd_Mo_isOpen_22 (by decide) ?_
        exact W.zret (v := 1) hx hb hr rfl (fun t ht hW => ⟨⟨1, (), rfl, Or.inr ⟨rfl, la, by omega, hly, hc3⟩, by rw [ht]; exact hP, hD⟩, hS.F ht⟩) hS.2.2 xd_Mo_isOpen_26
set_option maxHeartbeats 4000000 in
set_option maxRecDepth 100000 in
theorem xc_Mo_closeX (l : Launch) (D : va_G) (kA : Nat → ClassId) (sz h : Nat) (mm : Nat → Nat) (v : Nat → Int32) (g : Nat → Nat → Int32) (ly : Int32) (nl : Nat) (hMI : MI v g) (hnl : v 5 = nI nl) (hnl5 : nl ≤ 5) : Met l xy_Mo_close (.code xy_Mo_close xb_Mo_close 3 (some .boolean) :: wT) { frames := 1, cells := 0, slots := 0, locals := 21 } (va_Pc [.ref h, .int ly] (xPre D kA sz (moW h mm kA v g))) (va_Qi (fun (r : Int32) (u : (Nat → Int32) × (Nat → Nat → Int32)) => MI u.1 u.2 ∧ u.1 1 = v 1 ∧ u.1 2 = v 2 ∧ u.1 4 = v 4 ∧ u.1 5 = v 5 ∧ u.2 = clF nl g ly) (fun (u : (Nat → Int32) × (Nat → Nat → Int32)) t => va_P D xcl (moW h mm kA u.1 u.2) t.heap ∧ va_D (va_A (moW h mm kA v g) sz) (moW h mm kA u.1 u.2)) (va_A (moW h mm kA v g) sz)) 0 0 (va_A (moW h mm kA v g) sz) := by
  refine Met.ofW (cc := xb_Mo_close) (maxL := 3) (ret := (some .boolean)) (by decide) rfl ?_
  intro p e s m args below meth c s₁ B hml hv
  obtain ⟨rfl, hsz, hP, hK, hD0⟩ := hv
  have hx := B.exec
  have hb := B.bytes
  have hr := B.returns
  have hT := x_hT B.pre
  have hown : s.vm.findClass xR_Mo = some m.cls := findClass_of_methodNamed B.named
  have hlocks := B.notSynchronized
  subst hsz
  have hD := hD0.self (sz := s.heap.size)
  generalize hAe : va_A (moW h mm kA v g) s.heap.size = A at hD ⊢
  have hA : ∀ q : Nat, s.heap.size ≤ q → A q := fun q h => by rw [← hAe]; exact Or.inr h
  have hS : va_S A s.heap s.heap [] := va_S.rf
  have hl := lv_entry ([.ref h, .int ly]) (n := 3) (Nat.le_of_ble_eq_true rfl)
  rw [lg_entry_eq]
  generalize (lg_sl ([.ref h, .int ly]) ++ List.replicate (3 - (lg_sl ([.ref h, .int ly])).length) Slot.unset).toArray = ls at hl ⊢
  have hl : lv_has ls 3 [(0, .ref h), (1, .int ly)] := hl
  have hP : va_P D xcl (moW h mm kA v g) s.heap := hP
  refine lv_aload_n hx hb xd_Mo_close_0 rfl (lv_at hl 0 rfl) ?_
  refine lv_iconst (v := 0) hx hb xd_Mo_close_1 (by decide) ?_
  refine va_put (D := D) (ci := 4) (v := .int 0) (ty := .int) (C := xR_Mo) (T := xT_Mo) (N := 31) hx hb hT xi_Mo xt_Mo xt_Mo_ok xn_Mo hown hK.1 hP hD hS 0 rfl rfl 0 (by decide) (hT _ k4p_2) (fun _ h9 => h9) rfl (by decide +kernel) rfl rfl (Nat.le_of_ble_eq_true rfl) xd_Mo_close_2 (fun H locs hP hD hS => ?_)
  have hP : va_P D xcl (moW h mm kA (va_up v 0 0) g) H := hP
  have hD : va_D A (moW h mm kA (va_up v 0 0) g) := hD
  refine lv_aload_n hx hb xd_Mo_close_5 rfl (lv_at hl 0 rfl) ?_
  refine lv_iload_n hx hb xd_Mo_close_6 rfl (lv_at hl 1 rfl) ?_
  have hFc := va_free (wc := (moW h mm kA (va_up v 0 0) g)) hD hS hA [0, 1, 2, 3, 4, 5, 6, 7, 8, 9, 10, 11, 12, 13, 14, 15, 16, 17, 18, 19, 20, 21, 22, 23, 24, 25] rfl
  refine va_calli (va_runV (As := [.int ly]) (rest := []) ⟨hx, hb, hml, hown, hT⟩ (xc_Mo_isOpenX l D kA H.size h mm (va_up v 0 0) g ly nl (by first | assumption | omega) (by first | assumption | omega)) (cwV 1 hT (wT_V k4p_4 k4p_5 k4p_6 k4p_7 k4p_3) rfl rfl rfl (by decide +kernel) ⟨Nat.le_of_ble_eq_true rfl, Nat.le_of_ble_eq_true rfl⟩) (x_preV hK hP hD 0 rfl rfl) rfl rfl hl.1 rfl (lv_room (Nat.le_of_ble_eq_true rfl)) xd_Mo_close_7 ⟨Nat.le_of_ble_eq_true rfl, Nat.le_of_ble_eq_true rfl⟩) hS (fun q _ h => hFc q h) hFc (fun r1 u2 t H1 locs ht hvm hp3 hB hz1 hk1 hS => ?_)
  obtain ⟨hP1, hD1⟩ := hB
  rw [ht] at hP1
  have hD1 := hD1.weaken (fun _ _ _ h => hFc _ h)
  generalize H1 = H at hP1 hS ⊢
  have hP := hP1
  have hD := hD1
  have hP : va_P D xcl (moW h mm kA (va_up v 0 0) g) H := hP
  have hD : va_D A (moW h mm kA (va_up v 0 0) g) := hD
  rcases hp3 with ⟨rfl, z4⟩ | ⟨rfl, z5, z6, z7, z8⟩
  · refine xz_ne (a := 0) (tgt := 15) hx hb xd_Mo_close_10 (by decide) (by omega) (fun hc9 => absurd hc9 (by omega)) (fun _ => ?_)
    refine lv_iconst (v := 0) hx hb xd_Mo_close_13 (by decide) ?_
    exact W.zret (v := 0) hx hb hr rfl (fun t ht hW => ⟨⟨0, ((va_up v 0 0), g), rfl, ⟨MI_v rfl rfl hMI, rfl, rfl, rfl, rfl, clF_no (fun q => z4 q.1)⟩, by rw [ht]; exact hP, hD⟩, hS.F ht⟩) hS.2.2 xd_Mo_close_14
  · have hop9 : opP g nl ly := ⟨z5, z6, z7, z8⟩
    rw [z7] at hl
    have hl : lv_has ls 3 [(0, .ref h), (1, .int (nI z5))] := hl
    refine xz_ne (a := 1) (tgt := 15) hx hb xd_Mo_close_10 (by decide) (by omega) (fun _ => ?_) (fun hc10 => absurd hc10 (by omega))
    refine lv_iconst (v := 0) hx hb xd_Mo_close_15 (by decide) ?_
    refine lv_istore_n hx hb xd_Mo_close_16 rfl hl (Nat.le_of_ble_eq_true rfl) rfl (fun ls hl => ?_)
    have hl : lv_has ls 3 [(2, .int 0), (0, .ref h), (1, .int (nI z5))] := hl
    refine xlab (σ := Nat) (ml := 3) 17 (fun (i2 : Nat) => [(2, .int (nI i2)), (0, .ref h), (1, .int (nI z5))]) (fun (i2 : Nat) => []) (fun (i2 : Nat) => moW h mm kA (va_up v 0 0) g) (fun (i2 : Nat) => (i2 ≤ nl) ∧ (∀ j, j < i2 → ¬ g 22 j = 0 → ¬ g 19 j = nI z5)) (fun (i2 : Nat) => nl - i2) ?_ 0 _ _ _ (lv_sub hl [0, 1, 2] rfl) hP hD hS ⟨(show 0 ≤ nl from by first | assumption | omega), (show ∀ j, j < 0 → ¬ g 22 j = 0 → ¬ g 19 j = nI z5 from fun j hj => absurd hj (by omega))⟩
    intro n9 ih11 a9 ls H locs hμ hl hP hD hS hI
    subst hμ
    obtain ⟨i2, rfl⟩ : ∃ z, z = a9 := ⟨_, rfl⟩
    obtain ⟨hi2, hno⟩ := hI
    have hi2 : i2 ≤ nl := hi2
    have hno : ∀ j, j < i2 → ¬ g 22 j = 0 → ¬ g 19 j = nI z5 := hno
    have hl : lv_has ls 3 [(2, .int (nI i2)), (0, .ref h), (1, .int (nI z5))] := hl
    have hP : va_P D xcl (moW h mm kA (va_up v 0 0) g) H := hP
    have hD : va_D A (moW h mm kA (va_up v 0 0) g) := hD
    refine lv_iload_n hx hb xd_Mo_close_17 rfl (lv_at hl 0 rfl) ?_
    refine lv_aload_n hx hb xd_Mo_close_18 rfl (lv_at hl 1 rfl) ?_
    refine va_get (D := D) (ci := 4) (v := .int (v 5)) (C := xR_Mo) (T := xT_Mo) (N := 31) hx hb hT xi_Mo hown hK.1 hP 0 rfl rfl 23 (by decide) (hT _ k4p_0) (fun _ h9 => h9) rfl xd_Mo_close_19 ?_
    refine xn_top (x := (v 5)) (y := nI nl) hnl ?_
    refine xn_ge (a := i2) (b := nl) (tgt := 52) hx hb xd_Mo_close_22 (by decide) (by omega) (by omega) (fun hc12 => ?_) (fun hc12 => ?_)
    · refine lv_aload_n hx hb xd_Mo_close_52 rfl (lv_at hl 1 rfl) ?_
      refine va_get (D := D) (ci := 4) (v := .ref (mm 22)) (C := xR_Mo) (T := xT_Mo) (N := 31) hx hb hT xi_Mo hown hK.1 hP 0 rfl rfl 28 (by decide) (hT _ k4p_1) (fun _ h9 => h9) rfl xd_Mo_close_53 ?_
      refine lv_iload_n hx hb xd_Mo_close_56 rfl (lv_at hl 2 rfl) ?_
      refine lv_iconst (v := 0) hx hb xd_Mo_close_57 (by decide) ?_
      refine xn_zast (i := z5) hx hb hK.1 hP hD hS 23 2 rfl rfl (by omega) (by decide) xd_Mo_close_58 (fun H locs hP hD hS => ?_)
      have hP : va_P D xcl (moW h mm kA (va_up v 0 0) (va_up g 22 (upd (g 22) z5 (vp_nar .boolean 0)))) H := hP
      have hD : va_D A (moW h mm kA (va_up v 0 0) (va_up g 22 (upd (g 22) z5 (vp_nar .boolean 0)))) := hD
      refine lv_iconst (v := 1) hx hb xd_Mo_close_59 (by decide) ?_
      exact W.zret (v := 1) hx hb hr rfl (fun t ht hW => ⟨⟨1, ((va_up v 0 0), (va_up g 22 (upd (g 22) z5 (vp_nar .boolean 0)))), rfl, ⟨MI_g rfl rfl rfl rfl rfl rfl rfl rfl (MI_v rfl rfl hMI), rfl, rfl, rfl, rfl, by rw [z7]; exact clF_ok (by omega) ⟨z5, z6, rfl, z8⟩ (fun j hj q => hno j (by omega) q) rfl⟩, by rw [ht]; exact hP, hD⟩, hS.F ht⟩) hS.2.2 xd_Mo_close_60
    · refine lv_aload_n hx hb xd_Mo_close_25 rfl (lv_at hl 1 rfl) ?_
      refine va_get (D := D) (ci := 4) (v := .ref (mm 22)) (C := xR_Mo) (T := xT_Mo) (N := 31) hx hb hT xi_Mo hown hK.1 hP 0 rfl rfl 28 (by decide) (hT _ k4p_1) (fun _ h9 => h9) rfl xd_Mo_close_26 ?_
      refine lv_iload_n hx hb xd_Mo_close_29 rfl (lv_at hl 0 rfl) ?_
      refine xn_zald (i := i2) hx hb hK.1 hP 23 2 rfl rfl (by omega) (by decide) xd_Mo_close_30 ?_
      refine lv_if_eq (tgt := 46) hx hb xd_Mo_close_31 (by decide) (fun hc13 => ?_) (fun hc13 => ?_)
      · refine lv_iinc (k := 0) (x := (nI i2)) (v := (nI (i2 + 1))) hx hb xd_Mo_close_46 hl rfl (xb_inc i2 1) (Nat.le_of_ble_eq_true rfl) rfl (fun ls hl => ?_)
        have hl : lv_has ls 3 [(2, .int (nI (i2 + 1))), (0, .ref h), (1, .int (nI z5))] := hl
        refine lv_goto (tgt := 17) hx hb xd_Mo_close_49 (by decide) ?_
        exact ih11 (i2 + 1) _ _ _ (show nl - (i2 + 1) < nl - i2 by omega) (lv_sub hl [0, 1, 2] rfl) hP hD hS ⟨(show (i2 + 1) ≤ nl from by first | assumption | omega), (show ∀ j, j < (i2 + 1) → ¬ g 22 j = 0 → ¬ g 19 j = nI z5 from fun j hj q => by
        rcases Nat.lt_or_ge j i2 with z | z
        · exact hno j z q
        · rw [show j = i2 by omega] at q ⊢
          exact absurd hc13 q)⟩
      · refine lv_aload_n hx hb xd_Mo_close_34 rfl (lv_at hl 1 rfl) ?_
        refine va_get (D := D) (ci := 4) (v := .ref (mm 19)) (C := xR_Mo) (T := xT_Mo) (N := 31) hx hb hT xi_Mo hown hK.1 hP 0 rfl rfl 25 (by decide) (hT _ k4p_8) (fun _ h9 => h9) rfl xd_Mo_close_35 ?_
        refine lv_iload_n hx hb xd_Mo_close_38 rfl (lv_at hl 0 rfl) ?_
        refine xn_iald (i := i2) hx hb hK.1 hP 20 0 rfl rfl (by omega) (by decide) xd_Mo_close_39 ?_
        refine lv_iload_n hx hb xd_Mo_close_40 rfl (lv_at hl 2 rfl) ?_
        refine lv_icmp_ne (tgt := 46) hx hb xd_Mo_close_41 (by decide) (fun hc14 => ?_) (fun hc14 => ?_)
        · refine lv_iinc (k := 0) (x := (nI i2)) (v := (nI (i2 + 1))) hx hb xd_Mo_close_46 hl rfl (xb_inc i2 1) (Nat.le_of_ble_eq_true rfl) rfl (fun ls hl => ?_)
          have hl : lv_has ls 3 [(2, .int (nI (i2 + 1))), (0, .ref h), (1, .int (nI z5))] := hl
          refine lv_goto (tgt := 17) hx hb xd_Mo_close_49 (by decide) ?_
          exact ih11 (i2 + 1) _ _ _ (show nl - (i2 + 1) < nl - i2 by omega) (lv_sub hl [0, 1, 2] rfl) hP hD hS ⟨(show (i2 + 1) ≤ nl from by first | assumption | omega), (show ∀ j, j < (i2 + 1) → ¬ g 22 j = 0 → ¬ g 19 j = nI z5 from fun j hj q => by
        rcases Nat.lt_or_ge j i2 with z | z
        · exact hno j z q
        · rw [show j = i2 by omega] at q ⊢
          exact hc14)⟩
        · refine lv_iconst (v := 0) hx hb xd_Mo_close_44 (by decide) ?_
          exact W.zret (v := 0) hx hb hr rfl (fun t ht hW => ⟨⟨0, ((va_up v 0 0), g), rfl, ⟨MI_v rfl rfl hMI, rfl, rfl, rfl, rfl, clF_no (fun q => q.2 i2 (by omega) hc13 (by rw [z7]; exact hc14))⟩, by rw [ht]; exact hP, hD⟩, hS.F ht⟩) hS.2.2 xd_Mo_close_45
