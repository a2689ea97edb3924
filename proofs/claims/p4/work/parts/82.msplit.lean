theorem k4n_0 : (Cond.fieldLink "LayerDeskModel" 38 "LayerDeskModel" "exportAll" "[Z") ∈ wT := wT_t (List.mem_append_right _ (List.mem_append_right _ (List.mem_append_right _ (List.mem_append_left _ (List.mem_of_getElem? (i := 98) rfl))))) rfl
theorem k4n_1 : (Cond.fieldLink "LayerDeskModel" 32 "LayerDeskModel" "exportTo" "[I") ∈ wT := wT_t (List.mem_append_right _ (List.mem_append_right _ (List.mem_append_right _ (List.mem_append_left _ (List.mem_of_getElem? (i := 96) rfl))))) rfl
theorem k4n_2 : (Cond.code xy_Mo_isTo xb_Mo_isTo 6 (some .boolean)) ∈ wT := wT_t (List.mem_append_right _ (List.mem_append_right _ (List.mem_append_right _ (List.mem_append_right _ (List.mem_of_getElem? (i := 56) rfl))))) rfl
theorem k4n_3 : (Cond.methodLink "LayerDeskModel" 167 xy_Mo_isTo) ∈ wT := wT_t (List.mem_append_right _ (List.mem_append_right _ (List.mem_append_right _ (List.mem_append_right _ (List.mem_of_getElem? (i := 53) rfl))))) rfl
theorem k4n_4 : (Cond.instanceMethod xy_Mo_isTo) ∈ wT := wT_t (List.mem_append_right _ (List.mem_append_right _ (List.mem_append_right _ (List.mem_append_right _ (List.mem_of_getElem? (i := 55) rfl))))) rfl
theorem k4n_5 : (Cond.selects "LayerDeskModel" xy_Mo_isTo xy_Mo_isTo) ∈ wT := wT_s (q := (xy_Mo_isTo, 31)) (by decide +kernel) rfl
theorem k4n_6 : (Cond.initialized "LayerDeskModel") ∈ wT := wT_t (List.mem_append_left _ (List.mem_of_getElem? (i := 5) rfl)) rfl
theorem k4n_7 : (Cond.fieldLink "LayerDeskModel" 84 "LayerDeskModel" "seen" "[Z") ∈ wT := wT_t (List.mem_append_right _ (List.mem_append_right _ (List.mem_append_right _ (List.mem_append_left _ (List.mem_of_getElem? (i := 114) rfl))))) rfl
theorem k4n_8 : (Cond.code xy_Mo_packageOf xb_Mo_packageOf 4 (some .int)) ∈ wT := wT_t (List.mem_append_right _ (List.mem_append_right _ (List.mem_append_right _ (List.mem_append_left _ (List.mem_of_getElem? (i := 224) rfl))))) rfl
theorem k4n_9 : (Cond.methodLink "LayerDeskModel" 143 xy_Mo_packageOf) ∈ wT := wT_t (List.mem_append_right _ (List.mem_append_right _ (List.mem_append_right _ (List.mem_append_left _ (List.mem_of_getElem? (i := 221) rfl))))) rfl
theorem k4n_10 : (Cond.instanceMethod xy_Mo_packageOf) ∈ wT := wT_t (List.mem_append_right _ (List.mem_append_right _ (List.mem_append_right _ (List.mem_append_left _ (List.mem_of_getElem? (i := 223) rfl))))) rfl
theorem k4n_11 : (Cond.selects "LayerDeskModel" xy_Mo_packageOf xy_Mo_packageOf) ∈ wT := wT_s (q := (xy_Mo_packageOf, 31)) (by decide +kernel) rfl
theorem k4n_12 : (Cond.code xy_Mo_exports xb_Mo_exports 3 (some .boolean)) ∈ wT := wT_t (List.mem_append_right _ (List.mem_append_right _ (List.mem_append_right _ (List.mem_append_right _ (List.mem_of_getElem? (i := 52) rfl))))) rfl
theorem k4n_13 : (Cond.methodLink "LayerDeskModel" 175 xy_Mo_exports) ∈ wT := wT_t (List.mem_append_right _ (List.mem_append_right _ (List.mem_append_right _ (List.mem_append_right _ (List.mem_of_getElem? (i := 49) rfl))))) rfl
theorem k4n_14 : (Cond.instanceMethod xy_Mo_exports) ∈ wT := wT_t (List.mem_append_right _ (List.mem_append_right _ (List.mem_append_right _ (List.mem_append_right _ (List.mem_of_getElem? (i := 51) rfl))))) rfl
theorem k4n_15 : (Cond.selects "LayerDeskModel" xy_Mo_exports xy_Mo_exports) ∈ wT := wT_s (q := (xy_Mo_exports, 31)) (by decide +kernel) rfl
theorem k4n_16 : (Cond.code xy_Mo_reading xb_Mo_reading 7 none) ∈ wT := wT_t (List.mem_append_right _ (List.mem_append_right _ (List.mem_append_right _ (List.mem_append_right _ (List.mem_of_getElem? (i := 48) rfl))))) rfl
theorem k4n_17 : (Cond.methodLink "LayerDeskModel" 171 xy_Mo_reading) ∈ wT := wT_t (List.mem_append_right _ (List.mem_append_right _ (List.mem_append_right _ (List.mem_append_right _ (List.mem_of_getElem? (i := 45) rfl))))) rfl
theorem k4n_18 : (Cond.instanceMethod xy_Mo_reading) ∈ wT := wT_t (List.mem_append_right _ (List.mem_append_right _ (List.mem_append_right _ (List.mem_append_right _ (List.mem_of_getElem? (i := 47) rfl))))) rfl
theorem k4n_19 : (Cond.selects "LayerDeskModel" xy_Mo_reading xy_Mo_reading) ∈ wT := wT_s (q := (xy_Mo_reading, 31)) (by decide +kernel) rfl
theorem k4n_20 : (Cond.fieldLink "LayerDeskModel" 26 "LayerDeskModel" "packages" "[I") ∈ wT := wT_t (List.mem_append_right _ (List.mem_append_right _ (List.mem_append_right _ (List.mem_append_left _ (List.mem_of_getElem? (i := 94) rfl))))) rfl
theorem k4n_21 : (Cond.fieldLink "LayerDeskModel" 23 "LayerDeskModel" "name" "[I") ∈ wT := wT_t (List.mem_append_right _ (List.mem_append_right _ (List.mem_append_right _ (List.mem_append_left _ (List.mem_of_getElem? (i := 93) rfl))))) rfl
theorem k4n_22 : (Cond.fieldLink "LayerDeskModel" 29 "LayerDeskModel" "pack" "[I") ∈ wT := wT_t (List.mem_append_right _ (List.mem_append_right _ (List.mem_append_right _ (List.mem_append_left _ (List.mem_of_getElem? (i := 95) rfl))))) rfl
theorem k4n_23 : (Cond.code xy_Mo_isElsewhere xb_Mo_isElsewhere 7 (some .boolean)) ∈ wT := wT_t (List.mem_append_right _ (List.mem_append_right _ (List.mem_append_right _ (List.mem_append_right _ (List.mem_of_getElem? (i := 60) rfl))))) rfl
theorem k4n_24 : (Cond.methodLink "LayerDeskModel" 178 xy_Mo_isElsewhere) ∈ wT := wT_t (List.mem_append_right _ (List.mem_append_right _ (List.mem_append_right _ (List.mem_append_right _ (List.mem_of_getElem? (i := 57) rfl))))) rfl
theorem k4n_25 : (Cond.instanceMethod xy_Mo_isElsewhere) ∈ wT := wT_t (List.mem_append_right _ (List.mem_append_right _ (List.mem_append_right _ (List.mem_append_right _ (List.mem_of_getElem? (i := 59) rfl))))) rfl
theorem k4n_26 : (Cond.selects "LayerDeskModel" xy_Mo_isElsewhere xy_Mo_isElsewhere) ∈ wT := wT_s (q := (xy_Mo_isElsewhere, 31)) (by decide +kernel) rfl
set_option maxHeartbeats 4000000 in
set_option maxRecDepth 100000 in
theorem xc_Mo_isToX (l : Launch) (D : va_G) (kA : Nat → ClassId) (sz h : Nat) (mm : Nat → Nat) (v : Nat → Int32) (g : Nat → Nat → Int32) (t0 : Int32) (t1 : Int32) (t2 : Int32) (t3 : Int32) (t4 : Int32) : Met l xy_Mo_isTo (.code xy_Mo_isTo xb_Mo_isTo 6 (some .boolean) :: wT) { frames := 0, cells := 0, slots := 0, locals := 0 } (va_Pc [.ref h, .int t0, .int t1, .int t2, .int t3, .int t4] (xPre D kA sz (moW h mm kA v g))) (va_Qi (fun (r : Int32) (u : Unit) => (r = 1 ∧ (¬ t0 = 0 ∨ t1 = t4 ∨ t2 = t4 ∨ t3 = t4)) ∨ (r = 0 ∧ ¬ (¬ t0 = 0 ∨ t1 = t4 ∨ t2 = t4 ∨ t3 = t4))) (fun (u : Unit) t => va_P D xcl (moW h mm kA v g) t.heap ∧ va_D (va_A (moW h mm kA v g) sz) (moW h mm kA v g)) (va_A (moW h mm kA v g) sz)) 0 0 (va_A (moW h mm kA v g) sz) := by
  refine Met.ofW (cc := xb_Mo_isTo) (maxL := 6) (ret := (some .boolean)) (by decide) rfl ?_
  intro p e s m args below meth c s₁ B hml hv
  obtain ⟨rfl, hsz, hP, hK, hD0⟩ := hv
  have hx := B.exec
  have hb := B.bytes
  have hr := B.returns
  have hT := x_hT B.pre
  have hown : s.vm.findClass xR_Mo = some m.cls := findClass_of_methodNamed B.named
  have hlocks := B.notSynchronized
  subst hsz
  have hD := hD0.self (sz := s.heap.size)
  generalize hAe : va_A (moW h mm kA v g) s.heap.size = A at hD ⊢
  have hA : ∀ q : Nat, s.heap.size ≤ q → A q := fun q h => by rw [← hAe]; exact Or.inr h
  have hS : va_S A s.heap s.heap [] := va_S.rf
  have hl := lv_entry ([.ref h, .int t0, .int t1, .int t2, .int t3, .int t4]) (n := 6) (Nat.le_of_ble_eq_true rfl)
  rw [lg_entry_eq]
  generalize (lg_sl ([.ref h, .int t0, .int t1, .int t2, .int t3, .int t4]) ++ List.replicate (6 - (lg_sl ([.ref h, .int t0, .int t1, .int t2, .int t3, .int t4])).length) Slot.unset).toArray = ls at hl ⊢
  have hl : lv_has ls 6 [(0, .ref h), (1, .int t0), (2, .int t1), (3, .int t2), (4, .int t3), (5, .int t4)] := hl
  have hP : va_P D xcl (moW h mm kA v g) s.heap := hP
  refine lv_iload_n hx hb xd_Mo_isTo_0 rfl (lv_at hl 1 rfl) ?_
  refine lv_if_ne (tgt := 23) hx hb xd_Mo_isTo_1 (by decide) (fun hc1 => ?_) (fun hc1 => ?_)
  · refine lv_iconst (v := 1) hx hb xd_Mo_isTo_23 (by decide) ?_
    refine lv_goto (tgt := 28) hx hb xd_Mo_isTo_24 (by decide) ?_
    exact W.zret (v := 1) hx hb hr rfl (fun t ht hW => ⟨⟨1, (), rfl, Or.inl ⟨rfl, Or.inl hc1⟩, by rw [ht]; exact hP, hD⟩, hS.F ht⟩) hS.2.2 xd_Mo_isTo_28
  · refine lv_iload_n hx hb xd_Mo_isTo_4 rfl (lv_at hl 2 rfl) ?_
    refine lv_iload hx hb xd_Mo_isTo_5 (lv_at hl 5 rfl) ?_
    refine lv_icmp_eq (tgt := 23) hx hb xd_Mo_isTo_7 (by decide) (fun hc2 => ?_) (fun hc2 => ?_)
    · refine lv_iconst (v := 1) hx hb xd_Mo_isTo_23 (by decide) ?_
      refine lv_goto (tgt := 28) hx hb xd_Mo_isTo_24 (by decide) ?_
      exact W.zret (v := 1) hx hb hr rfl (fun t ht hW => ⟨⟨1, (), rfl, Or.inl ⟨rfl, Or.inr (Or.inl hc2)⟩, by rw [ht]; exact hP, hD⟩, hS.F ht⟩) hS.2.2 xd_Mo_isTo_28
    · refine lv_iload_n hx hb xd_Mo_isTo_10 rfl (lv_at hl 3 rfl) ?_
      refine lv_iload hx hb xd_Mo_isTo_11 (lv_at hl 5 rfl) ?_
      refine lv_icmp_eq (tgt := 23) hx hb xd_Mo_isTo_13 (by decide) (fun hc3 => ?_) (fun hc3 => ?_)
      · refine lv_iconst (v := 1) hx hb xd_Mo_isTo_23 (by decide) ?_
        refine lv_goto (tgt := 28) hx hb xd_Mo_isTo_24 (by decide) ?_
        exact W.zret (v := 1) hx hb hr rfl (fun t ht hW => ⟨⟨1, (), rfl, Or.inl ⟨rfl, Or.inr (Or.inr (Or.inl hc3))⟩, by rw [ht]; exact hP, hD⟩, hS.F ht⟩) hS.2.2 xd_Mo_isTo_28
      · refine lv_iload hx hb xd_Mo_isTo_16 (lv_at hl 4 rfl) ?_
        refine lv_iload hx hb xd_Mo_isTo_18 (lv_at hl 5 rfl) ?_
        refine lv_icmp_ne (tgt := 27) hx hb xd_Mo_isTo_20 (by decide) (fun hc4 => ?_) (fun hc4 => ?_)
        · refine lv_iconst (v := 0) hx hb xd_Mo_isTo_27 (by decide) ?_
          exact W.zret (v := 0) hx hb hr rfl (fun t ht hW => ⟨⟨0, (), rfl, Or.inr ⟨rfl, fun q => q.elim (fun z => z hc1) (fun q => q.elim hc2 (fun q => q.elim hc3 hc4))⟩, by rw [ht]; exact hP, hD⟩, hS.F ht⟩) hS.2.2 xd_Mo_isTo_28
        · refine lv_iconst (v := 1) hx hb xd_Mo_isTo_23 (by decide) ?_
          refine lv_goto (tgt := 28) hx hb xd_Mo_isTo_24 (by decide) ?_
          exact W.zret (v := 1) hx hb hr rfl (fun t ht hW => ⟨⟨1, (), rfl, Or.inl ⟨rfl, Or.inr (Or.inr (Or.inr hc4))⟩, by rw [ht]; exact hP, hD⟩, hS.F ht⟩) hS.2.2 xd_Mo_isTo_28
set_option maxHeartbeats 4000000 in
set_option maxRecDepth 100000 in
theorem xc_Mo_exportsX (l : Launch) (D : va_G) (kA : Nat → ClassId) (sz h : Nat) (mm : Nat → Nat) (v : Nat → Int32) (g : Nat → Nat → Int32) (p9 : Nat) (tn : Int32) (hp72 : p9 < 72) : Met l xy_Mo_exports (.code xy_Mo_exports xb_Mo_exports 3 (some .boolean) :: wT) { frames := 1, cells := 0, slots := 0, locals := 25 } (va_Pc [.ref h, .int (nI p9), .int tn] (xPre D kA sz (moW h mm kA v g))) (va_Qi (fun (r : Int32) (u : Unit) => (r = 1 ∧ exP g p9 tn) ∨ (r = 0 ∧ ¬ exP g p9 tn)) (fun (u : Unit) t => va_P D xcl (moW h mm kA v g) t.heap ∧ va_D (va_A (moW h mm kA v g) sz) (moW h mm kA v g)) (va_A (moW h mm kA v g) sz)) 0 0 (va_A (moW h mm kA v g) sz) := by
  refine Met.ofW (cc := xb_Mo_exports) (maxL := 3) (ret := (some .boolean)) (by decide) rfl ?_
  intro p e s m args below meth c s₁ B hml hv
  obtain ⟨rfl, hsz, hP, hK, hD0⟩ := hv
  have hx := B.exec
  have hb := B.bytes
  have hr := B.returns
  have hT := x_hT B.pre
  have hown : s.vm.findClass xR_Mo = some m.cls := findClass_of_methodNamed B.named
  have hlocks := B.notSynchronized
  subst hsz
  have hD := hD0.self (sz := s.heap.size)
  generalize hAe : va_A (moW h mm kA v g) s.heap.size = A at hD ⊢
  have hA : ∀ q : Nat, s.heap.size ≤ q → A q := fun q h => by rw [← hAe]; exact Or.inr h
  have hS : va_S A s.heap s.heap [] := va_S.rf
  have hl := lv_entry ([.ref h, .int (nI p9), .int tn]) (n := 3) (Nat.le_of_ble_eq_true rfl)
  rw [lg_entry_eq]
  generalize (lg_sl ([.ref h, .int (nI p9), .int tn]) ++ List.replicate (3 - (lg_sl ([.ref h, .int (nI p9), .int tn])).length) Slot.unset).toArray = ls at hl ⊢
  have hl : lv_has ls 3 [(0, .ref h), (1, .int (nI p9)), (2, .int tn)] := hl
  have hP : va_P D xcl (moW h mm kA v g) s.heap := hP
  refine lv_aload_n hx hb xd_Mo_exports_0 rfl (lv_at hl 0 rfl) ?_
  refine lv_aload_n hx hb xd_Mo_exports_1 rfl (lv_at hl 0 rfl) ?_
  refine va_get (D := D) (ci := 4) (v := .ref (mm 9)) (C := xR_Mo) (T := xT_Mo) (N := 31) hx hb hT xi_Mo hown hK.1 hP 0 rfl rfl 14 (by decide) (hT _ k4n_0) (fun _ h9 => h9) rfl xd_Mo_exports_2 ?_
  refine lv_iload_n hx hb xd_Mo_exports_5 rfl (lv_at hl 1 rfl) ?_
  refine xn_zald (i := p9) hx hb hK.1 hP 10 2 rfl rfl (by omega) (by decide) xd_Mo_exports_6 ?_
  refine lv_aload_n hx hb xd_Mo_exports_7 rfl (lv_at hl 0 rfl) ?_
  refine va_get (D := D) (ci := 4) (v := .ref (mm 7)) (C := xR_Mo) (T := xT_Mo) (N := 31) hx hb hT xi_Mo hown hK.1 hP 0 rfl rfl 12 (by decide) (hT _ k4n_1) (fun _ h9 => h9) rfl xd_Mo_exports_8 ?_
  refine lv_iconst (v := 3) hx hb xd_Mo_exports_11 (by decide) ?_
  refine lv_iload_n hx hb xd_Mo_exports_12 rfl (lv_at hl 1 rfl) ?_
  refine lv_imul hx hb xd_Mo_exports_13 ?_
  refine xn_top (y := nI (3 * p9)) (pk_mul 3 p9) ?_
  refine xn_iald (i := 3 * p9) hx hb hK.1 hP 8 0 rfl rfl (by omega) (by decide) xd_Mo_exports_14 ?_
  refine lv_aload_n hx hb xd_Mo_exports_15 rfl (lv_at hl 0 rfl) ?_
  refine va_get (D := D) (ci := 4) (v := .ref (mm 7)) (C := xR_Mo) (T := xT_Mo) (N := 31) hx hb hT xi_Mo hown hK.1 hP 0 rfl rfl 12 (by decide) (hT _ k4n_1) (fun _ h9 => h9) rfl xd_Mo_exports_16 ?_
  refine lv_iconst (v := 3) hx hb xd_Mo_exports_19 (by decide) ?_
  refine lv_iload_n hx hb xd_Mo_exports_20 rfl (lv_at hl 1 rfl) ?_
  refine lv_imul hx hb xd_Mo_exports_21 ?_
  refine xn_top (y := nI (3 * p9)) (pk_mul 3 p9) ?_
  refine lv_iconst (v := 1) hx hb xd_Mo_exports_22 (by decide) ?_
  refine lv_iadd hx hb xd_Mo_exports_23 ?_
  refine xn_top (y := nI ((3 * p9) + 1)) (nI_add (3 * p9) 1) ?_
  refine xn_iald (i := (3 * p9) + 1) hx hb hK.1 hP 8 0 rfl rfl (by omega) (by decide) xd_Mo_exports_24 ?_
  refine lv_aload_n hx hb xd_Mo_exports_25 rfl (lv_at hl 0 rfl) ?_
  refine va_get (D := D) (ci := 4) (v := .ref (mm 7)) (C := xR_Mo) (T := xT_Mo) (N := 31) hx hb hT xi_Mo hown hK.1 hP 0 rfl rfl 12 (by decide) (hT _ k4n_1) (fun _ h9 => h9) rfl xd_Mo_exports_26 ?_
  refine lv_iconst (v := 3) hx hb xd_Mo_exports_29 (by decide) ?_
  refine lv_iload_n hx hb xd_Mo_exports_30 rfl (lv_at hl 1 rfl) ?_
  refine lv_imul hx hb xd_Mo_exports_31 ?_
  refine xn_top (y := nI (3 * p9)) (pk_mul 3 p9) ?_
  refine lv_iconst (v := 2) hx hb xd_Mo_exports_32 (by decide) ?_
  refine lv_iadd hx hb xd_Mo_exports_33 ?_
  refine xn_top (y := nI ((3 * p9) + 2)) (nI_add (3 * p9) 2) ?_
  refine xn_iald (i := (3 * p9) + 2) hx hb hK.1 hP 8 0 rfl rfl (by omega) (by decide) xd_Mo_exports_34 ?_
  refine lv_iload_n hx hb xd_Mo_exports_35 rfl (lv_at hl 2 rfl) ?_
  have hFc := va_free (wc := (moW h mm kA v g)) hD hS hA [0, 1, 2, 3, 4, 5, 6, 7, 8, 9, 10, 11, 12, 13, 14, 15, 16, 17, 18, 19, 20, 21, 22, 23, 24, 25] rfl
  refine va_calli (va_runV (As := [.int (g 9 p9), .int (g 7 (3 * p9)), .int (g 7 ((3 * p9) + 1)), .int (g 7 ((3 * p9) + 2)), .int tn]) (rest := []) ⟨hx, hb, hml, hown, hT⟩ (xc_Mo_isToX l D kA s.heap.size h mm v g (g 9 p9) (g 7 (3 * p9)) (g 7 ((3 * p9) + 1)) (g 7 ((3 * p9) + 2)) tn) (cwV 5 hT (wT_V k4n_3 k4n_4 k4n_5 k4n_6 k4n_2) rfl rfl rfl (by decide +kernel) ⟨Nat.le_of_ble_eq_true rfl, Nat.le_of_ble_eq_true rfl⟩) (x_preV hK hP hD 0 rfl rfl) rfl rfl hl.1 rfl (lv_room (Nat.le_of_ble_eq_true rfl)) xd_Mo_exports_36 ⟨Nat.le_of_ble_eq_true rfl, Nat.le_of_ble_eq_true rfl⟩) hS (fun q _ h => hFc q h) hFc (fun r1 u2 t H1 locs ht hvm hp3 hB hz1 hk1 hS => ?_)
  obtain ⟨hP1, hD1⟩ := hB
  rw [ht] at hP1
  have hD1 := hD1.weaken (fun _ _ _ h => hFc _ h)
  generalize H1 = H at hP1 hS ⊢
  have hP := hP1
  have hD := hD1
  have hP : va_P D xcl (moW h mm kA v g) H := hP
  have hD : va_D A (moW h mm kA v g) := hD
  rcases hp3 with ⟨rfl, z4⟩ | ⟨rfl, z5⟩
  · exact W.zret (v := 1) hx hb hr rfl (fun t ht hW => ⟨⟨1, (), rfl, Or.inl ⟨rfl, z4⟩, by rw [ht]; exact hP, hD⟩, hS.F ht⟩) hS.2.2 xd_Mo_exports_39
  · exact W.zret (v := 0) hx hb hr rfl (fun t ht hW => ⟨⟨0, (), rfl, Or.inr ⟨rfl, z5⟩, by rw [ht]; exact hP, hD⟩, hS.F ht⟩) hS.2.2 xd_Mo_exports_39
set_option maxHeartbeats 4000000 in
set_option maxRecDepth 100000 in
theorem xc_Mo_isElsewhereX (l : Launch) (D : va_G) (kA : Nat → ClassId) (sz h : Nat) (mm : Nat → Nat) (v : Nat → Int32) (g : Nat → Nat → Int32) (bt : Nat) (nm : Int32) (tn : Int32) (hbt : bt < 72) (hpk : ∀ d, d < 12 → ∃ k, k ≤ 6 ∧ g 5 d = nI k) : Met l xy_Mo_isElsewhere (.code xy_Mo_isElsewhere xb_Mo_isElsewhere 7 (some .boolean) :: wT) { frames := 2, cells := 0, slots := 0, locals := 47 } (va_Pc [.ref h, .int (nI bt), .int nm, .int tn] (xPre D kA sz (moW h mm kA v g))) (va_Qi (fun (r : Int32) (u : Unit) => (r = 1 ∧ elK g (fun m => ¬ g 24 m = 0) bt nm tn 72) ∨ (r = 0 ∧ ¬ elK g (fun m => ¬ g 24 m = 0) bt nm tn 72)) (fun (u : Unit) t => va_P D xcl (moW h mm kA v g) t.heap ∧ va_D (va_A (moW h mm kA v g) sz) (moW h mm kA v g)) (va_A (moW h mm kA v g) sz)) 0 0 (va_A (moW h mm kA v g) sz) := by
  refine Met.ofW (cc := xb_Mo_isElsewhere) (maxL := 7) (ret := (some .boolean)) (by decide) rfl ?_
  intro p e s m args below meth c s₁ B hml hv
  obtain ⟨rfl, hsz, hP, hK, hD0⟩ := hv
  have hx := B.exec
  have hb := B.bytes
  have hr := B.returns
  have hT := x_hT B.pre
  have hown : s.vm.findClass xR_Mo = some m.cls := findClass_of_methodNamed B.named
  have hlocks := B.notSynchronized
  subst hsz
  have hD := hD0.self (sz := s.heap.size)
  generalize hAe : va_A (moW h mm kA v g) s.heap.size = A at hD ⊢
  have hA : ∀ q : Nat, s.heap.size ≤ q → A q := fun q h => by rw [← hAe]; exact Or.inr h
  have hS : va_S A s.heap s.heap [] := va_S.rf
  have hl := lv_entry ([.ref h, .int (nI bt), .int nm, .int tn]) (n := 7) (Nat.le_of_ble_eq_true rfl)
  rw [lg_entry_eq]
  generalize (lg_sl ([.ref h, .int (nI bt), .int nm, .int tn]) ++ List.replicate (7 - (lg_sl ([.ref h, .int (nI bt), .int nm, .int tn])).length) Slot.unset).toArray = ls at hl ⊢
  have hl : lv_has ls 7 [(0, .ref h), (1, .int (nI bt)), (2, .int nm), (3, .int tn)] := hl
  have hP : va_P D xcl (moW h mm kA v g) s.heap := hP
  refine lv_iconst (v := 0) hx hb xd_Mo_isElsewhere_0 (by decide) ?_
  refine lv_istore hx hb xd_Mo_isElsewhere_1 hl (Nat.le_of_ble_eq_true rfl) rfl (fun ls hl => ?_)
  have hl : lv_has ls 7 [(4, .int 0), (0, .ref h), (1, .int (nI bt)), (2, .int nm), (3, .int tn)] := hl
  refine lv_iconst (v := 0) hx hb xd_Mo_isElsewhere_3 (by decide) ?_
  refine lv_istore hx hb xd_Mo_isElsewhere_4 hl (Nat.le_of_ble_eq_true rfl) rfl (fun ls hl => ?_)
  have hl : lv_has ls 7 [(5, .int 0), (4, .int 0), (0, .ref h), (1, .int (nI bt)), (2, .int nm), (3, .int tn)] := hl
  refine xlab (σ := Nat × Nat) (ml := 7) 6 (fun (m5, is4) => [(5, .int (nI m5)), (4, .int (nI is4)), (0, .ref h), (1, .int (nI bt)), (2, .int nm), (3, .int tn)]) (fun (m5, is4) => []) (fun (m5, is4) => moW h mm kA v g) (fun (m5, is4) => (m5 ≤ 72) ∧ (is4 ≤ 1) ∧ ((is4 = 1 ∧ elK g (fun m => ¬ g 24 m = 0) bt nm tn m5) ∨ (is4 = 0 ∧ ¬ elK g (fun m => ¬ g 24 m = 0) bt nm tn m5))) (fun (m5, is4) => 72 - m5) ?_ (0, 0) _ _ _ (lv_sub hl [0, 1, 2, 3, 4, 5] rfl) hP hD hS ⟨(show 0 ≤ 72 from by first | assumption | omega), (show 0 ≤ 1 from by first | assumption | omega), (show (0 = 1 ∧ elK g (fun m => ¬ g 24 m = 0) bt nm tn 0) ∨ (0 = 0 ∧ ¬ elK g (fun m => ¬ g 24 m = 0) bt nm tn 0) from Or.inr ⟨rfl, fun ⟨m, h, _⟩ => absurd h (by omega)⟩)⟩
  intro n9 ih1 a9 ls H locs hμ hl hP hD hS hI
  subst hμ
  obtain ⟨m5, is4⟩ := a9
  obtain ⟨hm5, his4, hel⟩ := hI
  have hm5 : m5 ≤ 72 := hm5
  have his4 : is4 ≤ 1 := his4
  have hel : (is4 = 1 ∧ elK g (fun m => ¬ g 24 m = 0) bt nm tn m5) ∨ (is4 = 0 ∧ ¬ elK g (fun m => ¬ g 24 m = 0) bt nm tn m5) := hel
  have hl : lv_has ls 7 [(5, .int (nI m5)), (4, .int (nI is4)), (0, .ref h), (1, .int (nI bt)), (2, .int nm), (3, .int tn)] := hl
  have hP : va_P D xcl (moW h mm kA v g) H := hP
  have hD : va_D A (moW h mm kA v g) := hD
  refine lv_iload hx hb xd_Mo_isElsewhere_6 (lv_at hl 0 rfl) ?_
  refine lv_bipush (v := 72) hx hb xd_Mo_isElsewhere_8 (by decide) ?_
  refine xn_ge (a := m5) (b := 72) (tgt := 78) hx hb xd_Mo_isElsewhere_10 (by decide) (by omega) (by omega) (fun hc2 => ?_) (fun hc2 => ?_)
  · refine lv_iload hx hb xd_Mo_isElsewhere_78 (lv_at hl 1 rfl) ?_
    exact W.zret (v := (nI is4)) hx hb hr (x_bn his4) (fun t ht hW => ⟨⟨(nI is4), (), rfl, (by
        rw [show m5 = 72 by omega] at hel
        rcases hel with ⟨q, q2⟩ | ⟨q, q2⟩
        · rw [q]; exact Or.inl ⟨rfl, q2⟩
        · rw [q]; exact Or.inr ⟨rfl, q2⟩), by rw [ht]; exact hP, hD⟩, hS.F ht⟩) hS.2.2 xd_Mo_isElsewhere_80
  · refine lv_iload hx hb xd_Mo_isElsewhere_13 (lv_at hl 0 rfl) ?_
    refine lv_iload_n hx hb xd_Mo_isElsewhere_15 rfl (lv_at hl 3 rfl) ?_
    refine xn_eq (a := m5) (b := bt) (tgt := 42) hx hb xd_Mo_isElsewhere_16 (by decide) (by omega) (by omega) (fun hc3 => ?_) (fun hc3 => ?_)
    · refine lv_iconst (v := (-1)) hx hb xd_Mo_isElsewhere_42 (by decide) ?_
      refine lv_istore hx hb xd_Mo_isElsewhere_43 hl (Nat.le_of_ble_eq_true rfl) rfl (fun ls hl => ?_)
      have hl : lv_has ls 7 [(6, .int (-1)), (5, .int (nI m5)), (4, .int (nI is4)), (0, .ref h), (1, .int (nI bt)), (2, .int nm), (3, .int tn)] := hl
      refine lv_iload hx hb xd_Mo_isElsewhere_45 (lv_at hl 2 rfl) ?_
      refine xz_ne (a := is4) (tgt := 65) hx hb xd_Mo_isElsewhere_47 (by decide) (by omega) (fun hc4 => ?_) (fun hc4 => ?_)
      · refine lv_iconst (v := 1) hx hb xd_Mo_isElsewhere_65 (by decide) ?_
        refine lv_goto (tgt := 70) hx hb xd_Mo_isElsewhere_66 (by decide) ?_
        refine lv_istore hx hb xd_Mo_isElsewhere_70 hl (Nat.le_of_ble_eq_true rfl) rfl (fun ls hl => ?_)
        have hl : lv_has ls 7 [(4, .int 1), (6, .int (-1)), (5, .int (nI m5)), (0, .ref h), (1, .int (nI bt)), (2, .int nm), (3, .int tn)] := hl
        refine lv_iinc (k := 2) (x := (nI m5)) (v := (nI (m5 + 1))) hx hb xd_Mo_isElsewhere_72 hl rfl (xb_inc m5 1) (Nat.le_of_ble_eq_true rfl) rfl (fun ls hl => ?_)
        have hl : lv_has ls 7 [(5, .int (nI (m5 + 1))), (4, .int 1), (6, .int (-1)), (0, .ref h), (1, .int (nI bt)), (2, .int nm), (3, .int tn)] := hl
        refine lv_goto (tgt := 6) hx hb xd_Mo_isElsewhere_75 (by decide) ?_
        exact ih1 (m5 + 1, 1) _ _ _ (show 72 - (m5 + 1) < 72 - m5 by omega) (lv_sub hl [0, 1, 3, 4, 5, 6] rfl) hP hD hS ⟨(show (m5 + 1) ≤ 72 from by first | assumption | omega), (show 1 ≤ 1 from by first | assumption | omega), (show (1 = 1 ∧ elK g (fun m => ¬ g 24 m = 0) bt nm tn (m5 + 1)) ∨ (1 = 0 ∧ ¬ elK g (fun m => ¬ g 24 m = 0) bt nm tn (m5 + 1)) from by
        rcases hel with ⟨_, m, q1, q2⟩ | ⟨q, _⟩
        · exact Or.inl ⟨rfl, m, by omega, q2⟩
        · omega)⟩
      · refine lv_iload hx hb xd_Mo_isElsewhere_50 (lv_at hl 0 rfl) ?_
        refine lv_if_lt (tgt := 69) hx hb xd_Mo_isElsewhere_52 (by decide) (fun _ => ?_) (fun hc5 => absurd hc5 (by decide))
        refine lv_iconst (v := 0) hx hb xd_Mo_isElsewhere_69 (by decide) ?_
        refine lv_istore hx hb xd_Mo_isElsewhere_70 hl (Nat.le_of_ble_eq_true rfl) rfl (fun ls hl => ?_)
        have hl : lv_has ls 7 [(4, .int 0), (6, .int (-1)), (5, .int (nI m5)), (0, .ref h), (1, .int (nI bt)), (2, .int nm), (3, .int tn)] := hl
        refine lv_iinc (k := 2) (x := (nI m5)) (v := (nI (m5 + 1))) hx hb xd_Mo_isElsewhere_72 hl rfl (xb_inc m5 1) (Nat.le_of_ble_eq_true rfl) rfl (fun ls hl => ?_)
        have hl : lv_has ls 7 [(5, .int (nI (m5 + 1))), (4, .int 0), (6, .int (-1)), (0, .ref h), (1, .int (nI bt)), (2, .int nm), (3, .int tn)] := hl
        refine lv_goto (tgt := 6) hx hb xd_Mo_isElsewhere_75 (by decide) ?_
        exact ih1 (m5 + 1, 0) _ _ _ (show 72 - (m5 + 1) < 72 - m5 by omega) (lv_sub hl [0, 1, 3, 4, 5, 6] rfl) hP hD hS ⟨(show (m5 + 1) ≤ 72 from by first | assumption | omega), (show 0 ≤ 1 from by first | assumption | omega), (show (0 = 1 ∧ elK g (fun m => ¬ g 24 m = 0) bt nm tn (m5 + 1)) ∨ (0 = 0 ∧ ¬ elK g (fun m => ¬ g 24 m = 0) bt nm tn (m5 + 1)) from by
        rcases hel with ⟨q, _⟩ | ⟨_, q⟩
        · omega
        refine Or.inr ⟨rfl, fun ⟨m, q1, q2, q3, i, q4, q5⟩ => ?_⟩
        rcases Nat.lt_or_ge m m5 with z | z
        · exact q ⟨m, z, q2, q3, i, q4, q5⟩
        · have e : m = m5 := by omega
          rw [e] at q2 q3 q4 q5
          exact (absurd hc3 q2))⟩
    · refine lv_aload_n hx hb xd_Mo_isElsewhere_19 rfl (lv_at hl 2 rfl) ?_
      refine va_get (D := D) (ci := 4) (v := .ref (mm 24)) (C := xR_Mo) (T := xT_Mo) (N := 31) hx hb hT xi_Mo hown hK.1 hP 0 rfl rfl 30 (by decide) (hT _ k4n_7) (fun _ h9 => h9) rfl xd_Mo_isElsewhere_20 ?_
      refine lv_iload hx hb xd_Mo_isElsewhere_23 (lv_at hl 0 rfl) ?_
      refine xn_zald (i := m5) hx hb hK.1 hP 25 2 rfl rfl (by omega) (by decide) xd_Mo_isElsewhere_25 ?_
      refine lv_if_eq (tgt := 42) hx hb xd_Mo_isElsewhere_26 (by decide) (fun hc6 => ?_) (fun hc6 => ?_)
      · refine lv_iconst (v := (-1)) hx hb xd_Mo_isElsewhere_42 (by decide) ?_
        refine lv_istore hx hb xd_Mo_isElsewhere_43 hl (Nat.le_of_ble_eq_true rfl) rfl (fun ls hl => ?_)
        have hl : lv_has ls 7 [(6, .int (-1)), (5, .int (nI m5)), (4, .int (nI is4)), (0, .ref h), (1, .int (nI bt)), (2, .int nm), (3, .int tn)] := hl
        refine lv_iload hx hb xd_Mo_isElsewhere_45 (lv_at hl 2 rfl) ?_
        refine xz_ne (a := is4) (tgt := 65) hx hb xd_Mo_isElsewhere_47 (by decide) (by omega) (fun hc7 => ?_) (fun hc7 => ?_)
        · refine lv_iconst (v := 1) hx hb xd_Mo_isElsewhere_65 (by decide) ?_
          refine lv_goto (tgt := 70) hx hb xd_Mo_isElsewhere_66 (by decide) ?_
          refine lv_istore hx hb xd_Mo_isElsewhere_70 hl (Nat.le_of_ble_eq_true rfl) rfl (fun ls hl => ?_)
          have hl : lv_has ls 7 [(4, .int 1), (6, .int (-1)), (5, .int (nI m5)), (0, .ref h), (1, .int (nI bt)), (2, .int nm), (3, .int tn)] := hl
          refine lv_iinc (k := 2) (x := (nI m5)) (v := (nI (m5 + 1))) hx hb xd_Mo_isElsewhere_72 hl rfl (xb_inc m5 1) (Nat.le_of_ble_eq_true rfl) rfl (fun ls hl => ?_)
          have hl : lv_has ls 7 [(5, .int (nI (m5 + 1))), (4, .int 1), (6, .int (-1)), (0, .ref h), (1, .int (nI bt)), (2, .int nm), (3, .int tn)] := hl
          refine lv_goto (tgt := 6) hx hb xd_Mo_isElsewhere_75 (by decide) ?_
          exact ih1 (m5 + 1, 1) _ _ _ (show 72 - (m5 + 1) < 72 - m5 by omega) (lv_sub hl [0, 1, 3, 4, 5, 6] rfl) hP hD hS ⟨(show (m5 + 1) ≤ 72 from by first | assumption | omega), (show 1 ≤ 1 from by first | assumption | omega), (show (1 = 1 ∧ elK g (fun m => ¬ g 24 m = 0) bt nm tn (m5 + 1)) ∨ (1 = 0 ∧ ¬ elK g (fun m => ¬ g 24 m = 0) bt nm tn (m5 + 1)) from by
        rcases hel with ⟨_, m, q1, q2⟩ | ⟨q, _⟩
        · exact Or.inl ⟨rfl, m, by omega, q2⟩
        · omega)⟩
        · refine lv_iload hx hb xd_Mo_isElsewhere_50 (lv_at hl 0 rfl) ?_
          refine lv_if_lt (tgt := 69) hx hb xd_Mo_isElsewhere_52 (by decide) (fun _ => ?_) (fun hc8 => absurd hc8 (by decide))
          refine lv_iconst (v := 0) hx hb xd_Mo_isElsewhere_69 (by decide) ?_
          refine lv_istore hx hb xd_Mo_isElsewhere_70 hl (Nat.le_of_ble_eq_true rfl) rfl (fun ls hl => ?_)
          have hl : lv_has ls 7 [(4, .int 0), (6, .int (-1)), (5, .int (nI m5)), (0, .ref h), (1, .int (nI bt)), (2, .int nm), (3, .int tn)] := hl
          refine lv_iinc (k := 2) (x := (nI m5)) (v := (nI (m5 + 1))) hx hb xd_Mo_isElsewhere_72 hl rfl (xb_inc m5 1) (Nat.le_of_ble_eq_true rfl) rfl (fun ls hl => ?_)
          have hl : lv_has ls 7 [(5, .int (nI (m5 + 1))), (4, .int 0), (6, .int (-1)), (0, .ref h), (1, .int (nI bt)), (2, .int nm), (3, .int tn)] := hl
          refine lv_goto (tgt := 6) hx hb xd_Mo_isElsewhere_75 (by decide) ?_
          exact ih1 (m5 + 1, 0) _ _ _ (show 72 - (m5 + 1) < 72 - m5 by omega) (lv_sub hl [0, 1, 3, 4, 5, 6] rfl) hP hD hS ⟨(show (m5 + 1) ≤ 72 from by first | assumption | omega), (show 0 ≤ 1 from by first | assumption | omega), (show (0 = 1 ∧ elK g (fun m => ¬ g 24 m = 0) bt nm tn (m5 + 1)) ∨ (0 = 0 ∧ ¬ elK g (fun m => ¬ g 24 m = 0) bt nm tn (m5 + 1)) from by
        rcases hel with ⟨q, _⟩ | ⟨_, q⟩
        · omega
        refine Or.inr ⟨rfl, fun ⟨m, q1, q2, q3, i, q4, q5⟩ => ?_⟩
        rcases Nat.lt_or_ge m m5 with z | z
        · exact q ⟨m, z, q2, q3, i, q4, q5⟩
        · have e : m = m5 := by omega
          rw [e] at q2 q3 q4 q5
          exact (absurd hc6 q3))⟩
      · obtain ⟨pkc, hpkc, epkc⟩ := hpk (m5 % 12) (by omega)
        refine lv_aload_n hx hb xd_Mo_isElsewhere_29 rfl (lv_at hl 2 rfl) ?_
        refine lv_iload hx hb xd_Mo_isElsewhere_30 (lv_at hl 0 rfl) ?_
        refine lv_bipush (v := 12) hx hb xd_Mo_isElsewhere_32 (by decide) ?_
        refine lv_irem hx hb xd_Mo_isElsewhere_34 (by decide) ?_
        refine xn_top (y := nI (m5 % 12)) (pk_rem (a := m5) (d := 12) (by omega) (by decide) (by decide)) ?_
        refine lv_iload_n hx hb xd_Mo_isElsewhere_35 rfl (lv_at hl 4 rfl) ?_
        have hFc := va_free (wc := (moW h mm kA v g)) hD hS hA [0, 1, 2, 3, 4, 5, 6, 7, 8, 9, 10, 11, 12, 13, 14, 15, 16, 17, 18, 19, 20, 21, 22, 23, 24, 25] rfl
        refine va_calli (va_runV (As := [.int (nI (m5 % 12)), .int nm]) (rest := []) ⟨hx, hb, hml, hown, hT⟩ (xc_Mo_packageOfX l D kA H.size h mm v g (m5 % 12) nm pkc (by first | assumption | omega) (by first | assumption | omega) (by first | assumption | omega)) (cwV 2 hT (wT_V k4n_9 k4n_10 k4n_11 k4n_6 k4n_8) rfl rfl rfl (by decide +kernel) ⟨Nat.le_of_ble_eq_true rfl, Nat.le_of_ble_eq_true rfl⟩) (x_preV hK hP hD 0 rfl rfl) rfl rfl hl.1 rfl (lv_room (Nat.le_of_ble_eq_true rfl)) xd_Mo_isElsewhere_36 ⟨Nat.le_of_ble_eq_true rfl, Nat.le_of_ble_eq_true rfl⟩) hS (fun q _ h => hFc q h) hFc (fun r9 u10 t H1 locs ht hvm hp11 hB hz1 hk1 hS => ?_)
        obtain ⟨hP1, hD1⟩ := hB
        rw [ht] at hP1
        have hD1 := hD1.weaken (fun _ _ _ h => hFc _ h)
        generalize H1 = H at hP1 hS ⊢
        have hP := hP1
        have hD := hD1
        have hP : va_P D xcl (moW h mm kA v g) H := hP
        have hD : va_D A (moW h mm kA v g) := hD
        rcases hp11 with ⟨z12, z13, z14, rfl, z15, z16⟩ | ⟨rfl, z17⟩
        · refine lv_goto (tgt := 43) hx hb xd_Mo_isElsewhere_39 (by decide) ?_
          refine lv_istore hx hb xd_Mo_isElsewhere_43 hl (Nat.le_of_ble_eq_true rfl) rfl (fun ls hl => ?_)
          have hl : lv_has ls 7 [(6, .int (nI z12)), (5, .int (nI m5)), (4, .int (nI is4)), (0, .ref h), (1, .int (nI bt)), (2, .int nm), (3, .int tn)] := hl
          refine lv_iload hx hb xd_Mo_isElsewhere_45 (lv_at hl 2 rfl) ?_
          refine xz_ne (a := is4) (tgt := 65) hx hb xd_Mo_isElsewhere_47 (by decide) (by omega) (fun hc18 => ?_) (fun hc18 => ?_)
          · refine lv_iconst (v := 1) hx hb xd_Mo_isElsewhere_65 (by decide) ?_
            refine lv_goto (tgt := 70) hx hb xd_Mo_isElsewhere_66 (by decide) ?_
            refine lv_istore hx hb xd_Mo_isElsewhere_70 hl (Nat.le_of_ble_eq_true rfl) rfl (fun ls hl => ?_)
            have hl : lv_has ls 7 [(4, .int 1), (6, .int (nI z12)), (5, .int (nI m5)), (0, .ref h), (1, .int (nI bt)), (2, .int nm), (3, .int tn)] := hl
            refine lv_iinc (k := 2) (x := (nI m5)) (v := (nI (m5 + 1))) hx hb xd_Mo_isElsewhere_72 hl rfl (xb_inc m5 1) (Nat.le_of_ble_eq_true rfl) rfl (fun ls hl => ?_)
            have hl : lv_has ls 7 [(5, .int (nI (m5 + 1))), (4, .int 1), (6, .int (nI z12)), (0, .ref h), (1, .int (nI bt)), (2, .int nm), (3, .int tn)] := hl
            refine lv_goto (tgt := 6) hx hb xd_Mo_isElsewhere_75 (by decide) ?_
            exact ih1 (m5 + 1, 1) _ _ _ (show 72 - (m5 + 1) < 72 - m5 by omega) (lv_sub hl [0, 1, 3, 4, 5, 6] rfl) hP hD hS ⟨(show (m5 + 1) ≤ 72 from by first | assumption | omega), (show 1 ≤ 1 from by first | assumption | omega), (show (1 = 1 ∧ elK g (fun m => ¬ g 24 m = 0) bt nm tn (m5 + 1)) ∨ (1 = 0 ∧ ¬ elK g (fun m => ¬ g 24 m = 0) bt nm tn (m5 + 1)) from by
        rcases hel with ⟨_, m, q1, q2⟩ | ⟨q, _⟩
        · exact Or.inl ⟨rfl, m, by omega, q2⟩
        · omega)⟩
          · refine lv_iload hx hb xd_Mo_isElsewhere_50 (lv_at hl 0 rfl) ?_
            refine xz_lt (a := z12) (tgt := 69) hx hb xd_Mo_isElsewhere_52 (by decide) (by omega) ?_
            refine lv_aload_n hx hb xd_Mo_isElsewhere_55 rfl (lv_at hl 3 rfl) ?_
            refine lv_iload hx hb xd_Mo_isElsewhere_56 (lv_at hl 0 rfl) ?_
            refine lv_iload_n hx hb xd_Mo_isElsewhere_58 rfl (lv_at hl 6 rfl) ?_
            have hFc := va_free (wc := (moW h mm kA v g)) hD hS hA [0, 1, 2, 3, 4, 5, 6, 7, 8, 9, 10, 11, 12, 13, 14, 15, 16, 17, 18, 19, 20, 21, 22, 23, 24, 25] rfl
            refine va_calli (va_runV (As := [.int (nI z12), .int tn]) (rest := []) ⟨hx, hb, hml, hown, hT⟩ (xc_Mo_exportsX l D kA H.size h mm v g z12 tn (by first | assumption | omega)) (cwV 2 hT (wT_V k4n_13 k4n_14 k4n_15 k4n_6 k4n_12) rfl rfl rfl (by decide +kernel) ⟨Nat.le_of_ble_eq_true rfl, Nat.le_of_ble_eq_true rfl⟩) (x_preV hK hP hD 0 rfl rfl) rfl rfl hl.1 rfl (lv_room (Nat.le_of_ble_eq_true rfl)) xd_Mo_isElsewhere_59 ⟨Nat.le_of_ble_eq_true rfl, Nat.le_of_ble_eq_true rfl⟩) hS (fun q _ h => hFc q h) hFc (fun r20 u21 t H1 locs ht hvm hp22 hB hz1 hk1 hS => ?_)
            obtain ⟨hP1, hD1⟩ := hB
            rw [ht] at hP1
            have hD1 := hD1.weaken (fun _ _ _ h => hFc _ h)
            generalize H1 = H at hP1 hS ⊢
            have hP := hP1
            have hD := hD1
            have hP : va_P D xcl (moW h mm kA v g) H := hP
            have hD : va_D A (moW h mm kA v g) := hD
            rcases hp22 with ⟨rfl, z23⟩ | ⟨rfl, z24⟩
            · refine xz_eq (a := 1) (tgt := 69) hx hb xd_Mo_isElsewhere_62 (by decide) (by omega) (fun hc25 => absurd hc25 (by omega)) (fun _ => ?_)
              refine lv_iconst (v := 1) hx hb xd_Mo_isElsewhere_65 (by decide) ?_
              refine lv_goto (tgt := 70) hx hb xd_Mo_isElsewhere_66 (by decide) ?_
              refine lv_istore hx hb xd_Mo_isElsewhere_70 hl (Nat.le_of_ble_eq_true rfl) rfl (fun ls hl => ?_)
              have hl : lv_has ls 7 [(4, .int 1), (6, .int (nI z12)), (5, .int (nI m5)), (0, .ref h), (1, .int (nI bt)), (2, .int nm), (3, .int tn)] := hl
              refine lv_iinc (k := 2) (x := (nI m5)) (v := (nI (m5 + 1))) hx hb xd_Mo_isElsewhere_72 hl rfl (xb_inc m5 1) (Nat.le_of_ble_eq_true rfl) rfl (fun ls hl => ?_)
              have hl : lv_has ls 7 [(5, .int (nI (m5 + 1))), (4, .int 1), (6, .int (nI z12)), (0, .ref h), (1, .int (nI bt)), (2, .int nm), (3, .int tn)] := hl
              refine lv_goto (tgt := 6) hx hb xd_Mo_isElsewhere_75 (by decide) ?_
              exact ih1 (m5 + 1, 1) _ _ _ (show 72 - (m5 + 1) < 72 - m5 by omega) (lv_sub hl [0, 1, 3, 4, 5, 6] rfl) hP hD hS ⟨(show (m5 + 1) ≤ 72 from by first | assumption | omega), (show 1 ≤ 1 from by first | assumption | omega), (show (1 = 1 ∧ elK g (fun m => ¬ g 24 m = 0) bt nm tn (m5 + 1)) ∨ (1 = 0 ∧ ¬ elK g (fun m => ¬ g 24 m = 0) bt nm tn (m5 + 1)) from Or.inl ⟨rfl, m5, by omega, hc3, hc6, z12 - 6 * (m5 % 12), (pI_some epkc (by omega) z13 z14 z15 z16), by rw [show 6 * (m5 % 12) + (z12 - 6 * (m5 % 12)) = z12 by omega]; exact z23⟩)⟩
            · refine xz_eq (a := 0) (tgt := 69) hx hb xd_Mo_isElsewhere_62 (by decide) (by omega) (fun _ => ?_) (fun hc26 => absurd hc26 (by omega))
              refine lv_iconst (v := 0) hx hb xd_Mo_isElsewhere_69 (by decide) ?_
              refine lv_istore hx hb xd_Mo_isElsewhere_70 hl (Nat.le_of_ble_eq_true rfl) rfl (fun ls hl => ?_)
              have hl : lv_has ls 7 [(4, .int 0), (6, .int (nI z12)), (5, .int (nI m5)), (0, .ref h), (1, .int (nI bt)), (2, .int nm), (3, .int tn)] := hl
              refine lv_iinc (k := 2) (x := (nI m5)) (v := (nI (m5 + 1))) hx hb xd_Mo_isElsewhere_72 hl rfl (xb_inc m5 1) (Nat.le_of_ble_eq_true rfl) rfl (fun ls hl => ?_)
              have hl : lv_has ls 7 [(5, .int (nI (m5 + 1))), (4, .int 0), (6, .int (nI z12)), (0, .ref h), (1, .int (nI bt)), (2, .int nm), (3, .int tn)] := hl
              refine lv_goto (tgt := 6) hx hb xd_Mo_isElsewhere_75 (by decide) ?_
              exact ih1 (m5 + 1, 0) _ _ _ (show 72 - (m5 + 1) < 72 - m5 by omega) (lv_sub hl [0, 1, 3, 4, 5, 6] rfl) hP hD hS ⟨(show (m5 + 1) ≤ 72 from by first | assumption | omega), (show 0 ≤ 1 from by first | assumption | omega), (show (0 = 1 ∧ elK g (fun m => ¬ g 24 m = 0) bt nm tn (m5 + 1)) ∨ (0 = 0 ∧ ¬ elK g (fun m => ¬ g 24 m = 0) bt nm tn (m5 + 1)) from by
        rcases hel with ⟨q, _⟩ | ⟨_, q⟩
        · omega
        refine Or.inr ⟨rfl, fun ⟨m, q1, q2, q3, i, q4, q5⟩ => ?_⟩
        rcases Nat.lt_or_ge m m5 with z | z
        · exact q ⟨m, z, q2, q3, i, q4, q5⟩
        · have e : m = m5 := by omega
          rw [e] at q2 q3 q4 q5
          exact (by rw [(pI_some epkc (by omega) z13 z14 z15 z16)] at q4; rw [← Option.some.inj q4, show 6 * (m5 % 12) + (z12 - 6 * (m5 % 12)) = z12 by omega] at q5; exact z24 q5))⟩
        · refine lv_goto (tgt := 43) hx hb xd_Mo_isElsewhere_39 (by decide) ?_
          refine lv_istore hx hb xd_Mo_isElsewhere_43 hl (Nat.le_of_ble_eq_true rfl) rfl (fun ls hl => ?_)
          have hl : lv_has ls 7 [(6, .int (-1)), (5, .int (nI m5)), (4, .int (nI is4)), (0, .ref h), (1, .int (nI bt)), (2, .int nm), (3, .int tn)] := hl
          refine lv_iload hx hb xd_Mo_isElsewhere_45 (lv_at hl 2 rfl) ?_
          refine xz_ne (a := is4) (tgt := 65) hx hb xd_Mo_isElsewhere_47 (by decide) (by omega) (fun hc27 => ?_) (fun hc27 => ?_)
          · refine lv_iconst (v := 1) hx hb xd_Mo_isElsewhere_65 (by decide) ?_
            refine lv_goto (tgt := 70) hx hb xd_Mo_isElsewhere_66 (by decide) ?_
            refine lv_istore hx hb xd_Mo_isElsewhere_70 hl (Nat.le_of_ble_eq_true rfl) rfl (fun ls hl => ?_)
            have hl : lv_has ls 7 [(4, .int 1), (6, .int (-1)), (5, .int (nI m5)), (0, .ref h), (1, .int (nI bt)), (2, .int nm), (3, .int tn)] := hl
            refine lv_iinc (k := 2) (x := (nI m5)) (v := (nI (m5 + 1))) hx hb xd_Mo_isElsewhere_72 hl rfl (xb_inc m5 1) (Nat.le_of_ble_eq_true rfl) rfl (fun ls hl => ?_)
            have hl : lv_has ls 7 [(5, .int (nI (m5 + 1))), (4, .int 1), (6, .int (-1)), (0, .ref h), (1, .int (nI bt)), (2, .int nm), (3, .int tn)] := hl
            refine lv_goto (tgt := 6) hx hb xd_Mo_isElsewhere_75 (by decide) ?_
            exact ih1 (m5 + 1, 1) _ _ _ (show 72 - (m5 + 1) < 72 - m5 by omega) (lv_sub hl [0, 1, 3, 4, 5, 6] rfl) hP hD hS ⟨(show (m5 + 1) ≤ 72 from by first | assumption | omega), (show 1 ≤ 1 from by first | assumption | omega), (show (1 = 1 ∧ elK g (fun m => ¬ g 24 m = 0) bt nm tn (m5 + 1)) ∨ (1 = 0 ∧ ¬ elK g (fun m => ¬ g 24 m = 0) bt nm tn (m5 + 1)) from by
        rcases hel with ⟨_, m, q1, q2⟩ | ⟨q, _⟩
        · exact Or.inl ⟨rfl, m, by omega, q2⟩
        · omega)⟩
          · refine lv_iload hx hb xd_Mo_isElsewhere_50 (lv_at hl 0 rfl) ?_
            refine lv_if_lt (tgt := 69) hx hb xd_Mo_isElsewhere_52 (by decide) (fun _ => ?_) (fun hc28 => absurd hc28 (by decide))
            refine lv_iconst (v := 0) hx hb xd_Mo_isElsewhere_69 (by decide) ?_
            refine lv_istore hx hb xd_Mo_isElsewhere_70 hl (Nat.le_of_ble_eq_true rfl) rfl (fun ls hl => ?_)
            have hl : lv_has ls 7 [(4, .int 0), (6, .int (-1)), (5, .int (nI m5)), (0, .ref h), (1, .int (nI bt)), (2, .int nm), (3, .int tn)] := hl
            refine lv_iinc (k := 2) (x := (nI m5)) (v := (nI (m5 + 1))) hx hb xd_Mo_isElsewhere_72 hl rfl (xb_inc m5 1) (Nat.le_of_ble_eq_true rfl) rfl (fun ls hl => ?_)
            have hl : lv_has ls 7 [(5, .int (nI (m5 + 1))), (4, .int 0), (6, .int (-1)), (0, .ref h), (1, .int (nI bt)), (2, .int nm), (3, .int tn)] := hl
            refine lv_goto (tgt := 6) hx hb xd_Mo_isElsewhere_75 (by decide) ?_
            exact ih1 (m5 + 1, 0) _ _ _ (show 72 - (m5 + 1) < 72 - m5 by omega) (lv_sub hl [0, 1, 3, 4, 5, 6] rfl) hP hD hS ⟨(show (m5 + 1) ≤ 72 from by first | assumption | omega), (show 0 ≤ 1 from by first | assumption | omega), (show (0 = 1 ∧ elK g (fun m => ¬ g 24 m = 0) bt nm tn (m5 + 1)) ∨ (0 = 0 ∧ ¬ elK g (fun m => ¬ g 24 m = 0) bt nm tn (m5 + 1)) from by
        rcases hel with ⟨q, _⟩ | ⟨_, q⟩
        · omega
        refine Or.inr ⟨rfl, fun ⟨m, q1, q2, q3, i, q4, q5⟩ => ?_⟩
        rcases Nat.lt_or_ge m m5 with z | z
        · exact q ⟨m, z, q2, q3, i, q4, q5⟩
        · have e : m = m5 := by omega
          rw [e] at q2 q3 q4 q5
          exact (by rw [pI_none epkc (by omega) z17] at q4; cases q4))⟩
set_option maxHeartbeats 4000000 in
set_option maxRecDepth 100000 in
theorem xc_Mo_isSplitX (l : Launch) (D : va_G) (kA : Nat → ClassId) (sz h : Nat) (mm : Nat → Nat) (v : Nat → Int32) (g : Nat → Nat → Int32) (ly : Nat) (d : Nat) (np : Nat) (hMI : MI v g) (hnp : np ≤ 6) (hpar : ∀ la, la < np → ∃ lq, lq ≤ la ∧ g 19 la = nI lq - 1) (hly : ly < np) (hd : d < 12) : Met l xy_Mo_isSplit (.code xy_Mo_isSplit xb_Mo_isSplit 5 (some .boolean) :: wT) { frames := 3, cells := 0, slots := 0, locals := 73 } (va_Pc [.ref h, .int (nI ly), .int (nI d)] (xPre D kA sz (moW h mm kA v g))) (va_Qi (fun (r : Int32) (u : (Nat → Int32) × (Nat → Nat → Int32)) => u.1 = v ∧ (∀ j, j ≠ 24 → u.2 j = g j) ∧ ((r = 1 ∧ spQ g (rdQ g ly d) d) ∨ (r = 0 ∧ ¬ spQ g (rdQ g ly d) d))) (fun (u : (Nat → Int32) × (Nat → Nat → Int32)) t => va_P D xcl (moW h mm kA u.1 u.2) t.heap ∧ va_D (va_A (moW h mm kA v g) sz) (moW h mm kA u.1 u.2)) (va_A (moW h mm kA v g) sz)) 0 0 (va_A (moW h mm kA v g) sz) := by
  refine Met.ofW (cc := xb_Mo_isSplit) (maxL := 5) (ret := (some .boolean)) (by decide) rfl ?_
  intro p e s m args below meth c s₁ B hml hv
  obtain ⟨rfl, hsz, hP, hK, hD0⟩ := hv
  have hx := B.exec
  have hb := B.bytes
  have hr := B.returns
  have hT := x_hT B.pre
  have hown : s.vm.findClass xR_Mo = some m.cls := findClass_of_methodNamed B.named
  have hlocks := B.notSynchronized
  subst hsz
  have hD := hD0.self (sz := s.heap.size)
  generalize hAe : va_A (moW h mm kA v g) s.heap.size = A at hD ⊢
  have hA : ∀ q : Nat, s.heap.size ≤ q → A q := fun q h => by rw [← hAe]; exact Or.inr h
  have hS : va_S A s.heap s.heap [] := va_S.rf
  have hl := lv_entry ([.ref h, .int (nI ly), .int (nI d)]) (n := 5) (Nat.le_of_ble_eq_true rfl)
  rw [lg_entry_eq]
  generalize (lg_sl ([.ref h, .int (nI ly), .int (nI d)]) ++ List.replicate (5 - (lg_sl ([.ref h, .int (nI ly), .int (nI d)])).length) Slot.unset).toArray = ls at hl ⊢
  have hl : lv_has ls 5 [(0, .ref h), (1, .int (nI ly)), (2, .int (nI d))] := hl
  have hP : va_P D xcl (moW h mm kA v g) s.heap := hP
  obtain ⟨-, -, -, hpk, hrq, hmd, -⟩ := id hMI
  refine lv_aload_n hx hb xd_Mo_isSplit_0 rfl (lv_at hl 0 rfl) ?_
  refine lv_iload_n hx hb xd_Mo_isSplit_1 rfl (lv_at hl 1 rfl) ?_
  refine lv_iload_n hx hb xd_Mo_isSplit_2 rfl (lv_at hl 2 rfl) ?_
  have hFc := va_free (wc := (moW h mm kA v g)) hD hS hA [0, 1, 2, 3, 4, 5, 6, 7, 8, 9, 10, 11, 12, 13, 14, 15, 16, 17, 18, 19, 20, 21, 22, 23, 24, 25] rfl
  refine va_callv (va_runV (As := [.int (nI ly), .int (nI d)]) (rest := []) ⟨hx, hb, hml, hown, hT⟩ (xc_Mo_readingX l D kA s.heap.size h mm v g ly d np (by first | assumption | omega) (by first | assumption | omega) (by first | assumption | omega) (by first | assumption | omega) (by first | assumption | omega)) (cwV 2 hT (wT_V k4n_17 k4n_18 k4n_19 k4n_6 k4n_16) rfl rfl rfl (by decide +kernel) ⟨Nat.le_of_ble_eq_true rfl, Nat.le_of_ble_eq_true rfl⟩) (x_preV hK hP hD 0 rfl rfl) rfl rfl hl.1 rfl (lv_room (Nat.le_of_ble_eq_true rfl)) xd_Mo_isSplit_3 ⟨Nat.le_of_ble_eq_true rfl, Nat.le_of_ble_eq_true rfl⟩) hS (fun q _ h => hFc q h) hFc (fun u2 t H1 locs ht hvm hp3 hB hz1 hk1 hS => ?_)
  obtain ⟨hP1, hD1⟩ := hB
  rw [ht] at hP1
  have hD1 := hD1.weaken (fun _ _ _ h => hFc _ h)
  obtain ⟨v4, g5⟩ := u2
  generalize H1 = H at hP1 hS ⊢
  have hP := hP1
  have hD := hD1
  have hP : va_P D xcl (moW h mm kA v4 g5) H := hP
  have hD : va_D A (moW h mm kA v4 g5) := hD
  obtain ⟨hu9, hfr9, hbz9, hsn9, hrd9⟩ := hp3
  have hu9 : v = v4 := hu9.symm
  subst hu9
  obtain ⟨fs6, hge⟩ : ∃ z, g5 = va_up g 24 z := ⟨_, g24 (fun j h => (hfr9 j h).trans (by first | rfl | simp [va_up, h]))⟩
  subst hge
  have hP : va_P D xcl (moW h mm kA v (va_up g 24 fs6)) H := hP
  have hD : va_D A (moW h mm kA v (va_up g 24 fs6)) := hD
  have hrd9 : ∀ b, b < 72 → (¬ fs6 b = 0 ↔ rdQ g ly d b) := hrd9
  refine lv_iconst (v := 0) hx hb xd_Mo_isSplit_6 (by decide) ?_
  refine lv_istore_n hx hb xd_Mo_isSplit_7 rfl hl (Nat.le_of_ble_eq_true rfl) rfl (fun ls hl => ?_)
  have hl : lv_has ls 5 [(3, .int 0), (0, .ref h), (1, .int (nI ly)), (2, .int (nI d))] := hl
  refine xlab (σ := Nat) (ml := 5) 8 (fun (m3 : Nat) => [(3, .int (nI m3)), (0, .ref h), (1, .int (nI ly)), (2, .int (nI d))]) (fun (m3 : Nat) => []) (fun (m3 : Nat) => moW h mm kA v (va_up g 24 fs6)) (fun (m3 : Nat) => (m3 ≤ 72) ∧ (∀ m, m < m3 → ¬ (¬ fs6 m = 0 ∧ ∃ p, 6 * (m % 12) ≤ p ∧ p < 6 * (m % 12) + iN (g 5 (m % 12)) ∧ spB g (fun m => ¬ fs6 m = 0) d m p))) (fun (m3 : Nat) => 72 - m3) ?_ 0 _ _ _ (lv_sub hl [0, 1, 2, 3] rfl) hP hD hS ⟨(show 0 ≤ 72 from by first | assumption | omega), (show ∀ m, m < 0 → ¬ (¬ fs6 m = 0 ∧ ∃ p, 6 * (m % 12) ≤ p ∧ p < 6 * (m % 12) + iN (g 5 (m % 12)) ∧ spB g (fun m => ¬ fs6 m = 0) d m p) from fun m h => absurd h (by omega))⟩
  intro n9 ih7 a9 ls H locs hμ hl hP hD hS hI
  subst hμ
  obtain ⟨m3, rfl⟩ : ∃ z, z = a9 := ⟨_, rfl⟩
  obtain ⟨hm3, hno3⟩ := hI
  have hm3 : m3 ≤ 72 := hm3
  have hno3 : ∀ m, m < m3 → ¬ (¬ fs6 m = 0 ∧ ∃ p, 6 * (m % 12) ≤ p ∧ p < 6 * (m % 12) + iN (g 5 (m % 12)) ∧ spB g (fun m => ¬ fs6 m = 0) d m p) := hno3
  have hl : lv_has ls 5 [(3, .int (nI m3)), (0, .ref h), (1, .int (nI ly)), (2, .int (nI d))] := hl
  have hP : va_P D xcl (moW h mm kA v (va_up g 24 fs6)) H := hP
  have hD : va_D A (moW h mm kA v (va_up g 24 fs6)) := hD
  refine lv_iload_n hx hb xd_Mo_isSplit_8 rfl (lv_at hl 0 rfl) ?_
  refine lv_bipush (v := 72) hx hb xd_Mo_isSplit_9 (by decide) ?_
  refine xn_ge (a := m3) (b := 72) (tgt := 119) hx hb xd_Mo_isSplit_11 (by decide) (by omega) (by omega) (fun hc8 => ?_) (fun hc8 => ?_)
  · refine lv_iconst (v := 0) hx hb xd_Mo_isSplit_119 (by decide) ?_
    exact W.zret (v := 0) hx hb hr rfl (fun t ht hW => ⟨⟨0, (v, (va_up g 24 fs6)), rfl, ⟨rfl, fun j h1 => by simp [va_up, h1], Or.inr ⟨rfl, fun q => by
        obtain ⟨m, q1, q2⟩ := (spQ_iff (Q := (fun m => ¬ fs6 m = 0)) hrd9).mpr q
        exact hno3 m (by omega) q2⟩⟩, by rw [ht]; exact hP, hD⟩, hS.F ht⟩) hS.2.2 xd_Mo_isSplit_120
  · obtain ⟨pkc, hpkc, epkc⟩ := hpk (m3 % 12) (by omega)
    refine lv_bipush (v := 6) hx hb xd_Mo_isSplit_14 (by decide) ?_
    refine lv_iload_n hx hb xd_Mo_isSplit_16 rfl (lv_at hl 0 rfl) ?_
    refine lv_bipush (v := 12) hx hb xd_Mo_isSplit_17 (by decide) ?_
    refine lv_irem hx hb xd_Mo_isSplit_19 (by decide) ?_
    refine xn_top (y := nI (m3 % 12)) (pk_rem (a := m3) (d := 12) (by omega) (by decide) (by decide)) ?_
    refine lv_imul hx hb xd_Mo_isSplit_20 ?_
    refine xn_top (y := nI (6 * (m3 % 12))) (pk_mul 6 (m3 % 12)) ?_
    refine lv_istore hx hb xd_Mo_isSplit_21 hl (Nat.le_of_ble_eq_true rfl) rfl (fun ls hl => ?_)
    have hl : lv_has ls 5 [(4, .int (nI (6 * (m3 % 12)))), (3, .int (nI m3)), (0, .ref h), (1, .int (nI ly)), (2, .int (nI d))] := hl
    refine xlab (σ := Nat) (ml := 5) 23 (fun (p4 : Nat) => [(4, .int (nI p4)), (3, .int (nI m3)), (0, .ref h), (1, .int (nI ly)), (2, .int (nI d))]) (fun (p4 : Nat) => []) (fun (p4 : Nat) => moW h mm kA v (va_up g 24 fs6)) (fun (p4 : Nat) => (6 * (m3 % 12) ≤ p4) ∧ (p4 ≤ 6 * (m3 % 12) + pkc) ∧ (∀ p, 6 * (m3 % 12) ≤ p → p < p4 → ¬ spB g (fun m => ¬ fs6 m = 0) d m3 p)) (fun (p4 : Nat) => 6 * (m3 % 12) + pkc - p4) ?_ (6 * (m3 % 12)) _ _ _ (lv_sub hl [0, 1, 2, 3, 4] rfl) hP hD hS ⟨(show 6 * (m3 % 12) ≤ (6 * (m3 % 12)) from by first | assumption | omega), (show (6 * (m3 % 12)) ≤ 6 * (m3 % 12) + pkc from by first | assumption | omega), (show ∀ p, 6 * (m3 % 12) ≤ p → p < (6 * (m3 % 12)) → ¬ spB g (fun m => ¬ fs6 m = 0) d m3 p from fun p h1 h2 => absurd h2 (by omega))⟩
    intro n9 ih9 a9 ls H locs hμ hl hP hD hS hI
    subst hμ
    obtain ⟨p4, rfl⟩ : ∃ z, z = a9 := ⟨_, rfl⟩
    obtain ⟨hp41, hp42, hno4⟩ := hI
    have hp41 : 6 * (m3 % 12) ≤ p4 := hp41
    have hp42 : p4 ≤ 6 * (m3 % 12) + pkc := hp42
    have hno4 : ∀ p, 6 * (m3 % 12) ≤ p → p < p4 → ¬ spB g (fun m => ¬ fs6 m = 0) d m3 p := hno4
    have hl : lv_has ls 5 [(4, .int (nI p4)), (3, .int (nI m3)), (0, .ref h), (1, .int (nI ly)), (2, .int (nI d))] := hl
    have hP : va_P D xcl (moW h mm kA v (va_up g 24 fs6)) H := hP
    have hD : va_D A (moW h mm kA v (va_up g 24 fs6)) := hD
    refine lv_aload_n hx hb xd_Mo_isSplit_23 rfl (lv_at hl 2 rfl) ?_
    refine va_get (D := D) (ci := 4) (v := .ref (mm 24)) (C := xR_Mo) (T := xT_Mo) (N := 31) hx hb hT xi_Mo hown hK.1 hP 0 rfl rfl 30 (by decide) (hT _ k4n_7) (fun _ h9 => h9) rfl xd_Mo_isSplit_24 ?_
    refine lv_iload_n hx hb xd_Mo_isSplit_27 rfl (lv_at hl 1 rfl) ?_
    refine xn_zald (i := m3) hx hb hK.1 hP 25 2 rfl rfl (by omega) (by decide) xd_Mo_isSplit_28 ?_
    refine lv_if_eq (tgt := 113) hx hb xd_Mo_isSplit_29 (by decide) (fun hc10 => ?_) (fun hc10 => ?_)
    · refine lv_iinc (k := 1) (x := (nI m3)) (v := (nI (m3 + 1))) hx hb xd_Mo_isSplit_113 hl rfl (xb_inc m3 1) (Nat.le_of_ble_eq_true rfl) rfl (fun ls hl => ?_)
      have hl : lv_has ls 5 [(3, .int (nI (m3 + 1))), (4, .int (nI p4)), (0, .ref h), (1, .int (nI ly)), (2, .int (nI d))] := hl
      refine lv_goto (tgt := 8) hx hb xd_Mo_isSplit_116 (by decide) ?_
      exact ih7 (m3 + 1) _ _ _ (show 72 - (m3 + 1) < 72 - m3 by omega) (lv_sub hl [0, 2, 3, 4] rfl) hP hD hS ⟨(show (m3 + 1) ≤ 72 from by first | assumption | omega), (show ∀ m, m < (m3 + 1) → ¬ (¬ fs6 m = 0 ∧ ∃ p, 6 * (m % 12) ≤ p ∧ p < 6 * (m % 12) + iN (g 5 (m % 12)) ∧ spB g (fun m => ¬ fs6 m = 0) d m p) from fun m h ⟨q1, q2⟩ => by
        rcases Nat.lt_or_ge m m3 with z | z
        · exact hno3 m z ⟨q1, q2⟩
        · rw [show m = m3 by omega] at q1 q2; exact absurd hc10 q1)⟩
    · refine lv_iload hx hb xd_Mo_isSplit_32 (lv_at hl 0 rfl) ?_
      refine lv_bipush (v := 6) hx hb xd_Mo_isSplit_34 (by decide) ?_
      refine lv_iload_n hx hb xd_Mo_isSplit_36 rfl (lv_at hl 1 rfl) ?_
      refine lv_bipush (v := 12) hx hb xd_Mo_isSplit_37 (by decide) ?_
      refine lv_irem hx hb xd_Mo_isSplit_39 (by decide) ?_
      refine xn_top (y := nI (m3 % 12)) (pk_rem (a := m3) (d := 12) (by omega) (by decide) (by decide)) ?_
      refine lv_imul hx hb xd_Mo_isSplit_40 ?_
      refine xn_top (y := nI (6 * (m3 % 12))) (pk_mul 6 (m3 % 12)) ?_
      refine lv_aload_n hx hb xd_Mo_isSplit_41 rfl (lv_at hl 2 rfl) ?_
      refine va_get (D := D) (ci := 4) (v := .ref (mm 5)) (C := xR_Mo) (T := xT_Mo) (N := 31) hx hb hT xi_Mo hown hK.1 hP 0 rfl rfl 10 (by decide) (hT _ k4n_20) (fun _ h9 => h9) rfl xd_Mo_isSplit_42 ?_
      refine lv_iload_n hx hb xd_Mo_isSplit_45 rfl (lv_at hl 1 rfl) ?_
      refine lv_bipush (v := 12) hx hb xd_Mo_isSplit_46 (by decide) ?_
      refine lv_irem hx hb xd_Mo_isSplit_48 (by decide) ?_
      refine xn_top (y := nI (m3 % 12)) (pk_rem (a := m3) (d := 12) (by omega) (by decide) (by decide)) ?_
      refine xn_iald (i := m3 % 12) hx hb hK.1 hP 6 0 rfl rfl (by omega) (by decide) xd_Mo_isSplit_49 ?_
      refine xn_top (x := (g 5 (m3 % 12))) (y := nI pkc) epkc ?_
      refine lv_iadd hx hb xd_Mo_isSplit_50 ?_
      refine xn_top (y := nI ((6 * (m3 % 12)) + pkc)) (nI_add (6 * (m3 % 12)) pkc) ?_
      refine xn_ge (a := p4) (b := (6 * (m3 % 12)) + pkc) (tgt := 113) hx hb xd_Mo_isSplit_51 (by decide) (by omega) (by omega) (fun hc11 => ?_) (fun hc11 => ?_)
      · refine lv_iinc (k := 1) (x := (nI m3)) (v := (nI (m3 + 1))) hx hb xd_Mo_isSplit_113 hl rfl (xb_inc m3 1) (Nat.le_of_ble_eq_true rfl) rfl (fun ls hl => ?_)
        have hl : lv_has ls 5 [(3, .int (nI (m3 + 1))), (4, .int (nI p4)), (0, .ref h), (1, .int (nI ly)), (2, .int (nI d))] := hl
        refine lv_goto (tgt := 8) hx hb xd_Mo_isSplit_116 (by decide) ?_
        exact ih7 (m3 + 1) _ _ _ (show 72 - (m3 + 1) < 72 - m3 by omega) (lv_sub hl [0, 2, 3, 4] rfl) hP hD hS ⟨(show (m3 + 1) ≤ 72 from by first | assumption | omega), (show ∀ m, m < (m3 + 1) → ¬ (¬ fs6 m = 0 ∧ ∃ p, 6 * (m % 12) ≤ p ∧ p < 6 * (m % 12) + iN (g 5 (m % 12)) ∧ spB g (fun m => ¬ fs6 m = 0) d m p) from fun m h ⟨q1, q2⟩ => by
        rcases Nat.lt_or_ge m m3 with z | z
        · exact hno3 m z ⟨q1, q2⟩
        · rw [show m = m3 by omega] at q1 q2; exact (by
            obtain ⟨p, h1, h2, h3⟩ := q2
            exact hno4 p h1 (by rw [epkc, iN_nI (by omega)] at h2; omega) h3))⟩
      · refine lv_aload_n hx hb xd_Mo_isSplit_54 rfl (lv_at hl 2 rfl) ?_
        refine lv_iload hx hb xd_Mo_isSplit_55 (lv_at hl 0 rfl) ?_
        refine lv_aload_n hx hb xd_Mo_isSplit_57 rfl (lv_at hl 2 rfl) ?_
        refine va_get (D := D) (ci := 4) (v := .ref (mm 4)) (C := xR_Mo) (T := xT_Mo) (N := 31) hx hb hT xi_Mo hown hK.1 hP 0 rfl rfl 9 (by decide) (hT _ k4n_21) (fun _ h9 => h9) rfl xd_Mo_isSplit_58 ?_
        refine lv_iload_n hx hb xd_Mo_isSplit_61 rfl (lv_at hl 4 rfl) ?_
        refine xn_iald (i := d) hx hb hK.1 hP 5 0 rfl rfl (by omega) (by decide) xd_Mo_isSplit_62 ?_
        have hFc := va_free (wc := (moW h mm kA v (va_up g 24 fs6))) hD hS hA [0, 1, 2, 3, 4, 5, 6, 7, 8, 9, 10, 11, 12, 13, 14, 15, 16, 17, 18, 19, 20, 21, 22, 23, 24, 25] rfl
        refine va_calli (va_runV (As := [.int (nI p4), .int (g 4 d)]) (rest := []) ⟨hx, hb, hml, hown, hT⟩ (xc_Mo_exportsX l D kA H.size h mm v (va_up g 24 fs6) p4 (g 4 d) (by first | assumption | omega)) (cwV 2 hT (wT_V k4n_13 k4n_14 k4n_15 k4n_6 k4n_12) rfl rfl rfl (by decide +kernel) ⟨Nat.le_of_ble_eq_true rfl, Nat.le_of_ble_eq_true rfl⟩) (x_preV hK hP hD 0 rfl rfl) rfl rfl hl.1 rfl (lv_room (Nat.le_of_ble_eq_true rfl)) xd_Mo_isSplit_63 ⟨Nat.le_of_ble_eq_true rfl, Nat.le_of_ble_eq_true rfl⟩) hS (fun q _ h => hFc q h) hFc (fun r12 u13 t H1 locs ht hvm hp14 hB hz1 hk1 hS => ?_)
        obtain ⟨hP1, hD1⟩ := hB
        rw [ht] at hP1
        have hD1 := hD1.weaken (fun _ _ _ h => hFc _ h)
        generalize H1 = H at hP1 hS ⊢
        have hP := hP1
        have hD := hD1
        have hP : va_P D xcl (moW h mm kA v (va_up g 24 fs6)) H := hP
        have hD : va_D A (moW h mm kA v (va_up g 24 fs6)) := hD
        rcases hp14 with ⟨rfl, z15⟩ | ⟨rfl, z16⟩
        · have hex9 : exP g p4 (g 4 d) := z15
          refine xz_eq (a := 1) (tgt := 107) hx hb xd_Mo_isSplit_66 (by decide) (by omega) (fun hc17 => absurd hc17 (by omega)) (fun _ => ?_)
          obtain ⟨pke, hpke, epke⟩ := hpk d (by omega)
          refine lv_aload_n hx hb xd_Mo_isSplit_69 rfl (lv_at hl 2 rfl) ?_
          refine lv_iload_n hx hb xd_Mo_isSplit_70 rfl (lv_at hl 4 rfl) ?_
          refine lv_aload_n hx hb xd_Mo_isSplit_71 rfl (lv_at hl 2 rfl) ?_
          refine va_get (D := D) (ci := 4) (v := .ref (mm 6)) (C := xR_Mo) (T := xT_Mo) (N := 31) hx hb hT xi_Mo hown hK.1 hP 0 rfl rfl 11 (by decide) (hT _ k4n_22) (fun _ h9 => h9) rfl xd_Mo_isSplit_72 ?_
          refine lv_iload hx hb xd_Mo_isSplit_75 (lv_at hl 0 rfl) ?_
          refine xn_iald (i := p4) hx hb hK.1 hP 7 0 rfl rfl (by omega) (by decide) xd_Mo_isSplit_77 ?_
          have hFc := va_free (wc := (moW h mm kA v (va_up g 24 fs6))) hD hS hA [0, 1, 2, 3, 4, 5, 6, 7, 8, 9, 10, 11, 12, 13, 14, 15, 16, 17, 18, 19, 20, 21, 22, 23, 24, 25] rfl
          refine va_calli (va_runV (As := [.int (nI d), .int (g 6 p4)]) (rest := []) ⟨hx, hb, hml, hown, hT⟩ (xc_Mo_packageOfX l D kA H.size h mm v (va_up g 24 fs6) d (g 6 p4) pke (by first | assumption | omega) (by first | assumption | omega) (by first | assumption | omega)) (cwV 2 hT (wT_V k4n_9 k4n_10 k4n_11 k4n_6 k4n_8) rfl rfl rfl (by decide +kernel) ⟨Nat.le_of_ble_eq_true rfl, Nat.le_of_ble_eq_true rfl⟩) (x_preV hK hP hD 0 rfl rfl) rfl rfl hl.1 rfl (lv_room (Nat.le_of_ble_eq_true rfl)) xd_Mo_isSplit_78 ⟨Nat.le_of_ble_eq_true rfl, Nat.le_of_ble_eq_true rfl⟩) hS (fun q _ h => hFc q h) hFc (fun r18 u19 t H1 locs ht hvm hp20 hB hz1 hk1 hS => ?_)
          obtain ⟨hP1, hD1⟩ := hB
          rw [ht] at hP1
          have hD1 := hD1.weaken (fun _ _ _ h => hFc _ h)
          generalize H1 = H at hP1 hS ⊢
          have hP := hP1
          have hD := hD1
          have hP : va_P D xcl (moW h mm kA v (va_up g 24 fs6)) H := hP
          have hD : va_D A (moW h mm kA v (va_up g 24 fs6)) := hD
          rcases hp20 with ⟨z21, z22, z23, rfl, z24, z25⟩ | ⟨rfl, z26⟩
          · have hpk9 : ∃ i, pI g d (g 6 p4) = some i := ⟨_, pI_some epke (by omega) z22 z23 z24 z25⟩
            refine xz_ge (a := z21) (tgt := 105) hx hb xd_Mo_isSplit_81 (by decide) (by omega) ?_
            refine lv_iconst (v := 1) hx hb xd_Mo_isSplit_105 (by decide) ?_
            exact W.zret (v := 1) hx hb hr rfl (fun t ht hW => ⟨⟨1, (v, (va_up g 24 fs6)), rfl, ⟨rfl, fun j h1 => by simp [va_up, h1], Or.inl ⟨rfl, (spQ_iff (Q := (fun m => ¬ fs6 m = 0)) hrd9).mp ⟨m3, by omega, hc10, p4, hp41, by rw [epkc, iN_nI (by omega)]; omega, hex9, Or.inl hpk9⟩⟩⟩, by rw [ht]; exact hP, hD⟩, hS.F ht⟩) hS.2.2 xd_Mo_isSplit_106
          · have hpk9 : ¬ ∃ i, pI g d (g 6 p4) = some i := fun ⟨i, q⟩ => by rw [pI_none epke (by omega) z26] at q; cases q
            refine lv_if_ge (tgt := 105) hx hb xd_Mo_isSplit_81 (by decide) (fun hc28 => absurd hc28 (by decide)) (fun _ => ?_)
            refine lv_aload_n hx hb xd_Mo_isSplit_84 rfl (lv_at hl 2 rfl) ?_
            refine lv_iload_n hx hb xd_Mo_isSplit_85 rfl (lv_at hl 1 rfl) ?_
            refine lv_aload_n hx hb xd_Mo_isSplit_86 rfl (lv_at hl 2 rfl) ?_
            refine va_get (D := D) (ci := 4) (v := .ref (mm 6)) (C := xR_Mo) (T := xT_Mo) (N := 31) hx hb hT xi_Mo hown hK.1 hP 0 rfl rfl 11 (by decide) (hT _ k4n_22) (fun _ h9 => h9) rfl xd_Mo_isSplit_87 ?_
            refine lv_iload hx hb xd_Mo_isSplit_90 (lv_at hl 0 rfl) ?_
            refine xn_iald (i := p4) hx hb hK.1 hP 7 0 rfl rfl (by omega) (by decide) xd_Mo_isSplit_92 ?_
            refine lv_aload_n hx hb xd_Mo_isSplit_93 rfl (lv_at hl 2 rfl) ?_
            refine va_get (D := D) (ci := 4) (v := .ref (mm 4)) (C := xR_Mo) (T := xT_Mo) (N := 31) hx hb hT xi_Mo hown hK.1 hP 0 rfl rfl 9 (by decide) (hT _ k4n_21) (fun _ h9 => h9) rfl xd_Mo_isSplit_94 ?_
            refine lv_iload_n hx hb xd_Mo_isSplit_97 rfl (lv_at hl 4 rfl) ?_
            refine xn_iald (i := d) hx hb hK.1 hP 5 0 rfl rfl (by omega) (by decide) xd_Mo_isSplit_98 ?_
            have hFc := va_free (wc := (moW h mm kA v (va_up g 24 fs6))) hD hS hA [0, 1, 2, 3, 4, 5, 6, 7, 8, 9, 10, 11, 12, 13, 14, 15, 16, 17, 18, 19, 20, 21, 22, 23, 24, 25] rfl
            refine va_calli (va_runV (As := [.int (nI m3), .int (g 6 p4), .int (g 4 d)]) (rest := []) ⟨hx, hb, hml, hown, hT⟩ (xc_Mo_isElsewhereX l D kA H.size h mm v (va_up g 24 fs6) m3 (g 6 p4) (g 4 d) (by first | assumption | omega) (by first | assumption | omega)) (cwV 3 hT (wT_V k4n_24 k4n_25 k4n_26 k4n_6 k4n_23) rfl rfl rfl (by decide +kernel) ⟨Nat.le_of_ble_eq_true rfl, Nat.le_of_ble_eq_true rfl⟩) (x_preV hK hP hD 0 rfl rfl) rfl rfl hl.1 rfl (lv_room (Nat.le_of_ble_eq_true rfl)) xd_Mo_isSplit_99 ⟨Nat.le_of_ble_eq_true rfl, Nat.le_of_ble_eq_true rfl⟩) hS (fun q _ h => hFc q h) hFc (fun r29 u30 t H1 locs ht hvm hp31 hB hz1 hk1 hS => ?_)
            obtain ⟨hP1, hD1⟩ := hB
            rw [ht] at hP1
            have hD1 := hD1.weaken (fun _ _ _ h => hFc _ h)
            generalize H1 = H at hP1 hS ⊢
            have hP := hP1
            have hD := hD1
            have hP : va_P D xcl (moW h mm kA v (va_up g 24 fs6)) H := hP
            have hD : va_D A (moW h mm kA v (va_up g 24 fs6)) := hD
            rcases hp31 with ⟨rfl, z32⟩ | ⟨rfl, z33⟩
            · have hel9 : elK g (fun m => ¬ fs6 m = 0) m3 (g 6 p4) (g 4 d) 72 := z32
              refine xz_eq (a := 1) (tgt := 107) hx hb xd_Mo_isSplit_102 (by decide) (by omega) (fun hc34 => absurd hc34 (by omega)) (fun _ => ?_)
              refine lv_iconst (v := 1) hx hb xd_Mo_isSplit_105 (by decide) ?_
              exact W.zret (v := 1) hx hb hr rfl (fun t ht hW => ⟨⟨1, (v, (va_up g 24 fs6)), rfl, ⟨rfl, fun j h1 => by simp [va_up, h1], Or.inl ⟨rfl, (spQ_iff (Q := (fun m => ¬ fs6 m = 0)) hrd9).mp ⟨m3, by omega, hc10, p4, hp41, by rw [epkc, iN_nI (by omega)]; omega, hex9, Or.inr hel9⟩⟩⟩, by rw [ht]; exact hP, hD⟩, hS.F ht⟩) hS.2.2 xd_Mo_isSplit_106
            · have hel9 : ¬ elK g (fun m => ¬ fs6 m = 0) m3 (g 6 p4) (g 4 d) 72 := z33
              refine xz_eq (a := 0) (tgt := 107) hx hb xd_Mo_isSplit_102 (by decide) (by omega) (fun _ => ?_) (fun hc35 => absurd hc35 (by omega))
              refine lv_iinc (k := 0) (x := (nI p4)) (v := (nI (p4 + 1))) hx hb xd_Mo_isSplit_107 hl rfl (xb_inc p4 1) (Nat.le_of_ble_eq_true rfl) rfl (fun ls hl => ?_)
              have hl : lv_has ls 5 [(4, .int (nI (p4 + 1))), (3, .int (nI m3)), (0, .ref h), (1, .int (nI ly)), (2, .int (nI d))] := hl
              refine lv_goto (tgt := 23) hx hb xd_Mo_isSplit_110 (by decide) ?_
              exact ih9 (p4 + 1) _ _ _ (show 6 * (m3 % 12) + pkc - (p4 + 1) < 6 * (m3 % 12) + pkc - p4 by omega) (lv_sub hl [0, 1, 2, 3, 4] rfl) hP hD hS ⟨(show 6 * (m3 % 12) ≤ (p4 + 1) from by first | assumption | omega), (show (p4 + 1) ≤ 6 * (m3 % 12) + pkc from by first | assumption | omega), (show ∀ p, 6 * (m3 % 12) ≤ p → p < (p4 + 1) → ¬ spB g (fun m => ¬ fs6 m = 0) d m3 p from fun p h1 h2 q => by
        rcases Nat.lt_or_ge p p4 with z | z
        · exact hno4 p h1 z q
        · rw [show p = p4 by omega] at q; exact q.2.elim hpk9 hel9)⟩
        · have hex9 : ¬ exP g p4 (g 4 d) := z16
          refine xz_eq (a := 0) (tgt := 107) hx hb xd_Mo_isSplit_66 (by decide) (by omega) (fun _ => ?_) (fun hc36 => absurd hc36 (by omega))
          refine lv_iinc (k := 0) (x := (nI p4)) (v := (nI (p4 + 1))) hx hb xd_Mo_isSplit_107 hl rfl (xb_inc p4 1) (Nat.le_of_ble_eq_true rfl) rfl (fun ls hl => ?_)
          have hl : lv_has ls 5 [(4, .int (nI (p4 + 1))), (3, .int (nI m3)), (0, .ref h), (1, .int (nI ly)), (2, .int (nI d))] := hl
          refine lv_goto (tgt := 23) hx hb xd_Mo_isSplit_110 (by decide) ?_
          exact ih9 (p4 + 1) _ _ _ (show 6 * (m3 % 12) + pkc - (p4 + 1) < 6 * (m3 % 12) + pkc - p4 by omega) (lv_sub hl [0, 1, 2, 3, 4] rfl) hP hD hS ⟨(show 6 * (m3 % 12) ≤ (p4 + 1) from by first | assumption | omega), (show (p4 + 1) ≤ 6 * (m3 % 12) + pkc from by first | assumption | omega), (show ∀ p, 6 * (m3 % 12) ≤ p → p < (p4 + 1) → ¬ spB g (fun m => ¬ fs6 m = 0) d m3 p from fun p h1 h2 q => by
        rcases Nat.lt_or_ge p p4 with z | z
        · exact hno4 p h1 z q
        · rw [show p = p4 by omega] at q; exact hex9 q.1)⟩
