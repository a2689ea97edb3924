theorem k4j_0 : (Cond.fieldLink "LayerDeskModel" 150 "LayerDeskModel" "layers" "I") ∈ wT := wT_t (List.mem_append_right _ (List.mem_append_right _ (List.mem_append_right _ (List.mem_append_left _ (List.mem_of_getElem? (i := 107) rfl))))) rfl
theorem k4j_1 : (Cond.fieldLink "LayerDeskModel" 140 "LayerDeskModel" "descriptors" "I") ∈ wT := wT_t (List.mem_append_right _ (List.mem_append_right _ (List.mem_append_right _ (List.mem_append_left _ (List.mem_of_getElem? (i := 91) rfl))))) rfl
theorem k4j_2 : (Cond.fieldLink "LayerDeskModel" 54 "LayerDeskModel" "use" "[I") ∈ wT := wT_t (List.mem_append_right _ (List.mem_append_right _ (List.mem_append_right _ (List.mem_append_left _ (List.mem_of_getElem? (i := 103) rfl))))) rfl
theorem k4j_3 : (Cond.fieldLink "LayerDeskModel" 20 "LayerDeskModel" "finder" "[I") ∈ wT := wT_t (List.mem_append_right _ (List.mem_append_right _ (List.mem_append_right _ (List.mem_append_left _ (List.mem_of_getElem? (i := 92) rfl))))) rfl
theorem k4j_4 : (Cond.fieldLink "LayerDeskModel" 66 "LayerDeskModel" "finderOf" "[I") ∈ wT := wT_t (List.mem_append_right _ (List.mem_append_right _ (List.mem_append_right _ (List.mem_append_left _ (List.mem_of_getElem? (i := 108) rfl))))) rfl
theorem k4j_5 : (Cond.code xy_Mo_isIn xb_Mo_isIn 5 (some .boolean)) ∈ wT := wT_t (List.mem_append_right _ (List.mem_append_right _ (List.mem_append_right _ (List.mem_append_right _ (List.mem_of_getElem? (i := 24) rfl))))) rfl
theorem k4j_6 : (Cond.methodLink "LayerDeskModel" 156 xy_Mo_isIn) ∈ wT := wT_t (List.mem_append_right _ (List.mem_append_right _ (List.mem_append_right _ (List.mem_append_right _ (List.mem_of_getElem? (i := 21) rfl))))) rfl
theorem k4j_7 : (Cond.instanceMethod xy_Mo_isIn) ∈ wT := wT_t (List.mem_append_right _ (List.mem_append_right _ (List.mem_append_right _ (List.mem_append_right _ (List.mem_of_getElem? (i := 23) rfl))))) rfl
theorem k4j_8 : (Cond.selects "LayerDeskModel" xy_Mo_isIn xy_Mo_isIn) ∈ wT := wT_s (q := (xy_Mo_isIn, 31)) (by decide +kernel) rfl
theorem k4j_9 : (Cond.initialized "LayerDeskModel") ∈ wT := wT_t (List.mem_append_left _ (List.mem_of_getElem? (i := 5) rfl)) rfl
theorem k4j_10 : (Cond.fieldLink "LayerDeskModel" 72 "LayerDeskModel" "modules" "[I") ∈ wT := wT_t (List.mem_append_right _ (List.mem_append_right _ (List.mem_append_right _ (List.mem_append_left _ (List.mem_of_getElem? (i := 110) rfl))))) rfl
theorem k4j_11 : (Cond.fieldLink "LayerDeskModel" 23 "LayerDeskModel" "name" "[I") ∈ wT := wT_t (List.mem_append_right _ (List.mem_append_right _ (List.mem_append_right _ (List.mem_append_left _ (List.mem_of_getElem? (i := 93) rfl))))) rfl
theorem k4j_12 : (Cond.code xy_Mo_adds xb_Mo_adds 6 (some .boolean)) ∈ wT := wT_t (List.mem_append_right _ (List.mem_append_right _ (List.mem_append_right _ (List.mem_append_right _ (List.mem_of_getElem? (i := 16) rfl))))) rfl
theorem k4j_13 : (Cond.methodLink "LayerDeskModel" 160 xy_Mo_adds) ∈ wT := wT_t (List.mem_append_right _ (List.mem_append_right _ (List.mem_append_right _ (List.mem_append_right _ (List.mem_of_getElem? (i := 13) rfl))))) rfl
theorem k4j_14 : (Cond.instanceMethod xy_Mo_adds) ∈ wT := wT_t (List.mem_append_right _ (List.mem_append_right _ (List.mem_append_right _ (List.mem_append_right _ (List.mem_of_getElem? (i := 15) rfl))))) rfl
theorem k4j_15 : (Cond.selects "LayerDeskModel" xy_Mo_adds xy_Mo_adds) ∈ wT := wT_s (q := (xy_Mo_adds, 31)) (by decide +kernel) rfl
theorem k4j_16 : (Cond.fieldLink "LayerDeskModel" 57 "LayerDeskModel" "provide" "[I") ∈ wT := wT_t (List.mem_append_right _ (List.mem_append_right _ (List.mem_append_right _ (List.mem_append_left _ (List.mem_of_getElem? (i := 104) rfl))))) rfl
set_option maxHeartbeats 4000000 in
set_option maxRecDepth 100000 in
theorem xc_Mo_bindsForX (l : Launch) (D : va_G) (kA : Nat → ClassId) (sz h : Nat) (mm : Nat → Nat) (v : Nat → Int32) (g : Nat → Nat → Int32) (us : Nat) (nd : Nat) (nl : Nat) (lq : Nat) (L0 : List Nat) (hMI : MI v g) (hnd : v 4 = nI nd) (hnd12 : nd ≤ 12) (hnl : v 5 = nI nl) (hnl5 : nl ≤ 5) (hpn : ∀ la, la < nl + 1 → ∃ lq, lq ≤ la ∧ g 19 la = nI lq - 1) (hlqe : g 19 nl = nI lq - 1) (hlqn : lq ≤ nl) (hLT : LT (g 20) (g 21) nl L0) (hGL : GL nd L0) (hus : us < 12) : Met l xy_Mo_bindsFor (.code xy_Mo_bindsFor xb_Mo_bindsFor 9 (some .boolean) :: wT) { frames := 2, cells := 0, slots := 0, locals := 49 } (va_Pc [.ref h, .int (nI us)] (xPre D kA sz (moW h mm kA v g))) (va_Qi (fun (r : Int32) (u : (Nat → Int32) × (Nat → Nat → Int32)) => u.1 = v ∧ MI v u.2 ∧ (∀ j, j ≠ 20 → j ≠ 21 → j ≠ 23 → u.2 j = g j) ∧ RW g u.2 nl ∧ ∃ L1, GL nd L1 ∧ LT (u.2 20) (u.2 21) nl L1 ∧ bUg g nd (g 18 nl) lq us L0 = L1 ∧ ((r = 0 ∧ L1 = L0) ∨ (r = 1 ∧ L0.length < L1.length))) (fun (u : (Nat → Int32) × (Nat → Nat → Int32)) t => va_P D xcl (moW h mm kA u.1 u.2) t.heap ∧ va_D (va_A (moW h mm kA v g) sz) (moW h mm kA u.1 u.2)) (va_A (moW h mm kA v g) sz)) 0 0 (va_A (moW h mm kA v g) sz) := by
  refine Met.ofW (cc := xb_Mo_bindsFor) (maxL := 9) (ret := (some .boolean)) (by decide) rfl ?_
  intro p e s m args below meth c s₁ B hml hv
  obtain ⟨rfl, hsz, hP, hK, hD0⟩ := hv
  have hx := B.exec
  have hb := B.bytes
  have hr := B.returns
  have hT := x_hT B.pre
  have hown : s.vm.findClass xR_Mo = some m.cls := findClass_of_methodNamed B.named
  have hlocks := B.notSynchronized
  subst hsz
  have hD := hD0.self (sz := s.heap.size)
  generalize hAe : va_A (moW h mm kA v g) s.heap.size = A at hD ⊢
  have hA : ∀ q : Nat, s.heap.size ≤ q → A q := fun q h => by rw [← hAe]; exact Or.inr h
  have hS : va_S A s.heap s.heap [] := va_S.rf
  have hl := lv_entry ([.ref h, .int (nI us)]) (n := 9) (Nat.le_of_ble_eq_true rfl)
  rw [lg_entry_eq]
  generalize (lg_sl ([.ref h, .int (nI us)]) ++ List.replicate (9 - (lg_sl ([.ref h, .int (nI us)])).length) Slot.unset).toArray = ls at hl ⊢
  have hl : lv_has ls 9 [(0, .ref h), (1, .int (nI us))] := hl
  have hP : va_P D xcl (moW h mm kA v g) s.heap := hP
  obtain ⟨-, -, -, -, -, hmdg, huq⟩ := id hMI
  have hL0l := GL_len hGL
  refine lv_aload_n hx hb xd_Mo_bindsFor_0 rfl (lv_at hl 0 rfl) ?_
  refine va_get (D := D) (ci := 4) (v := .int (v 5)) (C := xR_Mo) (T := xT_Mo) (N := 31) hx hb hT xi_Mo hown hK.1 hP 0 rfl rfl 23 (by decide) (hT _ k4j_0) (fun _ h9 => h9) rfl xd_Mo_bindsFor_1 ?_
  refine xn_top (x := (v 5)) (y := nI nl) hnl ?_
  refine lv_istore_n hx hb xd_Mo_bindsFor_4 rfl hl (Nat.le_of_ble_eq_true rfl) rfl (fun ls hl => ?_)
  have hl : lv_has ls 9 [(2, .int (nI nl)), (0, .ref h), (1, .int (nI us))] := hl
  refine lv_iconst (v := 0) hx hb xd_Mo_bindsFor_5 (by decide) ?_
  refine lv_istore_n hx hb xd_Mo_bindsFor_6 rfl hl (Nat.le_of_ble_eq_true rfl) rfl (fun ls hl => ?_)
  have hl : lv_has ls 9 [(3, .int 0), (2, .int (nI nl)), (0, .ref h), (1, .int (nI us))] := hl
  refine lv_iconst (v := 3) hx hb xd_Mo_bindsFor_7 (by decide) ?_
  refine lv_iload_n hx hb xd_Mo_bindsFor_8 rfl (lv_at hl 3 rfl) ?_
  refine lv_imul hx hb xd_Mo_bindsFor_9 ?_
  refine xn_top (y := nI (3 * us)) (pk_mul 3 us) ?_
  refine lv_istore hx hb xd_Mo_bindsFor_10 hl (Nat.le_of_ble_eq_true rfl) rfl (fun ls hl => ?_)
  have hl : lv_has ls 9 [(4, .int (nI (3 * us))), (3, .int 0), (2, .int (nI nl)), (0, .ref h), (1, .int (nI us))] := hl
  refine xlab (σ := Nat × Int32 × List Nat × (Nat → Nat → Int32)) (ml := 9) 12 (fun (k, s9, L, g1) => [(4, .int (nI k)), (3, .int s9), (2, .int (nI nl)), (0, .ref h), (1, .int (nI us))]) (fun (k, s9, L, g1) => []) (fun (k, s9, L, g1) => moW h mm kA v g1) (fun (k, s9, L, g1) => (3 * us ≤ k) ∧ (k ≤ 3 * us + 3) ∧ (MI v g1) ∧ (∀ j, j ≠ 20 → j ≠ 21 → j ≠ 23 → g1 j = g j) ∧ (RW g g1 nl) ∧ (LT (g1 20) (g1 21) nl L) ∧ (GL nd L) ∧ (bUg g nd (g 18 nl) lq us L0 = bUs (bSv g nd (g 18 nl) lq) (g 14) (3 * us + 3 - k) k L) ∧ ((s9 = 0 ∧ L = L0) ∨ (s9 = 1 ∧ L0.length < L.length))) (fun (k, s9, L, g1) => 3 * us + 3 - k) ?_ (3 * us, 0, L0, g) _ _ _ (lv_sub hl [0, 1, 2, 3, 4] rfl) hP hD hS ⟨(show 3 * us ≤ (3 * us) from by first | assumption | omega), (show (3 * us) ≤ 3 * us + 3 from by first | assumption | omega), (show MI v g from hMI), (show ∀ j, j ≠ 20 → j ≠ 21 → j ≠ 23 → g j = g j from fun j h1 h2 h3 => rfl), (show RW g g nl from RW_rf), (show LT (g 20) (g 21) nl L0 from hLT), (show GL nd L0 from hGL), (show bUg g nd (g 18 nl) lq us L0 = bUs (bSv g nd (g 18 nl) lq) (g 14) (3 * us + 3 - (3 * us)) (3 * us) L0 from (show bUg g nd (g 18 nl) lq us L0 = bUs (bSv g nd (g 18 nl) lq) (g 14) (3 * us + 3 - 3 * us) (3 * us) L0 from by rw [show 3 * us + 3 - 3 * us = 3 by omega]; rfl)), (show (0 = 0 ∧ L0 = L0) ∨ (0 = 1 ∧ L0.length < L0.length) from Or.inl ⟨rfl, rfl⟩)⟩
  intro n9 ih1 a9 ls H locs hμ hl hP hD hS hI
  subst hμ
  obtain ⟨k, s9, L, g1⟩ := a9
  obtain ⟨hk1, hk2, hM1, hfr1, hRW1, hL1, hG1, hU, hsm1⟩ := hI
  have hk1 : 3 * us ≤ k := hk1
  have hk2 : k ≤ 3 * us + 3 := hk2
  have hM1 : MI v g1 := hM1
  have hfr1 : ∀ j, j ≠ 20 → j ≠ 21 → j ≠ 23 → g1 j = g j := hfr1
  have hRW1 : RW g g1 nl := hRW1
  have hL1 : LT (g1 20) (g1 21) nl L := hL1
  have hG1 : GL nd L := hG1
  have hU : bUg g nd (g 18 nl) lq us L0 = bUs (bSv g nd (g 18 nl) lq) (g 14) (3 * us + 3 - k) k L := hU
  have hsm1 : (s9 = 0 ∧ L = L0) ∨ (s9 = 1 ∧ L0.length < L.length) := hsm1
  have hpar1 : ∀ la, la < nl + 1 → ∃ lq, lq ≤ la ∧ g1 19 la = nI lq - 1 := fun la h => by rw [hfr1 19 (by decide) (by decide) (by decide)]; exact hpn la h
  have hlqe1 : g1 19 nl = nI lq - 1 := by rw [hfr1 19 (by decide) (by decide) (by decide)]; exact hlqe
  have hLl1 := GL_len hG1
  have hmk1 := hL1.1
  have hSM1 : adG g1 nd (g1 18 nl) lq = adG g nd (g 18 nl) lq := adG_sm hnl5 hpn hlqn hmdg hfr1 hRW1
  have hl : lv_has ls 9 [(4, .int (nI k)), (3, .int s9), (2, .int (nI nl)), (0, .ref h), (1, .int (nI us))] := hl
  have hP : va_P D xcl (moW h mm kA v g1) H := hP
  have hD : va_D A (moW h mm kA v g1) := hD
  refine lv_iload hx hb xd_Mo_bindsFor_12 (lv_at hl 0 rfl) ?_
  refine lv_iconst (v := 3) hx hb xd_Mo_bindsFor_14 (by decide) ?_
  refine lv_iload_n hx hb xd_Mo_bindsFor_15 rfl (lv_at hl 4 rfl) ?_
  refine lv_imul hx hb xd_Mo_bindsFor_16 ?_
  refine xn_top (y := nI (3 * us)) (pk_mul 3 us) ?_
  refine lv_iconst (v := 3) hx hb xd_Mo_bindsFor_17 (by decide) ?_
  refine lv_iadd hx hb xd_Mo_bindsFor_18 ?_
  refine xn_top (y := nI ((3 * us) + 3)) (nI_add (3 * us) 3) ?_
  refine xn_ge (a := k) (b := (3 * us) + 3) (tgt := 213) hx hb xd_Mo_bindsFor_19 (by decide) (by omega) (by omega) (fun hc2 => ?_) (fun hc2 => ?_)
  · refine lv_iload_n hx hb xd_Mo_bindsFor_213 rfl (lv_at hl 1 rfl) ?_
    exact W.zret (v := s9) hx hb hr (by rcases hsm1 with h | h <;> rw [h.1] <;> rfl) (fun t ht hW => ⟨⟨s9, (v, g1), rfl, ⟨rfl, hM1, hfr1, hRW1, L, hG1, hL1, by rw [hU, bUs_e (by omega)], hsm1⟩, by rw [ht]; exact hP, hD⟩, hS.F ht⟩) hS.2.2 xd_Mo_bindsFor_214
  · refine lv_iconst (v := 0) hx hb xd_Mo_bindsFor_22 (by decide) ?_
    refine lv_istore hx hb xd_Mo_bindsFor_23 hl (Nat.le_of_ble_eq_true rfl) rfl (fun ls hl => ?_)
    have hl : lv_has ls 9 [(5, .int 0), (4, .int (nI k)), (3, .int s9), (2, .int (nI nl)), (0, .ref h), (1, .int (nI us))] := hl
    refine xlab (σ := Nat × Int32 × List Nat × (Nat → Nat → Int32)) (ml := 9) 25 (fun (d, s8, L8, g8) => [(5, .int (nI d)), (4, .int (nI k)), (3, .int s8), (2, .int (nI nl)), (0, .ref h), (1, .int (nI us))]) (fun (d, s8, L8, g8) => []) (fun (d, s8, L8, g8) => moW h mm kA v g8) (fun (d, s8, L8, g8) => (d ≤ nd) ∧ (MI v g8) ∧ (∀ j, j ≠ 20 → j ≠ 21 → j ≠ 23 → g8 j = g j) ∧ (RW g g8 nl) ∧ (LT (g8 20) (g8 21) nl L8) ∧ (GL nd L8) ∧ (cif (0 < g 14 k) (bSv g nd (g 18 nl) lq (g 14 k) L) L = cif (0 < g 14 k) (bD (adG g nd (g 18 nl) lq) (g 4) (okB g (g 18 nl) (g 14 k)) (nd - d) d L8) L8) ∧ ((s8 = 0 ∧ L8 = L0) ∨ (s8 = 1 ∧ L0.length < L8.length))) (fun (d, s8, L8, g8) => nd - d) ?_ (0, s9, L, g1) _ _ _ (lv_sub hl [0, 1, 2, 3, 4, 5] rfl) hP hD hS ⟨(show 0 ≤ nd from by first | assumption | omega), (show MI v g1 from hM1), (show ∀ j, j ≠ 20 → j ≠ 21 → j ≠ 23 → g1 j = g j from hfr1), (show RW g g1 nl from hRW1), (show LT (g1 20) (g1 21) nl L from hL1), (show GL nd L from hG1), (show cif (0 < g 14 k) (bSv g nd (g 18 nl) lq (g 14 k) L) L = cif (0 < g 14 k) (bD (adG g nd (g 18 nl) lq) (g 4) (okB g (g 18 nl) (g 14 k)) (nd - 0) 0 L) L from (by unfold bSv; rfl)), (show (s9 = 0 ∧ L = L0) ∨ (s9 = 1 ∧ L0.length < L.length) from hsm1)⟩
    intro n9 ih3 a9 ls H locs hμ hl hP hD hS hI
    subst hμ
    obtain ⟨d, s8, L8, g8⟩ := a9
    obtain ⟨hd1, hM8, hfr8, hRW8, hL8, hG8, hB, hsm8⟩ := hI
    have hd1 : d ≤ nd := hd1
    have hM8 : MI v g8 := hM8
    have hfr8 : ∀ j, j ≠ 20 → j ≠ 21 → j ≠ 23 → g8 j = g j := hfr8
    have hRW8 : RW g g8 nl := hRW8
    have hL8 : LT (g8 20) (g8 21) nl L8 := hL8
    have hG8 : GL nd L8 := hG8
    have hB : cif (0 < g 14 k) (bSv g nd (g 18 nl) lq (g 14 k) L) L = cif (0 < g 14 k) (bD (adG g nd (g 18 nl) lq) (g 4) (okB g (g 18 nl) (g 14 k)) (nd - d) d L8) L8 := hB
    have hsm8 : (s8 = 0 ∧ L8 = L0) ∨ (s8 = 1 ∧ L0.length < L8.length) := hsm8
    have hpar8 : ∀ la, la < nl + 1 → ∃ lq, lq ≤ la ∧ g8 19 la = nI lq - 1 := fun la h => by rw [hfr8 19 (by decide) (by decide) (by decide)]; exact hpn la h
    have hlqe8 : g8 19 nl = nI lq - 1 := by rw [hfr8 19 (by decide) (by decide) (by decide)]; exact hlqe
    have hLl8 := GL_len hG8
    have hmk8 := hL8.1
    have hSM8 : adG g8 nd (g8 18 nl) lq = adG g nd (g 18 nl) lq := adG_sm hnl5 hpn hlqn hmdg hfr8 hRW8
    have hl : lv_has ls 9 [(5, .int (nI d)), (4, .int (nI k)), (3, .int s8), (2, .int (nI nl)), (0, .ref h), (1, .int (nI us))] := hl
    have hP : va_P D xcl (moW h mm kA v g8) H := hP
    have hD : va_D A (moW h mm kA v g8) := hD
    refine lv_iload hx hb xd_Mo_bindsFor_25 (lv_at hl 0 rfl) ?_
    refine lv_aload_n hx hb xd_Mo_bindsFor_27 rfl (lv_at hl 4 rfl) ?_
    refine va_get (D := D) (ci := 4) (v := .int (v 4)) (C := xR_Mo) (T := xT_Mo) (N := 31) hx hb hT xi_Mo hown hK.1 hP 0 rfl rfl 7 (by decide) (hT _ k4j_1) (fun _ h9 => h9) rfl xd_Mo_bindsFor_28 ?_
    refine xn_top (x := (v 4)) (y := nI nd) hnd ?_
    refine xn_ge (a := d) (b := nd) (tgt := 207) hx hb xd_Mo_bindsFor_31 (by decide) (by omega) (by omega) (fun hc4 => ?_) (fun hc4 => ?_)
    · refine lv_iinc (k := 1) (x := (nI k)) (v := (nI (k + 1))) hx hb xd_Mo_bindsFor_207 hl rfl (xb_inc k 1) (Nat.le_of_ble_eq_true rfl) rfl (fun ls hl => ?_)
      have hl : lv_has ls 9 [(4, .int (nI (k + 1))), (5, .int (nI d)), (3, .int s8), (2, .int (nI nl)), (0, .ref h), (1, .int (nI us))] := hl
      refine lv_goto (tgt := 12) hx hb xd_Mo_bindsFor_210 (by decide) ?_
      exact ih1 (k + 1, s8, L8, g8) _ _ _ (show 3 * us + 3 - (k + 1) < 3 * us + 3 - k by omega) (lv_sub hl [0, 2, 3, 4, 5] rfl) hP hD hS ⟨(show 3 * us ≤ (k + 1) from by first | assumption | omega), (show (k + 1) ≤ 3 * us + 3 from by first | assumption | omega), (show MI v g8 from hM8), (show ∀ j, j ≠ 20 → j ≠ 21 → j ≠ 23 → g8 j = g j from hfr8), (show RW g g8 nl from hRW8), (show LT (g8 20) (g8 21) nl L8 from hL8), (show GL nd L8 from hG8), (show bUg g nd (g 18 nl) lq us L0 = bUs (bSv g nd (g 18 nl) lq) (g 14) (3 * us + 3 - (k + 1)) (k + 1) L8 from by rw [hU, bUs_s (by omega), hB, bx_e (bD_e (by omega))]), (show (s8 = 0 ∧ L8 = L0) ∨ (s8 = 1 ∧ L0.length < L8.length) from hsm8)⟩
    · refine lv_aload_n hx hb xd_Mo_bindsFor_34 rfl (lv_at hl 4 rfl) ?_
      refine va_get (D := D) (ci := 4) (v := .ref (mm 14)) (C := xR_Mo) (T := xT_Mo) (N := 31) hx hb hT xi_Mo hown hK.1 hP 0 rfl rfl 19 (by decide) (hT _ k4j_2) (fun _ h9 => h9) rfl xd_Mo_bindsFor_35 ?_
      refine lv_iload hx hb xd_Mo_bindsFor_38 (lv_at hl 1 rfl) ?_
      refine xn_iald (i := k) hx hb hK.1 hP 15 0 rfl rfl (by omega) (by decide) xd_Mo_bindsFor_40 ?_
      refine lv_if_le (tgt := 207) hx hb xd_Mo_bindsFor_41 (by decide) (fun hc5 => ?_) (fun hc5 => ?_)
      · refine lv_iinc (k := 1) (x := (nI k)) (v := (nI (k + 1))) hx hb xd_Mo_bindsFor_207 hl rfl (xb_inc k 1) (Nat.le_of_ble_eq_true rfl) rfl (fun ls hl => ?_)
        have hl : lv_has ls 9 [(4, .int (nI (k + 1))), (5, .int (nI d)), (3, .int s8), (2, .int (nI nl)), (0, .ref h), (1, .int (nI us))] := hl
        refine lv_goto (tgt := 12) hx hb xd_Mo_bindsFor_210 (by decide) ?_
        exact ih1 (k + 1, s8, L8, g8) _ _ _ (show 3 * us + 3 - (k + 1) < 3 * us + 3 - k by omega) (lv_sub hl [0, 2, 3, 4, 5] rfl) hP hD hS ⟨(show 3 * us ≤ (k + 1) from by first | assumption | omega), (show (k + 1) ≤ 3 * us + 3 from by first | assumption | omega), (show MI v g8 from hM8), (show ∀ j, j ≠ 20 → j ≠ 21 → j ≠ 23 → g8 j = g j from hfr8), (show RW g g8 nl from hRW8), (show LT (g8 20) (g8 21) nl L8 from hL8), (show GL nd L8 from hG8), (show bUg g nd (g 18 nl) lq us L0 = bUs (bSv g nd (g 18 nl) lq) (g 14) (3 * us + 3 - (k + 1)) (k + 1) L8 from by rw [hU, bUs_s (by omega), hB, cif_neg (fun q => Int32.not_le.mpr q (by rw [← hfr8 14 (by decide) (by decide) (by decide)]; exact hc5))]), (show (s8 = 0 ∧ L8 = L0) ∨ (s8 = 1 ∧ L0.length < L8.length) from hsm8)⟩
      · refine xjoin (D := D) (cl := xcl) (A := A) (H0 := s.heap) (σ := Int32) (ml := 9) 112 (fun (gv : Int32) => [(6, .int gv), (5, .int (nI d)), (4, .int (nI k)), (3, .int s8), (2, .int (nI nl)), (0, .ref h), (1, .int (nI us))]) (fun (gv : Int32) => []) (fun (gv : Int32) => moW h mm kA v g8) (fun (gv : Int32) => ((gv = 1 ∧ gvP g d (g 14 k)) ∨ (gv = 0 ∧ ¬ gvP g d (g 14 k)))) ?_ (fun jn6 => ?_)
        · intro a9 ls H locs hl hP hD hS hI
          obtain ⟨gv, rfl⟩ : ∃ z, z = a9 := ⟨_, rfl⟩
          have hgv : (gv = 1 ∧ gvP g d (g 14 k)) ∨ (gv = 0 ∧ ¬ gvP g d (g 14 k)) := hI
          have hl : lv_has ls 9 [(6, .int gv), (5, .int (nI d)), (4, .int (nI k)), (3, .int s8), (2, .int (nI nl)), (0, .ref h), (1, .int (nI us))] := hl
          have hP : va_P D xcl (moW h mm kA v g8) H := hP
          have hD : va_D A (moW h mm kA v g8) := hD
          refine lv_aload_n hx hb xd_Mo_bindsFor_112 rfl (lv_at hl 5 rfl) ?_
          refine va_get (D := D) (ci := 4) (v := .ref (mm 3)) (C := xR_Mo) (T := xT_Mo) (N := 31) hx hb hT xi_Mo hown hK.1 hP 0 rfl rfl 8 (by decide) (hT _ k4j_3) (fun _ h9 => h9) rfl xd_Mo_bindsFor_113 ?_
          refine lv_iload hx hb xd_Mo_bindsFor_116 (lv_at hl 1 rfl) ?_
          refine xn_iald (i := d) hx hb hK.1 hP 4 0 rfl rfl (by omega) (by decide) xd_Mo_bindsFor_118 ?_
          refine lv_aload_n hx hb xd_Mo_bindsFor_119 rfl (lv_at hl 5 rfl) ?_
          refine va_get (D := D) (ci := 4) (v := .ref (mm 18)) (C := xR_Mo) (T := xT_Mo) (N := 31) hx hb hT xi_Mo hown hK.1 hP 0 rfl rfl 24 (by decide) (hT _ k4j_4) (fun _ h9 => h9) rfl xd_Mo_bindsFor_120 ?_
          refine lv_iload_n hx hb xd_Mo_bindsFor_123 rfl (lv_at hl 4 rfl) ?_
          refine xn_iald (i := nl) hx hb hK.1 hP 19 0 rfl rfl (by omega) (by decide) xd_Mo_bindsFor_124 ?_
          refine lv_icmp_ne (tgt := 201) hx hb xd_Mo_bindsFor_125 (by decide) (fun hc7 => ?_) (fun hc7 => ?_)
          · refine lv_iinc (k := 1) (x := (nI d)) (v := (nI (d + 1))) hx hb xd_Mo_bindsFor_201 hl rfl (xb_inc d 1) (Nat.le_of_ble_eq_true rfl) rfl (fun ls hl => ?_)
            have hl : lv_has ls 9 [(5, .int (nI (d + 1))), (6, .int gv), (4, .int (nI k)), (3, .int s8), (2, .int (nI nl)), (0, .ref h), (1, .int (nI us))] := hl
            refine lv_goto (tgt := 25) hx hb xd_Mo_bindsFor_204 (by decide) ?_
            exact ih3 (d + 1, s8, L8, g8) _ _ _ (show nd - (d + 1) < nd - d by omega) (lv_sub hl [0, 2, 3, 4, 5, 6] rfl) hP hD hS ⟨(show (d + 1) ≤ nd from by first | assumption | omega), (show MI v g8 from hM8), (show ∀ j, j ≠ 20 → j ≠ 21 → j ≠ 23 → g8 j = g j from hfr8), (show RW g g8 nl from hRW8), (show LT (g8 20) (g8 21) nl L8 from hL8), (show GL nd L8 from hG8), (show cif (0 < g 14 k) (bSv g nd (g 18 nl) lq (g 14 k) L) L = cif (0 < g 14 k) (bD (adG g nd (g 18 nl) lq) (g 4) (okB g (g 18 nl) (g 14 k)) (nd - (d + 1)) (d + 1) L8) L8 from by rw [hB, cif_pos (show 0 < g 14 k from by rw [← hfr8 14 (by decide) (by decide) (by decide)]; exact Int32.not_le.mp hc5), cif_pos (show 0 < g 14 k from by rw [← hfr8 14 (by decide) (by decide) (by decide)]; exact Int32.not_le.mp hc5), bD_s (by omega), bE_no (fun q => hc7 (by rw [hfr8 3 (by decide) (by decide) (by decide), hfr8 18 (by decide) (by decide) (by decide)]; exact q.1.1))]), (show (s8 = 0 ∧ L8 = L0) ∨ (s8 = 1 ∧ L0.length < L8.length) from hsm8)⟩
          · refine lv_iload hx hb xd_Mo_bindsFor_128 (lv_at hl 0 rfl) ?_
            refine lv_if_eq (tgt := 201) hx hb xd_Mo_bindsFor_130 (by decide) (fun hc8 => ?_) (fun hc8 => ?_)
            · refine lv_iinc (k := 1) (x := (nI d)) (v := (nI (d + 1))) hx hb xd_Mo_bindsFor_201 hl rfl (xb_inc d 1) (Nat.le_of_ble_eq_true rfl) rfl (fun ls hl => ?_)
              have hl : lv_has ls 9 [(5, .int (nI (d + 1))), (6, .int gv), (4, .int (nI k)), (3, .int s8), (2, .int (nI nl)), (0, .ref h), (1, .int (nI us))] := hl
              refine lv_goto (tgt := 25) hx hb xd_Mo_bindsFor_204 (by decide) ?_
              exact ih3 (d + 1, s8, L8, g8) _ _ _ (show nd - (d + 1) < nd - d by omega) (lv_sub hl [0, 2, 3, 4, 5, 6] rfl) hP hD hS ⟨(show (d + 1) ≤ nd from by first | assumption | omega), (show MI v g8 from hM8), (show ∀ j, j ≠ 20 → j ≠ 21 → j ≠ 23 → g8 j = g j from hfr8), (show RW g g8 nl from hRW8), (show LT (g8 20) (g8 21) nl L8 from hL8), (show GL nd L8 from hG8), (show cif (0 < g 14 k) (bSv g nd (g 18 nl) lq (g 14 k) L) L = cif (0 < g 14 k) (bD (adG g nd (g 18 nl) lq) (g 4) (okB g (g 18 nl) (g 14 k)) (nd - (d + 1)) (d + 1) L8) L8 from by rw [hB, cif_pos (show 0 < g 14 k from by rw [← hfr8 14 (by decide) (by decide) (by decide)]; exact Int32.not_le.mp hc5), cif_pos (show 0 < g 14 k from by rw [← hfr8 14 (by decide) (by decide) (by decide)]; exact Int32.not_le.mp hc5), bD_s (by omega), bE_no (fun q => by rcases hgv with ⟨q1, q2⟩ | ⟨q1, q2⟩; exact absurd (q1.symm.trans hc8) (by decide); exact q2 q.1.2)]), (show (s8 = 0 ∧ L8 = L0) ∨ (s8 = 1 ∧ L0.length < L8.length) from hsm8)⟩
            · refine lv_aload_n hx hb xd_Mo_bindsFor_133 rfl (lv_at hl 5 rfl) ?_
              refine lv_iload_n hx hb xd_Mo_bindsFor_134 rfl (lv_at hl 4 rfl) ?_
              refine lv_iload hx hb xd_Mo_bindsFor_135 (lv_at hl 1 rfl) ?_
              have hFc := va_free (wc := (moW h mm kA v g8)) hD hS hA [0, 1, 2, 3, 4, 5, 6, 7, 8, 9, 10, 11, 12, 13, 14, 15, 16, 17, 18, 19, 20, 21, 22, 23, 24, 25] rfl
              refine va_calli (va_runV (As := [.int (nI nl), .int (nI d)]) (rest := []) ⟨hx, hb, hml, hown, hT⟩ (xc_Mo_isIn l D kA H.size h mm v g8 nl (nI d) L8.length (by first | assumption | omega) (by first | assumption | omega) (by first | assumption | omega)) (cwV 2 hT (wT_V k4j_6 k4j_7 k4j_8 k4j_9 k4j_5) rfl rfl rfl (by decide +kernel) ⟨Nat.le_of_ble_eq_true rfl, Nat.le_of_ble_eq_true rfl⟩) (x_preV hK hP hD 0 rfl rfl) rfl rfl hl.1 rfl (lv_room (Nat.le_of_ble_eq_true rfl)) xd_Mo_bindsFor_137 ⟨Nat.le_of_ble_eq_true rfl, Nat.le_of_ble_eq_true rfl⟩) hS (fun q _ h => hFc q h) hFc (fun r9 u10 t H1 locs ht hvm hp11 hB hz1 hk1 hS => ?_)
              obtain ⟨hP1, hD1⟩ := hB
              rw [ht] at hP1
              have hD1 := hD1.weaken (fun _ _ _ h => hFc _ h)
              generalize H1 = H at hP1 hS ⊢
              have hP := hP1
              have hD := hD1
              have hP : va_P D xcl (moW h mm kA v g8) H := hP
              have hD : va_D A (moW h mm kA v g8) := hD
              rcases hp11 with ⟨rfl, z12, z13, z14, z15⟩ | ⟨rfl, z16⟩
              · refine xz_ne (a := 1) (tgt := 201) hx hb xd_Mo_bindsFor_140 (by decide) (by omega) (fun _ => ?_) (fun hc17 => absurd hc17 (by omega))
                refine lv_iinc (k := 1) (x := (nI d)) (v := (nI (d + 1))) hx hb xd_Mo_bindsFor_201 hl rfl (xb_inc d 1) (Nat.le_of_ble_eq_true rfl) rfl (fun ls hl => ?_)
                have hl : lv_has ls 9 [(5, .int (nI (d + 1))), (6, .int gv), (4, .int (nI k)), (3, .int s8), (2, .int (nI nl)), (0, .ref h), (1, .int (nI us))] := hl
                refine lv_goto (tgt := 25) hx hb xd_Mo_bindsFor_204 (by decide) ?_
                exact ih3 (d + 1, s8, L8, g8) _ _ _ (show nd - (d + 1) < nd - d by omega) (lv_sub hl [0, 2, 3, 4, 5, 6] rfl) hP hD hS ⟨(show (d + 1) ≤ nd from by first | assumption | omega), (show MI v g8 from hM8), (show ∀ j, j ≠ 20 → j ≠ 21 → j ≠ 23 → g8 j = g j from hfr8), (show RW g g8 nl from hRW8), (show LT (g8 20) (g8 21) nl L8 from hL8), (show GL nd L8 from hG8), (show cif (0 < g 14 k) (bSv g nd (g 18 nl) lq (g 14 k) L) L = cif (0 < g 14 k) (bD (adG g nd (g 18 nl) lq) (g 4) (okB g (g 18 nl) (g 14 k)) (nd - (d + 1)) (d + 1) L8) L8 from by rw [hB, cif_pos (show 0 < g 14 k from by rw [← hfr8 14 (by decide) (by decide) (by decide)]; exact Int32.not_le.mp hc5), cif_pos (show 0 < g 14 k from by rw [← hfr8 14 (by decide) (by decide) (by decide)]; exact Int32.not_le.mp hc5), bD_s (by omega), bE_no (fun q => q.2 (LT_in hL8 hG8 hnd12 (by omega) z13 z14 z15))]), (show (s8 = 0 ∧ L8 = L0) ∨ (s8 = 1 ∧ L0.length < L8.length) from hsm8)⟩
              · refine xz_ne (a := 0) (tgt := 201) hx hb xd_Mo_bindsFor_140 (by decide) (by omega) (fun hc18 => absurd hc18 (by omega)) (fun _ => ?_)
                refine lv_aload_n hx hb xd_Mo_bindsFor_143 rfl (lv_at hl 5 rfl) ?_
                refine va_get (D := D) (ci := 4) (v := .ref (mm 20)) (C := xR_Mo) (T := xT_Mo) (N := 31) hx hb hT xi_Mo hown hK.1 hP 0 rfl rfl 26 (by decide) (hT _ k4j_10) (fun _ h9 => h9) rfl xd_Mo_bindsFor_144 ?_
                refine lv_iload_n hx hb xd_Mo_bindsFor_147 rfl (lv_at hl 4 rfl) ?_
                refine xn_iald (i := nl) hx hb hK.1 hP 21 0 rfl rfl (by omega) (by decide) xd_Mo_bindsFor_148 ?_
                refine xn_top (x := (g8 20 nl)) (y := nI L8.length) hmk8 ?_
                refine lv_istore hx hb xd_Mo_bindsFor_149 hl (Nat.le_of_ble_eq_true rfl) rfl (fun ls hl => ?_)
                have hl : lv_has ls 9 [(7, .int (nI (L8.length))), (6, .int gv), (5, .int (nI d)), (4, .int (nI k)), (3, .int s8), (2, .int (nI nl)), (0, .ref h), (1, .int (nI us))] := hl
                refine lv_aload_n hx hb xd_Mo_bindsFor_151 rfl (lv_at hl 6 rfl) ?_
                refine lv_aload_n hx hb xd_Mo_bindsFor_152 rfl (lv_at hl 6 rfl) ?_
                refine va_get (D := D) (ci := 4) (v := .ref (mm 4)) (C := xR_Mo) (T := xT_Mo) (N := 31) hx hb hT xi_Mo hown hK.1 hP 0 rfl rfl 9 (by decide) (hT _ k4j_11) (fun _ h9 => h9) rfl xd_Mo_bindsFor_153 ?_
                refine lv_iload hx hb xd_Mo_bindsFor_156 (lv_at hl 2 rfl) ?_
                refine xn_iald (i := d) hx hb hK.1 hP 5 0 rfl rfl (by omega) (by decide) xd_Mo_bindsFor_158 ?_
                have hFc := va_free (wc := (moW h mm kA v g8)) hD hS hA [0, 1, 2, 3, 4, 5, 6, 7, 8, 9, 10, 11, 12, 13, 14, 15, 16, 17, 18, 19, 20, 21, 22, 23, 24, 25] rfl
                refine va_calli (va_runV (As := [.int (g8 4 d)]) (rest := []) ⟨hx, hb, hml, hown, hT⟩ (xc_Mo_addsX l D kA H.size h mm v g8 (g8 4 d) nd nl lq L8 hM8 (by first | assumption | omega) (by first | assumption | omega) (by first | assumption | omega) (by first | assumption | omega) hpar8 hlqe8 (by first | assumption | omega) hL8 hG8) (cwV 1 hT (wT_V k4j_13 k4j_14 k4j_15 k4j_9 k4j_12) rfl rfl rfl (by decide +kernel) ⟨Nat.le_of_ble_eq_true rfl, Nat.le_of_ble_eq_true rfl⟩) (x_preV hK hP hD 0 rfl rfl) rfl rfl hl.1 rfl (lv_room (Nat.le_of_ble_eq_true rfl)) xd_Mo_bindsFor_159 ⟨Nat.le_of_ble_eq_true rfl, Nat.le_of_ble_eq_true rfl⟩) hS (fun q _ h => hFc q h) hFc (fun r19 u20 t H1 locs ht hvm hp21 hB hz1 hk1 hS => ?_)
                obtain ⟨hP1, hD1⟩ := hB
                rw [ht] at hP1
                have hD1 := hD1.weaken (fun _ _ _ h => hFc _ h)
                obtain ⟨v22, g23⟩ := u20
                generalize H1 = H at hP1 hS ⊢
                have hP := hP1
                have hD := hD1
                have hP : va_P D xcl (moW h mm kA v22 g23) H := hP
                have hD : va_D A (moW h mm kA v22 g23) := hD
                obtain ⟨hu9, hM9, hfr9, hRW9, L9, hx2, hx3, hx5⟩ := hp21
                have hu9 : v = v22 := hu9.symm
                subst hu9
                have hM9 : MI v g23 := hM9
                have hfr9 : ∀ j, j ≠ 20 → j ≠ 21 → j ≠ 23 → g23 j = g8 j := hfr9
                have hRW9 : RW g8 g23 nl := hRW9
                have hx3 : LT (g23 20) (g23 21) nl L9 := hx3
                rw [hSM8, hfr8 4 (by decide) (by decide) (by decide)] at hx5
                have hx9 := GL_len hx2
                have hx3l := hx3.1
                have hxp : ∃ T9, L9 = L8 ++ T9 := by
                  obtain ⟨T9, hT9⟩ := aN_pre (ds := dsG g nd (g 18 nl)) (up := upG g lq) (rq := rqG g) (f := 12) (L := L8) (n := g 4 d)
                  have e9 : (adG g nd (g 18 nl) lq L8 (g 4 d)).2 = L9 := by rcases hx5 with ⟨_, q⟩ | ⟨_, q⟩ <;> rw [q]
                  exact ⟨T9, e9.symm.trans hT9⟩
                obtain ⟨T9, hxT⟩ := hxp
                have hxc : LT (g23 20) (g23 21) nl (L8 ++ T9) := by rw [← hxT]; exact hx3
                have hx1 : L8.length ≤ L9.length := by rw [hxT, List.length_append]; omega
                have hP : va_P D xcl (moW h mm kA v g23) H := hP
                have hD : va_D A (moW h mm kA v g23) := hD
                rcases hx5 with ⟨rfl, hgood⟩ | ⟨rfl, hgood⟩
                · have hgr9 := hgood
                  refine lv_istore hx hb xd_Mo_bindsFor_162 hl (Nat.le_of_ble_eq_true rfl) rfl (fun ls hl => ?_)
                  have hl : lv_has ls 9 [(8, .int 0), (7, .int (nI (L8.length))), (6, .int gv), (5, .int (nI d)), (4, .int (nI k)), (3, .int s8), (2, .int (nI nl)), (0, .ref h), (1, .int (nI us))] := hl
                  refine lv_aload_n hx hb xd_Mo_bindsFor_164 rfl (lv_at hl 7 rfl) ?_
                  refine va_get (D := D) (ci := 4) (v := .ref (mm 20)) (C := xR_Mo) (T := xT_Mo) (N := 31) hx hb hT xi_Mo hown hK.1 hP 0 rfl rfl 26 (by decide) (hT _ k4j_10) (fun _ h9 => h9) rfl xd_Mo_bindsFor_165 ?_
                  refine lv_iload_n hx hb xd_Mo_bindsFor_168 rfl (lv_at hl 6 rfl) ?_
                  refine lv_iload hx hb xd_Mo_bindsFor_169 (lv_at hl 0 rfl) ?_
                  refine xz_eq (a := 0) (tgt := 183) hx hb xd_Mo_bindsFor_171 (by decide) (by omega) (fun _ => ?_) (fun hc24 => absurd hc24 (by omega))
                  refine lv_iload hx hb xd_Mo_bindsFor_183 (lv_at hl 1 rfl) ?_
                  refine xn_iast (i := nl) hx hb hK.1 hP hD hS 21 0 rfl rfl (by omega) (by decide) xd_Mo_bindsFor_185 (fun H locs hP hD hS => ?_)
                  have hP : va_P D xcl (moW h mm kA v (va_up g23 20 (upd (g23 20) nl (nI (L8.length))))) H := hP
                  have hD : va_D A (moW h mm kA v (va_up g23 20 (upd (g23 20) nl (nI (L8.length))))) := hD
                  refine lv_iload_n hx hb xd_Mo_bindsFor_186 rfl (lv_at hl 5 rfl) ?_
                  refine lv_if_ne (tgt := 195) hx hb xd_Mo_bindsFor_187 (by decide) (fun hc25 => ?_) (fun hc25 => ?_)
                  · refine lv_iconst (v := 1) hx hb xd_Mo_bindsFor_195 (by decide) ?_
                    refine lv_goto (tgt := 200) hx hb xd_Mo_bindsFor_196 (by decide) ?_
                    refine lv_istore_n hx hb xd_Mo_bindsFor_200 rfl hl (Nat.le_of_ble_eq_true rfl) rfl (fun ls hl => ?_)
                    have hl : lv_has ls 9 [(3, .int 1), (8, .int 0), (7, .int (nI (L8.length))), (6, .int gv), (5, .int (nI d)), (4, .int (nI k)), (2, .int (nI nl)), (0, .ref h), (1, .int (nI us))] := hl
                    refine lv_iinc (k := 4) (x := (nI d)) (v := (nI (d + 1))) hx hb xd_Mo_bindsFor_201 hl rfl (xb_inc d 1) (Nat.le_of_ble_eq_true rfl) rfl (fun ls hl => ?_)
                    have hl : lv_has ls 9 [(5, .int (nI (d + 1))), (3, .int 1), (8, .int 0), (7, .int (nI (L8.length))), (6, .int gv), (4, .int (nI k)), (2, .int (nI nl)), (0, .ref h), (1, .int (nI us))] := hl
                    refine lv_goto (tgt := 25) hx hb xd_Mo_bindsFor_204 (by decide) ?_
                    exact ih3 (d + 1, 1, L8, (va_up g23 20 (upd (g23 20) nl (nI (L8.length))))) _ _ _ (show nd - (d + 1) < nd - d by omega) (lv_sub hl [0, 5, 1, 6, 7, 8] rfl) hP hD hS ⟨(show (d + 1) ≤ nd from by first | assumption | omega), (show MI v (va_up g23 20 (upd (g23 20) nl (nI (L8.length)))) from MI_cut hx3.1 (by omega) hx1 hM9), (show ∀ j, j ≠ 20 → j ≠ 21 → j ≠ 23 → (va_up g23 20 (upd (g23 20) nl (nI (L8.length)))) j = g j from fun j h1 h2 h3 => by rw [← hfr8 j h1 h2 h3, ← hfr9 j h1 h2 h3]; simp [va_up, h1]), (show RW g (va_up g23 20 (upd (g23 20) nl (nI (L8.length)))) nl from RW_tr hRW8 (fun la hla => ⟨(show upd (g23 20) nl _ la = _ by rw [pk_un (by omega)]; exact (hRW9 la hla).1), (hRW9 la hla).2⟩)), (show LT ((va_up g23 20 (upd (g23 20) nl (nI (L8.length)))) 20) ((va_up g23 20 (upd (g23 20) nl (nI (L8.length)))) 21) nl L8 from LT_cut hxc), (show GL nd L8 from hG8), (show cif (0 < g 14 k) (bSv g nd (g 18 nl) lq (g 14 k) L) L = cif (0 < g 14 k) (bD (adG g nd (g 18 nl) lq) (g 4) (okB g (g 18 nl) (g 14 k)) (nd - (d + 1)) (d + 1) L8) L8 from by rw [hB, cif_pos (show 0 < g 14 k from by rw [← hfr8 14 (by decide) (by decide) (by decide)]; exact Int32.not_le.mp hc5), cif_pos (show 0 < g 14 k from by rw [← hfr8 14 (by decide) (by decide) (by decide)]; exact Int32.not_le.mp hc5), bD_s (by omega), bE_f hgood]), (show (1 = 0 ∧ L8 = L0) ∨ (1 = 1 ∧ L0.length < L8.length) from by rcases hsm8 with ⟨q, q2⟩ | ⟨q, q2⟩; exact absurd q hc25; exact Or.inr ⟨rfl, q2⟩)⟩
                  · refine lv_iload hx hb xd_Mo_bindsFor_190 (lv_at hl 0 rfl) ?_
                    refine xz_eq (a := 0) (tgt := 199) hx hb xd_Mo_bindsFor_192 (by decide) (by omega) (fun _ => ?_) (fun hc26 => absurd hc26 (by omega))
                    refine lv_iconst (v := 0) hx hb xd_Mo_bindsFor_199 (by decide) ?_
                    refine lv_istore_n hx hb xd_Mo_bindsFor_200 rfl hl (Nat.le_of_ble_eq_true rfl) rfl (fun ls hl => ?_)
                    have hl : lv_has ls 9 [(3, .int 0), (8, .int 0), (7, .int (nI (L8.length))), (6, .int gv), (5, .int (nI d)), (4, .int (nI k)), (2, .int (nI nl)), (0, .ref h), (1, .int (nI us))] := hl
                    refine lv_iinc (k := 4) (x := (nI d)) (v := (nI (d + 1))) hx hb xd_Mo_bindsFor_201 hl rfl (xb_inc d 1) (Nat.le_of_ble_eq_true rfl) rfl (fun ls hl => ?_)
                    have hl : lv_has ls 9 [(5, .int (nI (d + 1))), (3, .int 0), (8, .int 0), (7, .int (nI (L8.length))), (6, .int gv), (4, .int (nI k)), (2, .int (nI nl)), (0, .ref h), (1, .int (nI us))] := hl
                    refine lv_goto (tgt := 25) hx hb xd_Mo_bindsFor_204 (by decide) ?_
                    exact ih3 (d + 1, 0, L8, (va_up g23 20 (upd (g23 20) nl (nI (L8.length))))) _ _ _ (show nd - (d + 1) < nd - d by omega) (lv_sub hl [0, 5, 1, 6, 7, 8] rfl) hP hD hS ⟨(show (d + 1) ≤ nd from by first | assumption | omega), (show MI v (va_up g23 20 (upd (g23 20) nl (nI (L8.length)))) from MI_cut hx3.1 (by omega) hx1 hM9), (show ∀ j, j ≠ 20 → j ≠ 21 → j ≠ 23 → (va_up g23 20 (upd (g23 20) nl (nI (L8.length)))) j = g j from fun j h1 h2 h3 => by rw [← hfr8 j h1 h2 h3, ← hfr9 j h1 h2 h3]; simp [va_up, h1]), (show RW g (va_up g23 20 (upd (g23 20) nl (nI (L8.length)))) nl from RW_tr hRW8 (fun la hla => ⟨(show upd (g23 20) nl _ la = _ by rw [pk_un (by omega)]; exact (hRW9 la hla).1), (hRW9 la hla).2⟩)), (show LT ((va_up g23 20 (upd (g23 20) nl (nI (L8.length)))) 20) ((va_up g23 20 (upd (g23 20) nl (nI (L8.length)))) 21) nl L8 from LT_cut hxc), (show GL nd L8 from hG8), (show cif (0 < g 14 k) (bSv g nd (g 18 nl) lq (g 14 k) L) L = cif (0 < g 14 k) (bD (adG g nd (g 18 nl) lq) (g 4) (okB g (g 18 nl) (g 14 k)) (nd - (d + 1)) (d + 1) L8) L8 from by rw [hB, cif_pos (show 0 < g 14 k from by rw [← hfr8 14 (by decide) (by decide) (by decide)]; exact Int32.not_le.mp hc5), cif_pos (show 0 < g 14 k from by rw [← hfr8 14 (by decide) (by decide) (by decide)]; exact Int32.not_le.mp hc5), bD_s (by omega), bE_f hgood]), (show (0 = 0 ∧ L8 = L0) ∨ (0 = 1 ∧ L0.length < L8.length) from by rcases hsm8 with ⟨q, q2⟩ | ⟨q, q2⟩; exact Or.inl ⟨rfl, q2⟩; exact absurd (q.symm.trans hc25) (by decide))⟩
                · have hgvp : gvP g d (g 14 k) := by rcases hgv with ⟨q1, q2⟩ | ⟨q1, q2⟩; exact q2; exact absurd q1 hc8
                  have hgrow : L8.length < L9.length := by
                    obtain ⟨T8, hT8⟩ := adG_in (g := g) (nd := nd) (lq := lq) (d := d) (fi := g 18 nl) (L := L8) (by omega) (by rw [← hfr8 3 (by decide) (by decide) (by decide), ← hfr8 18 (by decide) (by decide) (by decide)]; exact hc7) (fun j hj q1 q2 => huq nd hnd hnd12 j d hj (by omega) q1 q2) (LT_out hL8 z16)
                    rw [hgood] at hT8
                    rw [show L9 = (L8 ++ [d]) ++ T8 from hT8, List.length_append, len_app]; omega
                  refine lv_istore hx hb xd_Mo_bindsFor_162 hl (Nat.le_of_ble_eq_true rfl) rfl (fun ls hl => ?_)
                  have hl : lv_has ls 9 [(8, .int 1), (7, .int (nI (L8.length))), (6, .int gv), (5, .int (nI d)), (4, .int (nI k)), (3, .int s8), (2, .int (nI nl)), (0, .ref h), (1, .int (nI us))] := hl
                  refine lv_aload_n hx hb xd_Mo_bindsFor_164 rfl (lv_at hl 7 rfl) ?_
                  refine va_get (D := D) (ci := 4) (v := .ref (mm 20)) (C := xR_Mo) (T := xT_Mo) (N := 31) hx hb hT xi_Mo hown hK.1 hP 0 rfl rfl 26 (by decide) (hT _ k4j_10) (fun _ h9 => h9) rfl xd_Mo_bindsFor_165 ?_
                  refine lv_iload_n hx hb xd_Mo_bindsFor_168 rfl (lv_at hl 6 rfl) ?_
                  refine lv_iload hx hb xd_Mo_bindsFor_169 (lv_at hl 0 rfl) ?_
                  refine xz_eq (a := 1) (tgt := 183) hx hb xd_Mo_bindsFor_171 (by decide) (by omega) (fun hc27 => absurd hc27 (by omega)) (fun _ => ?_)
                  refine lv_aload_n hx hb xd_Mo_bindsFor_174 rfl (lv_at hl 7 rfl) ?_
                  refine va_get (D := D) (ci := 4) (v := .ref (mm 20)) (C := xR_Mo) (T := xT_Mo) (N := 31) hx hb hT xi_Mo hown hK.1 hP 0 rfl rfl 26 (by decide) (hT _ k4j_10) (fun _ h9 => h9) rfl xd_Mo_bindsFor_175 ?_
                  refine lv_iload_n hx hb xd_Mo_bindsFor_178 rfl (lv_at hl 6 rfl) ?_
                  refine xn_iald (i := nl) hx hb hK.1 hP 21 0 rfl rfl (by omega) (by decide) xd_Mo_bindsFor_179 ?_
                  refine xn_top (x := (g23 20 nl)) (y := nI L9.length) hx3l ?_
                  refine lv_goto (tgt := 185) hx hb xd_Mo_bindsFor_180 (by decide) ?_
                  refine xn_iast (i := nl) hx hb hK.1 hP hD hS 21 0 rfl rfl (by omega) (by decide) xd_Mo_bindsFor_185 (fun H locs hP hD hS => ?_)
                  have hP : va_P D xcl (moW h mm kA v (va_up g23 20 (upd (g23 20) nl (nI (L9.length))))) H := hP
                  have hD : va_D A (moW h mm kA v (va_up g23 20 (upd (g23 20) nl (nI (L9.length))))) := hD
                  refine lv_iload_n hx hb xd_Mo_bindsFor_186 rfl (lv_at hl 5 rfl) ?_
                  refine lv_if_ne (tgt := 195) hx hb xd_Mo_bindsFor_187 (by decide) (fun hc28 => ?_) (fun hc28 => ?_)
                  · refine lv_iconst (v := 1) hx hb xd_Mo_bindsFor_195 (by decide) ?_
                    refine lv_goto (tgt := 200) hx hb xd_Mo_bindsFor_196 (by decide) ?_
                    refine lv_istore_n hx hb xd_Mo_bindsFor_200 rfl hl (Nat.le_of_ble_eq_true rfl) rfl (fun ls hl => ?_)
                    have hl : lv_has ls 9 [(3, .int 1), (8, .int 1), (7, .int (nI (L8.length))), (6, .int gv), (5, .int (nI d)), (4, .int (nI k)), (2, .int (nI nl)), (0, .ref h), (1, .int (nI us))] := hl
                    refine lv_iinc (k := 4) (x := (nI d)) (v := (nI (d + 1))) hx hb xd_Mo_bindsFor_201 hl rfl (xb_inc d 1) (Nat.le_of_ble_eq_true rfl) rfl (fun ls hl => ?_)
                    have hl : lv_has ls 9 [(5, .int (nI (d + 1))), (3, .int 1), (8, .int 1), (7, .int (nI (L8.length))), (6, .int gv), (4, .int (nI k)), (2, .int (nI nl)), (0, .ref h), (1, .int (nI us))] := hl
                    refine lv_goto (tgt := 25) hx hb xd_Mo_bindsFor_204 (by decide) ?_
                    exact ih3 (d + 1, 1, L9, (va_up g23 20 (upd (g23 20) nl (nI (L9.length))))) _ _ _ (show nd - (d + 1) < nd - d by omega) (lv_sub hl [0, 5, 1, 6, 7, 8] rfl) hP hD hS ⟨(show (d + 1) ≤ nd from by first | assumption | omega), (show MI v (va_up g23 20 (upd (g23 20) nl (nI (L9.length)))) from MI_cut hx3.1 (by omega) (Nat.le_refl _) hM9), (show ∀ j, j ≠ 20 → j ≠ 21 → j ≠ 23 → (va_up g23 20 (upd (g23 20) nl (nI (L9.length)))) j = g j from fun j h1 h2 h3 => by rw [← hfr8 j h1 h2 h3, ← hfr9 j h1 h2 h3]; simp [va_up, h1]), (show RW g (va_up g23 20 (upd (g23 20) nl (nI (L9.length)))) nl from RW_tr hRW8 (fun la hla => ⟨(show upd (g23 20) nl _ la = _ by rw [pk_un (by omega)]; exact (hRW9 la hla).1), (hRW9 la hla).2⟩)), (show LT ((va_up g23 20 (upd (g23 20) nl (nI (L9.length)))) 20) ((va_up g23 20 (upd (g23 20) nl (nI (L9.length)))) 21) nl L9 from ⟨pk_us, hx3.2⟩), (show GL nd L9 from hx2), (show cif (0 < g 14 k) (bSv g nd (g 18 nl) lq (g 14 k) L) L = cif (0 < g 14 k) (bD (adG g nd (g 18 nl) lq) (g 4) (okB g (g 18 nl) (g 14 k)) (nd - (d + 1)) (d + 1) L9) L9 from by rw [hB, cif_pos (show 0 < g 14 k from by rw [← hfr8 14 (by decide) (by decide) (by decide)]; exact Int32.not_le.mp hc5), cif_pos (show 0 < g 14 k from by rw [← hfr8 14 (by decide) (by decide) (by decide)]; exact Int32.not_le.mp hc5), bD_s (by omega), bE_t ⟨by rw [← hfr8 3 (by decide) (by decide) (by decide), ← hfr8 18 (by decide) (by decide) (by decide)]; exact hc7, hgvp⟩ (LT_out hL8 z16) hgood]), (show (1 = 0 ∧ L9 = L0) ∨ (1 = 1 ∧ L0.length < L9.length) from Or.inr ⟨rfl, by have q := hgrow; rcases hsm8 with ⟨_, q2⟩ | ⟨_, q2⟩; rw [q2] at q; exact q; omega⟩)⟩
                  · refine lv_iload hx hb xd_Mo_bindsFor_190 (lv_at hl 0 rfl) ?_
                    refine xz_eq (a := 1) (tgt := 199) hx hb xd_Mo_bindsFor_192 (by decide) (by omega) (fun hc29 => absurd hc29 (by omega)) (fun _ => ?_)
                    refine lv_iconst (v := 1) hx hb xd_Mo_bindsFor_195 (by decide) ?_
                    refine lv_goto (tgt := 200) hx hb xd_Mo_bindsFor_196 (by decide) ?_
                    refine lv_istore_n hx hb xd_Mo_bindsFor_200 rfl hl (Nat.le_of_ble_eq_true rfl) rfl (fun ls hl => ?_)
                    have hl : lv_has ls 9 [(3, .int 1), (8, .int 1), (7, .int (nI (L8.length))), (6, .int gv), (5, .int (nI d)), (4, .int (nI k)), (2, .int (nI nl)), (0, .ref h), (1, .int (nI us))] := hl
                    refine lv_iinc (k := 4) (x := (nI d)) (v := (nI (d + 1))) hx hb xd_Mo_bindsFor_201 hl rfl (xb_inc d 1) (Nat.le_of_ble_eq_true rfl) rfl (fun ls hl => ?_)
                    have hl : lv_has ls 9 [(5, .int (nI (d + 1))), (3, .int 1), (8, .int 1), (7, .int (nI (L8.length))), (6, .int gv), (4, .int (nI k)), (2, .int (nI nl)), (0, .ref h), (1, .int (nI us))] := hl
                    refine lv_goto (tgt := 25) hx hb xd_Mo_bindsFor_204 (by decide) ?_
                    exact ih3 (d + 1, 1, L9, (va_up g23 20 (upd (g23 20) nl (nI (L9.length))))) _ _ _ (show nd - (d + 1) < nd - d by omega) (lv_sub hl [0, 5, 1, 6, 7, 8] rfl) hP hD hS ⟨(show (d + 1) ≤ nd from by first | assumption | omega), (show MI v (va_up g23 20 (upd (g23 20) nl (nI (L9.length)))) from MI_cut hx3.1 (by omega) (Nat.le_refl _) hM9), (show ∀ j, j ≠ 20 → j ≠ 21 → j ≠ 23 → (va_up g23 20 (upd (g23 20) nl (nI (L9.length)))) j = g j from fun j h1 h2 h3 => by rw [← hfr8 j h1 h2 h3, ← hfr9 j h1 h2 h3]; simp [va_up, h1]), (show RW g (va_up g23 20 (upd (g23 20) nl (nI (L9.length)))) nl from RW_tr hRW8 (fun la hla => ⟨(show upd (g23 20) nl _ la = _ by rw [pk_un (by omega)]; exact (hRW9 la hla).1), (hRW9 la hla).2⟩)), (show LT ((va_up g23 20 (upd (g23 20) nl (nI (L9.length)))) 20) ((va_up g23 20 (upd (g23 20) nl (nI (L9.length)))) 21) nl L9 from ⟨pk_us, hx3.2⟩), (show GL nd L9 from hx2), (show cif (0 < g 14 k) (bSv g nd (g 18 nl) lq (g 14 k) L) L = cif (0 < g 14 k) (bD (adG g nd (g 18 nl) lq) (g 4) (okB g (g 18 nl) (g 14 k)) (nd - (d + 1)) (d + 1) L9) L9 from by rw [hB, cif_pos (show 0 < g 14 k from by rw [← hfr8 14 (by decide) (by decide) (by decide)]; exact Int32.not_le.mp hc5), cif_pos (show 0 < g 14 k from by rw [← hfr8 14 (by decide) (by decide) (by decide)]; exact Int32.not_le.mp hc5), bD_s (by omega), bE_t ⟨by rw [← hfr8 3 (by decide) (by decide) (by decide), ← hfr8 18 (by decide) (by decide) (by decide)]; exact hc7, hgvp⟩ (LT_out hL8 z16) hgood]), (show (1 = 0 ∧ L9 = L0) ∨ (1 = 1 ∧ L0.length < L9.length) from Or.inr ⟨rfl, by have q := hgrow; rcases hsm8 with ⟨_, q2⟩ | ⟨_, q2⟩; rw [q2] at q; exact q; omega⟩)⟩
        refine lv_aload_n hx hb xd_Mo_bindsFor_44 rfl (lv_at hl 4 rfl) ?_
        refine va_get (D := D) (ci := 4) (v := .ref (mm 15)) (C := xR_Mo) (T := xT_Mo) (N := 31) hx hb hT xi_Mo hown hK.1 hP 0 rfl rfl 20 (by decide) (hT _ k4j_16) (fun _ h9 => h9) rfl xd_Mo_bindsFor_45 ?_
        refine lv_iconst (v := 3) hx hb xd_Mo_bindsFor_48 (by decide) ?_
        refine lv_iload hx hb xd_Mo_bindsFor_49 (lv_at hl 0 rfl) ?_
        refine lv_imul hx hb xd_Mo_bindsFor_51 ?_
        refine xn_top (y := nI (3 * d)) (pk_mul 3 d) ?_
        refine xn_iald (i := 3 * d) hx hb hK.1 hP 16 0 rfl rfl (by omega) (by decide) xd_Mo_bindsFor_52 ?_
        refine lv_aload_n hx hb xd_Mo_bindsFor_53 rfl (lv_at hl 4 rfl) ?_
        refine va_get (D := D) (ci := 4) (v := .ref (mm 14)) (C := xR_Mo) (T := xT_Mo) (N := 31) hx hb hT xi_Mo hown hK.1 hP 0 rfl rfl 19 (by decide) (hT _ k4j_2) (fun _ h9 => h9) rfl xd_Mo_bindsFor_54 ?_
        refine lv_iload hx hb xd_Mo_bindsFor_57 (lv_at hl 1 rfl) ?_
        refine xn_iald (i := k) hx hb hK.1 hP 15 0 rfl rfl (by omega) (by decide) xd_Mo_bindsFor_59 ?_
        refine lv_icmp_eq (tgt := 105) hx hb xd_Mo_bindsFor_60 (by decide) (fun hc30 => ?_) (fun hc30 => ?_)
        · refine lv_iconst (v := 1) hx hb xd_Mo_bindsFor_105 (by decide) ?_
          refine lv_goto (tgt := 110) hx hb xd_Mo_bindsFor_106 (by decide) ?_
          refine lv_istore hx hb xd_Mo_bindsFor_110 hl (Nat.le_of_ble_eq_true rfl) rfl (fun ls hl => ?_)
          have hl : lv_has ls 9 [(6, .int 1), (5, .int (nI d)), (4, .int (nI k)), (3, .int s8), (2, .int (nI nl)), (0, .ref h), (1, .int (nI us))] := hl
          exact jn6 1 _ _ _ (lv_sub hl [0, 1, 2, 3, 4, 5, 6] rfl) hP hD hS (show (1 = 1 ∧ gvP g d (g 14 k)) ∨ (1 = 0 ∧ ¬ gvP g d (g 14 k)) from Or.inl ⟨rfl, by unfold gvP; rw [← hfr8 15 (by decide) (by decide) (by decide), ← hfr8 14 (by decide) (by decide) (by decide)]; exact Or.inl hc30⟩)
        · refine lv_aload_n hx hb xd_Mo_bindsFor_63 rfl (lv_at hl 4 rfl) ?_
          refine va_get (D := D) (ci := 4) (v := .ref (mm 15)) (C := xR_Mo) (T := xT_Mo) (N := 31) hx hb hT xi_Mo hown hK.1 hP 0 rfl rfl 20 (by decide) (hT _ k4j_16) (fun _ h9 => h9) rfl xd_Mo_bindsFor_64 ?_
          refine lv_iconst (v := 3) hx hb xd_Mo_bindsFor_67 (by decide) ?_
          refine lv_iload hx hb xd_Mo_bindsFor_68 (lv_at hl 0 rfl) ?_
          refine lv_imul hx hb xd_Mo_bindsFor_70 ?_
          refine xn_top (y := nI (3 * d)) (pk_mul 3 d) ?_
          refine lv_iconst (v := 1) hx hb xd_Mo_bindsFor_71 (by decide) ?_
          refine lv_iadd hx hb xd_Mo_bindsFor_72 ?_
          refine xn_top (y := nI ((3 * d) + 1)) (nI_add (3 * d) 1) ?_
          refine xn_iald (i := (3 * d) + 1) hx hb hK.1 hP 16 0 rfl rfl (by omega) (by decide) xd_Mo_bindsFor_73 ?_
          refine lv_aload_n hx hb xd_Mo_bindsFor_74 rfl (lv_at hl 4 rfl) ?_
          refine va_get (D := D) (ci := 4) (v := .ref (mm 14)) (C := xR_Mo) (T := xT_Mo) (N := 31) hx hb hT xi_Mo hown hK.1 hP 0 rfl rfl 19 (by decide) (hT _ k4j_2) (fun _ h9 => h9) rfl xd_Mo_bindsFor_75 ?_
          refine lv_iload hx hb xd_Mo_bindsFor_78 (lv_at hl 1 rfl) ?_
          refine xn_iald (i := k) hx hb hK.1 hP 15 0 rfl rfl (by omega) (by decide) xd_Mo_bindsFor_80 ?_
          refine lv_icmp_eq (tgt := 105) hx hb xd_Mo_bindsFor_81 (by decide) (fun hc31 => ?_) (fun hc31 => ?_)
          · refine lv_iconst (v := 1) hx hb xd_Mo_bindsFor_105 (by decide) ?_
            refine lv_goto (tgt := 110) hx hb xd_Mo_bindsFor_106 (by decide) ?_
            refine lv_istore hx hb xd_Mo_bindsFor_110 hl (Nat.le_of_ble_eq_true rfl) rfl (fun ls hl => ?_)
            have hl : lv_has ls 9 [(6, .int 1), (5, .int (nI d)), (4, .int (nI k)), (3, .int s8), (2, .int (nI nl)), (0, .ref h), (1, .int (nI us))] := hl
            exact jn6 1 _ _ _ (lv_sub hl [0, 1, 2, 3, 4, 5, 6] rfl) hP hD hS (show (1 = 1 ∧ gvP g d (g 14 k)) ∨ (1 = 0 ∧ ¬ gvP g d (g 14 k)) from Or.inl ⟨rfl, by unfold gvP; rw [← hfr8 15 (by decide) (by decide) (by decide), ← hfr8 14 (by decide) (by decide) (by decide)]; exact Or.inr (Or.inl hc31)⟩)
          · refine lv_aload_n hx hb xd_Mo_bindsFor_84 rfl (lv_at hl 4 rfl) ?_
            refine va_get (D := D) (ci := 4) (v := .ref (mm 15)) (C := xR_Mo) (T := xT_Mo) (N := 31) hx hb hT xi_Mo hown hK.1 hP 0 rfl rfl 20 (by decide) (hT _ k4j_16) (fun _ h9 => h9) rfl xd_Mo_bindsFor_85 ?_
            refine lv_iconst (v := 3) hx hb xd_Mo_bindsFor_88 (by decide) ?_
            refine lv_iload hx hb xd_Mo_bindsFor_89 (lv_at hl 0 rfl) ?_
            refine lv_imul hx hb xd_Mo_bindsFor_91 ?_
            refine xn_top (y := nI (3 * d)) (pk_mul 3 d) ?_
            refine lv_iconst (v := 2) hx hb xd_Mo_bindsFor_92 (by decide) ?_
            refine lv_iadd hx hb xd_Mo_bindsFor_93 ?_
            refine xn_top (y := nI ((3 * d) + 2)) (nI_add (3 * d) 2) ?_
            refine xn_iald (i := (3 * d) + 2) hx hb hK.1 hP 16 0 rfl rfl (by omega) (by decide) xd_Mo_bindsFor_94 ?_
            refine lv_aload_n hx hb xd_Mo_bindsFor_95 rfl (lv_at hl 4 rfl) ?_
            refine va_get (D := D) (ci := 4) (v := .ref (mm 14)) (C := xR_Mo) (T := xT_Mo) (N := 31) hx hb hT xi_Mo hown hK.1 hP 0 rfl rfl 19 (by decide) (hT _ k4j_2) (fun _ h9 => h9) rfl xd_Mo_bindsFor_96 ?_
            refine lv_iload hx hb xd_Mo_bindsFor_99 (lv_at hl 1 rfl) ?_
            refine xn_iald (i := k) hx hb hK.1 hP 15 0 rfl rfl (by omega) (by decide) xd_Mo_bindsFor_101 ?_
            refine lv_icmp_ne (tgt := 109) hx hb xd_Mo_bindsFor_102 (by decide) (fun hc32 => ?_) (fun hc32 => ?_)
            · refine lv_iconst (v := 0) hx hb xd_Mo_bindsFor_109 (by decide) ?_
              refine lv_istore hx hb xd_Mo_bindsFor_110 hl (Nat.le_of_ble_eq_true rfl) rfl (fun ls hl => ?_)
              have hl : lv_has ls 9 [(6, .int 0), (5, .int (nI d)), (4, .int (nI k)), (3, .int s8), (2, .int (nI nl)), (0, .ref h), (1, .int (nI us))] := hl
              exact jn6 0 _ _ _ (lv_sub hl [0, 1, 2, 3, 4, 5, 6] rfl) hP hD hS (show (0 = 1 ∧ gvP g d (g 14 k)) ∨ (0 = 0 ∧ ¬ gvP g d (g 14 k)) from Or.inr ⟨rfl, by unfold gvP; rw [← hfr8 15 (by decide) (by decide) (by decide), ← hfr8 14 (by decide) (by decide) (by decide)]; exact fun q => q.elim hc30 (fun q => q.elim hc31 hc32)⟩)
            · refine lv_iconst (v := 1) hx hb xd_Mo_bindsFor_105 (by decide) ?_
              refine lv_goto (tgt := 110) hx hb xd_Mo_bindsFor_106 (by decide) ?_
              refine lv_istore hx hb xd_Mo_bindsFor_110 hl (Nat.le_of_ble_eq_true rfl) rfl (fun ls hl => ?_)
              have hl : lv_has ls 9 [(6, .int 1), (5, .int (nI d)), (4, .int (nI k)), (3, .int s8), (2, .int (nI nl)), (0, .ref h), (1, .int (nI us))] := hl
              exact jn6 1 _ _ _ (lv_sub hl [0, 1, 2, 3, 4, 5, 6] rfl) hP hD hS (show (1 = 1 ∧ gvP g d (g 14 k)) ∨ (1 = 0 ∧ ¬ gvP g d (g 14 k)) from Or.inl ⟨rfl, by unfold gvP; rw [← hfr8 15 (by decide) (by decide) (by decide), ← hfr8 14 (by decide) (by decide) (by decide)]; exact Or.inr (Or.inr hc32)⟩)
