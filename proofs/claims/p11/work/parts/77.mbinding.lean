theorem k4k_0 : (Cond.fieldLink "LayerDeskModel" 150 "LayerDeskModel" "layers" "I") ∈ wT := wT_t (List.mem_append_right _ (List.mem_append_right _ (List.mem_append_right _ (List.mem_append_left _ (List.mem_of_getElem? (i := 107) rfl))))) rfl
theorem k4k_1 : (Cond.fieldLink "LayerDeskModel" 72 "LayerDeskModel" "modules" "[I") ∈ wT := wT_t (List.mem_append_right _ (List.mem_append_right _ (List.mem_append_right _ (List.mem_append_left _ (List.mem_of_getElem? (i := 110) rfl))))) rfl
theorem k4k_2 : (Cond.fieldLink "LayerDeskModel" 69 "LayerDeskModel" "parent" "[I") ∈ wT := wT_t (List.mem_append_right _ (List.mem_append_right _ (List.mem_append_right _ (List.mem_append_left _ (List.mem_of_getElem? (i := 109) rfl))))) rfl
theorem k4k_3 : (Cond.fieldLink "LayerDeskModel" 75 "LayerDeskModel" "module" "[I") ∈ wT := wT_t (List.mem_append_right _ (List.mem_append_right _ (List.mem_append_right _ (List.mem_append_left _ (List.mem_of_getElem? (i := 111) rfl))))) rfl
theorem k4k_4 : (Cond.code xy_Mo_bindsFor xb_Mo_bindsFor 9 (some .boolean)) ∈ wT := wT_t (List.mem_append_right _ (List.mem_append_right _ (List.mem_append_right _ (List.mem_append_right _ (List.mem_of_getElem? (i := 32) rfl))))) rfl
theorem k4k_5 : (Cond.methodLink "LayerDeskModel" 164 xy_Mo_bindsFor) ∈ wT := wT_t (List.mem_append_right _ (List.mem_append_right _ (List.mem_append_right _ (List.mem_append_right _ (List.mem_of_getElem? (i := 29) rfl))))) rfl
theorem k4k_6 : (Cond.instanceMethod xy_Mo_bindsFor) ∈ wT := wT_t (List.mem_append_right _ (List.mem_append_right _ (List.mem_append_right _ (List.mem_append_right _ (List.mem_of_getElem? (i := 31) rfl))))) rfl
theorem k4k_7 : (Cond.selects "LayerDeskModel" xy_Mo_bindsFor xy_Mo_bindsFor) ∈ wT := wT_s (q := (xy_Mo_bindsFor, 31)) (by decide +kernel) rfl
theorem k4k_8 : (Cond.initialized "LayerDeskModel") ∈ wT := wT_t (List.mem_append_left _ (List.mem_of_getElem? (i := 5) rfl)) rfl
set_option maxHeartbeats 4000000 in
set_option maxRecDepth 100000 in
theorem xc_Mo_bindingX (l : Launch) (D : va_G) (kA : Nat → ClassId) (sz h : Nat) (mm : Nat → Nat) (v : Nat → Int32) (g : Nat → Nat → Int32) (nd : Nat) (nl : Nat) (lq : Nat) (L0 : List Nat) (hMI : MI v g) (hnd : v 4 = nI nd) (hnd12 : nd ≤ 12) (hnl : v 5 = nI nl) (hnl5 : nl ≤ 5) (hpn : ∀ la, la < nl + 1 → ∃ lq, lq ≤ la ∧ g 19 la = nI lq - 1) (hlqe : g 19 nl = nI lq - 1) (hlqn : lq ≤ nl) (hLT : LT (g 20) (g 21) nl L0) (hGL : GL nd L0) : Met l xy_Mo_binding (.code xy_Mo_binding xb_Mo_binding 5 none :: wT) { frames := 3, cells := 0, slots := 0, locals := 77 } (va_Pc [.ref h] (xPre D kA sz (moW h mm kA v g))) (va_Qv (fun (u : (Nat → Int32) × (Nat → Nat → Int32)) => u.1 = v ∧ MI v u.2 ∧ (∀ j, j ≠ 20 → j ≠ 21 → j ≠ 23 → u.2 j = g j) ∧ RW g u.2 nl ∧ ∃ L1, GL nd L1 ∧ LT (u.2 20) (u.2 21) nl L1 ∧ bIt (bUg g nd (g 18 nl) lq) g lq 13 L0 = L1) (fun (u : (Nat → Int32) × (Nat → Nat → Int32)) t => va_P D xcl (moW h mm kA u.1 u.2) t.heap ∧ va_D (va_A (moW h mm kA v g) sz) (moW h mm kA u.1 u.2)) (va_A (moW h mm kA v g) sz)) 0 0 (va_A (moW h mm kA v g) sz) := by
  refine Met.ofW (cc := xb_Mo_binding) (maxL := 5) (ret := none) (by decide) rfl ?_
  intro p e s m args below meth c s₁ B hml hv
  obtain ⟨rfl, hsz, hP, hK, hD0⟩ := hv
  have hx := B.exec
  have hb := B.bytes
  have hr := B.returns
  have hT := x_hT B.pre
  have hown : s.vm.findClass xR_Mo = some m.cls := findClass_of_methodNamed B.named
  have hlocks := B.notSynchronized
  subst hsz
  have hD := hD0.self (sz := s.heap.size)
  generalize hAe : va_A (moW h mm kA v g) s.heap.size = A at hD ⊢
  have hA : ∀ q : Nat, s.heap.size ≤ q → A q := fun q h => by rw [← hAe]; exact Or.inr h
  have hS : va_S A s.heap s.heap [] := va_S.rf
  have hl := lv_entry ([.ref h]) (n := 5) (Nat.le_of_ble_eq_true rfl)
  rw [lg_entry_eq]
  generalize (lg_sl ([.ref h]) ++ List.replicate (5 - (lg_sl ([.ref h])).length) Slot.unset).toArray = ls at hl ⊢
  have hl : lv_has ls 5 [(0, .ref h)] := hl
  have hP : va_P D xcl (moW h mm kA v g) s.heap := hP
  obtain ⟨-, -, -, -, -, hmdg, huq⟩ := id hMI
  have hL0l := GL_len hGL
  refine lv_iconst (v := 1) hx hb xd_Mo_binding_0 (by decide) ?_
  refine lv_istore_n hx hb xd_Mo_binding_1 rfl hl (Nat.le_of_ble_eq_true rfl) rfl (fun ls hl => ?_)
  have hl : lv_has ls 5 [(1, .int 1), (0, .ref h)] := hl
  refine xlab (σ := Nat × List Nat × (Nat → Nat → Int32)) (ml := 5) 2 (fun (mr, L, g1) => [(1, .int (nI mr)), (0, .ref h)]) (fun (mr, L, g1) => []) (fun (mr, L, g1) => moW h mm kA v g1) (fun (mr, L, g1) => (mr ≤ 1) ∧ (MI v g1) ∧ (∀ j, j ≠ 20 → j ≠ 21 → j ≠ 23 → g1 j = g j) ∧ (RW g g1 nl) ∧ (LT (g1 20) (g1 21) nl L) ∧ (GL nd L) ∧ ((mr = 1 ∧ ∃ m, bIt (bUg g nd (g 18 nl) lq) g lq 13 L0 = bIt (bUg g nd (g 18 nl) lq) g lq m L ∧ 13 ≤ m + L.length) ∨ (mr = 0 ∧ bIt (bUg g nd (g 18 nl) lq) g lq 13 L0 = L))) (fun (mr, L, g1) => 2 * (12 - L.length) + mr) ?_ (1, L0, g) _ _ _ (lv_sub hl [0, 1] rfl) hP hD hS ⟨(show 1 ≤ 1 from by first | assumption | omega), (show MI v g from hMI), (show ∀ j, j ≠ 20 → j ≠ 21 → j ≠ 23 → g j = g j from fun j h1 h2 h3 => rfl), (show RW g g nl from RW_rf), (show LT (g 20) (g 21) nl L0 from hLT), (show GL nd L0 from hGL), (show (1 = 1 ∧ ∃ m, bIt (bUg g nd (g 18 nl) lq) g lq 13 L0 = bIt (bUg g nd (g 18 nl) lq) g lq m L0 ∧ 13 ≤ m + L0.length) ∨ (1 = 0 ∧ bIt (bUg g nd (g 18 nl) lq) g lq 13 L0 = L0) from Or.inl ⟨rfl, 13, rfl, by omega⟩)⟩
  intro n9 ih1 a9 ls H locs hμ hl hP hD hS hI
  subst hμ
  obtain ⟨mr, L, g1⟩ := a9
  obtain ⟨hmr1, hM1, hfr1, hRW1, hL1, hG1, hI⟩ := hI
  have hmr1 : mr ≤ 1 := hmr1
  have hM1 : MI v g1 := hM1
  have hfr1 : ∀ j, j ≠ 20 → j ≠ 21 → j ≠ 23 → g1 j = g j := hfr1
  have hRW1 : RW g g1 nl := hRW1
  have hL1 : LT (g1 20) (g1 21) nl L := hL1
  have hG1 : GL nd L := hG1
  have hI : (mr = 1 ∧ ∃ m, bIt (bUg g nd (g 18 nl) lq) g lq 13 L0 = bIt (bUg g nd (g 18 nl) lq) g lq m L ∧ 13 ≤ m + L.length) ∨ (mr = 0 ∧ bIt (bUg g nd (g 18 nl) lq) g lq 13 L0 = L) := hI
  have hpar1 : ∀ la, la < nl + 1 → ∃ lq, lq ≤ la ∧ g1 19 la = nI lq - 1 := fun la h => by rw [hfr1 19 (by decide) (by decide) (by decide)]; exact hpn la h
  have hlqe1 : g1 19 nl = nI lq - 1 := by rw [hfr1 19 (by decide) (by decide) (by decide)]; exact hlqe
  have hLl1 := GL_len hG1
  have hmk1 := hL1.1
  have hSM1 : adG g1 nd (g1 18 nl) lq = adG g nd (g 18 nl) lq := adG_sm hnl5 hpn hlqn hmdg hfr1 hRW1
  obtain ⟨-, -, -, -, -, hmd1, -⟩ := id hM1
  have hl : lv_has ls 5 [(1, .int (nI mr)), (0, .ref h)] := hl
  have hP : va_P D xcl (moW h mm kA v g1) H := hP
  have hD : va_D A (moW h mm kA v g1) := hD
  refine lv_iload_n hx hb xd_Mo_binding_2 rfl (lv_at hl 0 rfl) ?_
  refine xz_eq (a := mr) (tgt := 80) hx hb xd_Mo_binding_3 (by decide) (by omega) (fun hc2 => ?_) (fun hc2 => ?_)
  · exact W.vret hx hb hr (fun t ht hW => ⟨⟨(v, g1), rfl, ⟨rfl, hM1, hfr1, hRW1, L, hG1, hL1, by rcases hI with ⟨q, _⟩ | ⟨_, q⟩; omega; exact q⟩, by rw [ht]; exact hP, hD⟩, hS.F ht⟩) hS.2.2 xd_Mo_binding_80
  · refine lv_iconst (v := 0) hx hb xd_Mo_binding_6 (by decide) ?_
    refine lv_istore_n hx hb xd_Mo_binding_7 rfl hl (Nat.le_of_ble_eq_true rfl) rfl (fun ls hl => ?_)
    have hl : lv_has ls 5 [(1, .int 0), (0, .ref h)] := hl
    refine lv_aload_n hx hb xd_Mo_binding_8 rfl (lv_at hl 1 rfl) ?_
    refine va_get (D := D) (ci := 4) (v := .int (v 5)) (C := xR_Mo) (T := xT_Mo) (N := 31) hx hb hT xi_Mo hown hK.1 hP 0 rfl rfl 23 (by decide) (hT _ k4k_0) (fun _ h9 => h9) rfl xd_Mo_binding_9 ?_
    refine xn_top (x := (v 5)) (y := nI nl) hnl ?_
    refine lv_istore_n hx hb xd_Mo_binding_12 rfl hl (Nat.le_of_ble_eq_true rfl) rfl (fun ls hl => ?_)
    have hl : lv_has ls 5 [(2, .int (nI nl)), (1, .int 0), (0, .ref h)] := hl
    rw [← nI_pred nl] at hl
    refine xlab (σ := Nat × Nat × List Nat × (Nat → Nat → Int32)) (ml := 5) 13 (fun (lq8, mr8, L8, g8) => [(2, .int (nI lq8 - 1)), (1, .int (nI mr8)), (0, .ref h)]) (fun (lq8, mr8, L8, g8) => []) (fun (lq8, mr8, L8, g8) => moW h mm kA v g8) (fun (lq8, mr8, L8, g8) => (lq8 ≤ nl + 1) ∧ (mr8 ≤ 1) ∧ (MI v g8) ∧ (∀ j, j ≠ 20 → j ≠ 21 → j ≠ 23 → g8 j = g j) ∧ (RW g g8 nl) ∧ (LT (g8 20) (g8 21) nl L8) ∧ (GL nd L8) ∧ ((mr8 = 0 ∧ L8 = L) ∨ (mr8 = 1 ∧ L.length < L8.length)) ∧ ((lq8 = nl + 1 ∧ L8 = L) ∨ (lq8 ≤ nl ∧ bO (bUg g nd (g 18 nl) lq) g lq L = bAU (bUg g nd (g 18 nl) lq) g lq8 L8))) (fun (lq8, mr8, L8, g8) => lq8) ?_ (nl + 1, 0, L, g1) _ _ _ (lv_sub hl [0, 1, 2] rfl) hP hD hS ⟨(show (nl + 1) ≤ nl + 1 from by first | assumption | omega), (show 0 ≤ 1 from by first | assumption | omega), (show MI v g1 from hM1), (show ∀ j, j ≠ 20 → j ≠ 21 → j ≠ 23 → g1 j = g j from hfr1), (show RW g g1 nl from hRW1), (show LT (g1 20) (g1 21) nl L from hL1), (show GL nd L from hG1), (show (0 = 0 ∧ L = L) ∨ (0 = 1 ∧ L.length < L.length) from Or.inl ⟨rfl, rfl⟩), (show ((nl + 1) = nl + 1 ∧ L = L) ∨ ((nl + 1) ≤ nl ∧ bO (bUg g nd (g 18 nl) lq) g lq L = bAU (bUg g nd (g 18 nl) lq) g (nl + 1) L) from Or.inl ⟨rfl, rfl⟩)⟩
    intro n9 ih3 a9 ls H locs hμ hl hP hD hS hI
    subst hμ
    obtain ⟨lq8, mr8, L8, g8⟩ := a9
    obtain ⟨hlq8, hmr81, hM8, hfr8, hRW8, hL8, hG8, hmr8, hO⟩ := hI
    have hlq8 : lq8 ≤ nl + 1 := hlq8
    have hmr81 : mr8 ≤ 1 := hmr81
    have hM8 : MI v g8 := hM8
    have hfr8 : ∀ j, j ≠ 20 → j ≠ 21 → j ≠ 23 → g8 j = g j := hfr8
    have hRW8 : RW g g8 nl := hRW8
    have hL8 : LT (g8 20) (g8 21) nl L8 := hL8
    have hG8 : GL nd L8 := hG8
    have hmr8 : (mr8 = 0 ∧ L8 = L) ∨ (mr8 = 1 ∧ L.length < L8.length) := hmr8
    have hO : (lq8 = nl + 1 ∧ L8 = L) ∨ (lq8 ≤ nl ∧ bO (bUg g nd (g 18 nl) lq) g lq L = bAU (bUg g nd (g 18 nl) lq) g lq8 L8) := hO
    have hpar8 : ∀ la, la < nl + 1 → ∃ lq, lq ≤ la ∧ g8 19 la = nI lq - 1 := fun la h => by rw [hfr8 19 (by decide) (by decide) (by decide)]; exact hpn la h
    have hlqe8 : g8 19 nl = nI lq - 1 := by rw [hfr8 19 (by decide) (by decide) (by decide)]; exact hlqe
    have hLl8 := GL_len hG8
    have hmk8 := hL8.1
    have hSM8 : adG g8 nd (g8 18 nl) lq = adG g nd (g 18 nl) lq := adG_sm hnl5 hpn hlqn hmdg hfr8 hRW8
    have hln8 : (mr8 = 0 ∧ L8.length = L.length) ∨ (mr8 = 1 ∧ L.length < L8.length) := by
      rcases hmr8 with ⟨q, q2⟩ | q
      · exact Or.inl ⟨q, by rw [q2]⟩
      · exact Or.inr q
    obtain ⟨-, -, -, -, -, hmd8, -⟩ := id hM8
    have hl : lv_has ls 5 [(2, .int (nI lq8 - 1)), (1, .int (nI mr8)), (0, .ref h)] := hl
    have hP : va_P D xcl (moW h mm kA v g8) H := hP
    have hD : va_D A (moW h mm kA v g8) := hD
    rcases Nat.eq_zero_or_pos lq8 with hz5 | hz5
    · have e5 : nI lq8 - 1 = -1 := by rw [hz5]; decide
      rw [e5] at hl
      refine lv_iload_n hx hb xd_Mo_binding_13 rfl (lv_at hl 0 rfl) ?_
      refine lv_if_lt (tgt := 77) hx hb xd_Mo_binding_14 (by decide) (fun _ => ?_) (fun hc4 => absurd hc4 (by decide))
      refine lv_goto (tgt := 2) hx hb xd_Mo_binding_77 (by decide) ?_
      exact ih1 (mr8, L8, g8) _ _ _ (show 2 * (12 - L8.length) + mr8 < 2 * (12 - L.length) + mr by omega) (lv_sub hl [1, 2] rfl) hP hD hS ⟨(show mr8 ≤ 1 from by first | assumption | omega), (show MI v g8 from hM8), (show ∀ j, j ≠ 20 → j ≠ 21 → j ≠ 23 → g8 j = g j from hfr8), (show RW g g8 nl from hRW8), (show LT (g8 20) (g8 21) nl L8 from hL8), (show GL nd L8 from hG8), (show (mr8 = 1 ∧ ∃ m, bIt (bUg g nd (g 18 nl) lq) g lq 13 L0 = bIt (bUg g nd (g 18 nl) lq) g lq m L8 ∧ 13 ≤ m + L8.length) ∨ (mr8 = 0 ∧ bIt (bUg g nd (g 18 nl) lq) g lq 13 L0 = L8) from by
        rcases hI with ⟨_, m, q1, q2⟩ | ⟨q, _⟩
        · have hO2 : bO (bUg g nd (g 18 nl) lq) g lq L = L8 := by
            rcases hO with ⟨q3, _⟩ | ⟨_, q3⟩
            · omega
            · rw [q3, hz5]; rfl
          rcases hmr8 with ⟨e, e2⟩ | ⟨e, e2⟩
          · refine Or.inr ⟨e, ?_⟩
            rw [q1, e2]; exact bIt_fix (hO2.trans e2) m
          · exact Or.inl ⟨e, m - 1, by rw [q1, bIt_s (by omega), hO2], by omega⟩
        · omega)⟩
    · have e5 : nI lq8 - 1 = nI (lq8 - 1) := pk_sub (a := lq8) (b := 1) hz5
      rw [e5] at hl
      refine lv_iload_n hx hb xd_Mo_binding_13 rfl (lv_at hl 0 rfl) ?_
      refine xz_lt (a := lq8 - 1) (tgt := 77) hx hb xd_Mo_binding_14 (by decide) (by omega) ?_
      refine lv_iconst (v := 0) hx hb xd_Mo_binding_17 (by decide) ?_
      refine lv_istore_n hx hb xd_Mo_binding_18 rfl hl (Nat.le_of_ble_eq_true rfl) rfl (fun ls hl => ?_)
      have hl : lv_has ls 5 [(3, .int 0), (2, .int (nI (lq8 - 1))), (1, .int (nI mr8)), (0, .ref h)] := hl
      refine xlab (σ := Nat × Nat × List Nat × (Nat → Nat → Int32)) (ml := 5) 19 (fun (k7, mr7, L7, g7) => [(3, .int (nI k7)), (2, .int (nI (lq8 - 1))), (1, .int (nI mr7)), (0, .ref h)]) (fun (k7, mr7, L7, g7) => []) (fun (k7, mr7, L7, g7) => moW h mm kA v g7) (fun (k7, mr7, L7, g7) => (k7 ≤ 12) ∧ (mr7 ≤ 1) ∧ (MI v g7) ∧ (∀ j, j ≠ 20 → j ≠ 21 → j ≠ 23 → g7 j = g j) ∧ (RW g g7 nl) ∧ (LT (g7 20) (g7 21) nl L7) ∧ (GL nd L7) ∧ ((mr7 = 0 ∧ L7 = L) ∨ (mr7 = 1 ∧ L.length < L7.length)) ∧ ((lq8 = nl + 1 ∧ bO (bUg g nd (g 18 nl) lq) g lq L = bAU (bUg g nd (g 18 nl) lq) g lq (bL (bUg g nd (g 18 nl) lq) (12 - k7) k7 L7)) ∨ (lq8 ≤ nl ∧ bO (bUg g nd (g 18 nl) lq) g lq L = bAU (bUg g nd (g 18 nl) lq) g (prv g (lq8 - 1)) (bR (bUg g nd (g 18 nl) lq) (mdv g (lq8 - 1)) (mcv g (lq8 - 1) - k7) k7 L7)))) (fun (k7, mr7, L7, g7) => 12 - k7) ?_ (0, mr8, L8, g8) _ _ _ (lv_sub hl [0, 1, 2, 3] rfl) hP hD hS ⟨(show 0 ≤ 12 from by first | assumption | omega), (show mr8 ≤ 1 from by first | assumption | omega), (show MI v g8 from hM8), (show ∀ j, j ≠ 20 → j ≠ 21 → j ≠ 23 → g8 j = g j from hfr8), (show RW g g8 nl from hRW8), (show LT (g8 20) (g8 21) nl L8 from hL8), (show GL nd L8 from hG8), (show (mr8 = 0 ∧ L8 = L) ∨ (mr8 = 1 ∧ L.length < L8.length) from hmr8), (show (lq8 = nl + 1 ∧ bO (bUg g nd (g 18 nl) lq) g lq L = bAU (bUg g nd (g 18 nl) lq) g lq (bL (bUg g nd (g 18 nl) lq) (12 - 0) 0 L8)) ∨ (lq8 ≤ nl ∧ bO (bUg g nd (g 18 nl) lq) g lq L = bAU (bUg g nd (g 18 nl) lq) g (prv g (lq8 - 1)) (bR (bUg g nd (g 18 nl) lq) (mdv g (lq8 - 1)) (mcv g (lq8 - 1) - 0) 0 L8)) from by
        rcases hO with ⟨q, q1⟩ | ⟨q, q1⟩
        · refine Or.inl ⟨q, ?_⟩
          rw [q1]; rfl
        · refine Or.inr ⟨q, ?_⟩
          rw [q1, bAU_s hz5 (fun la hla => prv_le (np := nl + 1) (by omega) hpn la (by omega))]; rfl)⟩
      intro n9 ih6 a9 ls H locs hμ hl hP hD hS hI
      subst hμ
      obtain ⟨k7, mr7, L7, g7⟩ := a9
      obtain ⟨hk7, hmr71, hM7, hfr7, hRW7, hL7, hG7, hmr7, hO7⟩ := hI
      have hk7 : k7 ≤ 12 := hk7
      have hmr71 : mr7 ≤ 1 := hmr71
      have hM7 : MI v g7 := hM7
      have hfr7 : ∀ j, j ≠ 20 → j ≠ 21 → j ≠ 23 → g7 j = g j := hfr7
      have hRW7 : RW g g7 nl := hRW7
      have hL7 : LT (g7 20) (g7 21) nl L7 := hL7
      have hG7 : GL nd L7 := hG7
      have hmr7 : (mr7 = 0 ∧ L7 = L) ∨ (mr7 = 1 ∧ L.length < L7.length) := hmr7
      have hO7 : (lq8 = nl + 1 ∧ bO (bUg g nd (g 18 nl) lq) g lq L = bAU (bUg g nd (g 18 nl) lq) g lq (bL (bUg g nd (g 18 nl) lq) (12 - k7) k7 L7)) ∨ (lq8 ≤ nl ∧ bO (bUg g nd (g 18 nl) lq) g lq L = bAU (bUg g nd (g 18 nl) lq) g (prv g (lq8 - 1)) (bR (bUg g nd (g 18 nl) lq) (mdv g (lq8 - 1)) (mcv g (lq8 - 1) - k7) k7 L7)) := hO7
      have hpar7 : ∀ la, la < nl + 1 → ∃ lq, lq ≤ la ∧ g7 19 la = nI lq - 1 := fun la h => by rw [hfr7 19 (by decide) (by decide) (by decide)]; exact hpn la h
      have hlqe7 : g7 19 nl = nI lq - 1 := by rw [hfr7 19 (by decide) (by decide) (by decide)]; exact hlqe
      have hLl7 := GL_len hG7
      have hmk7 := hL7.1
      have hSM7 : adG g7 nd (g7 18 nl) lq = adG g nd (g 18 nl) lq := adG_sm hnl5 hpn hlqn hmdg hfr7 hRW7
      have hln7 : (mr7 = 0 ∧ L7.length = L.length) ∨ (mr7 = 1 ∧ L.length < L7.length) := by
        rcases hmr7 with ⟨q, q2⟩ | q
        · exact Or.inl ⟨q, by rw [q2]⟩
        · exact Or.inr q
      obtain ⟨-, -, -, -, -, hmd7, -⟩ := id hM7
      have hl : lv_has ls 5 [(3, .int (nI k7)), (2, .int (nI (lq8 - 1))), (1, .int (nI mr7)), (0, .ref h)] := hl
      have hP : va_P D xcl (moW h mm kA v g7) H := hP
      have hD : va_D A (moW h mm kA v g7) := hD
      refine lv_iload_n hx hb xd_Mo_binding_19 rfl (lv_at hl 0 rfl) ?_
      obtain ⟨mdk, hmdk, emdk, hent⟩ := hmd7 (lq8 - 1) (by omega)
      have hcase : (lq8 = nl + 1 ∧ mdk = L7.length) ∨ (lq8 ≤ nl ∧ mcv g (lq8 - 1) = mdk) := by
        rcases Nat.lt_or_ge nl lq8 with q | q
        · refine Or.inl ⟨by omega, ?_⟩
          have q1 := emdk
          rw [show lq8 - 1 = nl by omega] at q1
          exact nI_inj (by omega) (by omega) (q1.symm.trans hmk7)
        · refine Or.inr ⟨q, ?_⟩
          unfold mcv
          rw [← (hRW7 (lq8 - 1) (by omega)).1, emdk, iN_nI (by omega)]
      refine lv_aload_n hx hb xd_Mo_binding_20 rfl (lv_at hl 3 rfl) ?_
      refine va_get (D := D) (ci := 4) (v := .ref (mm 20)) (C := xR_Mo) (T := xT_Mo) (N := 31) hx hb hT xi_Mo hown hK.1 hP 0 rfl rfl 26 (by decide) (hT _ k4k_1) (fun _ h9 => h9) rfl xd_Mo_binding_21 ?_
      refine lv_iload_n hx hb xd_Mo_binding_24 rfl (lv_at hl 1 rfl) ?_
      refine xn_iald (i := lq8 - 1) hx hb hK.1 hP 21 0 rfl rfl (by omega) (by decide) xd_Mo_binding_25 ?_
      refine xn_top (x := (g7 20 (lq8 - 1))) (y := nI mdk) emdk ?_
      refine xn_ge (a := k7) (b := mdk) (tgt := 67) hx hb xd_Mo_binding_26 (by decide) (by omega) (by omega) (fun hc7 => ?_) (fun hc7 => ?_)
      · refine lv_aload_n hx hb xd_Mo_binding_67 rfl (lv_at hl 3 rfl) ?_
        refine va_get (D := D) (ci := 4) (v := .ref (mm 19)) (C := xR_Mo) (T := xT_Mo) (N := 31) hx hb hT xi_Mo hown hK.1 hP 0 rfl rfl 25 (by decide) (hT _ k4k_2) (fun _ h9 => h9) rfl xd_Mo_binding_68 ?_
        refine lv_iload_n hx hb xd_Mo_binding_71 rfl (lv_at hl 1 rfl) ?_
        refine xn_iald (i := lq8 - 1) hx hb hK.1 hP 20 0 rfl rfl (by omega) (by decide) xd_Mo_binding_72 ?_
        obtain ⟨q8, hq9, eq10⟩ := hpar7 (lq8 - 1) (by omega)
        refine xn_top (x := (g7 19 (lq8 - 1))) eq10 ?_
        refine lv_istore_n hx hb xd_Mo_binding_73 rfl hl (Nat.le_of_ble_eq_true rfl) rfl (fun ls hl => ?_)
        have hl : lv_has ls 5 [(2, .int (nI q8 - 1)), (3, .int (nI k7)), (1, .int (nI mr7)), (0, .ref h)] := hl
        refine lv_goto (tgt := 13) hx hb xd_Mo_binding_74 (by decide) ?_
        exact ih3 (q8, mr7, L7, g7) _ _ _ (show q8 < lq8 by omega) (lv_sub hl [0, 2, 3] rfl) hP hD hS ⟨(show q8 ≤ nl + 1 from by first | assumption | omega), (show mr7 ≤ 1 from by first | assumption | omega), (show MI v g7 from hM7), (show ∀ j, j ≠ 20 → j ≠ 21 → j ≠ 23 → g7 j = g j from hfr7), (show RW g g7 nl from hRW7), (show LT (g7 20) (g7 21) nl L7 from hL7), (show GL nd L7 from hG7), (show (mr7 = 0 ∧ L7 = L) ∨ (mr7 = 1 ∧ L.length < L7.length) from hmr7), (show (q8 = nl + 1 ∧ L7 = L) ∨ (q8 ≤ nl ∧ bO (bUg g nd (g 18 nl) lq) g lq L = bAU (bUg g nd (g 18 nl) lq) g q8 L7) from by
        refine Or.inr ⟨by omega, ?_⟩
        have q0 : prv g (lq8 - 1) = q8 := prv_of (show g 19 (lq8 - 1) = nI q8 - 1 from by rw [← hfr7 19 (by decide) (by decide) (by decide)]; exact eq10) (by omega)
        rcases hO7 with ⟨q, q1⟩ | ⟨q, q1⟩
        · rw [q1, bL_e (by rcases hcase with ⟨_, q9⟩ | ⟨q8, _⟩ <;> omega)]
          rw [show lq8 - 1 = nl by omega] at q0
          rw [← q0, prv_of hlqe (by omega)]
        · rw [q1, bR_e (by rcases hcase with ⟨q8, _⟩ | ⟨_, q9⟩ <;> omega), q0])⟩
      · refine lv_aload_n hx hb xd_Mo_binding_29 rfl (lv_at hl 3 rfl) ?_
        refine lv_aload_n hx hb xd_Mo_binding_30 rfl (lv_at hl 3 rfl) ?_
        refine va_get (D := D) (ci := 4) (v := .ref (mm 21)) (C := xR_Mo) (T := xT_Mo) (N := 31) hx hb hT xi_Mo hown hK.1 hP 0 rfl rfl 27 (by decide) (hT _ k4k_3) (fun _ h9 => h9) rfl xd_Mo_binding_31 ?_
        refine lv_bipush (v := 12) hx hb xd_Mo_binding_34 (by decide) ?_
        refine lv_iload_n hx hb xd_Mo_binding_36 rfl (lv_at hl 1 rfl) ?_
        refine lv_imul hx hb xd_Mo_binding_37 ?_
        refine xn_top (y := nI (12 * (lq8 - 1))) (pk_mul 12 (lq8 - 1)) ?_
        refine lv_iload_n hx hb xd_Mo_binding_38 rfl (lv_at hl 0 rfl) ?_
        refine lv_iadd hx hb xd_Mo_binding_39 ?_
        refine xn_top (y := nI ((12 * (lq8 - 1)) + k7)) (nI_add (12 * (lq8 - 1)) k7) ?_
        refine xn_iald (i := (12 * (lq8 - 1)) + k7) hx hb hK.1 hP 22 0 rfl rfl (by omega) (by decide) xd_Mo_binding_40 ?_
        obtain ⟨k11, hk12, ek13⟩ := hent k7 (by omega)
        refine xn_top (x := (g7 21 ((12 * (lq8 - 1)) + k7))) ek13 ?_
        have hFc := va_free (wc := (moW h mm kA v g7)) hD hS hA [0, 1, 2, 3, 4, 5, 6, 7, 8, 9, 10, 11, 12, 13, 14, 15, 16, 17, 18, 19, 20, 21, 22, 23, 24, 25] rfl
        refine va_calli (va_runV (As := [.int (nI k11)]) (rest := []) ⟨hx, hb, hml, hown, hT⟩ (xc_Mo_bindsForX l D kA H.size h mm v g7 k11 nd nl lq L7 hM7 (by first | assumption | omega) (by first | assumption | omega) (by first | assumption | omega) (by first | assumption | omega) hpar7 hlqe7 (by first | assumption | omega) hL7 hG7 (by first | assumption | omega)) (cwV 1 hT (wT_V k4k_5 k4k_6 k4k_7 k4k_8 k4k_4) rfl rfl rfl (by decide +kernel) ⟨Nat.le_of_ble_eq_true rfl, Nat.le_of_ble_eq_true rfl⟩) (x_preV hK hP hD 0 rfl rfl) rfl rfl hl.1 rfl (lv_room (Nat.le_of_ble_eq_true rfl)) xd_Mo_binding_41 ⟨Nat.le_of_ble_eq_true rfl, Nat.le_of_ble_eq_true rfl⟩) hS (fun q _ h => hFc q h) hFc (fun r14 u15 t H1 locs ht hvm hp16 hB hz1 hk1 hS => ?_)
        obtain ⟨hP1, hD1⟩ := hB
        rw [ht] at hP1
        have hD1 := hD1.weaken (fun _ _ _ h => hFc _ h)
        obtain ⟨v17, g18⟩ := u15
        generalize H1 = H at hP1 hS ⊢
        have hP := hP1
        have hD := hD1
        have hP : va_P D xcl (moW h mm kA v17 g18) H := hP
        have hD : va_D A (moW h mm kA v17 g18) := hD
        obtain ⟨hu9, hM9, hfr9, hRW9, L9, hx2, hx3, hxU, hx5⟩ := hp16
        have hu9 : v = v17 := hu9.symm
        subst hu9
        have hM9 : MI v g18 := hM9
        have hfr9 : ∀ j, j ≠ 20 → j ≠ 21 → j ≠ 23 → g18 j = g7 j := hfr9
        have hRW9 : RW g7 g18 nl := hRW9
        have hx3 : LT (g18 20) (g18 21) nl L9 := hx3
        have hx3l := hx3.1
        have hx9 := GL_len hx2
        rw [bUg_sm hSM7 hfr7] at hxU
        have hkL : lq8 = nl + 1 → k11 = L7.getD k7 0 := fun q => by
          have q1 := ek13
          rw [show lq8 - 1 = nl by omega, hL7.2 k7 (by rcases hcase with ⟨_, q9⟩ | ⟨q8, _⟩ <;> omega)] at q1
          have q2 := hG7.1 _ (getD_mem (L := L7) (k := k7) (by rcases hcase with ⟨_, q9⟩ | ⟨q8, _⟩ <;> omega))
          exact (nI_inj (by omega) (by omega) q1).symm
        have hkR : lq8 ≤ nl → mdv g (lq8 - 1) k7 = k11 := fun q => by
          unfold mdv
          rw [← (hRW7 (lq8 - 1) (by omega)).2 k7 (by omega), ek13, iN_nI (by omega)]
        have hP : va_P D xcl (moW h mm kA v g18) H := hP
        have hD : va_D A (moW h mm kA v g18) := hD
        rcases hx5 with ⟨rfl, hgr9⟩ | ⟨rfl, hgr9⟩
        · have hgl : L9.length = L7.length := by rw [hgr9]
          refine lv_istore hx hb xd_Mo_binding_44 hl (Nat.le_of_ble_eq_true rfl) rfl (fun ls hl => ?_)
          have hl : lv_has ls 5 [(4, .int 0), (3, .int (nI k7)), (2, .int (nI (lq8 - 1))), (1, .int (nI mr7)), (0, .ref h)] := hl
          refine lv_iload_n hx hb xd_Mo_binding_46 rfl (lv_at hl 3 rfl) ?_
          refine xz_ne (a := mr7) (tgt := 55) hx hb xd_Mo_binding_47 (by decide) (by omega) (fun hc19 => ?_) (fun hc19 => ?_)
          · refine lv_iconst (v := 1) hx hb xd_Mo_binding_55 (by decide) ?_
            refine lv_goto (tgt := 60) hx hb xd_Mo_binding_56 (by decide) ?_
            refine lv_istore_n hx hb xd_Mo_binding_60 rfl hl (Nat.le_of_ble_eq_true rfl) rfl (fun ls hl => ?_)
            have hl : lv_has ls 5 [(1, .int 1), (4, .int 0), (3, .int (nI k7)), (2, .int (nI (lq8 - 1))), (0, .ref h)] := hl
            refine lv_iinc (k := 2) (x := (nI k7)) (v := (nI (k7 + 1))) hx hb xd_Mo_binding_61 hl rfl (xb_inc k7 1) (Nat.le_of_ble_eq_true rfl) rfl (fun ls hl => ?_)
            have hl : lv_has ls 5 [(3, .int (nI (k7 + 1))), (1, .int 1), (4, .int 0), (2, .int (nI (lq8 - 1))), (0, .ref h)] := hl
            refine lv_goto (tgt := 19) hx hb xd_Mo_binding_64 (by decide) ?_
            exact ih6 (k7 + 1, 1, L9, g18) _ _ _ (show 12 - (k7 + 1) < 12 - k7 by omega) (lv_sub hl [0, 3, 1, 4] rfl) hP hD hS ⟨(show (k7 + 1) ≤ 12 from by first | assumption | omega), (show 1 ≤ 1 from by first | assumption | omega), (show MI v g18 from hM9), (show ∀ j, j ≠ 20 → j ≠ 21 → j ≠ 23 → g18 j = g j from fun j h1 h2 h3 => (hfr9 j h1 h2 h3).trans (hfr7 j h1 h2 h3)), (show RW g g18 nl from RW_tr hRW7 hRW9), (show LT (g18 20) (g18 21) nl L9 from hx3), (show GL nd L9 from hx2), (show (1 = 0 ∧ L9 = L) ∨ (1 = 1 ∧ L.length < L9.length) from Or.inr ⟨rfl, by omega⟩), (show (lq8 = nl + 1 ∧ bO (bUg g nd (g 18 nl) lq) g lq L = bAU (bUg g nd (g 18 nl) lq) g lq (bL (bUg g nd (g 18 nl) lq) (12 - (k7 + 1)) (k7 + 1) L9)) ∨ (lq8 ≤ nl ∧ bO (bUg g nd (g 18 nl) lq) g lq L = bAU (bUg g nd (g 18 nl) lq) g (prv g (lq8 - 1)) (bR (bUg g nd (g 18 nl) lq) (mdv g (lq8 - 1)) (mcv g (lq8 - 1) - (k7 + 1)) (k7 + 1) L9)) from by
        rcases hO7 with ⟨q, q1⟩ | ⟨q, q1⟩
        · refine Or.inl ⟨q, ?_⟩
          rw [q1, bL_s (by rcases hcase with ⟨_, q9⟩ | ⟨q8, _⟩ <;> omega) (by omega), ← hkL q, hxU]
        · refine Or.inr ⟨q, ?_⟩
          rw [q1, bR_s (by rcases hcase with ⟨q8, _⟩ | ⟨_, q9⟩ <;> omega), hkR q, hxU])⟩
          · refine lv_iload hx hb xd_Mo_binding_50 (lv_at hl 0 rfl) ?_
            refine xz_eq (a := 0) (tgt := 59) hx hb xd_Mo_binding_52 (by decide) (by omega) (fun _ => ?_) (fun hc20 => absurd hc20 (by omega))
            refine lv_iconst (v := 0) hx hb xd_Mo_binding_59 (by decide) ?_
            refine lv_istore_n hx hb xd_Mo_binding_60 rfl hl (Nat.le_of_ble_eq_true rfl) rfl (fun ls hl => ?_)
            have hl : lv_has ls 5 [(1, .int 0), (4, .int 0), (3, .int (nI k7)), (2, .int (nI (lq8 - 1))), (0, .ref h)] := hl
            refine lv_iinc (k := 2) (x := (nI k7)) (v := (nI (k7 + 1))) hx hb xd_Mo_binding_61 hl rfl (xb_inc k7 1) (Nat.le_of_ble_eq_true rfl) rfl (fun ls hl => ?_)
            have hl : lv_has ls 5 [(3, .int (nI (k7 + 1))), (1, .int 0), (4, .int 0), (2, .int (nI (lq8 - 1))), (0, .ref h)] := hl
            refine lv_goto (tgt := 19) hx hb xd_Mo_binding_64 (by decide) ?_
            exact ih6 (k7 + 1, 0, L9, g18) _ _ _ (show 12 - (k7 + 1) < 12 - k7 by omega) (lv_sub hl [0, 3, 1, 4] rfl) hP hD hS ⟨(show (k7 + 1) ≤ 12 from by first | assumption | omega), (show 0 ≤ 1 from by first | assumption | omega), (show MI v g18 from hM9), (show ∀ j, j ≠ 20 → j ≠ 21 → j ≠ 23 → g18 j = g j from fun j h1 h2 h3 => (hfr9 j h1 h2 h3).trans (hfr7 j h1 h2 h3)), (show RW g g18 nl from RW_tr hRW7 hRW9), (show LT (g18 20) (g18 21) nl L9 from hx3), (show GL nd L9 from hx2), (show (0 = 0 ∧ L9 = L) ∨ (0 = 1 ∧ L.length < L9.length) from Or.inl ⟨rfl, hgr9.trans (by rcases hmr7 with ⟨_, q⟩ | ⟨q, _⟩; exact q; omega)⟩), (show (lq8 = nl + 1 ∧ bO (bUg g nd (g 18 nl) lq) g lq L = bAU (bUg g nd (g 18 nl) lq) g lq (bL (bUg g nd (g 18 nl) lq) (12 - (k7 + 1)) (k7 + 1) L9)) ∨ (lq8 ≤ nl ∧ bO (bUg g nd (g 18 nl) lq) g lq L = bAU (bUg g nd (g 18 nl) lq) g (prv g (lq8 - 1)) (bR (bUg g nd (g 18 nl) lq) (mdv g (lq8 - 1)) (mcv g (lq8 - 1) - (k7 + 1)) (k7 + 1) L9)) from by
        rcases hO7 with ⟨q, q1⟩ | ⟨q, q1⟩
        · refine Or.inl ⟨q, ?_⟩
          rw [q1, bL_s (by rcases hcase with ⟨_, q9⟩ | ⟨q8, _⟩ <;> omega) (by omega), ← hkL q, hxU]
        · refine Or.inr ⟨q, ?_⟩
          rw [q1, bR_s (by rcases hcase with ⟨q8, _⟩ | ⟨_, q9⟩ <;> omega), hkR q, hxU])⟩
        · have hgl := hgr9
          refine lv_istore hx hb xd_Mo_binding_44 hl (Nat.le_of_ble_eq_true rfl) rfl (fun ls hl => ?_)
          have hl : lv_has ls 5 [(4, .int 1), (3, .int (nI k7)), (2, .int (nI (lq8 - 1))), (1, .int (nI mr7)), (0, .ref h)] := hl
          refine lv_iload_n hx hb xd_Mo_binding_46 rfl (lv_at hl 3 rfl) ?_
          refine xz_ne (a := mr7) (tgt := 55) hx hb xd_Mo_binding_47 (by decide) (by omega) (fun hc21 => ?_) (fun hc21 => ?_)
          · refine lv_iconst (v := 1) hx hb xd_Mo_binding_55 (by decide) ?_
            refine lv_goto (tgt := 60) hx hb xd_Mo_binding_56 (by decide) ?_
            refine lv_istore_n hx hb xd_Mo_binding_60 rfl hl (Nat.le_of_ble_eq_true rfl) rfl (fun ls hl => ?_)
            have hl : lv_has ls 5 [(1, .int 1), (4, .int 1), (3, .int (nI k7)), (2, .int (nI (lq8 - 1))), (0, .ref h)] := hl
            refine lv_iinc (k := 2) (x := (nI k7)) (v := (nI (k7 + 1))) hx hb xd_Mo_binding_61 hl rfl (xb_inc k7 1) (Nat.le_of_ble_eq_true rfl) rfl (fun ls hl => ?_)
            have hl : lv_has ls 5 [(3, .int (nI (k7 + 1))), (1, .int 1), (4, .int 1), (2, .int (nI (lq8 - 1))), (0, .ref h)] := hl
            refine lv_goto (tgt := 19) hx hb xd_Mo_binding_64 (by decide) ?_
            exact ih6 (k7 + 1, 1, L9, g18) _ _ _ (show 12 - (k7 + 1) < 12 - k7 by omega) (lv_sub hl [0, 3, 1, 4] rfl) hP hD hS ⟨(show (k7 + 1) ≤ 12 from by first | assumption | omega), (show 1 ≤ 1 from by first | assumption | omega), (show MI v g18 from hM9), (show ∀ j, j ≠ 20 → j ≠ 21 → j ≠ 23 → g18 j = g j from fun j h1 h2 h3 => (hfr9 j h1 h2 h3).trans (hfr7 j h1 h2 h3)), (show RW g g18 nl from RW_tr hRW7 hRW9), (show LT (g18 20) (g18 21) nl L9 from hx3), (show GL nd L9 from hx2), (show (1 = 0 ∧ L9 = L) ∨ (1 = 1 ∧ L.length < L9.length) from Or.inr ⟨rfl, by omega⟩), (show (lq8 = nl + 1 ∧ bO (bUg g nd (g 18 nl) lq) g lq L = bAU (bUg g nd (g 18 nl) lq) g lq (bL (bUg g nd (g 18 nl) lq) (12 - (k7 + 1)) (k7 + 1) L9)) ∨ (lq8 ≤ nl ∧ bO (bUg g nd (g 18 nl) lq) g lq L = bAU (bUg g nd (g 18 nl) lq) g (prv g (lq8 - 1)) (bR (bUg g nd (g 18 nl) lq) (mdv g (lq8 - 1)) (mcv g (lq8 - 1) - (k7 + 1)) (k7 + 1) L9)) from by
        rcases hO7 with ⟨q, q1⟩ | ⟨q, q1⟩
        · refine Or.inl ⟨q, ?_⟩
          rw [q1, bL_s (by rcases hcase with ⟨_, q9⟩ | ⟨q8, _⟩ <;> omega) (by omega), ← hkL q, hxU]
        · refine Or.inr ⟨q, ?_⟩
          rw [q1, bR_s (by rcases hcase with ⟨q8, _⟩ | ⟨_, q9⟩ <;> omega), hkR q, hxU])⟩
          · refine lv_iload hx hb xd_Mo_binding_50 (lv_at hl 0 rfl) ?_
            refine xz_eq (a := 1) (tgt := 59) hx hb xd_Mo_binding_52 (by decide) (by omega) (fun hc22 => absurd hc22 (by omega)) (fun _ => ?_)
            refine lv_iconst (v := 1) hx hb xd_Mo_binding_55 (by decide) ?_
            refine lv_goto (tgt := 60) hx hb xd_Mo_binding_56 (by decide) ?_
            refine lv_istore_n hx hb xd_Mo_binding_60 rfl hl (Nat.le_of_ble_eq_true rfl) rfl (fun ls hl => ?_)
            have hl : lv_has ls 5 [(1, .int 1), (4, .int 1), (3, .int (nI k7)), (2, .int (nI (lq8 - 1))), (0, .ref h)] := hl
            refine lv_iinc (k := 2) (x := (nI k7)) (v := (nI (k7 + 1))) hx hb xd_Mo_binding_61 hl rfl (xb_inc k7 1) (Nat.le_of_ble_eq_true rfl) rfl (fun ls hl => ?_)
            have hl : lv_has ls 5 [(3, .int (nI (k7 + 1))), (1, .int 1), (4, .int 1), (2, .int (nI (lq8 - 1))), (0, .ref h)] := hl
            refine lv_goto (tgt := 19) hx hb xd_Mo_binding_64 (by decide) ?_
            exact ih6 (k7 + 1, 1, L9, g18) _ _ _ (show 12 - (k7 + 1) < 12 - k7 by omega) (lv_sub hl [0, 3, 1, 4] rfl) hP hD hS ⟨(show (k7 + 1) ≤ 12 from by first | assumption | omega), (show 1 ≤ 1 from by first | assumption | omega), (show MI v g18 from hM9), (show ∀ j, j ≠ 20 → j ≠ 21 → j ≠ 23 → g18 j = g j from fun j h1 h2 h3 => (hfr9 j h1 h2 h3).trans (hfr7 j h1 h2 h3)), (show RW g g18 nl from RW_tr hRW7 hRW9), (show LT (g18 20) (g18 21) nl L9 from hx3), (show GL nd L9 from hx2), (show (1 = 0 ∧ L9 = L) ∨ (1 = 1 ∧ L.length < L9.length) from Or.inr ⟨rfl, by omega⟩), (show (lq8 = nl + 1 ∧ bO (bUg g nd (g 18 nl) lq) g lq L = bAU (bUg g nd (g 18 nl) lq) g lq (bL (bUg g nd (g 18 nl) lq) (12 - (k7 + 1)) (k7 + 1) L9)) ∨ (lq8 ≤ nl ∧ bO (bUg g nd (g 18 nl) lq) g lq L = bAU (bUg g nd (g 18 nl) lq) g (prv g (lq8 - 1)) (bR (bUg g nd (g 18 nl) lq) (mdv g (lq8 - 1)) (mcv g (lq8 - 1) - (k7 + 1)) (k7 + 1) L9)) from by
        rcases hO7 with ⟨q, q1⟩ | ⟨q, q1⟩
        · refine Or.inl ⟨q, ?_⟩
          rw [q1, bL_s (by rcases hcase with ⟨_, q9⟩ | ⟨q8, _⟩ <;> omega) (by omega), ← hkL q, hxU]
        · refine Or.inr ⟨q, ?_⟩
          rw [q1, bR_s (by rcases hcase with ⟨q8, _⟩ | ⟨_, q9⟩ <;> omega), hkR q, hxU])⟩
def pth (R : Nat → Nat → Prop) : Nat → Nat → Nat → Prop
  | 0, a, b => R a b
  | k + 1, a, b => ∃ c, pth R k a c ∧ R c b
def tc (R : Nat → Nat → Prop) (a b : Nat) : Prop := ∃ k, pth R k a b
theorem tc_1 {R : Nat → Nat → Prop} {a b : Nat} (h : R a b) : tc R a b := ⟨0, h⟩
theorem tc_s {R : Nat → Nat → Prop} {a b c : Nat} (h : tc R a b) (h2 : R b c) : tc R a c := by
  obtain ⟨k, hk⟩ := h
  exact ⟨k + 1, b, hk, h2⟩
theorem pth_min {R : Nat → Nat → Prop} {S : Nat → Prop} {a : Nat} (h1 : ∀ b, R a b → S b) (h2 : ∀ b c, S b → R b c → S c) : ∀ k b, pth R k a b → S b
  | 0, b, h => h1 b h
  | k + 1, b, ⟨c, hc, hr⟩ => h2 c b (pth_min h1 h2 k c hc) hr
theorem tc_min {R : Nat → Nat → Prop} {S : Nat → Prop} {a b : Nat} (h1 : ∀ b, R a b → S b) (h2 : ∀ b c, S b → R b c → S c) (h : tc R a b) : S b := by
  obtain ⟨k, hk⟩ := h
  exact pth_min h1 h2 k b hk
theorem tc_tr {R : Nat → Nat → Prop} {a b c : Nat} (h : tc R a b) (h2 : tc R b c) : tc R a c := tc_min (S := fun x => tc R a x) (fun _ hx => tc_s h hx) (fun _ _ hx hr => tc_s hx hr) h2
theorem lkf_lt {nm : Nat → Int32} {mc : Nat → Nat} {md : Nat → Nat → Nat} {pr : Nat → Nat} {n : Int32} : ∀ (f lq : Nat) {la b : Nat}, (∀ x, x < lq → pr x ≤ x) → lkf nm mc md pr f lq n = some (la, b) → la < lq ∧ ∃ k, k < mc la ∧ md la k = b ∧ nm b = n
  | 0, _, _, _, _, h => by cases h
  | _ + 1, 0, _, _, _, h => by cases h
  | f + 1, l + 1, la, b, hp, h => by
    unfold lkf at h
    cases hq : ff (fun k => nm (md l k) = n) (mc l) with
    | none =>
      rw [hq] at h
      have h1 := hp l (by omega)
      have ih := lkf_lt f (pr l) (fun x hx => hp x (by omega)) h
      exact ⟨by omega, ih.2⟩
    | some k =>
      rw [hq] at h
      have h2 := Option.some.inj h
      have h3 := ff_is hq
      have e1 : l = la := congrArg Prod.fst h2
      have e2 : md l k = b := congrArg Prod.snd h2
      subst e1
      exact ⟨by omega, k, h3.1, e2, by rw [← e2]; exact h3.2.1⟩
theorem lkG_lt {g : gT} {np lq la b : Nat} {n : Int32} (hnp : np ≤ 6) (hpar : ∀ la, la < np → ∃ lq, lq ≤ la ∧ g 19 la = nI lq - 1) (hl : lq ≤ np) (h : lkG g lq n = some (la, b)) : la < lq ∧ ∃ k, k < mcv g la ∧ mdv g la k = b ∧ g 4 b = n := lkf_lt lq lq (fun x hx => prv_le hnp hpar x (by omega)) h
def stp (g : gT) (nl a b : Nat) : Prop := ∃ i, 5 * a ≤ i ∧ i < 5 * a + iN (g 12 a) ∧ g 17 i = 0 ∧ lkG g (nl + 1) (g 13 i) = some (nl, b)
def MB (g : gT) (nl md b : Nat) : Prop := b < 12 ∧ ∃ j, 12 * nl ≤ j ∧ j < 12 * nl + md ∧ g 21 j = nI b
theorem lkG_MB {g : gT} {nl md b : Nat} {n : Int32} (hnl : nl ≤ 5) (hpn : ∀ la, la < nl + 1 → ∃ lq, lq ≤ la ∧ g 19 la = nI lq - 1) (hmd : g 20 nl = nI md) (hmd12 : md ≤ 12) (hent : ∀ i, 12 * nl ≤ i → i < 12 * nl + md → ∃ d, d < 12 ∧ g 21 i = nI d) (h : lkG g (nl + 1) n = some (nl, b)) : MB g nl md b := by
  obtain ⟨_, k, h1, h2, _⟩ := lkG_lt (np := nl + 1) (by omega) hpn (Nat.le_refl _) h
  unfold mcv at h1
  rw [hmd, iN_nI (by omega)] at h1
  obtain ⟨d, h3, h4⟩ := hent (12 * nl + k) (by omega) (by omega)
  unfold mdv at h2
  rw [h4, iN_nI (by omega)] at h2
  subst h2
  exact ⟨h3, 12 * nl + k, by omega, by omega, h4⟩
def cyS (g : gT) (nl md d : Nat) (f : Nat → Int32) : Prop := ∀ t, t < 72 → ¬ f t = 0 → ∃ b, t = 12 * nl + b ∧ MB g nl md b ∧ tc (stp g nl) d b
theorem cyS_0 {g : gT} {nl md d : Nat} {f : Nat → Int32} (h : ∀ j, j < 72 → f j = vp_nar .boolean 0) : cyS g nl md d f := fun t ht hn => absurd ((h t ht).trans (by decide)) hn
theorem cyS_up {g : gT} {nl md d b m t0 : Nat} {f : Nat → Int32} {x : Int32} (h : cyS g nl md d f) (e0 : t0 = 12 * nl + b) (hb : MB g nl md b) (hm : m = d ∨ tc (stp g nl) d m) (hs : stp g nl m b) : cyS g nl md d (upd f t0 x) := fun t ht hn => by
  by_cases e : t = t0
  · refine ⟨b, e.trans e0, hb, ?_⟩
    rcases hm with q | q
    · rw [q] at hs; exact tc_1 hs
    · exact tc_s q hs
  · rw [pk_un e] at hn
    exact h t ht hn
theorem stp_MB {g : gT} {nl md a b : Nat} (hnl : nl ≤ 5) (hpn : ∀ la, la < nl + 1 → ∃ lq, lq ≤ la ∧ g 19 la = nI lq - 1) (hmd : g 20 nl = nI md) (hmd12 : md ≤ 12) (hent : ∀ i, 12 * nl ≤ i → i < 12 * nl + md → ∃ d, d < 12 ∧ g 21 i = nI d) (h : stp g nl a b) : MB g nl md b := by
  obtain ⟨i, _, _, _, h4⟩ := h
  exact lkG_MB hnl hpn hmd hmd12 hent h4
theorem lkG_72 {g : gT} {np lq la b : Nat} {n : Int32} (hnp : np ≤ 6) (hpar : ∀ la, la < np → ∃ lq, lq ≤ la ∧ g 19 la = nI lq - 1) (hmd : ∀ la, la < 6 → ∃ k, k ≤ 12 ∧ g 20 la = nI k ∧ ∀ j, j < k → ∃ d, d < 12 ∧ g 21 (12 * la + j) = nI d) (hl : lq ≤ np) (h : lkG g lq n = some (la, b)) : la < np ∧ b < 12 := by
  obtain ⟨h1, k, h2, h3, _⟩ := lkG_lt hnp hpar hl h
  obtain ⟨mk, q1, q2, q3⟩ := hmd la (by omega)
  unfold mcv at h2
  rw [q2, iN_nI (by omega)] at h2
  obtain ⟨d, q4, q5⟩ := q3 k h2
  unfold mdv at h3
  rw [q5, iN_nI (by omega)] at h3
  omega
theorem up_mono {f f2 : Nat → Int32} {k : Nat} {x : Int32} (hx : ¬ x = 0) (h : ∀ t, ¬ f t = 0 → ¬ f2 t = 0) : ∀ t, ¬ f t = 0 → ¬ upd f2 k x t = 0 := fun t ht => by
  by_cases e : t = k
  · rw [e, pk_us]; exact hx
  · rw [pk_un e]; exact h t ht
def pst (g : gT) (a b : Nat) : Prop := ∃ i, 5 * (a % 12) ≤ i ∧ i < 5 * (a % 12) + iN (g 12 (a % 12)) ∧ ¬ g 16 i = 0 ∧ ∃ la e, lkG g (a / 12 + 1) (g 13 i) = some (la, e) ∧ b = 12 * la + e
def rd0 (g : gT) (ly d k b : Nat) : Prop := ∃ i, 5 * d ≤ i ∧ i < k ∧ ∃ la e, lkG g (ly + 1) (g 13 i) = some (la, e) ∧ b = 12 * la + e
def rdP (g : gT) (ly d b : Nat) : Prop := rd0 g ly d (5 * d + iN (g 12 d)) b ∨ ∃ c, rd0 g ly d (5 * d + iN (g 12 d)) c ∧ tc (pst g) c b
theorem rdP_s {g : gT} {ly d b c : Nat} (h : rdP g ly d b) (h2 : pst g b c) : rdP g ly d c := by
  rcases h with q | ⟨x, q1, q2⟩
  · exact Or.inr ⟨b, q, tc_1 h2⟩
  · exact Or.inr ⟨x, q1, tc_s q2 h2⟩
theorem rdP_min {g : gT} {ly d b : Nat} {S : Nat → Prop} (h1 : ∀ b, rd0 g ly d (5 * d + iN (g 12 d)) b → S b) (h2 : ∀ b c, S b → pst g b c → S c) (h : rdP g ly d b) : S b := by
  rcases h with q | ⟨x, q1, q2⟩
  · exact h1 b q
  · exact tc_min (S := S) (fun c hc => h2 x c (h1 x q1) hc) h2 q2
theorem rd0_s {g : gT} {ly d k b : Nat} (h : rd0 g ly d k b) : rd0 g ly d (k + 1) b := by
  obtain ⟨i, h1, h2, h3⟩ := h
  exact ⟨i, h1, by omega, h3⟩
theorem rd0_c {g : gT} {ly d k b : Nat} (h : rd0 g ly d (k + 1) b) (hk : ∀ la e, lkG g (ly + 1) (g 13 k) = some (la, e) → ¬ b = 12 * la + e) : rd0 g ly d k b := by
  obtain ⟨i, h1, h2, la, e, h3, h4⟩ := h
  rcases Nat.lt_or_ge i k with q | q
  · exact ⟨i, h1, q, la, e, h3, h4⟩
  · rw [show i = k by omega] at h3
    exact absurd h4 (hk la e h3)
theorem k4l_0 : (Cond.fieldLink "LayerDeskModel" 150 "LayerDeskModel" "layers" "I") ∈ wT := wT_t (List.mem_append_right _ (List.mem_append_right _ (List.mem_append_right _ (List.mem_append_left _ (List.mem_of_getElem? (i := 107) rfl))))) rfl
theorem k4l_1 : (Cond.fieldLink "LayerDeskModel" 84 "LayerDeskModel" "seen" "[Z") ∈ wT := wT_t (List.mem_append_right _ (List.mem_append_right _ (List.mem_append_right _ (List.mem_append_left _ (List.mem_of_getElem? (i := 114) rfl))))) rfl
theorem k4l_2 : (Cond.fieldLink "LayerDeskModel" 72 "LayerDeskModel" "modules" "[I") ∈ wT := wT_t (List.mem_append_right _ (List.mem_append_right _ (List.mem_append_right _ (List.mem_append_left _ (List.mem_of_getElem? (i := 110) rfl))))) rfl
theorem k4l_3 : (Cond.fieldLink "LayerDeskModel" 75 "LayerDeskModel" "module" "[I") ∈ wT := wT_t (List.mem_append_right _ (List.mem_append_right _ (List.mem_append_right _ (List.mem_append_left _ (List.mem_of_getElem? (i := 111) rfl))))) rfl
theorem k4l_4 : (Cond.fieldLink "LayerDeskModel" 48 "LayerDeskModel" "requires" "[I") ∈ wT := wT_t (List.mem_append_right _ (List.mem_append_right _ (List.mem_append_right _ (List.mem_append_left _ (List.mem_of_getElem? (i := 101) rfl))))) rfl
theorem k4l_5 : (Cond.fieldLink "LayerDeskModel" 63 "LayerDeskModel" "still" "[Z") ∈ wT := wT_t (List.mem_append_right _ (List.mem_append_right _ (List.mem_append_right _ (List.mem_append_left _ (List.mem_of_getElem? (i := 106) rfl))))) rfl
theorem k4l_6 : (Cond.fieldLink "LayerDeskModel" 51 "LayerDeskModel" "require" "[I") ∈ wT := wT_t (List.mem_append_right _ (List.mem_append_right _ (List.mem_append_right _ (List.mem_append_left _ (List.mem_of_getElem? (i := 102) rfl))))) rfl
theorem k4l_7 : (Cond.code xy_Mo_lookUp xb_Mo_lookUp 5 (some .int)) ∈ wT := wT_t (List.mem_append_right _ (List.mem_append_right _ (List.mem_append_right _ (List.mem_append_right _ (List.mem_of_getElem? (i := 20) rfl))))) rfl
theorem k4l_8 : (Cond.methodLink "LayerDeskModel" 153 xy_Mo_lookUp) ∈ wT := wT_t (List.mem_append_right _ (List.mem_append_right _ (List.mem_append_right _ (List.mem_append_right _ (List.mem_of_getElem? (i := 17) rfl))))) rfl
theorem k4l_9 : (Cond.instanceMethod xy_Mo_lookUp) ∈ wT := wT_t (List.mem_append_right _ (List.mem_append_right _ (List.mem_append_right _ (List.mem_append_right _ (List.mem_of_getElem? (i := 19) rfl))))) rfl
theorem k4l_10 : (Cond.selects "LayerDeskModel" xy_Mo_lookUp xy_Mo_lookUp) ∈ wT := wT_s (q := (xy_Mo_lookUp, 31)) (by decide +kernel) rfl
theorem k4l_11 : (Cond.initialized "LayerDeskModel") ∈ wT := wT_t (List.mem_append_left _ (List.mem_of_getElem? (i := 5) rfl)) rfl
set_option maxHeartbeats 4000000 in
set_option maxRecDepth 100000 in
theorem xc_Mo_isCycleX (l : Launch) (D : va_G) (kA : Nat → ClassId) (sz h : Nat) (mm : Nat → Nat) (v : Nat → Int32) (g : Nat → Nat → Int32) (d : Nat) (nl : Nat) (md0 : Nat) (hMI : MI v g) (hnl : v 5 = nI nl) (hnl5 : nl ≤ 5) (hpn : ∀ la, la < nl + 1 → ∃ lq, lq ≤ la ∧ g 19 la = nI lq - 1) (hmd0 : g 20 nl = nI md0) (hmd012 : md0 ≤ 12) (hd : d < 12) (hdm : MB g nl md0 d) : Met l xy_Mo_isCycle (.code xy_Mo_isCycle xb_Mo_isCycle 10 (some .boolean) :: wT) { frames := 1, cells := 0, slots := 0, locals := 24 } (va_Pc [.ref h, .int (nI d)] (xPre D kA sz (moW h mm kA v g))) (va_Qi (fun (r : Int32) (u : (Nat → Int32) × (Nat → Nat → Int32)) => u.1 = v ∧ (∀ j, j ≠ 24 → u.2 j = g j) ∧ (¬ r = 0 ↔ tc (stp g nl) d d)) (fun (u : (Nat → Int32) × (Nat → Nat → Int32)) t => va_P D xcl (moW h mm kA u.1 u.2) t.heap ∧ va_D (va_A (moW h mm kA v g) sz) (moW h mm kA u.1 u.2)) (va_A (moW h mm kA v g) sz)) 0 0 (va_A (moW h mm kA v g) sz) := by
  refine Met.ofW (cc := xb_Mo_isCycle) (maxL := 10) (ret := (some .boolean)) (by decide) rfl ?_
  intro p e s m args below meth c s₁ B hml hv
  obtain ⟨rfl, hsz, hP, hK, hD0⟩ := hv
  have hx := B.exec
  have hb := B.bytes
  have hr := B.returns
  have hT := x_hT B.pre
  have hown : s.vm.findClass xR_Mo = some m.cls := findClass_of_methodNamed B.named
  have hlocks := B.notSynchronized
  subst hsz
  have hD := hD0.self (sz := s.heap.size)
  generalize hAe : va_A (moW h mm kA v g) s.heap.size = A at hD ⊢
  have hA : ∀ q : Nat, s.heap.size ≤ q → A q := fun q h => by rw [← hAe]; exact Or.inr h
  have hS : va_S A s.heap s.heap [] := va_S.rf
  have hl := lv_entry ([.ref h, .int (nI d)]) (n := 10) (Nat.le_of_ble_eq_true rfl)
  rw [lg_entry_eq]
  generalize (lg_sl ([.ref h, .int (nI d)]) ++ List.replicate (10 - (lg_sl ([.ref h, .int (nI d)])).length) Slot.unset).toArray = ls at hl ⊢
  have hl : lv_has ls 10 [(0, .ref h), (1, .int (nI d))] := hl
  have hP : va_P D xcl (moW h mm kA v g) s.heap := hP
  obtain ⟨-, -, -, -, hrq, hmd, -⟩ := id hMI
  obtain ⟨mdk, hmdk, emdk, hent⟩ := hmd nl (by omega)
  have emd : md0 = mdk := (nI_eq (by rw [xb_31]; omega) (by rw [xb_31]; omega)).mp (hmd0.symm.trans emdk)
  have hent2 : ∀ i, 12 * nl ≤ i → i < 12 * nl + md0 → ∃ d, d < 12 ∧ g 21 i = nI d := fun i h1 h2 => by
    have h3 := hent (i - 12 * nl) (by omega)
    rwa [show 12 * nl + (i - 12 * nl) = i by omega] at h3
  refine lv_aload_n hx hb xd_Mo_isCycle_0 rfl (lv_at hl 0 rfl) ?_
  refine va_get (D := D) (ci := 4) (v := .int (v 5)) (C := xR_Mo) (T := xT_Mo) (N := 31) hx hb hT xi_Mo hown hK.1 hP 0 rfl rfl 23 (by decide) (hT _ k4l_0) (fun _ h9 => h9) rfl xd_Mo_isCycle_1 ?_
  refine xn_top (x := (v 5)) (y := nI nl) hnl ?_
  refine lv_istore_n hx hb xd_Mo_isCycle_4 rfl hl (Nat.le_of_ble_eq_true rfl) rfl (fun ls hl => ?_)
  have hl : lv_has ls 10 [(2, .int (nI nl)), (0, .ref h), (1, .int (nI d))] := hl
  refine lv_iconst (v := 0) hx hb xd_Mo_isCycle_5 (by decide) ?_
  refine lv_istore_n hx hb xd_Mo_isCycle_6 rfl hl (Nat.le_of_ble_eq_true rfl) rfl (fun ls hl => ?_)
  have hl : lv_has ls 10 [(3, .int 0), (2, .int (nI nl)), (0, .ref h), (1, .int (nI d))] := hl
  refine xlab (σ := Nat × (Nat → Int32)) (ml := 10) 7 (fun (i0, f0) => [(3, .int (nI i0)), (2, .int (nI nl)), (0, .ref h), (1, .int (nI d))]) (fun (i0, f0) => []) (fun (i0, f0) => moW h mm kA v (va_up g 24 f0)) (fun (i0, f0) => (i0 ≤ 72) ∧ (∀ j, j < i0 → f0 j = vp_nar .boolean 0)) (fun (i0, f0) => 72 - i0) ?_ (0, (g 24)) _ _ _ (lv_sub hl [0, 1, 2, 3] rfl) hP hD hS ⟨(show 0 ≤ 72 from by first | assumption | omega), (show ∀ j, j < 0 → (g 24) j = vp_nar .boolean 0 from fun j hj => absurd hj (by omega))⟩
  intro n9 ih1 a9 ls H locs hμ hl hP hD hS hI
  subst hμ
  obtain ⟨i0, f0⟩ := a9
  obtain ⟨hi0, hz0⟩ := hI
  have hi0 : i0 ≤ 72 := hi0
  have hz0 : ∀ j, j < i0 → f0 j = vp_nar .boolean 0 := hz0
  have hl : lv_has ls 10 [(3, .int (nI i0)), (2, .int (nI nl)), (0, .ref h), (1, .int (nI d))] := hl
  have hP : va_P D xcl (moW h mm kA v (va_up g 24 f0)) H := hP
  have hD : va_D A (moW h mm kA v (va_up g 24 f0)) := hD
  refine lv_iload_n hx hb xd_Mo_isCycle_7 rfl (lv_at hl 0 rfl) ?_
  refine lv_bipush (v := 72) hx hb xd_Mo_isCycle_8 (by decide) ?_
  refine xn_ge (a := i0) (b := 72) (tgt := 26) hx hb xd_Mo_isCycle_10 (by decide) (by omega) (by omega) (fun hc2 => ?_) (fun hc2 => ?_)
  · refine lv_iconst (v := 1) hx hb xd_Mo_isCycle_26 (by decide) ?_
    refine lv_istore_n hx hb xd_Mo_isCycle_27 rfl hl (Nat.le_of_ble_eq_true rfl) rfl (fun ls hl => ?_)
    have hl : lv_has ls 10 [(3, .int 1), (2, .int (nI nl)), (0, .ref h), (1, .int (nI d))] := hl
    refine lv_iconst (v := 1) hx hb xd_Mo_isCycle_28 (by decide) ?_
    refine lv_istore hx hb xd_Mo_isCycle_29 hl (Nat.le_of_ble_eq_true rfl) rfl (fun ls hl => ?_)
    have hl : lv_has ls 10 [(4, .int 1), (3, .int 1), (2, .int (nI nl)), (0, .ref h), (1, .int (nI d))] := hl
    refine xlab (σ := Nat × Nat × (Nat → Int32)) (ml := 10) 31 (fun (mr3, fi, f3) => [(3, .int (nI mr3)), (4, .int (nI fi)), (2, .int (nI nl)), (0, .ref h), (1, .int (nI d))]) (fun (mr3, fi, f3) => []) (fun (mr3, fi, f3) => moW h mm kA v (va_up g 24 f3)) (fun (mr3, fi, f3) => (mr3 ≤ 1) ∧ (fi ≤ 1) ∧ (bz f3) ∧ (cyS g nl md0 d f3) ∧ ((fi = 0 → ∀ b, stp g nl d b → ¬ f3 (12 * nl + b) = 0) ∧ (mr3 = 0 → fi = 0 ∧ ∀ j, 12 * nl ≤ j → j < 12 * nl + md0 → ∀ m9, g 21 j = nI m9 → m9 < 12 → ¬ f3 (12 * nl + m9) = 0 → ∀ b, stp g nl m9 b → ¬ f3 (12 * nl + b) = 0)) ∧ (¬ fi = 0 → ∀ t, t < 72 → f3 t = 0)) (fun (mr3, fi, f3) => 2 * cz f3 72 + mr3) ?_ (1, 1, f0) _ _ _ (lv_sub hl [1, 0, 2, 3, 4] rfl) hP hD hS ⟨(show 1 ≤ 1 from by first | assumption | omega), (show 1 ≤ 1 from by first | assumption | omega), (show bz f0 from bz_0 (fun j hj => hz0 j (by omega))), (show cyS g nl md0 d f0 from cyS_0 (fun j hj => hz0 j (by omega))), (show (1 = 0 → ∀ b, stp g nl d b → ¬ f0 (12 * nl + b) = 0) ∧ (1 = 0 → 1 = 0 ∧ ∀ j, 12 * nl ≤ j → j < 12 * nl + md0 → ∀ m9, g 21 j = nI m9 → m9 < 12 → ¬ f0 (12 * nl + m9) = 0 → ∀ b, stp g nl m9 b → ¬ f0 (12 * nl + b) = 0) from ⟨fun q => absurd q (by omega), fun q => absurd q (by omega)⟩), (show ¬ 1 = 0 → ∀ t, t < 72 → f0 t = 0 from fun _ t ht => (hz0 t (by omega)).trans (by decide))⟩
    intro n9 ih3 a9 ls H locs hμ hl hP hD hS hI
    subst hμ
    obtain ⟨mr3, fi, f3⟩ := a9
    obtain ⟨hmr31, hfi, hbz3, hs3, hc3, hz3⟩ := hI
    have hmr31 : mr3 ≤ 1 := hmr31
    have hfi : fi ≤ 1 := hfi
    have hbz3 : bz f3 := hbz3
    have hs3 : cyS g nl md0 d f3 := hs3
    have hc3 : (fi = 0 → ∀ b, stp g nl d b → ¬ f3 (12 * nl + b) = 0) ∧ (mr3 = 0 → fi = 0 ∧ ∀ j, 12 * nl ≤ j → j < 12 * nl + md0 → ∀ m9, g 21 j = nI m9 → m9 < 12 → ¬ f3 (12 * nl + m9) = 0 → ∀ b, stp g nl m9 b → ¬ f3 (12 * nl + b) = 0) := hc3
    have hz3 : ¬ fi = 0 → ∀ t, t < 72 → f3 t = 0 := hz3
    have hl : lv_has ls 10 [(3, .int (nI mr3)), (4, .int (nI fi)), (2, .int (nI nl)), (0, .ref h), (1, .int (nI d))] := hl
    have hP : va_P D xcl (moW h mm kA v (va_up g 24 f3)) H := hP
    have hD : va_D A (moW h mm kA v (va_up g 24 f3)) := hD
    refine lv_iload_n hx hb xd_Mo_isCycle_31 rfl (lv_at hl 0 rfl) ?_
    refine xz_eq (a := mr3) (tgt := 204) hx hb xd_Mo_isCycle_32 (by decide) (by omega) (fun hc4 => ?_) (fun hc4 => ?_)
    · refine lv_aload_n hx hb xd_Mo_isCycle_204 rfl (lv_at hl 3 rfl) ?_
      refine va_get (D := D) (ci := 4) (v := .ref (mm 24)) (C := xR_Mo) (T := xT_Mo) (N := 31) hx hb hT xi_Mo hown hK.1 hP 0 rfl rfl 30 (by decide) (hT _ k4l_1) (fun _ h9 => h9) rfl xd_Mo_isCycle_205 ?_
      refine lv_bipush (v := 12) hx hb xd_Mo_isCycle_208 (by decide) ?_
      refine lv_iload_n hx hb xd_Mo_isCycle_210 rfl (lv_at hl 2 rfl) ?_
      refine lv_imul hx hb xd_Mo_isCycle_211 ?_
      refine xn_top (y := nI (12 * nl)) (pk_mul 12 nl) ?_
      refine lv_iload_n hx hb xd_Mo_isCycle_212 rfl (lv_at hl 4 rfl) ?_
      refine lv_iadd hx hb xd_Mo_isCycle_213 ?_
      refine xn_top (y := nI ((12 * nl) + d)) (nI_add (12 * nl) d) ?_
      refine xn_zald (i := (12 * nl) + d) hx hb hK.1 hP 25 2 rfl rfl (by omega) (by decide) xd_Mo_isCycle_214 ?_
      exact W.zret (v := (f3 ((12 * nl) + d))) hx hb hr (hbz3 _ (by omega)) (fun t ht hW => ⟨⟨(f3 ((12 * nl) + d)), (v, (va_up g 24 f3)), rfl, ⟨rfl, fun j h1 => by simp [va_up, h1], ⟨fun q => (by
        obtain ⟨b9, q1, _, q3⟩ := hs3 (12 * nl + d) (by omega) q
        rw [show b9 = d by omega] at q3; exact q3), fun q => (by
        have hc := hc3.2 (by omega)
        exact (tc_min (S := fun b => b < 12 ∧ ¬ f3 (12 * nl + b) = 0) (fun b hb => ⟨(stp_MB hnl5 hpn hmd0 hmd012 hent2 hb).1, hc3.1 hc.1 b hb⟩) (fun b c hb hs => by
          have hb1 := hb.1
          obtain ⟨b8, e8, ⟨l8, j8, a8, c8, d8⟩, _⟩ := hs3 (12 * nl + b) (by omega) hb.2
          rw [show b8 = b by omega] at d8
          exact ⟨(stp_MB hnl5 hpn hmd0 hmd012 hent2 hs).1, hc.2 j8 a8 c8 b d8 hb.1 hb.2 c hs⟩) q).2)⟩⟩, by rw [ht]; exact hP, hD⟩, hS.F ht⟩) hS.2.2 xd_Mo_isCycle_215
    · refine lv_iconst (v := 0) hx hb xd_Mo_isCycle_35 (by decide) ?_
      refine lv_istore_n hx hb xd_Mo_isCycle_36 rfl hl (Nat.le_of_ble_eq_true rfl) rfl (fun ls hl => ?_)
      have hl : lv_has ls 10 [(3, .int 0), (4, .int (nI fi)), (2, .int (nI nl)), (0, .ref h), (1, .int (nI d))] := hl
      refine lv_bipush (v := 12) hx hb xd_Mo_isCycle_37 (by decide) ?_
      refine lv_iload_n hx hb xd_Mo_isCycle_39 rfl (lv_at hl 2 rfl) ?_
      refine lv_imul hx hb xd_Mo_isCycle_40 ?_
      refine xn_top (y := nI (12 * nl)) (pk_mul 12 nl) ?_
      refine lv_istore hx hb xd_Mo_isCycle_41 hl (Nat.le_of_ble_eq_true rfl) rfl (fun ls hl => ?_)
      have hl : lv_has ls 10 [(5, .int (nI (12 * nl))), (3, .int 0), (4, .int (nI fi)), (2, .int (nI nl)), (0, .ref h), (1, .int (nI d))] := hl
      refine xlab (σ := Nat × Nat × (Nat → Int32)) (ml := 10) 43 (fun (q5, mr5, f5) => [(5, .int (nI q5)), (3, .int (nI mr5)), (4, .int (nI fi)), (2, .int (nI nl)), (0, .ref h), (1, .int (nI d))]) (fun (q5, mr5, f5) => []) (fun (q5, mr5, f5) => moW h mm kA v (va_up g 24 f5)) (fun (q5, mr5, f5) => (12 * nl ≤ q5) ∧ (q5 ≤ 12 * nl + md0) ∧ (mr5 ≤ 1) ∧ (cz f5 72 ≤ cz f3 72) ∧ (mr5 = 1 → cz f5 72 < cz f3 72) ∧ (bz f5) ∧ (cyS g nl md0 d f5) ∧ (∀ t, ¬ f3 t = 0 → ¬ f5 t = 0) ∧ (mr5 = 0 → f5 = f3) ∧ (∀ j, 12 * nl ≤ j → j < q5 → ∀ m9, g 21 j = nI m9 → m9 < 12 → ((¬ fi = 0 ∧ m9 = d) ∨ (fi = 0 ∧ ¬ f3 (12 * nl + m9) = 0)) → ∀ b, stp g nl m9 b → ¬ f5 (12 * nl + b) = 0)) (fun (q5, mr5, f5) => 12 * nl + md0 - q5) ?_ (12 * nl, 0, f3) _ _ _ (lv_sub hl [0, 1, 2, 3, 4, 5] rfl) hP hD hS ⟨(show 12 * nl ≤ (12 * nl) from by first | assumption | omega), (show (12 * nl) ≤ 12 * nl + md0 from by first | assumption | omega), (show 0 ≤ 1 from by first | assumption | omega), (show cz f3 72 ≤ cz f3 72 from by omega), (show 0 = 1 → cz f3 72 < cz f3 72 from fun h => absurd h (by omega)), (show bz f3 from hbz3), (show cyS g nl md0 d f3 from hs3), (show ∀ t, ¬ f3 t = 0 → ¬ f3 t = 0 from fun t ht => ht), (show 0 = 0 → f3 = f3 from fun _ => rfl), (show ∀ j, 12 * nl ≤ j → j < (12 * nl) → ∀ m9, g 21 j = nI m9 → m9 < 12 → ((¬ fi = 0 ∧ m9 = d) ∨ (fi = 0 ∧ ¬ f3 (12 * nl + m9) = 0)) → ∀ b, stp g nl m9 b → ¬ f3 (12 * nl + b) = 0 from fun j h1 h2 => absurd h2 (by omega))⟩
      intro n9 ih5 a9 ls H locs hμ hl hP hD hS hI
      subst hμ
      obtain ⟨q5, mr5, f5⟩ := a9
      obtain ⟨hq1, hq2, hmr51, hc5, hmr5, hbz5, hs5, hmo5, hme5, hp5⟩ := hI
      have hq1 : 12 * nl ≤ q5 := hq1
      have hq2 : q5 ≤ 12 * nl + md0 := hq2
      have hmr51 : mr5 ≤ 1 := hmr51
      have hc5 : cz f5 72 ≤ cz f3 72 := hc5
      have hmr5 : mr5 = 1 → cz f5 72 < cz f3 72 := hmr5
      have hbz5 : bz f5 := hbz5
      have hs5 : cyS g nl md0 d f5 := hs5
      have hmo5 : ∀ t, ¬ f3 t = 0 → ¬ f5 t = 0 := hmo5
      have hme5 : mr5 = 0 → f5 = f3 := hme5
      have hp5 : ∀ j, 12 * nl ≤ j → j < q5 → ∀ m9, g 21 j = nI m9 → m9 < 12 → ((¬ fi = 0 ∧ m9 = d) ∨ (fi = 0 ∧ ¬ f3 (12 * nl + m9) = 0)) → ∀ b, stp g nl m9 b → ¬ f5 (12 * nl + b) = 0 := hp5
      have hl : lv_has ls 10 [(5, .int (nI q5)), (3, .int (nI mr5)), (4, .int (nI fi)), (2, .int (nI nl)), (0, .ref h), (1, .int (nI d))] := hl
      have hP : va_P D xcl (moW h mm kA v (va_up g 24 f5)) H := hP
      have hD : va_D A (moW h mm kA v (va_up g 24 f5)) := hD
      refine lv_iload hx hb xd_Mo_isCycle_43 (lv_at hl 0 rfl) ?_
      refine lv_bipush (v := 12) hx hb xd_Mo_isCycle_45 (by decide) ?_
      refine lv_iload_n hx hb xd_Mo_isCycle_47 rfl (lv_at hl 3 rfl) ?_
      refine lv_imul hx hb xd_Mo_isCycle_48 ?_
      refine xn_top (y := nI (12 * nl)) (pk_mul 12 nl) ?_
      refine lv_aload_n hx hb xd_Mo_isCycle_49 rfl (lv_at hl 4 rfl) ?_
      refine va_get (D := D) (ci := 4) (v := .ref (mm 20)) (C := xR_Mo) (T := xT_Mo) (N := 31) hx hb hT xi_Mo hown hK.1 hP 0 rfl rfl 26 (by decide) (hT _ k4l_2) (fun _ h9 => h9) rfl xd_Mo_isCycle_50 ?_
      refine lv_iload_n hx hb xd_Mo_isCycle_53 rfl (lv_at hl 3 rfl) ?_
      refine xn_iald (i := nl) hx hb hK.1 hP 21 0 rfl rfl (by omega) (by decide) xd_Mo_isCycle_54 ?_
      refine xn_top (x := (g 20 nl)) (y := nI md0) hmd0 ?_
      refine lv_iadd hx hb xd_Mo_isCycle_55 ?_
      refine xn_top (y := nI ((12 * nl) + md0)) (nI_add (12 * nl) md0) ?_
      refine xn_ge (a := q5) (b := (12 * nl) + md0) (tgt := 198) hx hb xd_Mo_isCycle_56 (by decide) (by omega) (by omega) (fun hc6 => ?_) (fun hc6 => ?_)
      · refine lv_iconst (v := 0) hx hb xd_Mo_isCycle_198 (by decide) ?_
        refine lv_istore hx hb xd_Mo_isCycle_199 hl (Nat.le_of_ble_eq_true rfl) rfl (fun ls hl => ?_)
        have hl : lv_has ls 10 [(4, .int 0), (5, .int (nI q5)), (3, .int (nI mr5)), (2, .int (nI nl)), (0, .ref h), (1, .int (nI d))] := hl
        refine lv_goto (tgt := 31) hx hb xd_Mo_isCycle_201 (by decide) ?_
        exact ih3 (mr5, 0, f5) _ _ _ (show 2 * cz f5 72 + mr5 < 2 * cz f3 72 + mr3 by omega) (lv_sub hl [2, 0, 3, 4, 5] rfl) hP hD hS ⟨(show mr5 ≤ 1 from by first | assumption | omega), (show 0 ≤ 1 from by first | assumption | omega), (show bz f5 from hbz5), (show cyS g nl md0 d f5 from hs5), (show (0 = 0 → ∀ b, stp g nl d b → ¬ f5 (12 * nl + b) = 0) ∧ (mr5 = 0 → 0 = 0 ∧ ∀ j, 12 * nl ≤ j → j < 12 * nl + md0 → ∀ m9, g 21 j = nI m9 → m9 < 12 → ¬ f5 (12 * nl + m9) = 0 → ∀ b, stp g nl m9 b → ¬ f5 (12 * nl + b) = 0) from ⟨fun _ b q => by
        rcases Nat.eq_zero_or_pos fi with e | e
        · exact hmo5 _ (hc3.1 e b q)
        · obtain ⟨hd9, j9, a9, b9, c9⟩ := hdm
          exact hp5 j9 a9 (by omega) d c9 hd9 (Or.inl ⟨by omega, rfl⟩) b q, fun q0 => ⟨rfl, fun j a9 b9 m9 e9 l9 q1 b q2 => by
        rcases Nat.eq_zero_or_pos fi with e | e
        · exact hp5 j a9 (by omega) m9 e9 l9 (Or.inr ⟨e, by rw [← hme5 q0]; exact q1⟩) b q2
        · exact absurd (hz3 (by omega) (12 * nl + m9) (by omega)) (by rw [← hme5 q0]; exact q1)⟩⟩), (show ¬ 0 = 0 → ∀ t, t < 72 → f5 t = 0 from fun q => absurd rfl q)⟩
      · refine lv_aload_n hx hb xd_Mo_isCycle_59 rfl (lv_at hl 4 rfl) ?_
        refine va_get (D := D) (ci := 4) (v := .ref (mm 21)) (C := xR_Mo) (T := xT_Mo) (N := 31) hx hb hT xi_Mo hown hK.1 hP 0 rfl rfl 27 (by decide) (hT _ k4l_3) (fun _ h9 => h9) rfl xd_Mo_isCycle_60 ?_
        refine lv_iload hx hb xd_Mo_isCycle_63 (lv_at hl 0 rfl) ?_
        refine xn_iald (i := q5) hx hb hK.1 hP 22 0 rfl rfl (by omega) (by decide) xd_Mo_isCycle_65 ?_
        obtain ⟨k7, hk8, ek9⟩ := hent2 q5 (by omega) (by omega)
        refine xn_top (x := (g 21 q5)) ek9 ?_
        refine lv_istore hx hb xd_Mo_isCycle_66 hl (Nat.le_of_ble_eq_true rfl) rfl (fun ls hl => ?_)
        have hl : lv_has ls 10 [(6, .int (nI k7)), (5, .int (nI q5)), (3, .int (nI mr5)), (4, .int (nI fi)), (2, .int (nI nl)), (0, .ref h), (1, .int (nI d))] := hl
        refine xjoin (D := D) (cl := xcl) (A := A) (H0 := s.heap) (σ := Int32) (ml := 10) 101 (fun (fr : Int32) => [(7, .int fr), (6, .int (nI k7)), (5, .int (nI q5)), (4, .int (nI fi)), (3, .int (nI mr5)), (2, .int (nI nl)), (0, .ref h), (1, .int (nI d))]) (fun (fr : Int32) => []) (fun (fr : Int32) => moW h mm kA v (va_up g 24 f5)) (fun (fr : Int32) => (¬ fr = 0 → (k7 = d ∨ tc (stp g nl) d k7)) ∧ (((¬ fi = 0 ∧ k7 = d) ∨ (fi = 0 ∧ ¬ f3 (12 * nl + k7) = 0)) → ¬ fr = 0)) ?_ (fun jn10 => ?_)
        · intro a9 ls H locs hl hP hD hS hI
          obtain ⟨fr, rfl⟩ : ∃ z, z = a9 := ⟨_, rfl⟩
          obtain ⟨hfS, hfC⟩ := hI
          have hfS : ¬ fr = 0 → (k7 = d ∨ tc (stp g nl) d k7) := hfS
          have hfC : ((¬ fi = 0 ∧ k7 = d) ∨ (fi = 0 ∧ ¬ f3 (12 * nl + k7) = 0)) → ¬ fr = 0 := hfC
          have hl : lv_has ls 10 [(7, .int fr), (6, .int (nI k7)), (5, .int (nI q5)), (4, .int (nI fi)), (3, .int (nI mr5)), (2, .int (nI nl)), (0, .ref h), (1, .int (nI d))] := hl
          have hP : va_P D xcl (moW h mm kA v (va_up g 24 f5)) H := hP
          have hD : va_D A (moW h mm kA v (va_up g 24 f5)) := hD
          obtain ⟨rq1, hrq1, erq1⟩ := hrq k7 (by omega)
          refine lv_iconst (v := 5) hx hb xd_Mo_isCycle_101 (by decide) ?_
          refine lv_iload hx hb xd_Mo_isCycle_102 (lv_at hl 1 rfl) ?_
          refine lv_imul hx hb xd_Mo_isCycle_104 ?_
          refine xn_top (y := nI (5 * k7)) (pk_mul 5 k7) ?_
          refine lv_istore hx hb xd_Mo_isCycle_105 hl (Nat.le_of_ble_eq_true rfl) rfl (fun ls hl => ?_)
          have hl : lv_has ls 10 [(8, .int (nI (5 * k7))), (7, .int fr), (6, .int (nI k7)), (5, .int (nI q5)), (4, .int (nI fi)), (3, .int (nI mr5)), (2, .int (nI nl)), (0, .ref h), (1, .int (nI d))] := hl
          refine xlab (σ := Nat × Nat × (Nat → Int32)) (ml := 10) 107 (fun (k8, mr8, f8) => [(8, .int (nI k8)), (7, .int fr), (3, .int (nI mr8)), (6, .int (nI k7)), (5, .int (nI q5)), (4, .int (nI fi)), (2, .int (nI nl)), (0, .ref h), (1, .int (nI d))]) (fun (k8, mr8, f8) => []) (fun (k8, mr8, f8) => moW h mm kA v (va_up g 24 f8)) (fun (k8, mr8, f8) => (5 * k7 ≤ k8) ∧ (k8 ≤ 5 * k7 + rq1) ∧ (mr8 ≤ 1) ∧ (cz f8 72 ≤ cz f3 72) ∧ (mr8 = 1 → cz f8 72 < cz f3 72) ∧ (bz f8) ∧ (cyS g nl md0 d f8) ∧ (∀ t, ¬ f3 t = 0 → ¬ f8 t = 0) ∧ (∀ t, ¬ f5 t = 0 → ¬ f8 t = 0) ∧ (mr8 = 0 → f8 = f3) ∧ (¬ fr = 0 → ∀ i, 5 * k7 ≤ i → i < k8 → g 17 i = 0 → ∀ b9, lkG g (nl + 1) (g 13 i) = some (nl, b9) → ¬ f8 (12 * nl + b9) = 0)) (fun (k8, mr8, f8) => 5 * k7 + rq1 - k8) ?_ (5 * k7, mr5, f5) _ _ _ (lv_sub hl [0, 1, 5, 2, 3, 4, 6, 7, 8] rfl) hP hD hS ⟨(show 5 * k7 ≤ (5 * k7) from by first | assumption | omega), (show (5 * k7) ≤ 5 * k7 + rq1 from by first | assumption | omega), (show mr5 ≤ 1 from by first | assumption | omega), (show cz f5 72 ≤ cz f3 72 from by omega), (show mr5 = 1 → cz f5 72 < cz f3 72 from hmr5), (show bz f5 from hbz5), (show cyS g nl md0 d f5 from hs5), (show ∀ t, ¬ f3 t = 0 → ¬ f5 t = 0 from hmo5), (show ∀ t, ¬ f5 t = 0 → ¬ f5 t = 0 from fun t ht => ht), (show mr5 = 0 → f5 = f3 from hme5), (show ¬ fr = 0 → ∀ i, 5 * k7 ≤ i → i < (5 * k7) → g 17 i = 0 → ∀ b9, lkG g (nl + 1) (g 13 i) = some (nl, b9) → ¬ f5 (12 * nl + b9) = 0 from fun _ i h1 h2 => absurd h2 (by omega))⟩
          intro n9 ih11 a9 ls H locs hμ hl hP hD hS hI
          subst hμ
          obtain ⟨k8, mr8, f8⟩ := a9
          obtain ⟨hk81, hk82, hmr81, hc8, hmr8, hbz8, hs8, hmo8, hm58, hme8, hk8⟩ := hI
          have hk81 : 5 * k7 ≤ k8 := hk81
          have hk82 : k8 ≤ 5 * k7 + rq1 := hk82
          have hmr81 : mr8 ≤ 1 := hmr81
          have hc8 : cz f8 72 ≤ cz f3 72 := hc8
          have hmr8 : mr8 = 1 → cz f8 72 < cz f3 72 := hmr8
          have hbz8 : bz f8 := hbz8
          have hs8 : cyS g nl md0 d f8 := hs8
          have hmo8 : ∀ t, ¬ f3 t = 0 → ¬ f8 t = 0 := hmo8
          have hm58 : ∀ t, ¬ f5 t = 0 → ¬ f8 t = 0 := hm58
          have hme8 : mr8 = 0 → f8 = f3 := hme8
          have hk8 : ¬ fr = 0 → ∀ i, 5 * k7 ≤ i → i < k8 → g 17 i = 0 → ∀ b9, lkG g (nl + 1) (g 13 i) = some (nl, b9) → ¬ f8 (12 * nl + b9) = 0 := hk8
          have hl : lv_has ls 10 [(8, .int (nI k8)), (7, .int fr), (3, .int (nI mr8)), (6, .int (nI k7)), (5, .int (nI q5)), (4, .int (nI fi)), (2, .int (nI nl)), (0, .ref h), (1, .int (nI d))] := hl
          have hP : va_P D xcl (moW h mm kA v (va_up g 24 f8)) H := hP
          have hD : va_D A (moW h mm kA v (va_up g 24 f8)) := hD
          refine lv_iload hx hb xd_Mo_isCycle_107 (lv_at hl 0 rfl) ?_
          refine lv_iconst (v := 5) hx hb xd_Mo_isCycle_109 (by decide) ?_
          refine lv_iload hx hb xd_Mo_isCycle_110 (lv_at hl 3 rfl) ?_
          refine lv_imul hx hb xd_Mo_isCycle_112 ?_
          refine xn_top (y := nI (5 * k7)) (pk_mul 5 k7) ?_
          refine lv_aload_n hx hb xd_Mo_isCycle_113 rfl (lv_at hl 7 rfl) ?_
          refine va_get (D := D) (ci := 4) (v := .ref (mm 12)) (C := xR_Mo) (T := xT_Mo) (N := 31) hx hb hT xi_Mo hown hK.1 hP 0 rfl rfl 17 (by decide) (hT _ k4l_4) (fun _ h9 => h9) rfl xd_Mo_isCycle_114 ?_
          refine lv_iload hx hb xd_Mo_isCycle_117 (lv_at hl 3 rfl) ?_
          refine xn_iald (i := k7) hx hb hK.1 hP 13 0 rfl rfl (by omega) (by decide) xd_Mo_isCycle_119 ?_
          refine xn_top (x := (g 12 k7)) (y := nI rq1) erq1 ?_
          refine lv_iadd hx hb xd_Mo_isCycle_120 ?_
          refine xn_top (y := nI ((5 * k7) + rq1)) (nI_add (5 * k7) rq1) ?_
          refine xn_ge (a := k8) (b := (5 * k7) + rq1) (tgt := 192) hx hb xd_Mo_isCycle_121 (by decide) (by omega) (by omega) (fun hc12 => ?_) (fun hc12 => ?_)
          · refine lv_iinc (k := 4) (x := (nI q5)) (v := (nI (q5 + 1))) hx hb xd_Mo_isCycle_192 hl rfl (xb_inc q5 1) (Nat.le_of_ble_eq_true rfl) rfl (fun ls hl => ?_)
            have hl : lv_has ls 10 [(5, .int (nI (q5 + 1))), (8, .int (nI k8)), (7, .int fr), (3, .int (nI mr8)), (6, .int (nI k7)), (4, .int (nI fi)), (2, .int (nI nl)), (0, .ref h), (1, .int (nI d))] := hl
            refine lv_goto (tgt := 43) hx hb xd_Mo_isCycle_195 (by decide) ?_
            exact ih5 (q5 + 1, mr8, f8) _ _ _ (show 12 * nl + md0 - (q5 + 1) < 12 * nl + md0 - q5 by omega) (lv_sub hl [0, 3, 5, 6, 7, 8] rfl) hP hD hS ⟨(show 12 * nl ≤ (q5 + 1) from by first | assumption | omega), (show (q5 + 1) ≤ 12 * nl + md0 from by first | assumption | omega), (show mr8 ≤ 1 from by first | assumption | omega), (show cz f8 72 ≤ cz f3 72 from by omega), (show mr8 = 1 → cz f8 72 < cz f3 72 from hmr8), (show bz f8 from hbz8), (show cyS g nl md0 d f8 from hs8), (show ∀ t, ¬ f3 t = 0 → ¬ f8 t = 0 from hmo8), (show mr8 = 0 → f8 = f3 from hme8), (show ∀ j, 12 * nl ≤ j → j < (q5 + 1) → ∀ m9, g 21 j = nI m9 → m9 < 12 → ((¬ fi = 0 ∧ m9 = d) ∨ (fi = 0 ∧ ¬ f3 (12 * nl + m9) = 0)) → ∀ b, stp g nl m9 b → ¬ f8 (12 * nl + b) = 0 from fun j h1 h2 m9 e9 l9 q1 b q2 => by
        rcases Nat.lt_or_ge j q5 with q | q
        · exact hm58 _ (hp5 j h1 q m9 e9 l9 q1 b q2)
        · have e8 : m9 = k7 := by
            rw [show j = q5 by omega, ek9] at e9
            exact nI_inj (by omega) (by omega) e9.symm
          subst e8
          exact (by
            obtain ⟨i9, a9, b9, c9, d9⟩ := q2
            exact hk8 (hfC q1) i9 a9 (by rw [erq1, iN_nI (by omega)] at b9; omega) c9 b d9))⟩
          · refine lv_iload hx hb xd_Mo_isCycle_124 (lv_at hl 1 rfl) ?_
            refine lv_if_eq (tgt := 192) hx hb xd_Mo_isCycle_126 (by decide) (fun hc13 => ?_) (fun hc13 => ?_)
            · refine lv_iinc (k := 4) (x := (nI q5)) (v := (nI (q5 + 1))) hx hb xd_Mo_isCycle_192 hl rfl (xb_inc q5 1) (Nat.le_of_ble_eq_true rfl) rfl (fun ls hl => ?_)
              have hl : lv_has ls 10 [(5, .int (nI (q5 + 1))), (8, .int (nI k8)), (7, .int fr), (3, .int (nI mr8)), (6, .int (nI k7)), (4, .int (nI fi)), (2, .int (nI nl)), (0, .ref h), (1, .int (nI d))] := hl
              refine lv_goto (tgt := 43) hx hb xd_Mo_isCycle_195 (by decide) ?_
              exact ih5 (q5 + 1, mr8, f8) _ _ _ (show 12 * nl + md0 - (q5 + 1) < 12 * nl + md0 - q5 by omega) (lv_sub hl [0, 3, 5, 6, 7, 8] rfl) hP hD hS ⟨(show 12 * nl ≤ (q5 + 1) from by first | assumption | omega), (show (q5 + 1) ≤ 12 * nl + md0 from by first | assumption | omega), (show mr8 ≤ 1 from by first | assumption | omega), (show cz f8 72 ≤ cz f3 72 from by omega), (show mr8 = 1 → cz f8 72 < cz f3 72 from hmr8), (show bz f8 from hbz8), (show cyS g nl md0 d f8 from hs8), (show ∀ t, ¬ f3 t = 0 → ¬ f8 t = 0 from hmo8), (show mr8 = 0 → f8 = f3 from hme8), (show ∀ j, 12 * nl ≤ j → j < (q5 + 1) → ∀ m9, g 21 j = nI m9 → m9 < 12 → ((¬ fi = 0 ∧ m9 = d) ∨ (fi = 0 ∧ ¬ f3 (12 * nl + m9) = 0)) → ∀ b, stp g nl m9 b → ¬ f8 (12 * nl + b) = 0 from fun j h1 h2 m9 e9 l9 q1 b q2 => by
        rcases Nat.lt_or_ge j q5 with q | q
        · exact hm58 _ (hp5 j h1 q m9 e9 l9 q1 b q2)
        · have e8 : m9 = k7 := by
            rw [show j = q5 by omega, ek9] at e9
            exact nI_inj (by omega) (by omega) e9.symm
          subst e8
          exact absurd hc13 (hfC q1))⟩
            · refine lv_aload_n hx hb xd_Mo_isCycle_129 rfl (lv_at hl 7 rfl) ?_
              refine va_get (D := D) (ci := 4) (v := .ref (mm 17)) (C := xR_Mo) (T := xT_Mo) (N := 31) hx hb hT xi_Mo hown hK.1 hP 0 rfl rfl 22 (by decide) (hT _ k4l_5) (fun _ h9 => h9) rfl xd_Mo_isCycle_130 ?_
              refine lv_iload hx hb xd_Mo_isCycle_133 (lv_at hl 0 rfl) ?_
              refine xn_zald (i := k8) hx hb hK.1 hP 18 2 rfl rfl (by omega) (by decide) xd_Mo_isCycle_135 ?_
              refine lv_if_eq (tgt := 143) hx hb xd_Mo_isCycle_136 (by decide) (fun hc14 => ?_) (fun hc14 => ?_)
              · refine lv_aload_n hx hb xd_Mo_isCycle_143 rfl (lv_at hl 7 rfl) ?_
                refine lv_iload_n hx hb xd_Mo_isCycle_144 rfl (lv_at hl 6 rfl) ?_
                refine xn_top (x := (nI nl)) (y := nI (nl + 1) - 1) (nI_pred nl).symm ?_
                refine lv_aload_n hx hb xd_Mo_isCycle_145 rfl (lv_at hl 7 rfl) ?_
                refine va_get (D := D) (ci := 4) (v := .ref (mm 13)) (C := xR_Mo) (T := xT_Mo) (N := 31) hx hb hT xi_Mo hown hK.1 hP 0 rfl rfl 18 (by decide) (hT _ k4l_6) (fun _ h9 => h9) rfl xd_Mo_isCycle_146 ?_
                refine lv_iload hx hb xd_Mo_isCycle_149 (lv_at hl 0 rfl) ?_
                refine xn_iald (i := k8) hx hb hK.1 hP 14 0 rfl rfl (by omega) (by decide) xd_Mo_isCycle_151 ?_
                have hFc := va_free (wc := (moW h mm kA v (va_up g 24 f8))) hD hS hA [0, 1, 2, 3, 4, 5, 6, 7, 8, 9, 10, 11, 12, 13, 14, 15, 16, 17, 18, 19, 20, 21, 22, 23, 24, 25] rfl
                refine va_calli (va_runV (As := [.int (nI (nl + 1) - 1), .int (g 13 k8)]) (rest := []) ⟨hx, hb, hml, hown, hT⟩ (xc_Mo_lookUpX l D kA H.size h mm v (va_up g 24 f8) (nl + 1) (g 13 k8) (nl + 1) (by first | assumption | omega) hpn (by first | assumption | omega) hmd) (cwV 2 hT (wT_V k4l_8 k4l_9 k4l_10 k4l_11 k4l_7) rfl rfl rfl (by decide +kernel) ⟨Nat.le_of_ble_eq_true rfl, Nat.le_of_ble_eq_true rfl⟩) (x_preV hK hP hD 0 rfl rfl) rfl rfl hl.1 rfl (lv_room (Nat.le_of_ble_eq_true rfl)) xd_Mo_isCycle_152 ⟨Nat.le_of_ble_eq_true rfl, Nat.le_of_ble_eq_true rfl⟩) hS (fun q _ h => hFc q h) hFc (fun r15 u16 t H1 locs ht hvm hp17 hB hz1 hk1 hS => ?_)
                obtain ⟨hP1, hD1⟩ := hB
                rw [ht] at hP1
                have hD1 := hD1.weaken (fun _ _ _ h => hFc _ h)
                generalize H1 = H at hP1 hS ⊢
                have hP := hP1
                have hD := hD1
                have hP : va_P D xcl (moW h mm kA v (va_up g 24 f8)) H := hP
                have hD : va_D A (moW h mm kA v (va_up g 24 f8)) := hD
                rcases hp17 with ⟨z18, rfl⟩ | ⟨z19, z20, z21, z22, z23, rfl⟩
                · have hlk9 : lkG g (nl + 1) (g 13 k8) = none := z18
                  refine lv_istore hx hb xd_Mo_isCycle_155 hl (Nat.le_of_ble_eq_true rfl) rfl (fun ls hl => ?_)
                  have hl : lv_has ls 10 [(9, .int (-1)), (8, .int (nI k8)), (7, .int fr), (3, .int (nI mr8)), (6, .int (nI k7)), (5, .int (nI q5)), (4, .int (nI fi)), (2, .int (nI nl)), (0, .ref h), (1, .int (nI d))] := hl
                  refine lv_iload hx hb xd_Mo_isCycle_157 (lv_at hl 0 rfl) ?_
                  refine lv_bipush (v := 12) hx hb xd_Mo_isCycle_159 (by decide) ?_
                  refine lv_iload_n hx hb xd_Mo_isCycle_161 rfl (lv_at hl 7 rfl) ?_
                  refine lv_imul hx hb xd_Mo_isCycle_162 ?_
                  refine xn_top (y := nI (12 * nl)) (pk_mul 12 nl) ?_
                  refine lv_icmp_lt (tgt := 186) hx hb xd_Mo_isCycle_163 (by decide) (fun _ => ?_) (fun hc24 => absurd (xb_mlt _ (by omega)) hc24)
                  refine lv_iinc (k := 1) (x := (nI k8)) (v := (nI (k8 + 1))) hx hb xd_Mo_isCycle_186 hl rfl (xb_inc k8 1) (Nat.le_of_ble_eq_true rfl) rfl (fun ls hl => ?_)
                  have hl : lv_has ls 10 [(8, .int (nI (k8 + 1))), (9, .int (-1)), (7, .int fr), (3, .int (nI mr8)), (6, .int (nI k7)), (5, .int (nI q5)), (4, .int (nI fi)), (2, .int (nI nl)), (0, .ref h), (1, .int (nI d))] := hl
                  refine lv_goto (tgt := 107) hx hb xd_Mo_isCycle_189 (by decide) ?_
                  exact ih11 (k8 + 1, mr8, f8) _ _ _ (show 5 * k7 + rq1 - (k8 + 1) < 5 * k7 + rq1 - k8 by omega) (lv_sub hl [0, 2, 3, 4, 5, 6, 7, 8, 9] rfl) hP hD hS ⟨(show 5 * k7 ≤ (k8 + 1) from by first | assumption | omega), (show (k8 + 1) ≤ 5 * k7 + rq1 from by first | assumption | omega), (show mr8 ≤ 1 from by first | assumption | omega), (show cz f8 72 ≤ cz f3 72 from by omega), (show mr8 = 1 → cz f8 72 < cz f3 72 from hmr8), (show bz f8 from hbz8), (show cyS g nl md0 d f8 from hs8), (show ∀ t, ¬ f3 t = 0 → ¬ f8 t = 0 from hmo8), (show ∀ t, ¬ f5 t = 0 → ¬ f8 t = 0 from hm58), (show mr8 = 0 → f8 = f3 from hme8), (show ¬ fr = 0 → ∀ i, 5 * k7 ≤ i → i < (k8 + 1) → g 17 i = 0 → ∀ b9, lkG g (nl + 1) (g 13 i) = some (nl, b9) → ¬ f8 (12 * nl + b9) = 0 from fun q0 i h1 h2 c9 b9 d9 => by
        rcases Nat.lt_or_ge i k8 with q | q
        · exact hk8 q0 i h1 q c9 b9 d9
        · have e0 : i = k8 := by omega
          subst e0
          exact (by rw [hlk9] at d9; cases d9))⟩
                · have hlk9 : lkG g (nl + 1) (g 13 k8) = some (z19, z20) := z21
                  have hdd9 := z23
                  have hld9 := z22
                  refine lv_istore hx hb xd_Mo_isCycle_155 hl (Nat.le_of_ble_eq_true rfl) rfl (fun ls hl => ?_)
                  have hl : lv_has ls 10 [(9, .int (nI (12 * z19 + z20))), (8, .int (nI k8)), (7, .int fr), (3, .int (nI mr8)), (6, .int (nI k7)), (5, .int (nI q5)), (4, .int (nI fi)), (2, .int (nI nl)), (0, .ref h), (1, .int (nI d))] := hl
                  refine lv_iload hx hb xd_Mo_isCycle_157 (lv_at hl 0 rfl) ?_
                  refine lv_bipush (v := 12) hx hb xd_Mo_isCycle_159 (by decide) ?_
                  refine lv_iload_n hx hb xd_Mo_isCycle_161 rfl (lv_at hl 7 rfl) ?_
                  refine lv_imul hx hb xd_Mo_isCycle_162 ?_
                  refine xn_top (y := nI (12 * nl)) (pk_mul 12 nl) ?_
                  refine xn_lt (a := 12 * z19 + z20) (b := 12 * nl) (tgt := 186) hx hb xd_Mo_isCycle_163 (by decide) (by omega) (by omega) (fun hc25 => ?_) (fun hc25 => ?_)
                  · refine lv_iinc (k := 1) (x := (nI k8)) (v := (nI (k8 + 1))) hx hb xd_Mo_isCycle_186 hl rfl (xb_inc k8 1) (Nat.le_of_ble_eq_true rfl) rfl (fun ls hl => ?_)
                    have hl : lv_has ls 10 [(8, .int (nI (k8 + 1))), (9, .int (nI (12 * z19 + z20))), (7, .int fr), (3, .int (nI mr8)), (6, .int (nI k7)), (5, .int (nI q5)), (4, .int (nI fi)), (2, .int (nI nl)), (0, .ref h), (1, .int (nI d))] := hl
                    refine lv_goto (tgt := 107) hx hb xd_Mo_isCycle_189 (by decide) ?_
                    exact ih11 (k8 + 1, mr8, f8) _ _ _ (show 5 * k7 + rq1 - (k8 + 1) < 5 * k7 + rq1 - k8 by omega) (lv_sub hl [0, 2, 3, 4, 5, 6, 7, 8, 9] rfl) hP hD hS ⟨(show 5 * k7 ≤ (k8 + 1) from by first | assumption | omega), (show (k8 + 1) ≤ 5 * k7 + rq1 from by first | assumption | omega), (show mr8 ≤ 1 from by first | assumption | omega), (show cz f8 72 ≤ cz f3 72 from by omega), (show mr8 = 1 → cz f8 72 < cz f3 72 from hmr8), (show bz f8 from hbz8), (show cyS g nl md0 d f8 from hs8), (show ∀ t, ¬ f3 t = 0 → ¬ f8 t = 0 from hmo8), (show ∀ t, ¬ f5 t = 0 → ¬ f8 t = 0 from hm58), (show mr8 = 0 → f8 = f3 from hme8), (show ¬ fr = 0 → ∀ i, 5 * k7 ≤ i → i < (k8 + 1) → g 17 i = 0 → ∀ b9, lkG g (nl + 1) (g 13 i) = some (nl, b9) → ¬ f8 (12 * nl + b9) = 0 from fun q0 i h1 h2 c9 b9 d9 => by
        rcases Nat.lt_or_ge i k8 with q | q
        · exact hk8 q0 i h1 q c9 b9 d9
        · have e0 : i = k8 := by omega
          subst e0
          exact (by rw [hlk9] at d9; have e8 := congrArg Prod.fst (Option.some.inj d9); have e9 := congrArg Prod.snd (Option.some.inj d9); simp only at e8 e9; omega))⟩
                  · refine lv_aload_n hx hb xd_Mo_isCycle_166 rfl (lv_at hl 8 rfl) ?_
                    refine va_get (D := D) (ci := 4) (v := .ref (mm 24)) (C := xR_Mo) (T := xT_Mo) (N := 31) hx hb hT xi_Mo hown hK.1 hP 0 rfl rfl 30 (by decide) (hT _ k4l_1) (fun _ h9 => h9) rfl xd_Mo_isCycle_167 ?_
                    refine lv_iload hx hb xd_Mo_isCycle_170 (lv_at hl 0 rfl) ?_
                    refine xn_zald (i := 12 * z19 + z20) hx hb hK.1 hP 25 2 rfl rfl (by omega) (by decide) xd_Mo_isCycle_172 ?_
                    refine lv_if_ne (tgt := 186) hx hb xd_Mo_isCycle_173 (by decide) (fun hc26 => ?_) (fun hc26 => ?_)
                    · refine lv_iinc (k := 1) (x := (nI k8)) (v := (nI (k8 + 1))) hx hb xd_Mo_isCycle_186 hl rfl (xb_inc k8 1) (Nat.le_of_ble_eq_true rfl) rfl (fun ls hl => ?_)
                      have hl : lv_has ls 10 [(8, .int (nI (k8 + 1))), (9, .int (nI (12 * z19 + z20))), (7, .int fr), (3, .int (nI mr8)), (6, .int (nI k7)), (5, .int (nI q5)), (4, .int (nI fi)), (2, .int (nI nl)), (0, .ref h), (1, .int (nI d))] := hl
                      refine lv_goto (tgt := 107) hx hb xd_Mo_isCycle_189 (by decide) ?_
                      exact ih11 (k8 + 1, mr8, f8) _ _ _ (show 5 * k7 + rq1 - (k8 + 1) < 5 * k7 + rq1 - k8 by omega) (lv_sub hl [0, 2, 3, 4, 5, 6, 7, 8, 9] rfl) hP hD hS ⟨(show 5 * k7 ≤ (k8 + 1) from by first | assumption | omega), (show (k8 + 1) ≤ 5 * k7 + rq1 from by first | assumption | omega), (show mr8 ≤ 1 from by first | assumption | omega), (show cz f8 72 ≤ cz f3 72 from by omega), (show mr8 = 1 → cz f8 72 < cz f3 72 from hmr8), (show bz f8 from hbz8), (show cyS g nl md0 d f8 from hs8), (show ∀ t, ¬ f3 t = 0 → ¬ f8 t = 0 from hmo8), (show ∀ t, ¬ f5 t = 0 → ¬ f8 t = 0 from hm58), (show mr8 = 0 → f8 = f3 from hme8), (show ¬ fr = 0 → ∀ i, 5 * k7 ≤ i → i < (k8 + 1) → g 17 i = 0 → ∀ b9, lkG g (nl + 1) (g 13 i) = some (nl, b9) → ¬ f8 (12 * nl + b9) = 0 from fun q0 i h1 h2 c9 b9 d9 => by
        rcases Nat.lt_or_ge i k8 with q | q
        · exact hk8 q0 i h1 q c9 b9 d9
        · have e0 : i = k8 := by omega
          subst e0
          exact (by rw [hlk9] at d9; have e8 := congrArg Prod.fst (Option.some.inj d9); have e9 := congrArg Prod.snd (Option.some.inj d9); simp only at e8 e9; rw [show 12 * nl + b9 = 12 * z19 + z20 by omega]; exact hc26))⟩
                    · have hla9 : 12 * z19 + z20 = 12 * nl + z20 := by omega
                      have hln9 : z19 = nl := by omega
                      have hstp9 : stp g nl k7 z20 := ⟨k8, hk81, by rw [erq1, iN_nI (by omega)]; omega, hc14, by rw [hlk9, hln9]⟩
                      have hmb9 : MB g nl md0 z20 := stp_MB hnl5 hpn hmd0 hmd012 hent2 hstp9
                      refine lv_aload_n hx hb xd_Mo_isCycle_176 rfl (lv_at hl 8 rfl) ?_
                      refine va_get (D := D) (ci := 4) (v := .ref (mm 24)) (C := xR_Mo) (T := xT_Mo) (N := 31) hx hb hT xi_Mo hown hK.1 hP 0 rfl rfl 30 (by decide) (hT _ k4l_1) (fun _ h9 => h9) rfl xd_Mo_isCycle_177 ?_
                      refine lv_iload hx hb xd_Mo_isCycle_180 (lv_at hl 0 rfl) ?_
                      refine lv_iconst (v := 1) hx hb xd_Mo_isCycle_182 (by decide) ?_
                      refine xn_zast (i := 12 * z19 + z20) hx hb hK.1 hP hD hS 25 2 rfl rfl (by omega) (by decide) xd_Mo_isCycle_183 (fun H locs hP hD hS => ?_)
                      have hP : va_P D xcl (moW h mm kA v (va_up g 24 (upd f8 (12 * z19 + z20) (vp_nar .boolean 1)))) H := hP
                      have hD : va_D A (moW h mm kA v (va_up g 24 (upd f8 (12 * z19 + z20) (vp_nar .boolean 1)))) := hD
                      refine lv_iconst (v := 1) hx hb xd_Mo_isCycle_184 (by decide) ?_
                      refine lv_istore_n hx hb xd_Mo_isCycle_185 rfl hl (Nat.le_of_ble_eq_true rfl) rfl (fun ls hl => ?_)
                      have hl : lv_has ls 10 [(3, .int 1), (9, .int (nI (12 * z19 + z20))), (8, .int (nI k8)), (7, .int fr), (6, .int (nI k7)), (5, .int (nI q5)), (4, .int (nI fi)), (2, .int (nI nl)), (0, .ref h), (1, .int (nI d))] := hl
                      refine lv_iinc (k := 2) (x := (nI k8)) (v := (nI (k8 + 1))) hx hb xd_Mo_isCycle_186 hl rfl (xb_inc k8 1) (Nat.le_of_ble_eq_true rfl) rfl (fun ls hl => ?_)
                      have hl : lv_has ls 10 [(8, .int (nI (k8 + 1))), (3, .int 1), (9, .int (nI (12 * z19 + z20))), (7, .int fr), (6, .int (nI k7)), (5, .int (nI q5)), (4, .int (nI fi)), (2, .int (nI nl)), (0, .ref h), (1, .int (nI d))] := hl
                      refine lv_goto (tgt := 107) hx hb xd_Mo_isCycle_189 (by decide) ?_
                      exact ih11 (k8 + 1, 1, (upd f8 (12 * z19 + z20) (vp_nar .boolean 1))) _ _ _ (show 5 * k7 + rq1 - (k8 + 1) < 5 * k7 + rq1 - k8 by omega) (lv_sub hl [0, 3, 1, 4, 5, 6, 7, 8, 9] rfl) hP hD hS ⟨(show 5 * k7 ≤ (k8 + 1) from by first | assumption | omega), (show (k8 + 1) ≤ 5 * k7 + rq1 from by first | assumption | omega), (show 1 ≤ 1 from by first | assumption | omega), (show cz (upd f8 (12 * z19 + z20) (vp_nar .boolean 1)) 72 ≤ cz f3 72 from by
      have h9 := cz_mark (f := f8) hc26 bn_1 72 (by omega)
      omega), (show 1 = 1 → cz (upd f8 (12 * z19 + z20) (vp_nar .boolean 1)) 72 < cz f3 72 from fun _ => by
      have h9 := cz_mark (f := f8) hc26 bn_1 72 (by omega)
      omega), (show bz (upd f8 (12 * z19 + z20) (vp_nar .boolean 1)) from bz_up hbz8 bn_n), (show cyS g nl md0 d (upd f8 (12 * z19 + z20) (vp_nar .boolean 1)) from cyS_up hs8 hla9 hmb9 (hfS hc13) hstp9), (show ∀ t, ¬ f3 t = 0 → ¬ (upd f8 (12 * z19 + z20) (vp_nar .boolean 1)) t = 0 from up_mono bn_1 hmo8), (show ∀ t, ¬ f5 t = 0 → ¬ (upd f8 (12 * z19 + z20) (vp_nar .boolean 1)) t = 0 from up_mono bn_1 hm58), (show 1 = 0 → (upd f8 (12 * z19 + z20) (vp_nar .boolean 1)) = f3 from fun q => absurd q (by omega)), (show ¬ fr = 0 → ∀ i, 5 * k7 ≤ i → i < (k8 + 1) → g 17 i = 0 → ∀ b9, lkG g (nl + 1) (g 13 i) = some (nl, b9) → ¬ (upd f8 (12 * z19 + z20) (vp_nar .boolean 1)) (12 * nl + b9) = 0 from fun q0 i h1 h2 c9 b9 d9 => by
        rcases Nat.lt_or_ge i k8 with q | q
        · exact (up_mono bn_1 (fun t ht => ht) _ (hk8 q0 i h1 q c9 b9 d9))
        · have e0 : i = k8 := by omega
          subst e0
          exact (by rw [hlk9] at d9; have e8 := congrArg Prod.fst (Option.some.inj d9); have e9 := congrArg Prod.snd (Option.some.inj d9); simp only at e8 e9; rw [show 12 * nl + b9 = 12 * z19 + z20 by omega, pk_us]; exact bn_1))⟩
              · refine lv_iconst (v := (-1)) hx hb xd_Mo_isCycle_139 (by decide) ?_
                refine lv_goto (tgt := 155) hx hb xd_Mo_isCycle_140 (by decide) ?_
                refine lv_istore hx hb xd_Mo_isCycle_155 hl (Nat.le_of_ble_eq_true rfl) rfl (fun ls hl => ?_)
                have hl : lv_has ls 10 [(9, .int (-1)), (8, .int (nI k8)), (7, .int fr), (3, .int (nI mr8)), (6, .int (nI k7)), (5, .int (nI q5)), (4, .int (nI fi)), (2, .int (nI nl)), (0, .ref h), (1, .int (nI d))] := hl
                refine lv_iload hx hb xd_Mo_isCycle_157 (lv_at hl 0 rfl) ?_
                refine lv_bipush (v := 12) hx hb xd_Mo_isCycle_159 (by decide) ?_
                refine lv_iload_n hx hb xd_Mo_isCycle_161 rfl (lv_at hl 7 rfl) ?_
                refine lv_imul hx hb xd_Mo_isCycle_162 ?_
                refine xn_top (y := nI (12 * nl)) (pk_mul 12 nl) ?_
                refine lv_icmp_lt (tgt := 186) hx hb xd_Mo_isCycle_163 (by decide) (fun _ => ?_) (fun hc27 => absurd (xb_mlt _ (by omega)) hc27)
                refine lv_iinc (k := 1) (x := (nI k8)) (v := (nI (k8 + 1))) hx hb xd_Mo_isCycle_186 hl rfl (xb_inc k8 1) (Nat.le_of_ble_eq_true rfl) rfl (fun ls hl => ?_)
                have hl : lv_has ls 10 [(8, .int (nI (k8 + 1))), (9, .int (-1)), (7, .int fr), (3, .int (nI mr8)), (6, .int (nI k7)), (5, .int (nI q5)), (4, .int (nI fi)), (2, .int (nI nl)), (0, .ref h), (1, .int (nI d))] := hl
                refine lv_goto (tgt := 107) hx hb xd_Mo_isCycle_189 (by decide) ?_
                exact ih11 (k8 + 1, mr8, f8) _ _ _ (show 5 * k7 + rq1 - (k8 + 1) < 5 * k7 + rq1 - k8 by omega) (lv_sub hl [0, 2, 3, 4, 5, 6, 7, 8, 9] rfl) hP hD hS ⟨(show 5 * k7 ≤ (k8 + 1) from by first | assumption | omega), (show (k8 + 1) ≤ 5 * k7 + rq1 from by first | assumption | omega), (show mr8 ≤ 1 from by first | assumption | omega), (show cz f8 72 ≤ cz f3 72 from by omega), (show mr8 = 1 → cz f8 72 < cz f3 72 from hmr8), (show bz f8 from hbz8), (show cyS g nl md0 d f8 from hs8), (show ∀ t, ¬ f3 t = 0 → ¬ f8 t = 0 from hmo8), (show ∀ t, ¬ f5 t = 0 → ¬ f8 t = 0 from hm58), (show mr8 = 0 → f8 = f3 from hme8), (show ¬ fr = 0 → ∀ i, 5 * k7 ≤ i → i < (k8 + 1) → g 17 i = 0 → ∀ b9, lkG g (nl + 1) (g 13 i) = some (nl, b9) → ¬ f8 (12 * nl + b9) = 0 from fun q0 i h1 h2 c9 b9 d9 => by
        rcases Nat.lt_or_ge i k8 with q | q
        · exact hk8 q0 i h1 q c9 b9 d9
        · have e0 : i = k8 := by omega
          subst e0
          exact (absurd c9 hc14))⟩
        refine lv_iload hx hb xd_Mo_isCycle_68 (lv_at hl 3 rfl) ?_
        refine xz_eq (a := fi) (tgt := 87) hx hb xd_Mo_isCycle_70 (by decide) (by omega) (fun hc28 => ?_) (fun hc28 => ?_)
        · refine lv_aload_n hx hb xd_Mo_isCycle_87 rfl (lv_at hl 5 rfl) ?_
          refine va_get (D := D) (ci := 4) (v := .ref (mm 24)) (C := xR_Mo) (T := xT_Mo) (N := 31) hx hb hT xi_Mo hown hK.1 hP 0 rfl rfl 30 (by decide) (hT _ k4l_1) (fun _ h9 => h9) rfl xd_Mo_isCycle_88 ?_
          refine lv_bipush (v := 12) hx hb xd_Mo_isCycle_91 (by decide) ?_
          refine lv_iload_n hx hb xd_Mo_isCycle_93 rfl (lv_at hl 4 rfl) ?_
          refine lv_imul hx hb xd_Mo_isCycle_94 ?_
          refine xn_top (y := nI (12 * nl)) (pk_mul 12 nl) ?_
          refine lv_iload hx hb xd_Mo_isCycle_95 (lv_at hl 0 rfl) ?_
          refine lv_iadd hx hb xd_Mo_isCycle_97 ?_
          refine xn_top (y := nI ((12 * nl) + k7)) (nI_add (12 * nl) k7) ?_
          refine xn_zald (i := (12 * nl) + k7) hx hb hK.1 hP 25 2 rfl rfl (by omega) (by decide) xd_Mo_isCycle_98 ?_
          refine lv_istore hx hb xd_Mo_isCycle_99 hl (Nat.le_of_ble_eq_true rfl) rfl (fun ls hl => ?_)
          have hl : lv_has ls 10 [(7, .int (f5 ((12 * nl) + k7))), (6, .int (nI k7)), (5, .int (nI q5)), (3, .int (nI mr5)), (4, .int (nI fi)), (2, .int (nI nl)), (0, .ref h), (1, .int (nI d))] := hl
          exact jn10 (f5 ((12 * nl) + k7)) _ _ _ (lv_sub hl [0, 1, 2, 4, 3, 5, 6, 7] rfl) hP hD hS ⟨(show ¬ (f5 ((12 * nl) + k7)) = 0 → (k7 = d ∨ tc (stp g nl) d k7) from fun q => Or.inr (by obtain ⟨b9, q1, q2, q3⟩ := hs5 (12 * nl + k7) (by omega) q; rw [show k7 = b9 by omega]; exact q3)), (show ((¬ fi = 0 ∧ k7 = d) ∨ (fi = 0 ∧ ¬ f3 (12 * nl + k7) = 0)) → ¬ (f5 ((12 * nl) + k7)) = 0 from fun q => by
        rcases q with ⟨q, _⟩ | ⟨_, q⟩
        · omega
        · exact hmo5 _ q)⟩
        · refine lv_iload hx hb xd_Mo_isCycle_73 (lv_at hl 0 rfl) ?_
          refine lv_iload_n hx hb xd_Mo_isCycle_75 rfl (lv_at hl 6 rfl) ?_
          refine xn_ne (a := k7) (b := d) (tgt := 83) hx hb xd_Mo_isCycle_76 (by decide) (by omega) (by omega) (fun hc29 => ?_) (fun hc29 => ?_)
          · refine lv_iconst (v := 0) hx hb xd_Mo_isCycle_83 (by decide) ?_
            refine lv_goto (tgt := 99) hx hb xd_Mo_isCycle_84 (by decide) ?_
            refine lv_istore hx hb xd_Mo_isCycle_99 hl (Nat.le_of_ble_eq_true rfl) rfl (fun ls hl => ?_)
            have hl : lv_has ls 10 [(7, .int 0), (6, .int (nI k7)), (5, .int (nI q5)), (3, .int (nI mr5)), (4, .int (nI fi)), (2, .int (nI nl)), (0, .ref h), (1, .int (nI d))] := hl
            exact jn10 0 _ _ _ (lv_sub hl [0, 1, 2, 4, 3, 5, 6, 7] rfl) hP hD hS ⟨(show ¬ 0 = 0 → (k7 = d ∨ tc (stp g nl) d k7) from fun q => absurd rfl q), (show ((¬ fi = 0 ∧ k7 = d) ∨ (fi = 0 ∧ ¬ f3 (12 * nl + k7) = 0)) → ¬ 0 = 0 from fun q => by
        rcases q with ⟨_, q⟩ | ⟨q, _⟩
        · exact absurd q hc29
        · omega)⟩
          · refine lv_iconst (v := 1) hx hb xd_Mo_isCycle_79 (by decide) ?_
            refine lv_goto (tgt := 99) hx hb xd_Mo_isCycle_80 (by decide) ?_
            refine lv_istore hx hb xd_Mo_isCycle_99 hl (Nat.le_of_ble_eq_true rfl) rfl (fun ls hl => ?_)
            have hl : lv_has ls 10 [(7, .int 1), (6, .int (nI k7)), (5, .int (nI q5)), (3, .int (nI mr5)), (4, .int (nI fi)), (2, .int (nI nl)), (0, .ref h), (1, .int (nI d))] := hl
            exact jn10 1 _ _ _ (lv_sub hl [0, 1, 2, 4, 3, 5, 6, 7] rfl) hP hD hS ⟨(show ¬ 1 = 0 → (k7 = d ∨ tc (stp g nl) d k7) from fun _ => Or.inl hc29), (show ((¬ fi = 0 ∧ k7 = d) ∨ (fi = 0 ∧ ¬ f3 (12 * nl + k7) = 0)) → ¬ 1 = 0 from fun _ => by decide)⟩
  · refine lv_aload_n hx hb xd_Mo_isCycle_13 rfl (lv_at hl 2 rfl) ?_
    refine va_get (D := D) (ci := 4) (v := .ref (mm 24)) (C := xR_Mo) (T := xT_Mo) (N := 31) hx hb hT xi_Mo hown hK.1 hP 0 rfl rfl 30 (by decide) (hT _ k4l_1) (fun _ h9 => h9) rfl xd_Mo_isCycle_14 ?_
    refine lv_iload_n hx hb xd_Mo_isCycle_17 rfl (lv_at hl 0 rfl) ?_
    refine lv_iconst (v := 0) hx hb xd_Mo_isCycle_18 (by decide) ?_
    refine xn_zast (i := i0) hx hb hK.1 hP hD hS 25 2 rfl rfl (by omega) (by decide) xd_Mo_isCycle_19 (fun H locs hP hD hS => ?_)
    have hP : va_P D xcl (moW h mm kA v (va_up g 24 (upd f0 i0 (vp_nar .boolean 0)))) H := hP
    have hD : va_D A (moW h mm kA v (va_up g 24 (upd f0 i0 (vp_nar .boolean 0)))) := hD
    refine lv_iinc (k := 0) (x := (nI i0)) (v := (nI (i0 + 1))) hx hb xd_Mo_isCycle_20 hl rfl (xb_inc i0 1) (Nat.le_of_ble_eq_true rfl) rfl (fun ls hl => ?_)
    have hl : lv_has ls 10 [(3, .int (nI (i0 + 1))), (2, .int (nI nl)), (0, .ref h), (1, .int (nI d))] := hl
    refine lv_goto (tgt := 7) hx hb xd_Mo_isCycle_23 (by decide) ?_
    exact ih1 (i0 + 1, (upd f0 i0 (vp_nar .boolean 0))) _ _ _ (show 72 - (i0 + 1) < 72 - i0 by omega) (lv_sub hl [0, 1, 2, 3] rfl) hP hD hS ⟨(show (i0 + 1) ≤ 72 from by first | assumption | omega), (show ∀ j, j < (i0 + 1) → (upd f0 i0 (vp_nar .boolean 0)) j = vp_nar .boolean 0 from fun j hj => by
      by_cases e : j = i0
      · subst e; exact pk_us
      · rw [pk_un e]; exact hz0 j (by omega))⟩
theorem k4m_0 : (Cond.fieldLink "LayerDeskModel" 48 "LayerDeskModel" "requires" "[I") ∈ wT := wT_t (List.mem_append_right _ (List.mem_append_right _ (List.mem_append_right _ (List.mem_append_left _ (List.mem_of_getElem? (i := 101) rfl))))) rfl
theorem k4m_1 : (Cond.fieldLink "LayerDeskModel" 84 "LayerDeskModel" "seen" "[Z") ∈ wT := wT_t (List.mem_append_right _ (List.mem_append_right _ (List.mem_append_right _ (List.mem_append_left _ (List.mem_of_getElem? (i := 114) rfl))))) rfl
theorem k4m_2 : (Cond.fieldLink "LayerDeskModel" 60 "LayerDeskModel" "passes" "[Z") ∈ wT := wT_t (List.mem_append_right _ (List.mem_append_right _ (List.mem_append_right _ (List.mem_append_left _ (List.mem_of_getElem? (i := 105) rfl))))) rfl
theorem k4m_3 : (Cond.fieldLink "LayerDeskModel" 51 "LayerDeskModel" "require" "[I") ∈ wT := wT_t (List.mem_append_right _ (List.mem_append_right _ (List.mem_append_right _ (List.mem_append_left _ (List.mem_of_getElem? (i := 102) rfl))))) rfl
theorem k4m_4 : (Cond.code xy_Mo_lookUp xb_Mo_lookUp 5 (some .int)) ∈ wT := wT_t (List.mem_append_right _ (List.mem_append_right _ (List.mem_append_right _ (List.mem_append_right _ (List.mem_of_getElem? (i := 20) rfl))))) rfl
theorem k4m_5 : (Cond.methodLink "LayerDeskModel" 153 xy_Mo_lookUp) ∈ wT := wT_t (List.mem_append_right _ (List.mem_append_right _ (List.mem_append_right _ (List.mem_append_right _ (List.mem_of_getElem? (i := 17) rfl))))) rfl
theorem k4m_6 : (Cond.instanceMethod xy_Mo_lookUp) ∈ wT := wT_t (List.mem_append_right _ (List.mem_append_right _ (List.mem_append_right _ (List.mem_append_right _ (List.mem_of_getElem? (i := 19) rfl))))) rfl
theorem k4m_7 : (Cond.selects "LayerDeskModel" xy_Mo_lookUp xy_Mo_lookUp) ∈ wT := wT_s (q := (xy_Mo_lookUp, 31)) (by decide +kernel) rfl
theorem k4m_8 : (Cond.initialized "LayerDeskModel") ∈ wT := wT_t (List.mem_append_left _ (List.mem_of_getElem? (i := 5) rfl)) rfl
set_option maxHeartbeats 4000000 in
set_option maxRecDepth 100000 in
theorem xc_Mo_readingX (l : Launch) (D : va_G) (kA : Nat → ClassId) (sz h : Nat) (mm : Nat → Nat) (v : Nat → Int32) (g : Nat → Nat → Int32) (ly : Nat) (d : Nat) (np : Nat) (hMI : MI v g) (hnp : np ≤ 6) (hpar : ∀ la, la < np → ∃ lq, lq ≤ la ∧ g 19 la = nI lq - 1) (hly : ly < np) (hd : d < 12) : Met l xy_Mo_reading (.code xy_Mo_reading xb_Mo_reading 7 none :: wT) { frames := 1, cells := 0, slots := 0, locals := 24 } (va_Pc [.ref h, .int (nI ly), .int (nI d)] (xPre D kA sz (moW h mm kA v g))) (va_Qv (fun (u : (Nat → Int32) × (Nat → Nat → Int32)) => u.1 = v ∧ (∀ j, j ≠ 24 → u.2 j = g j) ∧ bz (u.2 24) ∧ (∀ i, i < 72 → ¬ u.2 24 i = 0 → i / 12 < np) ∧ ∀ b, b < 72 → (¬ u.2 24 b = 0 ↔ (rdP g ly d b ∧ b ≠ 12 * ly + d))) (fun (u : (Nat → Int32) × (Nat → Nat → Int32)) t => va_P D xcl (moW h mm kA u.1 u.2) t.heap ∧ va_D (va_A (moW h mm kA v g) sz) (moW h mm kA u.1 u.2)) (va_A (moW h mm kA v g) sz)) 0 0 (va_A (moW h mm kA v g) sz) := by
  refine Met.ofW (cc := xb_Mo_reading) (maxL := 7) (ret := none) (by decide) rfl ?_
  intro p e s m args below meth c s₁ B hml hv
  obtain ⟨rfl, hsz, hP, hK, hD0⟩ := hv
  have hx := B.exec
  have hb := B.bytes
  have hr := B.returns
  have hT := x_hT B.pre
  have hown : s.vm.findClass xR_Mo = some m.cls := findClass_of_methodNamed B.named
  have hlocks := B.notSynchronized
  subst hsz
  have hD := hD0.self (sz := s.heap.size)
  generalize hAe : va_A (moW h mm kA v g) s.heap.size = A at hD ⊢
  have hA : ∀ q : Nat, s.heap.size ≤ q → A q := fun q h => by rw [← hAe]; exact Or.inr h
  have hS : va_S A s.heap s.heap [] := va_S.rf
  have hl := lv_entry ([.ref h, .int (nI ly), .int (nI d)]) (n := 7) (Nat.le_of_ble_eq_true rfl)
  rw [lg_entry_eq]
  generalize (lg_sl ([.ref h, .int (nI ly), .int (nI d)]) ++ List.replicate (7 - (lg_sl ([.ref h, .int (nI ly), .int (nI d)])).length) Slot.unset).toArray = ls at hl ⊢
  have hl : lv_has ls 7 [(0, .ref h), (1, .int (nI ly)), (2, .int (nI d))] := hl
  have hP : va_P D xcl (moW h mm kA v g) s.heap := hP
  obtain ⟨-, -, -, hpk, hrq, hmd, -⟩ := id hMI
  refine lv_iconst (v := 0) hx hb xd_Mo_reading_0 (by decide) ?_
  refine lv_istore_n hx hb xd_Mo_reading_1 rfl hl (Nat.le_of_ble_eq_true rfl) rfl (fun ls hl => ?_)
  have hl : lv_has ls 7 [(3, .int 0), (0, .ref h), (1, .int (nI ly)), (2, .int (nI d))] := hl
  refine xlab (σ := Nat × (Nat → Int32)) (ml := 7) 2 (fun (i0, f0) => [(3, .int (nI i0)), (0, .ref h), (1, .int (nI ly)), (2, .int (nI d))]) (fun (i0, f0) => []) (fun (i0, f0) => moW h mm kA v (va_up g 24 f0)) (fun (i0, f0) => (i0 ≤ 72) ∧ (∀ j, j < i0 → f0 j = vp_nar .boolean 0)) (fun (i0, f0) => 72 - i0) ?_ (0, (g 24)) _ _ _ (lv_sub hl [0, 1, 2, 3] rfl) hP hD hS ⟨(show 0 ≤ 72 from by first | assumption | omega), (show ∀ j, j < 0 → (g 24) j = vp_nar .boolean 0 from fun j hj => absurd hj (by omega))⟩
  intro n9 ih1 a9 ls H locs hμ hl hP hD hS hI
  subst hμ
  obtain ⟨i0, f0⟩ := a9
  obtain ⟨hi0, hz0⟩ := hI
  have hi0 : i0 ≤ 72 := hi0
  have hz0 : ∀ j, j < i0 → f0 j = vp_nar .boolean 0 := hz0
  have hl : lv_has ls 7 [(3, .int (nI i0)), (0, .ref h), (1, .int (nI ly)), (2, .int (nI d))] := hl
  have hP : va_P D xcl (moW h mm kA v (va_up g 24 f0)) H := hP
  have hD : va_D A (moW h mm kA v (va_up g 24 f0)) := hD
  refine lv_iload_n hx hb xd_Mo_reading_2 rfl (lv_at hl 0 rfl) ?_
  refine lv_bipush (v := 72) hx hb xd_Mo_reading_3 (by decide) ?_
  refine xn_ge (a := i0) (b := 72) (tgt := 21) hx hb xd_Mo_reading_5 (by decide) (by omega) (by omega) (fun hc2 => ?_) (fun hc2 => ?_)
  · obtain ⟨rqa, hrqa, erqa⟩ := hrq d (by omega)
    have hird : iN (g 12 d) = rqa := by rw [erqa, iN_nI (by omega)]
    refine lv_iconst (v := 5) hx hb xd_Mo_reading_21 (by decide) ?_
    refine lv_iload_n hx hb xd_Mo_reading_22 rfl (lv_at hl 3 rfl) ?_
    refine lv_imul hx hb xd_Mo_reading_23 ?_
    refine xn_top (y := nI (5 * d)) (pk_mul 5 d) ?_
    refine lv_istore_n hx hb xd_Mo_reading_24 rfl hl (Nat.le_of_ble_eq_true rfl) rfl (fun ls hl => ?_)
    have hl : lv_has ls 7 [(3, .int (nI (5 * d))), (0, .ref h), (1, .int (nI ly)), (2, .int (nI d))] := hl
    refine xlab (σ := Nat × (Nat → Int32)) (ml := 7) 25 (fun (k2, f2) => [(3, .int (nI k2)), (0, .ref h), (1, .int (nI ly)), (2, .int (nI d))]) (fun (k2, f2) => []) (fun (k2, f2) => moW h mm kA v (va_up g 24 f2)) (fun (k2, f2) => (5 * d ≤ k2) ∧ (k2 ≤ 5 * d + rqa) ∧ (bz f2) ∧ (∀ i, i < 72 → ¬ f2 i = 0 → i / 12 < np) ∧ (∀ t, t < 72 → ¬ f2 t = 0 → rd0 g ly d k2 t) ∧ (∀ b, rd0 g ly d k2 b → ¬ f2 b = 0)) (fun (k2, f2) => 5 * d + rqa - k2) ?_ (5 * d, f0) _ _ _ (lv_sub hl [0, 1, 2, 3] rfl) hP hD hS ⟨(show 5 * d ≤ (5 * d) from by first | assumption | omega), (show (5 * d) ≤ 5 * d + rqa from by first | assumption | omega), (show bz f0 from bz_0 (fun j hj => hz0 j (by omega))), (show ∀ i, i < 72 → ¬ f0 i = 0 → i / 12 < np from fun i hi hne => absurd (hz0 i (by omega)) (fun q => hne (q.trans (by decide)))), (show ∀ t, t < 72 → ¬ f0 t = 0 → rd0 g ly d (5 * d) t from fun t ht hn => absurd ((hz0 t (by omega)).trans (by decide)) hn), (show ∀ b, rd0 g ly d (5 * d) b → ¬ f0 b = 0 from fun b ⟨i, h1, h2, _⟩ => absurd h2 (by omega))⟩
    intro n9 ih3 a9 ls H locs hμ hl hP hD hS hI
    subst hμ
    obtain ⟨k2, f2⟩ := a9
    obtain ⟨hk21, hk22, hbz2, hsn2, hs2, hcm2⟩ := hI
    have hk21 : 5 * d ≤ k2 := hk21
    have hk22 : k2 ≤ 5 * d + rqa := hk22
    have hbz2 : bz f2 := hbz2
    have hsn2 : ∀ i, i < 72 → ¬ f2 i = 0 → i / 12 < np := hsn2
    have hs2 : ∀ t, t < 72 → ¬ f2 t = 0 → rd0 g ly d k2 t := hs2
    have hcm2 : ∀ b, rd0 g ly d k2 b → ¬ f2 b = 0 := hcm2
    have hl : lv_has ls 7 [(3, .int (nI k2)), (0, .ref h), (1, .int (nI ly)), (2, .int (nI d))] := hl
    have hP : va_P D xcl (moW h mm kA v (va_up g 24 f2)) H := hP
    have hD : va_D A (moW h mm kA v (va_up g 24 f2)) := hD
    refine lv_iload_n hx hb xd_Mo_reading_25 rfl (lv_at hl 0 rfl) ?_
    refine lv_iconst (v := 5) hx hb xd_Mo_reading_26 (by decide) ?_
    refine lv_iload_n hx hb xd_Mo_reading_27 rfl (lv_at hl 3 rfl) ?_
    refine lv_imul hx hb xd_Mo_reading_28 ?_
    refine xn_top (y := nI (5 * d)) (pk_mul 5 d) ?_
    refine lv_aload_n hx hb xd_Mo_reading_29 rfl (lv_at hl 1 rfl) ?_
    refine va_get (D := D) (ci := 4) (v := .ref (mm 12)) (C := xR_Mo) (T := xT_Mo) (N := 31) hx hb hT xi_Mo hown hK.1 hP 0 rfl rfl 17 (by decide) (hT _ k4m_0) (fun _ h9 => h9) rfl xd_Mo_reading_30 ?_
    refine lv_iload_n hx hb xd_Mo_reading_33 rfl (lv_at hl 3 rfl) ?_
    refine xn_iald (i := d) hx hb hK.1 hP 13 0 rfl rfl (by omega) (by decide) xd_Mo_reading_34 ?_
    refine xn_top (x := (g 12 d)) (y := nI rqa) erqa ?_
    refine lv_iadd hx hb xd_Mo_reading_35 ?_
    refine xn_top (y := nI ((5 * d) + rqa)) (nI_add (5 * d) rqa) ?_
    refine xn_ge (a := k2) (b := (5 * d) + rqa) (tgt := 71) hx hb xd_Mo_reading_36 (by decide) (by omega) (by omega) (fun hc4 => ?_) (fun hc4 => ?_)
    · refine lv_iconst (v := 1) hx hb xd_Mo_reading_71 (by decide) ?_
      refine lv_istore_n hx hb xd_Mo_reading_72 rfl hl (Nat.le_of_ble_eq_true rfl) rfl (fun ls hl => ?_)
      have hl : lv_has ls 7 [(3, .int 1), (0, .ref h), (1, .int (nI ly)), (2, .int (nI d))] := hl
      refine xlab (σ := Nat × (Nat → Int32)) (ml := 7) 73 (fun (mr3, f3) => [(3, .int (nI mr3)), (0, .ref h), (1, .int (nI ly)), (2, .int (nI d))]) (fun (mr3, f3) => []) (fun (mr3, f3) => moW h mm kA v (va_up g 24 f3)) (fun (mr3, f3) => (mr3 ≤ 1) ∧ (bz f3) ∧ (∀ i, i < 72 → ¬ f3 i = 0 → i / 12 < np) ∧ (∀ t, t < 72 → ¬ f3 t = 0 → rdP g ly d t) ∧ (∀ b, rd0 g ly d (5 * d + iN (g 12 d)) b → ¬ f3 b = 0) ∧ (mr3 = 0 → ∀ a, a < 72 → ¬ f3 a = 0 → ∀ b, pst g a b → ¬ f3 b = 0)) (fun (mr3, f3) => 2 * cz f3 72 + mr3) ?_ (1, f2) _ _ _ (lv_sub hl [0, 1, 2, 3] rfl) hP hD hS ⟨(show 1 ≤ 1 from by first | assumption | omega), (show bz f2 from hbz2), (show ∀ i, i < 72 → ¬ f2 i = 0 → i / 12 < np from hsn2), (show ∀ t, t < 72 → ¬ f2 t = 0 → rdP g ly d t from fun t ht hn => Or.inl (by rw [hird, ← show k2 = 5 * d + rqa by omega]; exact hs2 t ht hn)), (show ∀ b, rd0 g ly d (5 * d + iN (g 12 d)) b → ¬ f2 b = 0 from fun b hb => hcm2 b (by rw [hird, ← show k2 = 5 * d + rqa by omega] at hb; exact hb)), (show 1 = 0 → ∀ a, a < 72 → ¬ f2 a = 0 → ∀ b, pst g a b → ¬ f2 b = 0 from fun q => absurd q (by omega))⟩
      intro n9 ih5 a9 ls H locs hμ hl hP hD hS hI
      subst hμ
      obtain ⟨mr3, f3⟩ := a9
      obtain ⟨hmr31, hbz3, hsn3, hs3, hcm3, hcl3⟩ := hI
      have hmr31 : mr3 ≤ 1 := hmr31
      have hbz3 : bz f3 := hbz3
      have hsn3 : ∀ i, i < 72 → ¬ f3 i = 0 → i / 12 < np := hsn3
      have hs3 : ∀ t, t < 72 → ¬ f3 t = 0 → rdP g ly d t := hs3
      have hcm3 : ∀ b, rd0 g ly d (5 * d + iN (g 12 d)) b → ¬ f3 b = 0 := hcm3
      have hcl3 : mr3 = 0 → ∀ a, a < 72 → ¬ f3 a = 0 → ∀ b, pst g a b → ¬ f3 b = 0 := hcl3
      have hl : lv_has ls 7 [(3, .int (nI mr3)), (0, .ref h), (1, .int (nI ly)), (2, .int (nI d))] := hl
      have hP : va_P D xcl (moW h mm kA v (va_up g 24 f3)) H := hP
      have hD : va_D A (moW h mm kA v (va_up g 24 f3)) := hD
      refine lv_iload_n hx hb xd_Mo_reading_73 rfl (lv_at hl 0 rfl) ?_
      refine xz_eq (a := mr3) (tgt := 203) hx hb xd_Mo_reading_74 (by decide) (by omega) (fun hc6 => ?_) (fun hc6 => ?_)
      · refine lv_aload_n hx hb xd_Mo_reading_203 rfl (lv_at hl 1 rfl) ?_
        refine va_get (D := D) (ci := 4) (v := .ref (mm 24)) (C := xR_Mo) (T := xT_Mo) (N := 31) hx hb hT xi_Mo hown hK.1 hP 0 rfl rfl 30 (by decide) (hT _ k4m_1) (fun _ h9 => h9) rfl xd_Mo_reading_204 ?_
        refine lv_bipush (v := 12) hx hb xd_Mo_reading_207 (by decide) ?_
        refine lv_iload_n hx hb xd_Mo_reading_209 rfl (lv_at hl 2 rfl) ?_
        refine lv_imul hx hb xd_Mo_reading_210 ?_
        refine xn_top (y := nI (12 * ly)) (pk_mul 12 ly) ?_
        refine lv_iload_n hx hb xd_Mo_reading_211 rfl (lv_at hl 3 rfl) ?_
        refine lv_iadd hx hb xd_Mo_reading_212 ?_
        refine xn_top (y := nI ((12 * ly) + d)) (nI_add (12 * ly) d) ?_
        refine lv_iconst (v := 0) hx hb xd_Mo_reading_213 (by decide) ?_
        refine xn_zast (i := (12 * ly) + d) hx hb hK.1 hP hD hS 25 2 rfl rfl (by omega) (by decide) xd_Mo_reading_214 (fun H locs hP hD hS => ?_)
        have hP : va_P D xcl (moW h mm kA v (va_up g 24 (upd f3 ((12 * ly) + d) (vp_nar .boolean 0)))) H := hP
        have hD : va_D A (moW h mm kA v (va_up g 24 (upd f3 ((12 * ly) + d) (vp_nar .boolean 0)))) := hD
        exact W.vret hx hb hr (fun t ht hW => ⟨⟨(v, (va_up g 24 (upd f3 ((12 * ly) + d) (vp_nar .boolean 0)))), rfl, ⟨rfl, fun j h1 => by simp [va_up, h1], bz_up hbz3 bn_0, (fun i hi hne => by
        by_cases e : i = 12 * ly + d
        · omega
        · exact hsn3 i hi (by
            have h9 : ¬ upd f3 (12 * ly + d) (vp_nar .boolean 0) i = 0 := hne
            rwa [pk_un e] at h9)), fun b hb => (show ¬ upd f3 (12 * ly + d) (vp_nar .boolean 0) b = 0 ↔ (rdP g ly d b ∧ b ≠ 12 * ly + d) from by
        by_cases e : b = 12 * ly + d
        · rw [e, pk_us]; exact ⟨fun q => absurd (by decide) q, fun q => absurd rfl q.2⟩
        · rw [pk_un e]
          refine ⟨fun q => ⟨hs3 b hb q, e⟩, fun q => ?_⟩
          exact (rdP_min (S := fun x => x < 72 ∧ ¬ f3 x = 0) (fun c hc => ⟨by
            obtain ⟨i9, _, _, la9, e9, q9, q8⟩ := hc
            have := lkG_72 hnp hpar hmd (by omega) q9
            omega, hcm3 c hc⟩) (fun a c ha hc => ⟨by
            have h8 := hsn3 a ha.1 ha.2
            obtain ⟨i9, _, _, _, la9, e9, q9, q8⟩ := hc
            have := lkG_72 hnp hpar hmd (by omega) q9
            omega, hcl3 (by omega) a ha.1 ha.2 c hc⟩) q.1).2)⟩, by rw [ht]; exact hP, hD⟩, hS.F ht⟩) hS.2.2 xd_Mo_reading_215
      · refine lv_iconst (v := 0) hx hb xd_Mo_reading_77 (by decide) ?_
        refine lv_istore_n hx hb xd_Mo_reading_78 rfl hl (Nat.le_of_ble_eq_true rfl) rfl (fun ls hl => ?_)
        have hl : lv_has ls 7 [(3, .int 0), (0, .ref h), (1, .int (nI ly)), (2, .int (nI d))] := hl
        refine lv_iconst (v := 0) hx hb xd_Mo_reading_79 (by decide) ?_
        refine lv_istore hx hb xd_Mo_reading_80 hl (Nat.le_of_ble_eq_true rfl) rfl (fun ls hl => ?_)
        have hl : lv_has ls 7 [(4, .int 0), (3, .int 0), (0, .ref h), (1, .int (nI ly)), (2, .int (nI d))] := hl
        refine xlab (σ := Nat × Nat × (Nat → Int32)) (ml := 7) 82 (fun (m4, mr4, f4) => [(4, .int (nI m4)), (3, .int (nI mr4)), (0, .ref h), (1, .int (nI ly)), (2, .int (nI d))]) (fun (m4, mr4, f4) => []) (fun (m4, mr4, f4) => moW h mm kA v (va_up g 24 f4)) (fun (m4, mr4, f4) => (m4 ≤ 72) ∧ (mr4 ≤ 1) ∧ (cz f4 72 ≤ cz f3 72) ∧ (mr4 = 1 → cz f4 72 < cz f3 72) ∧ (bz f4) ∧ (∀ i, i < 72 → ¬ f4 i = 0 → i / 12 < np) ∧ (∀ t, t < 72 → ¬ f4 t = 0 → rdP g ly d t) ∧ (∀ t, ¬ f3 t = 0 → ¬ f4 t = 0) ∧ (mr4 = 0 → f4 = f3) ∧ (∀ a, a < m4 → ¬ f3 a = 0 → ∀ b, pst g a b → ¬ f4 b = 0)) (fun (m4, mr4, f4) => 72 - m4) ?_ (0, 0, f3) _ _ _ (lv_sub hl [0, 1, 2, 3, 4] rfl) hP hD hS ⟨(show 0 ≤ 72 from by first | assumption | omega), (show 0 ≤ 1 from by first | assumption | omega), (show cz f3 72 ≤ cz f3 72 from by omega), (show 0 = 1 → cz f3 72 < cz f3 72 from fun h => absurd h (by omega)), (show bz f3 from hbz3), (show ∀ i, i < 72 → ¬ f3 i = 0 → i / 12 < np from hsn3), (show ∀ t, t < 72 → ¬ f3 t = 0 → rdP g ly d t from hs3), (show ∀ t, ¬ f3 t = 0 → ¬ f3 t = 0 from fun t ht => ht), (show 0 = 0 → f3 = f3 from fun _ => rfl), (show ∀ a, a < 0 → ¬ f3 a = 0 → ∀ b, pst g a b → ¬ f3 b = 0 from fun a ha => absurd ha (by omega))⟩
        intro n9 ih7 a9 ls H locs hμ hl hP hD hS hI
        subst hμ
        obtain ⟨m4, mr4, f4⟩ := a9
        obtain ⟨hm4, hmr41, hc4, hmr4, hbz4, hsn4, hs4, hmo4, hme4, hp4⟩ := hI
        have hm4 : m4 ≤ 72 := hm4
        have hmr41 : mr4 ≤ 1 := hmr41
        have hc4 : cz f4 72 ≤ cz f3 72 := hc4
        have hmr4 : mr4 = 1 → cz f4 72 < cz f3 72 := hmr4
        have hbz4 : bz f4 := hbz4
        have hsn4 : ∀ i, i < 72 → ¬ f4 i = 0 → i / 12 < np := hsn4
        have hs4 : ∀ t, t < 72 → ¬ f4 t = 0 → rdP g ly d t := hs4
        have hmo4 : ∀ t, ¬ f3 t = 0 → ¬ f4 t = 0 := hmo4
        have hme4 : mr4 = 0 → f4 = f3 := hme4
        have hp4 : ∀ a, a < m4 → ¬ f3 a = 0 → ∀ b, pst g a b → ¬ f4 b = 0 := hp4
        have hl : lv_has ls 7 [(4, .int (nI m4)), (3, .int (nI mr4)), (0, .ref h), (1, .int (nI ly)), (2, .int (nI d))] := hl
        have hP : va_P D xcl (moW h mm kA v (va_up g 24 f4)) H := hP
        have hD : va_D A (moW h mm kA v (va_up g 24 f4)) := hD
        refine lv_iload hx hb xd_Mo_reading_82 (lv_at hl 0 rfl) ?_
        refine lv_bipush (v := 72) hx hb xd_Mo_reading_84 (by decide) ?_
        refine xn_ge (a := m4) (b := 72) (tgt := 200) hx hb xd_Mo_reading_86 (by decide) (by omega) (by omega) (fun hc8 => ?_) (fun hc8 => ?_)
        · refine lv_goto (tgt := 73) hx hb xd_Mo_reading_200 (by decide) ?_
          exact ih5 (mr4, f4) _ _ _ (show 2 * cz f4 72 + mr4 < 2 * cz f3 72 + mr3 by omega) (lv_sub hl [1, 2, 3, 4] rfl) hP hD hS ⟨(show mr4 ≤ 1 from by first | assumption | omega), (show bz f4 from hbz4), (show ∀ i, i < 72 → ¬ f4 i = 0 → i / 12 < np from hsn4), (show ∀ t, t < 72 → ¬ f4 t = 0 → rdP g ly d t from hs4), (show ∀ b, rd0 g ly d (5 * d + iN (g 12 d)) b → ¬ f4 b = 0 from fun b hb => hmo4 _ (hcm3 b hb)), (show mr4 = 0 → ∀ a, a < 72 → ¬ f4 a = 0 → ∀ b, pst g a b → ¬ f4 b = 0 from fun q0 a ha q1 b q2 => hp4 a (by omega) (by rw [← hme4 q0]; exact q1) b q2)⟩
        · obtain ⟨rqb, hrqb, erqb⟩ := hrq (m4 % 12) (by omega)
          refine lv_iconst (v := 5) hx hb xd_Mo_reading_89 (by decide) ?_
          refine lv_iload hx hb xd_Mo_reading_90 (lv_at hl 0 rfl) ?_
          refine lv_bipush (v := 12) hx hb xd_Mo_reading_92 (by decide) ?_
          refine lv_irem hx hb xd_Mo_reading_94 (by decide) ?_
          refine xn_top (y := nI (m4 % 12)) (pk_rem (a := m4) (d := 12) (by omega) (by decide) (by decide)) ?_
          refine lv_imul hx hb xd_Mo_reading_95 ?_
          refine xn_top (y := nI (5 * (m4 % 12))) (pk_mul 5 (m4 % 12)) ?_
          refine lv_istore hx hb xd_Mo_reading_96 hl (Nat.le_of_ble_eq_true rfl) rfl (fun ls hl => ?_)
          have hl : lv_has ls 7 [(5, .int (nI (5 * (m4 % 12)))), (4, .int (nI m4)), (3, .int (nI mr4)), (0, .ref h), (1, .int (nI ly)), (2, .int (nI d))] := hl
          refine xlab (σ := Nat × Nat × (Nat → Int32)) (ml := 7) 98 (fun (k5, mr5, f5) => [(5, .int (nI k5)), (4, .int (nI m4)), (3, .int (nI mr5)), (0, .ref h), (1, .int (nI ly)), (2, .int (nI d))]) (fun (k5, mr5, f5) => []) (fun (k5, mr5, f5) => moW h mm kA v (va_up g 24 f5)) (fun (k5, mr5, f5) => (5 * (m4 % 12) ≤ k5) ∧ (k5 ≤ 5 * (m4 % 12) + rqb) ∧ (mr5 ≤ 1) ∧ (cz f5 72 ≤ cz f3 72) ∧ (mr5 = 1 → cz f5 72 < cz f3 72) ∧ (bz f5) ∧ (∀ i, i < 72 → ¬ f5 i = 0 → i / 12 < np) ∧ (∀ t, t < 72 → ¬ f5 t = 0 → rdP g ly d t) ∧ (∀ t, ¬ f3 t = 0 → ¬ f5 t = 0) ∧ (∀ t, ¬ f4 t = 0 → ¬ f5 t = 0) ∧ (mr5 = 0 → f5 = f3) ∧ (¬ f3 m4 = 0 → ∀ i, 5 * (m4 % 12) ≤ i → i < k5 → ¬ g 16 i = 0 → ∀ la9 e9, lkG g (m4 / 12 + 1) (g 13 i) = some (la9, e9) → ¬ f5 (12 * la9 + e9) = 0)) (fun (k5, mr5, f5) => 5 * (m4 % 12) + rqb - k5) ?_ (5 * (m4 % 12), mr4, f4) _ _ _ (lv_sub hl [0, 1, 2, 3, 4, 5] rfl) hP hD hS ⟨(show 5 * (m4 % 12) ≤ (5 * (m4 % 12)) from by first | assumption | omega), (show (5 * (m4 % 12)) ≤ 5 * (m4 % 12) + rqb from by first | assumption | omega), (show mr4 ≤ 1 from by first | assumption | omega), (show cz f4 72 ≤ cz f3 72 from by omega), (show mr4 = 1 → cz f4 72 < cz f3 72 from hmr4), (show bz f4 from hbz4), (show ∀ i, i < 72 → ¬ f4 i = 0 → i / 12 < np from hsn4), (show ∀ t, t < 72 → ¬ f4 t = 0 → rdP g ly d t from hs4), (show ∀ t, ¬ f3 t = 0 → ¬ f4 t = 0 from hmo4), (show ∀ t, ¬ f4 t = 0 → ¬ f4 t = 0 from fun t ht => ht), (show mr4 = 0 → f4 = f3 from hme4), (show ¬ f3 m4 = 0 → ∀ i, 5 * (m4 % 12) ≤ i → i < (5 * (m4 % 12)) → ¬ g 16 i = 0 → ∀ la9 e9, lkG g (m4 / 12 + 1) (g 13 i) = some (la9, e9) → ¬ f4 (12 * la9 + e9) = 0 from fun _ i h1 h2 => absurd h2 (by omega))⟩
          intro n9 ih9 a9 ls H locs hμ hl hP hD hS hI
          subst hμ
          obtain ⟨k5, mr5, f5⟩ := a9
          obtain ⟨hk51, hk52, hmr51, hc5, hmr5, hbz5, hsn5, hs5, hmo5, hm45, hme5, hk5⟩ := hI
          have hk51 : 5 * (m4 % 12) ≤ k5 := hk51
          have hk52 : k5 ≤ 5 * (m4 % 12) + rqb := hk52
          have hmr51 : mr5 ≤ 1 := hmr51
          have hc5 : cz f5 72 ≤ cz f3 72 := hc5
          have hmr5 : mr5 = 1 → cz f5 72 < cz f3 72 := hmr5
          have hbz5 : bz f5 := hbz5
          have hsn5 : ∀ i, i < 72 → ¬ f5 i = 0 → i / 12 < np := hsn5
          have hs5 : ∀ t, t < 72 → ¬ f5 t = 0 → rdP g ly d t := hs5
          have hmo5 : ∀ t, ¬ f3 t = 0 → ¬ f5 t = 0 := hmo5
          have hm45 : ∀ t, ¬ f4 t = 0 → ¬ f5 t = 0 := hm45
          have hme5 : mr5 = 0 → f5 = f3 := hme5
          have hk5 : ¬ f3 m4 = 0 → ∀ i, 5 * (m4 % 12) ≤ i → i < k5 → ¬ g 16 i = 0 → ∀ la9 e9, lkG g (m4 / 12 + 1) (g 13 i) = some (la9, e9) → ¬ f5 (12 * la9 + e9) = 0 := hk5
          have hl : lv_has ls 7 [(5, .int (nI k5)), (4, .int (nI m4)), (3, .int (nI mr5)), (0, .ref h), (1, .int (nI ly)), (2, .int (nI d))] := hl
          have hP : va_P D xcl (moW h mm kA v (va_up g 24 f5)) H := hP
          have hD : va_D A (moW h mm kA v (va_up g 24 f5)) := hD
          refine lv_aload_n hx hb xd_Mo_reading_98 rfl (lv_at hl 3 rfl) ?_
          refine va_get (D := D) (ci := 4) (v := .ref (mm 24)) (C := xR_Mo) (T := xT_Mo) (N := 31) hx hb hT xi_Mo hown hK.1 hP 0 rfl rfl 30 (by decide) (hT _ k4m_1) (fun _ h9 => h9) rfl xd_Mo_reading_99 ?_
          refine lv_iload hx hb xd_Mo_reading_102 (lv_at hl 1 rfl) ?_
          refine xn_zald (i := m4) hx hb hK.1 hP 25 2 rfl rfl (by omega) (by decide) xd_Mo_reading_104 ?_
          refine lv_if_eq (tgt := 194) hx hb xd_Mo_reading_105 (by decide) (fun hc10 => ?_) (fun hc10 => ?_)
          · refine lv_iinc (k := 1) (x := (nI m4)) (v := (nI (m4 + 1))) hx hb xd_Mo_reading_194 hl rfl (xb_inc m4 1) (Nat.le_of_ble_eq_true rfl) rfl (fun ls hl => ?_)
            have hl : lv_has ls 7 [(4, .int (nI (m4 + 1))), (5, .int (nI k5)), (3, .int (nI mr5)), (0, .ref h), (1, .int (nI ly)), (2, .int (nI d))] := hl
            refine lv_goto (tgt := 82) hx hb xd_Mo_reading_197 (by decide) ?_
            exact ih7 (m4 + 1, mr5, f5) _ _ _ (show 72 - (m4 + 1) < 72 - m4 by omega) (lv_sub hl [0, 2, 3, 4, 5] rfl) hP hD hS ⟨(show (m4 + 1) ≤ 72 from by first | assumption | omega), (show mr5 ≤ 1 from by first | assumption | omega), (show cz f5 72 ≤ cz f3 72 from by omega), (show mr5 = 1 → cz f5 72 < cz f3 72 from hmr5), (show bz f5 from hbz5), (show ∀ i, i < 72 → ¬ f5 i = 0 → i / 12 < np from hsn5), (show ∀ t, t < 72 → ¬ f5 t = 0 → rdP g ly d t from hs5), (show ∀ t, ¬ f3 t = 0 → ¬ f5 t = 0 from hmo5), (show mr5 = 0 → f5 = f3 from hme5), (show ∀ a, a < (m4 + 1) → ¬ f3 a = 0 → ∀ b, pst g a b → ¬ f5 b = 0 from fun a ha q1 b q2 => by
        rcases Nat.lt_or_ge a m4 with q | q
        · exact hm45 _ (hp4 a q q1 b q2)
        · have e8 : a = m4 := by omega
          subst e8
          exact absurd hc10 (hmo5 _ q1))⟩
          · refine lv_iload hx hb xd_Mo_reading_108 (lv_at hl 0 rfl) ?_
            refine lv_iconst (v := 5) hx hb xd_Mo_reading_110 (by decide) ?_
            refine lv_iload hx hb xd_Mo_reading_111 (lv_at hl 1 rfl) ?_
            refine lv_bipush (v := 12) hx hb xd_Mo_reading_113 (by decide) ?_
            refine lv_irem hx hb xd_Mo_reading_115 (by decide) ?_
            refine xn_top (y := nI (m4 % 12)) (pk_rem (a := m4) (d := 12) (by omega) (by decide) (by decide)) ?_
            refine lv_imul hx hb xd_Mo_reading_116 ?_
            refine xn_top (y := nI (5 * (m4 % 12))) (pk_mul 5 (m4 % 12)) ?_
            refine lv_aload_n hx hb xd_Mo_reading_117 rfl (lv_at hl 3 rfl) ?_
            refine va_get (D := D) (ci := 4) (v := .ref (mm 12)) (C := xR_Mo) (T := xT_Mo) (N := 31) hx hb hT xi_Mo hown hK.1 hP 0 rfl rfl 17 (by decide) (hT _ k4m_0) (fun _ h9 => h9) rfl xd_Mo_reading_118 ?_
            refine lv_iload hx hb xd_Mo_reading_121 (lv_at hl 1 rfl) ?_
            refine lv_bipush (v := 12) hx hb xd_Mo_reading_123 (by decide) ?_
            refine lv_irem hx hb xd_Mo_reading_125 (by decide) ?_
            refine xn_top (y := nI (m4 % 12)) (pk_rem (a := m4) (d := 12) (by omega) (by decide) (by decide)) ?_
            refine xn_iald (i := m4 % 12) hx hb hK.1 hP 13 0 rfl rfl (by omega) (by decide) xd_Mo_reading_126 ?_
            refine xn_top (x := (g 12 (m4 % 12))) (y := nI rqb) erqb ?_
            refine lv_iadd hx hb xd_Mo_reading_127 ?_
            refine xn_top (y := nI ((5 * (m4 % 12)) + rqb)) (nI_add (5 * (m4 % 12)) rqb) ?_
            refine xn_ge (a := k5) (b := (5 * (m4 % 12)) + rqb) (tgt := 194) hx hb xd_Mo_reading_128 (by decide) (by omega) (by omega) (fun hc11 => ?_) (fun hc11 => ?_)
            · refine lv_iinc (k := 1) (x := (nI m4)) (v := (nI (m4 + 1))) hx hb xd_Mo_reading_194 hl rfl (xb_inc m4 1) (Nat.le_of_ble_eq_true rfl) rfl (fun ls hl => ?_)
              have hl : lv_has ls 7 [(4, .int (nI (m4 + 1))), (5, .int (nI k5)), (3, .int (nI mr5)), (0, .ref h), (1, .int (nI ly)), (2, .int (nI d))] := hl
              refine lv_goto (tgt := 82) hx hb xd_Mo_reading_197 (by decide) ?_
              exact ih7 (m4 + 1, mr5, f5) _ _ _ (show 72 - (m4 + 1) < 72 - m4 by omega) (lv_sub hl [0, 2, 3, 4, 5] rfl) hP hD hS ⟨(show (m4 + 1) ≤ 72 from by first | assumption | omega), (show mr5 ≤ 1 from by first | assumption | omega), (show cz f5 72 ≤ cz f3 72 from by omega), (show mr5 = 1 → cz f5 72 < cz f3 72 from hmr5), (show bz f5 from hbz5), (show ∀ i, i < 72 → ¬ f5 i = 0 → i / 12 < np from hsn5), (show ∀ t, t < 72 → ¬ f5 t = 0 → rdP g ly d t from hs5), (show ∀ t, ¬ f3 t = 0 → ¬ f5 t = 0 from hmo5), (show mr5 = 0 → f5 = f3 from hme5), (show ∀ a, a < (m4 + 1) → ¬ f3 a = 0 → ∀ b, pst g a b → ¬ f5 b = 0 from fun a ha q1 b q2 => by
        rcases Nat.lt_or_ge a m4 with q | q
        · exact hm45 _ (hp4 a q q1 b q2)
        · have e8 : a = m4 := by omega
          subst e8
          exact (by
            obtain ⟨i9, a9, b9, c9, la9, e9, d9, f9⟩ := q2
            rw [f9]; exact hk5 q1 i9 a9 (by rw [erqb, iN_nI (by omega)] at b9; omega) c9 la9 e9 d9))⟩
            · refine lv_aload_n hx hb xd_Mo_reading_131 rfl (lv_at hl 3 rfl) ?_
              refine va_get (D := D) (ci := 4) (v := .ref (mm 16)) (C := xR_Mo) (T := xT_Mo) (N := 31) hx hb hT xi_Mo hown hK.1 hP 0 rfl rfl 21 (by decide) (hT _ k4m_2) (fun _ h9 => h9) rfl xd_Mo_reading_132 ?_
              refine lv_iload hx hb xd_Mo_reading_135 (lv_at hl 0 rfl) ?_
              refine xn_zald (i := k5) hx hb hK.1 hP 17 2 rfl rfl (by omega) (by decide) xd_Mo_reading_137 ?_
              refine lv_if_eq (tgt := 160) hx hb xd_Mo_reading_138 (by decide) (fun hc12 => ?_) (fun hc12 => ?_)
              · refine lv_iconst (v := (-1)) hx hb xd_Mo_reading_160 (by decide) ?_
                refine lv_istore hx hb xd_Mo_reading_161 hl (Nat.le_of_ble_eq_true rfl) rfl (fun ls hl => ?_)
                have hl : lv_has ls 7 [(6, .int (-1)), (5, .int (nI k5)), (4, .int (nI m4)), (3, .int (nI mr5)), (0, .ref h), (1, .int (nI ly)), (2, .int (nI d))] := hl
                refine lv_iload hx hb xd_Mo_reading_163 (lv_at hl 0 rfl) ?_
                refine lv_if_lt (tgt := 188) hx hb xd_Mo_reading_165 (by decide) (fun _ => ?_) (fun hc13 => absurd hc13 (by decide))
                refine lv_iinc (k := 1) (x := (nI k5)) (v := (nI (k5 + 1))) hx hb xd_Mo_reading_188 hl rfl (xb_inc k5 1) (Nat.le_of_ble_eq_true rfl) rfl (fun ls hl => ?_)
                have hl : lv_has ls 7 [(5, .int (nI (k5 + 1))), (6, .int (-1)), (4, .int (nI m4)), (3, .int (nI mr5)), (0, .ref h), (1, .int (nI ly)), (2, .int (nI d))] := hl
                refine lv_goto (tgt := 98) hx hb xd_Mo_reading_191 (by decide) ?_
                exact ih9 (k5 + 1, mr5, f5) _ _ _ (show 5 * (m4 % 12) + rqb - (k5 + 1) < 5 * (m4 % 12) + rqb - k5 by omega) (lv_sub hl [0, 2, 3, 4, 5, 6] rfl) hP hD hS ⟨(show 5 * (m4 % 12) ≤ (k5 + 1) from by first | assumption | omega), (show (k5 + 1) ≤ 5 * (m4 % 12) + rqb from by first | assumption | omega), (show mr5 ≤ 1 from by first | assumption | omega), (show cz f5 72 ≤ cz f3 72 from by omega), (show mr5 = 1 → cz f5 72 < cz f3 72 from hmr5), (show bz f5 from hbz5), (show ∀ i, i < 72 → ¬ f5 i = 0 → i / 12 < np from hsn5), (show ∀ t, t < 72 → ¬ f5 t = 0 → rdP g ly d t from hs5), (show ∀ t, ¬ f3 t = 0 → ¬ f5 t = 0 from hmo5), (show ∀ t, ¬ f4 t = 0 → ¬ f5 t = 0 from hm45), (show mr5 = 0 → f5 = f3 from hme5), (show ¬ f3 m4 = 0 → ∀ i, 5 * (m4 % 12) ≤ i → i < (k5 + 1) → ¬ g 16 i = 0 → ∀ la9 e9, lkG g (m4 / 12 + 1) (g 13 i) = some (la9, e9) → ¬ f5 (12 * la9 + e9) = 0 from fun q0 i h1 h2 c9 la9 e9 d9 => by
        rcases Nat.lt_or_ge i k5 with q | q
        · exact hk5 q0 i h1 q c9 la9 e9 d9
        · have e0 : i = k5 := by omega
          subst e0
          exact (absurd hc12 c9))⟩
              · have hm12 := hsn5 m4 (by omega) hc10
                refine lv_aload_n hx hb xd_Mo_reading_141 rfl (lv_at hl 3 rfl) ?_
                refine lv_iload hx hb xd_Mo_reading_142 (lv_at hl 1 rfl) ?_
                refine lv_bipush (v := 12) hx hb xd_Mo_reading_144 (by decide) ?_
                refine lv_idiv hx hb xd_Mo_reading_146 (by decide) ?_
                refine xn_top (y := nI (m4 / 12)) (pk_div (a := m4) (d := 12) (by omega) (by decide) (by decide)) ?_
                refine xn_top (x := (nI (m4 / 12))) (y := nI (m4 / 12 + 1) - 1) (nI_pred (m4 / 12)).symm ?_
                refine lv_aload_n hx hb xd_Mo_reading_147 rfl (lv_at hl 3 rfl) ?_
                refine va_get (D := D) (ci := 4) (v := .ref (mm 13)) (C := xR_Mo) (T := xT_Mo) (N := 31) hx hb hT xi_Mo hown hK.1 hP 0 rfl rfl 18 (by decide) (hT _ k4m_3) (fun _ h9 => h9) rfl xd_Mo_reading_148 ?_
                refine lv_iload hx hb xd_Mo_reading_151 (lv_at hl 0 rfl) ?_
                refine xn_iald (i := k5) hx hb hK.1 hP 14 0 rfl rfl (by omega) (by decide) xd_Mo_reading_153 ?_
                have hFc := va_free (wc := (moW h mm kA v (va_up g 24 f5))) hD hS hA [0, 1, 2, 3, 4, 5, 6, 7, 8, 9, 10, 11, 12, 13, 14, 15, 16, 17, 18, 19, 20, 21, 22, 23, 24, 25] rfl
                refine va_calli (va_runV (As := [.int (nI (m4 / 12 + 1) - 1), .int (g 13 k5)]) (rest := []) ⟨hx, hb, hml, hown, hT⟩ (xc_Mo_lookUpX l D kA H.size h mm v (va_up g 24 f5) (m4 / 12 + 1) (g 13 k5) np (by first | assumption | omega) hpar (by first | assumption | omega) hmd) (cwV 2 hT (wT_V k4m_5 k4m_6 k4m_7 k4m_8 k4m_4) rfl rfl rfl (by decide +kernel) ⟨Nat.le_of_ble_eq_true rfl, Nat.le_of_ble_eq_true rfl⟩) (x_preV hK hP hD 0 rfl rfl) rfl rfl hl.1 rfl (lv_room (Nat.le_of_ble_eq_true rfl)) xd_Mo_reading_154 ⟨Nat.le_of_ble_eq_true rfl, Nat.le_of_ble_eq_true rfl⟩) hS (fun q _ h => hFc q h) hFc (fun r14 u15 t H1 locs ht hvm hp16 hB hz1 hk1 hS => ?_)
                obtain ⟨hP1, hD1⟩ := hB
                rw [ht] at hP1
                have hD1 := hD1.weaken (fun _ _ _ h => hFc _ h)
                generalize H1 = H at hP1 hS ⊢
                have hP := hP1
                have hD := hD1
                have hP : va_P D xcl (moW h mm kA v (va_up g 24 f5)) H := hP
                have hD : va_D A (moW h mm kA v (va_up g 24 f5)) := hD
                rcases hp16 with ⟨z17, rfl⟩ | ⟨z18, z19, z20, z21, z22, rfl⟩
                · have hlk9 : lkG g (m4 / 12 + 1) (g 13 k5) = none := z17
                  refine lv_goto (tgt := 161) hx hb xd_Mo_reading_157 (by decide) ?_
                  refine lv_istore hx hb xd_Mo_reading_161 hl (Nat.le_of_ble_eq_true rfl) rfl (fun ls hl => ?_)
                  have hl : lv_has ls 7 [(6, .int (-1)), (5, .int (nI k5)), (4, .int (nI m4)), (3, .int (nI mr5)), (0, .ref h), (1, .int (nI ly)), (2, .int (nI d))] := hl
                  refine lv_iload hx hb xd_Mo_reading_163 (lv_at hl 0 rfl) ?_
                  refine lv_if_lt (tgt := 188) hx hb xd_Mo_reading_165 (by decide) (fun _ => ?_) (fun hc23 => absurd hc23 (by decide))
                  refine lv_iinc (k := 1) (x := (nI k5)) (v := (nI (k5 + 1))) hx hb xd_Mo_reading_188 hl rfl (xb_inc k5 1) (Nat.le_of_ble_eq_true rfl) rfl (fun ls hl => ?_)
                  have hl : lv_has ls 7 [(5, .int (nI (k5 + 1))), (6, .int (-1)), (4, .int (nI m4)), (3, .int (nI mr5)), (0, .ref h), (1, .int (nI ly)), (2, .int (nI d))] := hl
                  refine lv_goto (tgt := 98) hx hb xd_Mo_reading_191 (by decide) ?_
                  exact ih9 (k5 + 1, mr5, f5) _ _ _ (show 5 * (m4 % 12) + rqb - (k5 + 1) < 5 * (m4 % 12) + rqb - k5 by omega) (lv_sub hl [0, 2, 3, 4, 5, 6] rfl) hP hD hS ⟨(show 5 * (m4 % 12) ≤ (k5 + 1) from by first | assumption | omega), (show (k5 + 1) ≤ 5 * (m4 % 12) + rqb from by first | assumption | omega), (show mr5 ≤ 1 from by first | assumption | omega), (show cz f5 72 ≤ cz f3 72 from by omega), (show mr5 = 1 → cz f5 72 < cz f3 72 from hmr5), (show bz f5 from hbz5), (show ∀ i, i < 72 → ¬ f5 i = 0 → i / 12 < np from hsn5), (show ∀ t, t < 72 → ¬ f5 t = 0 → rdP g ly d t from hs5), (show ∀ t, ¬ f3 t = 0 → ¬ f5 t = 0 from hmo5), (show ∀ t, ¬ f4 t = 0 → ¬ f5 t = 0 from hm45), (show mr5 = 0 → f5 = f3 from hme5), (show ¬ f3 m4 = 0 → ∀ i, 5 * (m4 % 12) ≤ i → i < (k5 + 1) → ¬ g 16 i = 0 → ∀ la9 e9, lkG g (m4 / 12 + 1) (g 13 i) = some (la9, e9) → ¬ f5 (12 * la9 + e9) = 0 from fun q0 i h1 h2 c9 la9 e9 d9 => by
        rcases Nat.lt_or_ge i k5 with q | q
        · exact hk5 q0 i h1 q c9 la9 e9 d9
        · have e0 : i = k5 := by omega
          subst e0
          exact (by rw [hlk9] at d9; cases d9))⟩
                · have hlk9 : lkG g (m4 / 12 + 1) (g 13 k5) = some (z18, z19) := z20
                  have hdd9 := z22
                  have hld9 := z21
                  refine lv_goto (tgt := 161) hx hb xd_Mo_reading_157 (by decide) ?_
                  refine lv_istore hx hb xd_Mo_reading_161 hl (Nat.le_of_ble_eq_true rfl) rfl (fun ls hl => ?_)
                  have hl : lv_has ls 7 [(6, .int (nI (12 * z18 + z19))), (5, .int (nI k5)), (4, .int (nI m4)), (3, .int (nI mr5)), (0, .ref h), (1, .int (nI ly)), (2, .int (nI d))] := hl
                  refine lv_iload hx hb xd_Mo_reading_163 (lv_at hl 0 rfl) ?_
                  refine xz_lt (a := 12 * z18 + z19) (tgt := 188) hx hb xd_Mo_reading_165 (by decide) (by omega) ?_
                  refine lv_aload_n hx hb xd_Mo_reading_168 rfl (lv_at hl 4 rfl) ?_
                  refine va_get (D := D) (ci := 4) (v := .ref (mm 24)) (C := xR_Mo) (T := xT_Mo) (N := 31) hx hb hT xi_Mo hown hK.1 hP 0 rfl rfl 30 (by decide) (hT _ k4m_1) (fun _ h9 => h9) rfl xd_Mo_reading_169 ?_
                  refine lv_iload hx hb xd_Mo_reading_172 (lv_at hl 0 rfl) ?_
                  refine xn_zald (i := 12 * z18 + z19) hx hb hK.1 hP 25 2 rfl rfl (by omega) (by decide) xd_Mo_reading_174 ?_
                  refine lv_if_ne (tgt := 188) hx hb xd_Mo_reading_175 (by decide) (fun hc25 => ?_) (fun hc25 => ?_)
                  · refine lv_iinc (k := 1) (x := (nI k5)) (v := (nI (k5 + 1))) hx hb xd_Mo_reading_188 hl rfl (xb_inc k5 1) (Nat.le_of_ble_eq_true rfl) rfl (fun ls hl => ?_)
                    have hl : lv_has ls 7 [(5, .int (nI (k5 + 1))), (6, .int (nI (12 * z18 + z19))), (4, .int (nI m4)), (3, .int (nI mr5)), (0, .ref h), (1, .int (nI ly)), (2, .int (nI d))] := hl
                    refine lv_goto (tgt := 98) hx hb xd_Mo_reading_191 (by decide) ?_
                    exact ih9 (k5 + 1, mr5, f5) _ _ _ (show 5 * (m4 % 12) + rqb - (k5 + 1) < 5 * (m4 % 12) + rqb - k5 by omega) (lv_sub hl [0, 2, 3, 4, 5, 6] rfl) hP hD hS ⟨(show 5 * (m4 % 12) ≤ (k5 + 1) from by first | assumption | omega), (show (k5 + 1) ≤ 5 * (m4 % 12) + rqb from by first | assumption | omega), (show mr5 ≤ 1 from by first | assumption | omega), (show cz f5 72 ≤ cz f3 72 from by omega), (show mr5 = 1 → cz f5 72 < cz f3 72 from hmr5), (show bz f5 from hbz5), (show ∀ i, i < 72 → ¬ f5 i = 0 → i / 12 < np from hsn5), (show ∀ t, t < 72 → ¬ f5 t = 0 → rdP g ly d t from hs5), (show ∀ t, ¬ f3 t = 0 → ¬ f5 t = 0 from hmo5), (show ∀ t, ¬ f4 t = 0 → ¬ f5 t = 0 from hm45), (show mr5 = 0 → f5 = f3 from hme5), (show ¬ f3 m4 = 0 → ∀ i, 5 * (m4 % 12) ≤ i → i < (k5 + 1) → ¬ g 16 i = 0 → ∀ la9 e9, lkG g (m4 / 12 + 1) (g 13 i) = some (la9, e9) → ¬ f5 (12 * la9 + e9) = 0 from fun q0 i h1 h2 c9 la9 e9 d9 => by
        rcases Nat.lt_or_ge i k5 with q | q
        · exact hk5 q0 i h1 q c9 la9 e9 d9
        · have e0 : i = k5 := by omega
          subst e0
          exact (by rw [hlk9] at d9; have e8 := congrArg Prod.fst (Option.some.inj d9); have e7 := congrArg Prod.snd (Option.some.inj d9); simp only at e8 e7; rw [show 12 * la9 + e9 = 12 * z18 + z19 by omega]; exact hc25))⟩
                  · refine lv_aload_n hx hb xd_Mo_reading_178 rfl (lv_at hl 4 rfl) ?_
                    refine va_get (D := D) (ci := 4) (v := .ref (mm 24)) (C := xR_Mo) (T := xT_Mo) (N := 31) hx hb hT xi_Mo hown hK.1 hP 0 rfl rfl 30 (by decide) (hT _ k4m_1) (fun _ h9 => h9) rfl xd_Mo_reading_179 ?_
                    refine lv_iload hx hb xd_Mo_reading_182 (lv_at hl 0 rfl) ?_
                    refine lv_iconst (v := 1) hx hb xd_Mo_reading_184 (by decide) ?_
                    refine xn_zast (i := 12 * z18 + z19) hx hb hK.1 hP hD hS 25 2 rfl rfl (by omega) (by decide) xd_Mo_reading_185 (fun H locs hP hD hS => ?_)
                    have hP : va_P D xcl (moW h mm kA v (va_up g 24 (upd f5 (12 * z18 + z19) (vp_nar .boolean 1)))) H := hP
                    have hD : va_D A (moW h mm kA v (va_up g 24 (upd f5 (12 * z18 + z19) (vp_nar .boolean 1)))) := hD
                    refine lv_iconst (v := 1) hx hb xd_Mo_reading_186 (by decide) ?_
                    refine lv_istore_n hx hb xd_Mo_reading_187 rfl hl (Nat.le_of_ble_eq_true rfl) rfl (fun ls hl => ?_)
                    have hl : lv_has ls 7 [(3, .int 1), (6, .int (nI (12 * z18 + z19))), (5, .int (nI k5)), (4, .int (nI m4)), (0, .ref h), (1, .int (nI ly)), (2, .int (nI d))] := hl
                    refine lv_iinc (k := 2) (x := (nI k5)) (v := (nI (k5 + 1))) hx hb xd_Mo_reading_188 hl rfl (xb_inc k5 1) (Nat.le_of_ble_eq_true rfl) rfl (fun ls hl => ?_)
                    have hl : lv_has ls 7 [(5, .int (nI (k5 + 1))), (3, .int 1), (6, .int (nI (12 * z18 + z19))), (4, .int (nI m4)), (0, .ref h), (1, .int (nI ly)), (2, .int (nI d))] := hl
                    refine lv_goto (tgt := 98) hx hb xd_Mo_reading_191 (by decide) ?_
                    exact ih9 (k5 + 1, 1, (upd f5 (12 * z18 + z19) (vp_nar .boolean 1))) _ _ _ (show 5 * (m4 % 12) + rqb - (k5 + 1) < 5 * (m4 % 12) + rqb - k5 by omega) (lv_sub hl [0, 3, 1, 4, 5, 6] rfl) hP hD hS ⟨(show 5 * (m4 % 12) ≤ (k5 + 1) from by first | assumption | omega), (show (k5 + 1) ≤ 5 * (m4 % 12) + rqb from by first | assumption | omega), (show 1 ≤ 1 from by first | assumption | omega), (show cz (upd f5 (12 * z18 + z19) (vp_nar .boolean 1)) 72 ≤ cz f3 72 from by
      have h9 := cz_mark (f := f5) hc25 bn_1 72 (by omega)
      omega), (show 1 = 1 → cz (upd f5 (12 * z18 + z19) (vp_nar .boolean 1)) 72 < cz f3 72 from fun _ => by
      have h9 := cz_mark (f := f5) hc25 bn_1 72 (by omega)
      omega), (show bz (upd f5 (12 * z18 + z19) (vp_nar .boolean 1)) from bz_up hbz5 bn_n), (show ∀ i, i < 72 → ¬ (upd f5 (12 * z18 + z19) (vp_nar .boolean 1)) i = 0 → i / 12 < np from fun i hi hne => by
      rcases Nat.lt_trichotomy i (12 * z18 + z19) with e | e | e
      · exact hsn5 i hi (by rwa [pk_un (by omega)] at hne)
      · omega
      · exact hsn5 i hi (by rwa [pk_un (by omega)] at hne)), (show ∀ t, t < 72 → ¬ (upd f5 (12 * z18 + z19) (vp_nar .boolean 1)) t = 0 → rdP g ly d t from fun t ht hn => by
        by_cases e : t = 12 * z18 + z19
        · rw [e]; exact rdP_s (hs5 m4 (by omega) hc10) ⟨k5, hk51, by rw [erqb, iN_nI (by omega)]; omega, hc12, z18, z19, hlk9, rfl⟩
        · rw [pk_un e] at hn; exact hs5 t ht hn), (show ∀ t, ¬ f3 t = 0 → ¬ (upd f5 (12 * z18 + z19) (vp_nar .boolean 1)) t = 0 from up_mono bn_1 hmo5), (show ∀ t, ¬ f4 t = 0 → ¬ (upd f5 (12 * z18 + z19) (vp_nar .boolean 1)) t = 0 from up_mono bn_1 hm45), (show 1 = 0 → (upd f5 (12 * z18 + z19) (vp_nar .boolean 1)) = f3 from fun q => absurd q (by omega)), (show ¬ f3 m4 = 0 → ∀ i, 5 * (m4 % 12) ≤ i → i < (k5 + 1) → ¬ g 16 i = 0 → ∀ la9 e9, lkG g (m4 / 12 + 1) (g 13 i) = some (la9, e9) → ¬ (upd f5 (12 * z18 + z19) (vp_nar .boolean 1)) (12 * la9 + e9) = 0 from fun q0 i h1 h2 c9 la9 e9 d9 => by
        rcases Nat.lt_or_ge i k5 with q | q
        · exact (up_mono bn_1 (fun t ht => ht) _ (hk5 q0 i h1 q c9 la9 e9 d9))
        · have e0 : i = k5 := by omega
          subst e0
          exact (by rw [hlk9] at d9; have e8 := congrArg Prod.fst (Option.some.inj d9); have e7 := congrArg Prod.snd (Option.some.inj d9); simp only at e8 e7; rw [show 12 * la9 + e9 = 12 * z18 + z19 by omega, pk_us]; exact bn_1))⟩
    · refine lv_aload_n hx hb xd_Mo_reading_39 rfl (lv_at hl 1 rfl) ?_
      refine lv_iload_n hx hb xd_Mo_reading_40 rfl (lv_at hl 2 rfl) ?_
      refine xn_top (x := (nI ly)) (y := nI (ly + 1) - 1) (nI_pred ly).symm ?_
      refine lv_aload_n hx hb xd_Mo_reading_41 rfl (lv_at hl 1 rfl) ?_
      refine va_get (D := D) (ci := 4) (v := .ref (mm 13)) (C := xR_Mo) (T := xT_Mo) (N := 31) hx hb hT xi_Mo hown hK.1 hP 0 rfl rfl 18 (by decide) (hT _ k4m_3) (fun _ h9 => h9) rfl xd_Mo_reading_42 ?_
      refine lv_iload_n hx hb xd_Mo_reading_45 rfl (lv_at hl 0 rfl) ?_
      refine xn_iald (i := k2) hx hb hK.1 hP 14 0 rfl rfl (by omega) (by decide) xd_Mo_reading_46 ?_
      have hFc := va_free (wc := (moW h mm kA v (va_up g 24 f2))) hD hS hA [0, 1, 2, 3, 4, 5, 6, 7, 8, 9, 10, 11, 12, 13, 14, 15, 16, 17, 18, 19, 20, 21, 22, 23, 24, 25] rfl
      refine va_calli (va_runV (As := [.int (nI (ly + 1) - 1), .int (g 13 k2)]) (rest := []) ⟨hx, hb, hml, hown, hT⟩ (xc_Mo_lookUpX l D kA H.size h mm v (va_up g 24 f2) (ly + 1) (g 13 k2) np (by first | assumption | omega) hpar (by first | assumption | omega) hmd) (cwV 2 hT (wT_V k4m_5 k4m_6 k4m_7 k4m_8 k4m_4) rfl rfl rfl (by decide +kernel) ⟨Nat.le_of_ble_eq_true rfl, Nat.le_of_ble_eq_true rfl⟩) (x_preV hK hP hD 0 rfl rfl) rfl rfl hl.1 rfl (lv_room (Nat.le_of_ble_eq_true rfl)) xd_Mo_reading_47 ⟨Nat.le_of_ble_eq_true rfl, Nat.le_of_ble_eq_true rfl⟩) hS (fun q _ h => hFc q h) hFc (fun r26 u27 t H1 locs ht hvm hp28 hB hz1 hk1 hS => ?_)
      obtain ⟨hP1, hD1⟩ := hB
      rw [ht] at hP1
      have hD1 := hD1.weaken (fun _ _ _ h => hFc _ h)
      generalize H1 = H at hP1 hS ⊢
      have hP := hP1
      have hD := hD1
      have hP : va_P D xcl (moW h mm kA v (va_up g 24 f2)) H := hP
      have hD : va_D A (moW h mm kA v (va_up g 24 f2)) := hD
      rcases hp28 with ⟨z29, rfl⟩ | ⟨z30, z31, z32, z33, z34, rfl⟩
      · have hlk9 : lkG g (ly + 1) (g 13 k2) = none := z29
        refine lv_istore hx hb xd_Mo_reading_50 hl (Nat.le_of_ble_eq_true rfl) rfl (fun ls hl => ?_)
        have hl : lv_has ls 7 [(4, .int (-1)), (3, .int (nI k2)), (0, .ref h), (1, .int (nI ly)), (2, .int (nI d))] := hl
        refine lv_iload hx hb xd_Mo_reading_52 (lv_at hl 0 rfl) ?_
        refine lv_if_lt (tgt := 65) hx hb xd_Mo_reading_54 (by decide) (fun _ => ?_) (fun hc35 => absurd hc35 (by decide))
        refine lv_iinc (k := 1) (x := (nI k2)) (v := (nI (k2 + 1))) hx hb xd_Mo_reading_65 hl rfl (xb_inc k2 1) (Nat.le_of_ble_eq_true rfl) rfl (fun ls hl => ?_)
        have hl : lv_has ls 7 [(3, .int (nI (k2 + 1))), (4, .int (-1)), (0, .ref h), (1, .int (nI ly)), (2, .int (nI d))] := hl
        refine lv_goto (tgt := 25) hx hb xd_Mo_reading_68 (by decide) ?_
        exact ih3 (k2 + 1, f2) _ _ _ (show 5 * d + rqa - (k2 + 1) < 5 * d + rqa - k2 by omega) (lv_sub hl [0, 2, 3, 4] rfl) hP hD hS ⟨(show 5 * d ≤ (k2 + 1) from by first | assumption | omega), (show (k2 + 1) ≤ 5 * d + rqa from by first | assumption | omega), (show bz f2 from hbz2), (show ∀ i, i < 72 → ¬ f2 i = 0 → i / 12 < np from hsn2), (show ∀ t, t < 72 → ¬ f2 t = 0 → rd0 g ly d (k2 + 1) t from fun t ht hn => rd0_s (hs2 t ht hn)), (show ∀ b, rd0 g ly d (k2 + 1) b → ¬ f2 b = 0 from fun b hb => hcm2 b (rd0_c hb (fun la9 e9 q => by rw [hlk9] at q; cases q)))⟩
      · have hlk9 : lkG g (ly + 1) (g 13 k2) = some (z30, z31) := z32
        have hdd9 := z34
        have hld9 := z33
        refine lv_istore hx hb xd_Mo_reading_50 hl (Nat.le_of_ble_eq_true rfl) rfl (fun ls hl => ?_)
        have hl : lv_has ls 7 [(4, .int (nI (12 * z30 + z31))), (3, .int (nI k2)), (0, .ref h), (1, .int (nI ly)), (2, .int (nI d))] := hl
        refine lv_iload hx hb xd_Mo_reading_52 (lv_at hl 0 rfl) ?_
        refine xz_lt (a := 12 * z30 + z31) (tgt := 65) hx hb xd_Mo_reading_54 (by decide) (by omega) ?_
        refine lv_aload_n hx hb xd_Mo_reading_57 rfl (lv_at hl 2 rfl) ?_
        refine va_get (D := D) (ci := 4) (v := .ref (mm 24)) (C := xR_Mo) (T := xT_Mo) (N := 31) hx hb hT xi_Mo hown hK.1 hP 0 rfl rfl 30 (by decide) (hT _ k4m_1) (fun _ h9 => h9) rfl xd_Mo_reading_58 ?_
        refine lv_iload hx hb xd_Mo_reading_61 (lv_at hl 0 rfl) ?_
        refine lv_iconst (v := 1) hx hb xd_Mo_reading_63 (by decide) ?_
        refine xn_zast (i := 12 * z30 + z31) hx hb hK.1 hP hD hS 25 2 rfl rfl (by omega) (by decide) xd_Mo_reading_64 (fun H locs hP hD hS => ?_)
        have hP : va_P D xcl (moW h mm kA v (va_up g 24 (upd f2 (12 * z30 + z31) (vp_nar .boolean 1)))) H := hP
        have hD : va_D A (moW h mm kA v (va_up g 24 (upd f2 (12 * z30 + z31) (vp_nar .boolean 1)))) := hD
        refine lv_iinc (k := 1) (x := (nI k2)) (v := (nI (k2 + 1))) hx hb xd_Mo_reading_65 hl rfl (xb_inc k2 1) (Nat.le_of_ble_eq_true rfl) rfl (fun ls hl => ?_)
        have hl : lv_has ls 7 [(3, .int (nI (k2 + 1))), (4, .int (nI (12 * z30 + z31))), (0, .ref h), (1, .int (nI ly)), (2, .int (nI d))] := hl
        refine lv_goto (tgt := 25) hx hb xd_Mo_reading_68 (by decide) ?_
        exact ih3 (k2 + 1, (upd f2 (12 * z30 + z31) (vp_nar .boolean 1))) _ _ _ (show 5 * d + rqa - (k2 + 1) < 5 * d + rqa - k2 by omega) (lv_sub hl [0, 2, 3, 4] rfl) hP hD hS ⟨(show 5 * d ≤ (k2 + 1) from by first | assumption | omega), (show (k2 + 1) ≤ 5 * d + rqa from by first | assumption | omega), (show bz (upd f2 (12 * z30 + z31) (vp_nar .boolean 1)) from bz_up hbz2 bn_n), (show ∀ i, i < 72 → ¬ (upd f2 (12 * z30 + z31) (vp_nar .boolean 1)) i = 0 → i / 12 < np from fun i hi hne => by
      rcases Nat.lt_trichotomy i (12 * z30 + z31) with e | e | e
      · exact hsn2 i hi (by rwa [pk_un (by omega)] at hne)
      · omega
      · exact hsn2 i hi (by rwa [pk_un (by omega)] at hne)), (show ∀ t, t < 72 → ¬ (upd f2 (12 * z30 + z31) (vp_nar .boolean 1)) t = 0 → rd0 g ly d (k2 + 1) t from fun t ht hn => by
        by_cases e : t = 12 * z30 + z31
        · exact ⟨k2, hk21, by omega, z30, z31, hlk9, e⟩
        · rw [pk_un e] at hn; exact rd0_s (hs2 t ht hn)), (show ∀ b, rd0 g ly d (k2 + 1) b → ¬ (upd f2 (12 * z30 + z31) (vp_nar .boolean 1)) b = 0 from fun b hb => by
        by_cases e : b = 12 * z30 + z31
        · rw [e, pk_us]; exact bn_1
        · rw [pk_un e]; exact hcm2 b (rd0_c hb (fun la9 e9 q => by rw [hlk9] at q; have e8 := congrArg Prod.fst (Option.some.inj q); have e7 := congrArg Prod.snd (Option.some.inj q); simp only at e8 e7; omega)))⟩
  · refine lv_aload_n hx hb xd_Mo_reading_8 rfl (lv_at hl 1 rfl) ?_
    refine va_get (D := D) (ci := 4) (v := .ref (mm 24)) (C := xR_Mo) (T := xT_Mo) (N := 31) hx hb hT xi_Mo hown hK.1 hP 0 rfl rfl 30 (by decide) (hT _ k4m_1) (fun _ h9 => h9) rfl xd_Mo_reading_9 ?_
    refine lv_iload_n hx hb xd_Mo_reading_12 rfl (lv_at hl 0 rfl) ?_
    refine lv_iconst (v := 0) hx hb xd_Mo_reading_13 (by decide) ?_
    refine xn_zast (i := i0) hx hb hK.1 hP hD hS 25 2 rfl rfl (by omega) (by decide) xd_Mo_reading_14 (fun H locs hP hD hS => ?_)
    have hP : va_P D xcl (moW h mm kA v (va_up g 24 (upd f0 i0 (vp_nar .boolean 0)))) H := hP
    have hD : va_D A (moW h mm kA v (va_up g 24 (upd f0 i0 (vp_nar .boolean 0)))) := hD
    refine lv_iinc (k := 0) (x := (nI i0)) (v := (nI (i0 + 1))) hx hb xd_Mo_reading_15 hl rfl (xb_inc i0 1) (Nat.le_of_ble_eq_true rfl) rfl (fun ls hl => ?_)
    have hl : lv_has ls 7 [(3, .int (nI (i0 + 1))), (0, .ref h), (1, .int (nI ly)), (2, .int (nI d))] := hl
    refine lv_goto (tgt := 2) hx hb xd_Mo_reading_18 (by decide) ?_
    exact ih1 (i0 + 1, (upd f0 i0 (vp_nar .boolean 0))) _ _ _ (show 72 - (i0 + 1) < 72 - i0 by omega) (lv_sub hl [0, 1, 2, 3] rfl) hP hD hS ⟨(show (i0 + 1) ≤ 72 from by first | assumption | omega), (show ∀ j, j < (i0 + 1) → (upd f0 i0 (vp_nar .boolean 0)) j = vp_nar .boolean 0 from fun j hj => by
      by_cases e : j = i0
      · subst e; exact pk_us
      · rw [pk_un e]; exact hz0 j (by omega))⟩
def exP (g : gT) (p : Nat) (tn : Int32) : Prop := ¬ g 9 p = 0 ∨ g 7 (3 * p) = tn ∨ g 7 (3 * p + 1) = tn ∨ g 7 (3 * p + 2) = tn
def elK (g : gT) (Q : Nat → Prop) (bt : Nat) (nm tn : Int32) (k : Nat) : Prop := ∃ m, m < k ∧ ¬ m = bt ∧ Q m ∧ ∃ i, pI g (m % 12) nm = some i ∧ exP g (6 * (m % 12) + i) tn
def spB (g : gT) (Q : Nat → Prop) (d m p : Nat) : Prop := exP g p (g 4 d) ∧ ((∃ i, pI g d (g 6 p) = some i) ∨ elK g Q m (g 6 p) (g 4 d) 72)
def spQ (g : gT) (Q : Nat → Prop) (d : Nat) : Prop := ∃ m, m < 72 ∧ Q m ∧ ∃ p, 6 * (m % 12) ≤ p ∧ p < 6 * (m % 12) + iN (g 5 (m % 12)) ∧ spB g Q d m p
def rdQ (g : gT) (ly d m : Nat) : Prop := rdP g ly d m ∧ m ≠ 12 * ly + d
theorem elK_iff {g : gT} {Q Q2 : Nat → Prop} {bt k : Nat} {nm tn : Int32} (hk : k ≤ 72) (h : ∀ m, m < 72 → (Q m ↔ Q2 m)) : elK g Q bt nm tn k ↔ elK g Q2 bt nm tn k := by
  constructor
  · intro ⟨m, h1, h2, h3, h4⟩
    exact ⟨m, h1, h2, (h m (by omega)).mp h3, h4⟩
  · intro ⟨m, h1, h2, h3, h4⟩
    exact ⟨m, h1, h2, (h m (by omega)).mpr h3, h4⟩
theorem spQ_iff {g : gT} {Q Q2 : Nat → Prop} {d : Nat} (h : ∀ m, m < 72 → (Q m ↔ Q2 m)) : spQ g Q d ↔ spQ g Q2 d := by
  constructor
  · intro ⟨m, h1, h2, p, h3, h4, h5, h6⟩
    exact ⟨m, h1, (h m h1).mp h2, p, h3, h4, h5, h6.imp id (elK_iff (Nat.le_refl _) h).mp⟩
  · intro ⟨m, h1, h2, p, h3, h4, h5, h6⟩
    exact ⟨m, h1, (h m h1).mpr h2, p, h3, h4, h5, h6.imp id (elK_iff (Nat.le_refl _) h).mpr⟩
theorem g24 {g g2 : gT} (h : ∀ j, j ≠ 24 → g2 j = g j) : g2 = va_up g 24 (g2 24) := by
  funext j
  by_cases e : j = 24
  · subst e; rfl
  · rw [h j e]; simp [va_up, e]
def CYC (g : gT) (nl md : Nat) : Prop := ∃ b, MB g nl md b ∧ tc (stp g nl) b b
def SPL (g : gT) (nl md : Nat) : Prop := ∃ b, MB g nl md b ∧ spQ g (rdQ g nl b) b
noncomputable def rsW (g : gT) (nl md : Nat) : Nat := cif (CYC g nl md) 1 (cif (SPL g nl md) 2 (cif (nl = 5) 3 0))
def cyK (g : gT) (nl k : Nat) : Prop := ∃ j, 12 * nl ≤ j ∧ j < k ∧ ∃ b, g 21 j = nI b ∧ b < 12 ∧ tc (stp g nl) b b
def spK (g : gT) (nl k : Nat) : Prop := ∃ j, 12 * nl ≤ j ∧ j < k ∧ ∃ b, g 21 j = nI b ∧ b < 12 ∧ spQ g (rdQ g nl b) b
theorem cyK_all {g : gT} {nl md : Nat} : cyK g nl (12 * nl + md) ↔ CYC g nl md := by
  constructor
  · intro ⟨j, h1, h2, b, h3, h4, h5⟩
    exact ⟨b, ⟨h4, j, h1, h2, h3⟩, h5⟩
  · intro ⟨b, ⟨h4, j, h1, h2, h3⟩, h5⟩
    exact ⟨j, h1, h2, b, h3, h4, h5⟩
theorem spK_all {g : gT} {nl md : Nat} : spK g nl (12 * nl + md) ↔ SPL g nl md := by
  constructor
  · intro ⟨j, h1, h2, b, h3, h4, h5⟩
    exact ⟨b, ⟨h4, j, h1, h2, h3⟩, h5⟩
  · intro ⟨b, ⟨h4, j, h1, h2, h3⟩, h5⟩
    exact ⟨j, h1, h2, b, h3, h4, h5⟩
theorem rsW_le {g : gT} {nl md : Nat} : rsW g nl md ≤ 3 := by
  unfold rsW
  by_cases h1 : CYC g nl md
  · rw [cif_pos h1]; omega
  · rw [cif_neg h1]
    by_cases h2 : SPL g nl md
    · rw [cif_pos h2]; omega
    · rw [cif_neg h2]
      by_cases h3 : nl = 5
      · rw [cif_pos h3]; omega
      · rw [cif_neg h3]; omega
theorem rsW_0 {g : gT} {nl md : Nat} (h : rsW g nl md = 0) : nl ≠ 5 := fun q => by
  unfold rsW at h
  by_cases h1 : CYC g nl md
  · rw [cif_pos h1] at h; omega
  · rw [cif_neg h1] at h
    by_cases h2 : SPL g nl md
    · rw [cif_pos h2] at h; omega
    · rw [cif_neg h2, cif_pos q] at h; omega
theorem k4n_0 : (Cond.fieldLink "LayerDeskModel" 38 "LayerDeskModel" "exportAll" "[Z") ∈ wT := wT_t (List.mem_append_right _ (List.mem_append_right _ (List.mem_append_right _ (List.mem_append_left _ (List.mem_of_getElem? (i := 98) rfl))))) rfl
theorem k4n_1 : (Cond.fieldLink "LayerDeskModel" 32 "LayerDeskModel" "exportTo" "[I") ∈ wT := wT_t (List.mem_append_right _ (List.mem_append_right _ (List.mem_append_right _ (List.mem_append_left _ (List.mem_of_getElem? (i := 96) rfl))))) rfl
theorem k4n_2 : (Cond.code xy_Mo_isTo xb_Mo_isTo 6 (some .boolean)) ∈ wT := wT_t (List.mem_append_right _ (List.mem_append_right _ (List.mem_append_right _ (List.mem_append_right _ (List.mem_of_getElem? (i := 56) rfl))))) rfl
theorem k4n_3 : (Cond.methodLink "LayerDeskModel" 167 xy_Mo_isTo) ∈ wT := wT_t (List.mem_append_right _ (List.mem_append_right _ (List.mem_append_right _ (List.mem_append_right _ (List.mem_of_getElem? (i := 53) rfl))))) rfl
theorem k4n_4 : (Cond.instanceMethod xy_Mo_isTo) ∈ wT := wT_t (List.mem_append_right _ (List.mem_append_right _ (List.mem_append_right _ (List.mem_append_right _ (List.mem_of_getElem? (i := 55) rfl))))) rfl
theorem k4n_5 : (Cond.selects "LayerDeskModel" xy_Mo_isTo xy_Mo_isTo) ∈ wT := wT_s (q := (xy_Mo_isTo, 31)) (by decide +kernel) rfl
theorem k4n_6 : (Cond.initialized "LayerDeskModel") ∈ wT := wT_t (List.mem_append_left _ (List.mem_of_getElem? (i := 5) rfl)) rfl
theorem k4n_7 : (Cond.fieldLink "LayerDeskModel" 84 "LayerDeskModel" "seen" "[Z") ∈ wT := wT_t (List.mem_append_right _ (List.mem_append_right _ (List.mem_append_right _ (List.mem_append_left _ (List.mem_of_getElem? (i := 114) rfl))))) rfl
theorem k4n_8 : (Cond.code xy_Mo_packageOf xb_Mo_packageOf 4 (some .int)) ∈ wT := wT_t (List.mem_append_right _ (List.mem_append_right _ (List.mem_append_right _ (List.mem_append_left _ (List.mem_of_getElem? (i := 224) rfl))))) rfl
theorem k4n_9 : (Cond.methodLink "LayerDeskModel" 143 xy_Mo_packageOf) ∈ wT := wT_t (List.mem_append_right _ (List.mem_append_right _ (List.mem_append_right _ (List.mem_append_left _ (List.mem_of_getElem? (i := 221) rfl))))) rfl
theorem k4n_10 : (Cond.instanceMethod xy_Mo_packageOf) ∈ wT := wT_t (List.mem_append_right _ (List.mem_append_right _ (List.mem_append_right _ (List.mem_append_left _ (List.mem_of_getElem? (i := 223) rfl))))) rfl
theorem k4n_11 : (Cond.selects "LayerDeskModel" xy_Mo_packageOf xy_Mo_packageOf) ∈ wT := wT_s (q := (xy_Mo_packageOf, 31)) (by decide +kernel) rfl
theorem k4n_12 : (Cond.code xy_Mo_exports xb_Mo_exports 3 (some .boolean)) ∈ wT := wT_t (List.mem_append_right _ (List.mem_append_right _ (List.mem_append_right _ (List.mem_append_right _ (List.mem_of_getElem? (i := 52) rfl))))) rfl
theorem k4n_13 : (Cond.methodLink "LayerDeskModel" 175 xy_Mo_exports) ∈ wT := wT_t (List.mem_append_right _ (List.mem_append_right _ (List.mem_append_right _ (List.mem_append_right _ (List.mem_of_getElem? (i := 49) rfl))))) rfl
theorem k4n_14 : (Cond.instanceMethod xy_Mo_exports) ∈ wT := wT_t (List.mem_append_right _ (List.mem_append_right _ (List.mem_append_right _ (List.mem_append_right _ (List.mem_of_getElem? (i := 51) rfl))))) rfl
theorem k4n_15 : (Cond.selects "LayerDeskModel" xy_Mo_exports xy_Mo_exports) ∈ wT := wT_s (q := (xy_Mo_exports, 31)) (by decide +kernel) rfl
theorem k4n_16 : (Cond.code xy_Mo_reading xb_Mo_reading 7 none) ∈ wT := wT_t (List.mem_append_right _ (List.mem_append_right _ (List.mem_append_right _ (List.mem_append_right _ (List.mem_of_getElem? (i := 48) rfl))))) rfl
theorem k4n_17 : (Cond.methodLink "LayerDeskModel" 171 xy_Mo_reading) ∈ wT := wT_t (List.mem_append_right _ (List.mem_append_right _ (List.mem_append_right _ (List.mem_append_right _ (List.mem_of_getElem? (i := 45) rfl))))) rfl
theorem k4n_18 : (Cond.instanceMethod xy_Mo_reading) ∈ wT := wT_t (List.mem_append_right _ (List.mem_append_right _ (List.mem_append_right _ (List.mem_append_right _ (List.mem_of_getElem? (i := 47) rfl))))) rfl
theorem k4n_19 : (Cond.selects "LayerDeskModel" xy_Mo_reading xy_Mo_reading) ∈ wT := wT_s (q := (xy_Mo_reading, 31)) (by decide +kernel) rfl
theorem k4n_20 : (Cond.fieldLink "LayerDeskModel" 26 "LayerDeskModel" "packages" "[I") ∈ wT := wT_t (List.mem_append_right _ (List.mem_append_right _ (List.mem_append_right _ (List.mem_append_left _ (List.mem_of_getElem? (i := 94) rfl))))) rfl
theorem k4n_21 : (Cond.fieldLink "LayerDeskModel" 23 "LayerDeskModel" "name" "[I") ∈ wT := wT_t (List.mem_append_right _ (List.mem_append_right _ (List.mem_append_right _ (List.mem_append_left _ (List.mem_of_getElem? (i := 93) rfl))))) rfl
theorem k4n_22 : (Cond.fieldLink "LayerDeskModel" 29 "LayerDeskModel" "pack" "[I") ∈ wT := wT_t (List.mem_append_right _ (List.mem_append_right _ (List.mem_append_right _ (List.mem_append_left _ (List.mem_of_getElem? (i := 95) rfl))))) rfl
theorem k4n_23 : (Cond.code xy_Mo_isElsewhere xb_Mo_isElsewhere 7 (some .boolean)) ∈ wT := wT_t (List.mem_append_right _ (List.mem_append_right _ (List.mem_append_right _ (List.mem_append_right _ (List.mem_of_getElem? (i := 60) rfl))))) rfl
theorem k4n_24 : (Cond.methodLink "LayerDeskModel" 178 xy_Mo_isElsewhere) ∈ wT := wT_t (List.mem_append_right _ (List.mem_append_right _ (List.mem_append_right _ (List.mem_append_right _ (List.mem_of_getElem? (i := 57) rfl))))) rfl
theorem k4n_25 : (Cond.instanceMethod xy_Mo_isElsewhere) ∈ wT := wT_t (List.mem_append_right _ (List.mem_append_right _ (List.mem_append_right _ (List.mem_append_right _ (List.mem_of_getElem? (i := 59) rfl))))) rfl
theorem k4n_26 : (Cond.selects "LayerDeskModel" xy_Mo_isElsewhere xy_Mo_isElsewhere) ∈ wT := wT_s (q := (xy_Mo_isElsewhere, 31)) (by decide +kernel) rfl
set_option maxHeartbeats 4000000 in
set_option maxRecDepth 100000 in
theorem xc_Mo_isToX (l : Launch) (D : va_G) (kA : Nat → ClassId) (sz h : Nat) (mm : Nat → Nat) (v : Nat → Int32) (g : Nat → Nat → Int32) (t0 : Int32) (t1 : Int32) (t2 : Int32) (t3 : Int32) (t4 : Int32) : Met l xy_Mo_isTo (.code xy_Mo_isTo xb_Mo_isTo 6 (some .boolean) :: wT) { frames := 0, cells := 0, slots := 0, locals := 0 } (va_Pc [.ref h, .int t0, .int t1, .int t2, .int t3, .int t4] (xPre D kA sz (moW h mm kA v g))) (va_Qi (fun (r : Int32) (u : Unit) => (r = 1 ∧ (¬ t0 = 0 ∨ t1 = t4 ∨ t2 = t4 ∨ t3 = t4)) ∨ (r = 0 ∧ ¬ (¬ t0 = 0 ∨ t1 = t4 ∨ t2 = t4 ∨ t3 = t4))) (fun (u : Unit) t => va_P D xcl (moW h mm kA v g) t.heap ∧ va_D (va_A (moW h mm kA v g) sz) (moW h mm kA v g)) (va_A (moW h mm kA v g) sz)) 0 0 (va_A (moW h mm kA v g) sz) := by
  refine Met.ofW (cc := xb_Mo_isTo) (maxL := 6) (ret := (some .boolean)) (by decide) rfl ?_
  intro p e s m args below meth c s₁ B hml hv
  obtain ⟨rfl, hsz, hP, hK, hD0⟩ := hv
  have hx := B.exec
  have hb := B.bytes
  have hr := B.returns
  have hT := x_hT B.pre
  have hown : s.vm.findClass xR_Mo = some m.cls := findClass_of_methodNamed B.named
  have hlocks := B.notSynchronized
  subst hsz
  have hD := hD0.self (sz := s.heap.size)
  generalize hAe : va_A (moW h mm kA v g) s.heap.size = A at hD ⊢
  have hA : ∀ q : Nat, s.heap.size ≤ q → A q := fun q h => by rw [← hAe]; exact Or.inr h
  have hS : va_S A s.heap s.heap [] := va_S.rf
  have hl := lv_entry ([.ref h, .int t0, .int t1, .int t2, .int t3, .int t4]) (n := 6) (Nat.le_of_ble_eq_true rfl)
  rw [lg_entry_eq]
  generalize (lg_sl ([.ref h, .int t0, .int t1, .int t2, .int t3, .int t4]) ++ List.replicate (6 - (lg_sl ([.ref h, .int t0, .int t1, .int t2, .int t3, .int t4])).length) Slot.unset).toArray = ls at hl ⊢
  have hl : lv_has ls 6 [(0, .ref h), (1, .int t0), (2, .int t1), (3, .int t2), (4, .int t3), (5, .int t4)] := hl
  have hP : va_P D xcl (moW h mm kA v g) s.heap := hP
  refine lv_iload_n hx hb xd_Mo_isTo_0 rfl (lv_at hl 1 rfl) ?_
  refine lv_if_ne (tgt := 23) hx hb xd_Mo_isTo_1 (by decide) (fun hc1 => ?_) (fun hc1 => ?_)
  · refine lv_iconst (v := 1) hx hb xd_Mo_isTo_23 (by decide) ?_
    refine lv_goto (tgt := 28) hx hb xd_Mo_isTo_24 (by decide) ?_
    exact W.zret (v := 1) hx hb hr rfl (fun t ht hW => ⟨⟨1, (), rfl, Or.inl ⟨rfl, Or.inl hc1⟩, by rw [ht]; exact hP, hD⟩, hS.F ht⟩) hS.2.2 xd_Mo_isTo_28
  · refine lv_iload_n hx hb xd_Mo_isTo_4 rfl (lv_at hl 2 rfl) ?_
    refine lv_iload hx hb xd_Mo_isTo_5 (lv_at hl 5 rfl) ?_
    refine lv_icmp_eq (tgt := 23) hx hb xd_Mo_isTo_7 (by decide) (fun hc2 => ?_) (fun hc2 => ?_)
    · refine lv_iconst (v := 1) hx hb xd_Mo_isTo_23 (by decide) ?_
      refine lv_goto (tgt := 28) hx hb xd_Mo_isTo_24 (by decide) ?_
      exact W.zret (v := 1) hx hb hr rfl (fun t ht hW => ⟨⟨1, (), rfl, Or.inl ⟨rfl, Or.inr (Or.inl hc2)⟩, by rw [ht]; exact hP, hD⟩, hS.F ht⟩) hS.2.2 xd_Mo_isTo_28
    · refine lv_iload_n hx hb xd_Mo_isTo_10 rfl (lv_at hl 3 rfl) ?_
      refine lv_iload hx hb xd_Mo_isTo_11 (lv_at hl 5 rfl) ?_
      refine lv_icmp_eq (tgt := 23) hx hb xd_Mo_isTo_13 (by decide) (fun hc3 => ?_) (fun hc3 => ?_)
      · refine lv_iconst (v := 1) hx hb xd_Mo_isTo_23 (by decide) ?_
        refine lv_goto (tgt := 28) hx hb xd_Mo_isTo_24 (by decide) ?_
        exact W.zret (v := 1) hx hb hr rfl (fun t ht hW => ⟨⟨1, (), rfl, Or.inl ⟨rfl, Or.inr (Or.inr (Or.inl hc3))⟩, by rw [ht]; exact hP, hD⟩, hS.F ht⟩) hS.2.2 xd_Mo_isTo_28
      · refine lv_iload hx hb xd_Mo_isTo_16 (lv_at hl 4 rfl) ?_
        refine lv_iload hx hb xd_Mo_isTo_18 (lv_at hl 5 rfl) ?_
        refine lv_icmp_ne (tgt := 27) hx hb xd_Mo_isTo_20 (by decide) (fun hc4 => ?_) (fun hc4 => ?_)
        · refine lv_iconst (v := 0) hx hb xd_Mo_isTo_27 (by decide) ?_
          exact W.zret (v := 0) hx hb hr rfl (fun t ht hW => ⟨⟨0, (), rfl, Or.inr ⟨rfl, fun q => q.elim (fun z => z hc1) (fun q => q.elim hc2 (fun q => q.elim hc3 hc4))⟩, by rw [ht]; exact hP, hD⟩, hS.F ht⟩) hS.2.2 xd_Mo_isTo_28
        · refine lv_iconst (v := 1) hx hb xd_Mo_isTo_23 (by decide) ?_
          refine lv_goto (tgt := 28) hx hb xd_Mo_isTo_24 (by decide) ?_
          exact W.zret (v := 1) hx hb hr rfl (fun t ht hW => ⟨⟨1, (), rfl, Or.inl ⟨rfl, Or.inr (Or.inr (Or.inr hc4))⟩, by rw [ht]; exact hP, hD⟩, hS.F ht⟩) hS.2.2 xd_Mo_isTo_28
set_option maxHeartbeats 4000000 in
set_option maxRecDepth 100000 in
theorem xc_Mo_exportsX (l : Launch) (D : va_G) (kA : Nat → ClassId) (sz h : Nat) (mm : Nat → Nat) (v : Nat → Int32) (g : Nat → Nat → Int32) (p9 : Nat) (tn : Int32) (hp72 : p9 < 72) : Met l xy_Mo_exports (.code xy_Mo_exports xb_Mo_exports 3 (some .boolean) :: wT) { frames := 1, cells := 0, slots := 0, locals := 25 } (va_Pc [.ref h, .int (nI p9), .int tn] (xPre D kA sz (moW h mm kA v g))) (va_Qi (fun (r : Int32) (u : Unit) => (r = 1 ∧ exP g p9 tn) ∨ (r = 0 ∧ ¬ exP g p9 tn)) (fun (u : Unit) t => va_P D xcl (moW h mm kA v g) t.heap ∧ va_D (va_A (moW h mm kA v g) sz) (moW h mm kA v g)) (va_A (moW h mm kA v g) sz)) 0 0 (va_A (moW h mm kA v g) sz) := by
  refine Met.ofW (cc := xb_Mo_exports) (maxL := 3) (ret := (some .boolean)) (by decide) rfl ?_
  intro p e s m args below meth c s₁ B hml hv
  obtain ⟨rfl, hsz, hP, hK, hD0⟩ := hv
  have hx := B.exec
  have hb := B.bytes
  have hr := B.returns
  have hT := x_hT B.pre
  have hown : s.vm.findClass xR_Mo = some m.cls := findClass_of_methodNamed B.named
  have hlocks := B.notSynchronized
  subst hsz
  have hD := hD0.self (sz := s.heap.size)
  generalize hAe : va_A (moW h mm kA v g) s.heap.size = A at hD ⊢
  have hA : ∀ q : Nat, s.heap.size ≤ q → A q := fun q h => by rw [← hAe]; exact Or.inr h
  have hS : va_S A s.heap s.heap [] := va_S.rf
  have hl := lv_entry ([.ref h, .int (nI p9), .int tn]) (n := 3) (Nat.le_of_ble_eq_true rfl)
  rw [lg_entry_eq]
  generalize (lg_sl ([.ref h, .int (nI p9), .int tn]) ++ List.replicate (3 - (lg_sl ([.ref h, .int (nI p9), .int tn])).length) Slot.unset).toArray = ls at hl ⊢
  have hl : lv_has ls 3 [(0, .ref h), (1, .int (nI p9)), (2, .int tn)] := hl
  have hP : va_P D xcl (moW h mm kA v g) s.heap := hP
  refine lv_aload_n hx hb xd_Mo_exports_0 rfl (lv_at hl 0 rfl) ?_
  refine lv_aload_n hx hb xd_Mo_exports_1 rfl (lv_at hl 0 rfl) ?_
  refine va_get (D := D) (ci := 4) (v := .ref (mm 9)) (C := xR_Mo) (T := xT_Mo) (N := 31) hx hb hT xi_Mo hown hK.1 hP 0 rfl rfl 14 (by decide) (hT _ k4n_0) (fun _ h9 => h9) rfl xd_Mo_exports_2 ?_
  refine lv_iload_n hx hb xd_Mo_exports_5 rfl (lv_at hl 1 rfl) ?_
  refine xn_zald (i := p9) hx hb hK.1 hP 10 2 rfl rfl (by omega) (by decide) xd_Mo_exports_6 ?_
  refine lv_aload_n hx hb xd_Mo_exports_7 rfl (lv_at hl 0 rfl) ?_
  refine va_get (D := D) (ci := 4) (v := .ref (mm 7)) (C := xR_Mo) (T := xT_Mo) (N := 31) hx hb hT xi_Mo hown hK.1 hP 0 rfl rfl 12 (by decide) (hT _ k4n_1) (fun _ h9 => h9) rfl xd_Mo_exports_8 ?_
  refine lv_iconst (v := 3) hx hb xd_Mo_exports_11 (by decide) ?_
  refine lv_iload_n hx hb xd_Mo_exports_12 rfl (lv_at hl 1 rfl) ?_
  refine lv_imul hx hb xd_Mo_exports_13 ?_
  refine xn_top (y := nI (3 * p9)) (pk_mul 3 p9) ?_
  refine xn_iald (i := 3 * p9) hx hb hK.1 hP 8 0 rfl rfl (by omega) (by decide) xd_Mo_exports_14 ?_
  refine lv_aload_n hx hb xd_Mo_exports_15 rfl (lv_at hl 0 rfl) ?_
  refine va_get (D := D) (ci := 4) (v := .ref (mm 7)) (C := xR_Mo) (T := xT_Mo) (N := 31) hx hb hT xi_Mo hown hK.1 hP 0 rfl rfl 12 (by decide) (hT _ k4n_1) (fun _ h9 => h9) rfl xd_Mo_exports_16 ?_
  refine lv_iconst (v := 3) hx hb xd_Mo_exports_19 (by decide) ?_
  refine lv_iload_n hx hb xd_Mo_exports_20 rfl (lv_at hl 1 rfl) ?_
  refine lv_imul hx hb xd_Mo_exports_21 ?_
  refine xn_top (y := nI (3 * p9)) (pk_mul 3 p9) ?_
  refine lv_iconst (v := 1) hx hb xd_Mo_exports_22 (by decide) ?_
  refine lv_iadd hx hb xd_Mo_exports_23 ?_
  refine xn_top (y := nI ((3 * p9) + 1)) (nI_add (3 * p9) 1) ?_
  refine xn_iald (i := (3 * p9) + 1) hx hb hK.1 hP 8 0 rfl rfl (by omega) (by decide) xd_Mo_exports_24 ?_
  refine lv_aload_n hx hb xd_Mo_exports_25 rfl (lv_at hl 0 rfl) ?_
  refine va_get (D := D) (ci := 4) (v := .ref (mm 7)) (C := xR_Mo) (T := xT_Mo) (N := 31) hx hb hT xi_Mo hown hK.1 hP 0 rfl rfl 12 (by decide) (hT _ k4n_1) (fun _ h9 => h9) rfl xd_Mo_exports_26 ?_
  refine lv_iconst (v := 3) hx hb xd_Mo_exports_29 (by decide) ?_
  refine lv_iload_n hx hb xd_Mo_exports_30 rfl (lv_at hl 1 rfl) ?_
  refine lv_imul hx hb xd_Mo_exports_31 ?_
  refine xn_top (y := nI (3 * p9)) (pk_mul 3 p9) ?_
  refine lv_iconst (v := 2) hx hb xd_Mo_exports_32 (by decide) ?_
  refine lv_iadd hx hb xd_Mo_exports_33 ?_
  refine xn_top (y := nI ((3 * p9) + 2)) (nI_add (3 * p9) 2) ?_
  refine xn_iald (i := (3 * p9) + 2) hx hb hK.1 hP 8 0 rfl rfl (by omega) (by decide) xd_Mo_exports_34 ?_
  refine lv_iload_n hx hb xd_Mo_exports_35 rfl (lv_at hl 2 rfl) ?_
  have hFc := va_free (wc := (moW h mm kA v g)) hD hS hA [0, 1, 2, 3, 4, 5, 6, 7, 8, 9, 10, 11, 12, 13, 14, 15, 16, 17, 18, 19, 20, 21, 22, 23, 24, 25] rfl
  refine va_calli (va_runV (As := [.int (g 9 p9), .int (g 7 (3 * p9)), .int (g 7 ((3 * p9) + 1)), .int (g 7 ((3 * p9) + 2)), .int tn]) (rest := []) ⟨hx, hb, hml, hown, hT⟩ (xc_Mo_isToX l D kA s.heap.size h mm v g (g 9 p9) (g 7 (3 * p9)) (g 7 ((3 * p9) + 1)) (g 7 ((3 * p9) + 2)) tn) (cwV 5 hT (wT_V k4n_3 k4n_4 k4n_5 k4n_6 k4n_2) rfl rfl rfl (by decide +kernel) ⟨Nat.le_of_ble_eq_true rfl, Nat.le_of_ble_eq_true rfl⟩) (x_preV hK hP hD 0 rfl rfl) rfl rfl hl.1 rfl (lv_room (Nat.le_of_ble_eq_true rfl)) xd_Mo_exports_36 ⟨Nat.le_of_ble_eq_true rfl, Nat.le_of_ble_eq_true rfl⟩) hS (fun q _ h => hFc q h) hFc (fun r1 u2 t H1 locs ht hvm hp3 hB hz1 hk1 hS => ?_)
  obtain ⟨hP1, hD1⟩ := hB
  rw [ht] at hP1
  have hD1 := hD1.weaken (fun _ _ _ h => hFc _ h)
  generalize H1 = H at hP1 hS ⊢
  have hP := hP1
  have hD := hD1
  have hP : va_P D xcl (moW h mm kA v g) H := hP
  have hD : va_D A (moW h mm kA v g) := hD
  rcases hp3 with ⟨rfl, z4⟩ | ⟨rfl, z5⟩
  · exact W.zret (v := 1) hx hb hr rfl (fun t ht hW => ⟨⟨1, (), rfl, Or.inl ⟨rfl, z4⟩, by rw [ht]; exact hP, hD⟩, hS.F ht⟩) hS.2.2 xd_Mo_exports_39
  · exact W.zret (v := 0) hx hb hr rfl (fun t ht hW => ⟨⟨0, (), rfl, Or.inr ⟨rfl, z5⟩, by rw [ht]; exact hP, hD⟩, hS.F ht⟩) hS.2.2 xd_Mo_exports_39
set_option maxHeartbeats 4000000 in
set_option maxRecDepth 100000 in
theorem xc_Mo_isElsewhereX (l : Launch) (D : va_G) (kA : Nat → ClassId) (sz h : Nat) (mm : Nat → Nat) (v : Nat → Int32) (g : Nat → Nat → Int32) (bt : Nat) (nm : Int32) (tn : Int32) (hbt : bt < 72) (hpk : ∀ d, d < 12 → ∃ k, k ≤ 6 ∧ g 5 d = nI k) : Met l xy_Mo_isElsewhere (.code xy_Mo_isElsewhere xb_Mo_isElsewhere 7 (some .boolean) :: wT) { frames := 2, cells := 0, slots := 0, locals := 47 } (va_Pc [.ref h, .int (nI bt), .int nm, .int tn] (xPre D kA sz (moW h mm kA v g))) (va_Qi (fun (r : Int32) (u : Unit) => (r = 1 ∧ elK g (fun m => ¬ g 24 m = 0) bt nm tn 72) ∨ (r = 0 ∧ ¬ elK g (fun m => ¬ g 24 m = 0) bt nm tn 72)) (fun (u : Unit) t => va_P D xcl (moW h mm kA v g) t.heap ∧ va_D (va_A (moW h mm kA v g) sz) (moW h mm kA v g)) (va_A (moW h mm kA v g) sz)) 0 0 (va_A (moW h mm kA v g) sz) := by
  refine Met.ofW (cc := xb_Mo_isElsewhere) (maxL := 7) (ret := (some .boolean)) (by decide) rfl ?_
  intro p e s m args below meth c s₁ B hml hv
  obtain ⟨rfl, hsz, hP, hK, hD0⟩ := hv
  have hx := B.exec
  have hb := B.bytes
  have hr := B.returns
  have hT := x_hT B.pre
  have hown : s.vm.findClass xR_Mo = some m.cls := findClass_of_methodNamed B.named
  have hlocks := B.notSynchronized
  subst hsz
  have hD := hD0.self (sz := s.heap.size)
  generalize hAe : va_A (moW h mm kA v g) s.heap.size = A at hD ⊢
  have hA : ∀ q : Nat, s.heap.size ≤ q → A q := fun q h => by rw [← hAe]; exact Or.inr h
  have hS : va_S A s.heap s.heap [] := va_S.rf
  have hl := lv_entry ([.ref h, .int (nI bt), .int nm, .int tn]) (n := 7) (Nat.le_of_ble_eq_true rfl)
  rw [lg_entry_eq]
  generalize (lg_sl ([.ref h, .int (nI bt), .int nm, .int tn]) ++ List.replicate (7 - (lg_sl ([.ref h, .int (nI bt), .int nm, .int tn])).length) Slot.unset).toArray = ls at hl ⊢
  have hl : lv_has ls 7 [(0, .ref h), (1, .int (nI bt)), (2, .int nm), (3, .int tn)] := hl
  have hP : va_P D xcl (moW h mm kA v g) s.heap := hP
  refine lv_iconst (v := 0) hx hb xd_Mo_isElsewhere_0 (by decide) ?_
  refine lv_istore hx hb xd_Mo_isElsewhere_1 hl (Nat.le_of_ble_eq_true rfl) rfl (fun ls hl => ?_)
  have hl : lv_has ls 7 [(4, .int 0), (0, .ref h), (1, .int (nI bt)), (2, .int nm), (3, .int tn)] := hl
  refine lv_iconst (v := 0) hx hb xd_Mo_isElsewhere_3 (by decide) ?_
  refine lv_istore hx hb xd_Mo_isElsewhere_4 hl (Nat.le_of_ble_eq_true rfl) rfl (fun ls hl => ?_)
  have hl : lv_has ls 7 [(5, .int 0), (4, .int 0), (0, .ref h), (1, .int (nI bt)), (2, .int nm), (3, .int tn)] := hl
  refine xlab (σ := Nat × Nat) (ml := 7) 6 (fun (m5, is4) => [(5, .int (nI m5)), (4, .int (nI is4)), (0, .ref h), (1, .int (nI bt)), (2, .int nm), (3, .int tn)]) (fun (m5, is4) => []) (fun (m5, is4) => moW h mm kA v g) (fun (m5, is4) => (m5 ≤ 72) ∧ (is4 ≤ 1) ∧ ((is4 = 1 ∧ elK g (fun m => ¬ g 24 m = 0) bt nm tn m5) ∨ (is4 = 0 ∧ ¬ elK g (fun m => ¬ g 24 m = 0) bt nm tn m5))) (fun (m5, is4) => 72 - m5) ?_ (0, 0) _ _ _ (lv_sub hl [0, 1, 2, 3, 4, 5] rfl) hP hD hS ⟨(show 0 ≤ 72 from by first | assumption | omega), (show 0 ≤ 1 from by first | assumption | omega), (show (0 = 1 ∧ elK g (fun m => ¬ g 24 m = 0) bt nm tn 0) ∨ (0 = 0 ∧ ¬ elK g (fun m => ¬ g 24 m = 0) bt nm tn 0) from Or.inr ⟨rfl, fun ⟨m, h, _⟩ => absurd h (by omega)⟩)⟩
  intro n9 ih1 a9 ls H locs hμ hl hP hD hS hI
  subst hμ
  obtain ⟨m5, is4⟩ := a9
  obtain ⟨hm5, his4, hel⟩ := hI
  have hm5 : m5 ≤ 72 := hm5
  have his4 : is4 ≤ 1 := his4
  have hel : (is4 = 1 ∧ elK g (fun m => ¬ g 24 m = 0) bt nm tn m5) ∨ (is4 = 0 ∧ ¬ elK g (fun m => ¬ g 24 m = 0) bt nm tn m5) := hel
  have hl : lv_has ls 7 [(5, .int (nI m5)), (4, .int (nI is4)), (0, .ref h), (1, .int (nI bt)), (2, .int nm), (3, .int tn)] := hl
  have hP : va_P D xcl (moW h mm kA v g) H := hP
  have hD : va_D A (moW h mm kA v g) := hD
  refine lv_iload hx hb xd_Mo_isElsewhere_6 (lv_at hl 0 rfl) ?_
  refine lv_bipush (v := 72) hx hb xd_Mo_isElsewhere_8 (by decide) ?_
  refine xn_ge (a := m5) (b := 72) (tgt := 78) hx hb xd_Mo_isElsewhere_10 (by decide) (by omega) (by omega) (fun hc2 => ?_) (fun hc2 => ?_)
  · refine lv_iload hx hb xd_Mo_isElsewhere_78 (lv_at hl 1 rfl) ?_
    exact W.zret (v := (nI is4)) hx hb hr (x_bn his4) (fun t ht hW => ⟨⟨(nI is4), (), rfl, (by
        rw [show m5 = 72 by omega] at hel
        rcases hel with ⟨q, q2⟩ | ⟨q, q2⟩
        · rw [q]; exact Or.inl ⟨rfl, q2⟩
        · rw [q]; exact Or.inr ⟨rfl, q2⟩), by rw [ht]; exact hP, hD⟩, hS.F ht⟩) hS.2.2 xd_Mo_isElsewhere_80
  · refine lv_iload hx hb xd_Mo_isElsewhere_13 (lv_at hl 0 rfl) ?_
    refine lv_iload_n hx hb xd_Mo_isElsewhere_15 rfl (lv_at hl 3 rfl) ?_
    refine xn_eq (a := m5) (b := bt) (tgt := 42) hx hb xd_Mo_isElsewhere_16 (by decide) (by omega) (by omega) (fun hc3 => ?_) (fun hc3 => ?_)
    · refine lv_iconst (v := (-1)) hx hb xd_Mo_isElsewhere_42 (by decide) ?_
      refine lv_istore hx hb xd_Mo_isElsewhere_43 hl (Nat.le_of_ble_eq_true rfl) rfl (fun ls hl => ?_)
      have hl : lv_has ls 7 [(6, .int (-1)), (5, .int (nI m5)), (4, .int (nI is4)), (0, .ref h), (1, .int (nI bt)), (2, .int nm), (3, .int tn)] := hl
      refine lv_iload hx hb xd_Mo_isElsewhere_45 (lv_at hl 2 rfl) ?_
      refine xz_ne (a := is4) (tgt := 65) hx hb xd_Mo_isElsewhere_47 (by decide) (by omega) (fun hc4 => ?_) (fun hc4 => ?_)
      · refine lv_iconst (v := 1) hx hb xd_Mo_isElsewhere_65 (by decide) ?_
        refine lv_goto (tgt := 70) hx hb xd_Mo_isElsewhere_66 (by decide) ?_
        refine lv_istore hx hb xd_Mo_isElsewhere_70 hl (Nat.le_of_ble_eq_true rfl) rfl (fun ls hl => ?_)
        have hl : lv_has ls 7 [(4, .int 1), (6, .int (-1)), (5, .int (nI m5)), (0, .ref h), (1, .int (nI bt)), (2, .int nm), (3, .int tn)] := hl
        refine lv_iinc (k := 2) (x := (nI m5)) (v := (nI (m5 + 1))) hx hb xd_Mo_isElsewhere_72 hl rfl (xb_inc m5 1) (Nat.le_of_ble_eq_true rfl) rfl (fun ls hl => ?_)
        have hl : lv_has ls 7 [(5, .int (nI (m5 + 1))), (4, .int 1), (6, .int (-1)), (0, .ref h), (1, .int (nI bt)), (2, .int nm), (3, .int tn)] := hl
        refine lv_goto (tgt := 6) hx hb xd_Mo_isElsewhere_75 (by decide) ?_
        exact ih1 (m5 + 1, 1) _ _ _ (show 72 - (m5 + 1) < 72 - m5 by omega) (lv_sub hl [0, 1, 3, 4, 5, 6] rfl) hP hD hS ⟨(show (m5 + 1) ≤ 72 from by first | assumption | omega), (show 1 ≤ 1 from by first | assumption | omega), (show (1 = 1 ∧ elK g (fun m => ¬ g 24 m = 0) bt nm tn (m5 + 1)) ∨ (1 = 0 ∧ ¬ elK g (fun m => ¬ g 24 m = 0) bt nm tn (m5 + 1)) from by
        rcases hel with ⟨_, m, q1, q2⟩ | ⟨q, _⟩
        · exact Or.inl ⟨rfl, m, by omega, q2⟩
        · omega)⟩
      · refine lv_iload hx hb xd_Mo_isElsewhere_50 (lv_at hl 0 rfl) ?_
        refine lv_if_lt (tgt := 69) hx hb xd_Mo_isElsewhere_52 (by decide) (fun _ => ?_) (fun hc5 => absurd hc5 (by decide))
        refine lv_iconst (v := 0) hx hb xd_Mo_isElsewhere_69 (by decide) ?_
        refine lv_istore hx hb xd_Mo_isElsewhere_70 hl (Nat.le_of_ble_eq_true rfl) rfl (fun ls hl => ?_)
        have hl : lv_has ls 7 [(4, .int 0), (6, .int (-1)), (5, .int (nI m5)), (0, .ref h), (1, .int (nI bt)), (2, .int nm), (3, .int tn)] := hl
        refine lv_iinc (k := 2) (x := (nI m5)) (v := (nI (m5 + 1))) hx hb xd_Mo_isElsewhere_72 hl rfl (xb_inc m5 1) (Nat.le_of_ble_eq_true rfl) rfl (fun ls hl => ?_)
        have hl : lv_has ls 7 [(5, .int (nI (m5 + 1))), (4, .int 0), (6, .int (-1)), (0, .ref h), (1, .int (nI bt)), (2, .int nm), (3, .int tn)] := hl
        refine lv_goto (tgt := 6) hx hb xd_Mo_isElsewhere_75 (by decide) ?_
        exact ih1 (m5 + 1, 0) _ _ _ (show 72 - (m5 + 1) < 72 - m5 by omega) (lv_sub hl [0, 1, 3, 4, 5, 6] rfl) hP hD hS ⟨(show (m5 + 1) ≤ 72 from by first | assumption | omega), (show 0 ≤ 1 from by first | assumption | omega), (show (0 = 1 ∧ elK g (fun m => ¬ g 24 m = 0) bt nm tn (m5 + 1)) ∨ (0 = 0 ∧ ¬ elK g (fun m => ¬ g 24 m = 0) bt nm tn (m5 + 1)) from by
        rcases hel with ⟨q, _⟩ | ⟨_, q⟩
        · omega
        refine Or.inr ⟨rfl, fun ⟨m, q1, q2, q3, i, q4, q5⟩ => ?_⟩
        rcases Nat.lt_or_ge m m5 with z | z
        · exact q ⟨m, z, q2, q3, i, q4, q5⟩
        · have e : m = m5 := by omega
          rw [e] at q2 q3 q4 q5
          exact (absurd hc3 q2))⟩
    · refine lv_aload_n hx hb xd_Mo_isElsewhere_19 rfl (lv_at hl 2 rfl) ?_
      refine va_get (D := D) (ci := 4) (v := .ref (mm 24)) (C := xR_Mo) (T := xT_Mo) (N := 31) hx hb hT xi_Mo hown hK.1 hP 0 rfl rfl 30 (by decide) (hT _ k4n_7) (fun _ h9 => h9) rfl xd_Mo_isElsewhere_20 ?_
      refine lv_iload hx hb xd_Mo_isElsewhere_23 (lv_at hl 0 rfl) ?_
      refine xn_zald (i := m5) hx hb hK.1 hP 25 2 rfl rfl (by omega) (by decide) xd_Mo_isElsewhere_25 ?_
      refine lv_if_eq (tgt := 42) hx hb xd_Mo_isElsewhere_26 (by decide) (fun hc6 => ?_) (fun hc6 => ?_)
      · refine lv_iconst (v := (-1)) hx hb xd_Mo_isElsewhere_42 (by decide) ?_
        refine lv_istore hx hb xd_Mo_isElsewhere_43 hl (Nat.le_of_ble_eq_true rfl) rfl (fun ls hl => ?_)
        have hl : lv_has ls 7 [(6, .int (-1)), (5, .int (nI m5)), (4, .int (nI is4)), (0, .ref h), (1, .int (nI bt)), (2, .int nm), (3, .int tn)] := hl
        refine lv_iload hx hb xd_Mo_isElsewhere_45 (lv_at hl 2 rfl) ?_
        refine xz_ne (a := is4) (tgt := 65) hx hb xd_Mo_isElsewhere_47 (by decide) (by omega) (fun hc7 => ?_) (fun hc7 => ?_)
        · refine lv_iconst (v := 1) hx hb xd_Mo_isElsewhere_65 (by decide) ?_
          refine lv_goto (tgt := 70) hx hb xd_Mo_isElsewhere_66 (by decide) ?_
          refine lv_istore hx hb xd_Mo_isElsewhere_70 hl (Nat.le_of_ble_eq_true rfl) rfl (fun ls hl => ?_)
          have hl : lv_has ls 7 [(4, .int 1), (6, .int (-1)), (5, .int (nI m5)), (0, .ref h), (1, .int (nI bt)), (2, .int nm), (3, .int tn)] := hl
          refine lv_iinc (k := 2) (x := (nI m5)) (v := (nI (m5 + 1))) hx hb xd_Mo_isElsewhere_72 hl rfl (xb_inc m5 1) (Nat.le_of_ble_eq_true rfl) rfl (fun ls hl => ?_)
          have hl : lv_has ls 7 [(5, .int (nI (m5 + 1))), (4, .int 1), (6, .int (-1)), (0, .ref h), (1, .int (nI bt)), (2, .int nm), (3, .int tn)] := hl
          refine lv_goto (tgt := 6) hx hb xd_Mo_isElsewhere_75 (by decide) ?_
          exact ih1 (m5 + 1, 1) _ _ _ (show 72 - (m5 + 1) < 72 - m5 by omega) (lv_sub hl [0, 1, 3, 4, 5, 6] rfl) hP hD hS ⟨(show (m5 + 1) ≤ 72 from by first | assumption | omega), (show 1 ≤ 1 from by first | assumption | omega), (show (1 = 1 ∧ elK g (fun m => ¬ g 24 m = 0) bt nm tn (m5 + 1)) ∨ (1 = 0 ∧ ¬ elK g (fun m => ¬ g 24 m = 0) bt nm tn (m5 + 1)) from by
        rcases hel with ⟨_, m, q1, q2⟩ | ⟨q, _⟩
        · exact Or.inl ⟨rfl, m, by omega, q2⟩
        · omega)⟩
        · refine lv_iload hx hb xd_Mo_isElsewhere_50 (lv_at hl 0 rfl) ?_
          refine lv_if_lt (tgt := 69) hx hb xd_Mo_isElsewhere_52 (by decide) (fun _ => ?_) (fun hc8 => absurd hc8 (by decide))
          refine lv_iconst (v := 0) hx hb xd_Mo_isElsewhere_69 (by decide) ?_
          refine lv_istore hx hb xd_Mo_isElsewhere_70 hl (Nat.le_of_ble_eq_true rfl) rfl (fun ls hl => ?_)
          have hl : lv_has ls 7 [(4, .int 0), (6, .int (-1)), (5, .int (nI m5)), (0, .ref h), (1, .int (nI bt)), (2, .int nm), (3, .int tn)] := hl
          refine lv_iinc (k := 2) (x := (nI m5)) (v := (nI (m5 + 1))) hx hb xd_Mo_isElsewhere_72 hl rfl (xb_inc m5 1) (Nat.le_of_ble_eq_true rfl) rfl (fun ls hl => ?_)
          have hl : lv_has ls 7 [(5, .int (nI (m5 + 1))), (4, .int 0), (6, .int (-1)), (0, .ref h), (1, .int (nI bt)), (2, .int nm), (3, .int tn)] := hl
          refine lv_goto (tgt := 6) hx hb xd_Mo_isElsewhere_75 (by decide) ?_
          exact ih1 (m5 + 1, 0) _ _ _ (show 72 - (m5 + 1) < 72 - m5 by omega) (lv_sub hl [0, 1, 3, 4, 5, 6] rfl) hP hD hS ⟨(show (m5 + 1) ≤ 72 from by first | assumption | omega), (show 0 ≤ 1 from by first | assumption | omega), (show (0 = 1 ∧ elK g (fun m => ¬ g 24 m = 0) bt nm tn (m5 + 1)) ∨ (0 = 0 ∧ ¬ elK g (fun m => ¬ g 24 m = 0) bt nm tn (m5 + 1)) from by
        rcases hel with ⟨q, _⟩ | ⟨_, q⟩
        · omega
        refine Or.inr ⟨rfl, fun ⟨m, q1, q2, q3, i, q4, q5⟩ => ?_⟩
        rcases Nat.lt_or_ge m m5 with z | z
        · exact q ⟨m, z, q2, q3, i, q4, q5⟩
        · have e : m = m5 := by omega
          rw [e] at q2 q3 q4 q5
          exact (absurd hc6 q3))⟩
      · obtain ⟨pkc, hpkc, epkc⟩ := hpk (m5 % 12) (by omega)
        refine lv_aload_n hx hb xd_Mo_isElsewhere_29 rfl (lv_at hl 2 rfl) ?_
        refine lv_iload hx hb xd_Mo_isElsewhere_30 (lv_at hl 0 rfl) ?_
        refine lv_bipush (v := 12) hx hb xd_Mo_isElsewhere_32 (by decide) ?_
        refine lv_irem hx hb xd_Mo_isElsewhere_34 (by decide) ?_
        refine xn_top (y := nI (m5 % 12)) (pk_rem (a := m5) (d := 12) (by omega) (by decide) (by decide)) ?_
        refine lv_iload_n hx hb xd_Mo_isElsewhere_35 rfl (lv_at hl 4 rfl) ?_
        have hFc := va_free (wc := (moW h mm kA v g)) hD hS hA [0, 1, 2, 3, 4, 5, 6, 7, 8, 9, 10, 11, 12, 13, 14, 15, 16, 17, 18, 19, 20, 21, 22, 23, 24, 25] rfl
        refine va_calli (va_runV (As := [.int (nI (m5 % 12)), .int nm]) (rest := []) ⟨hx, hb, hml, hown, hT⟩ (xc_Mo_packageOfX l D kA H.size h mm v g (m5 % 12) nm pkc (by first | assumption | omega) (by first | assumption | omega) (by first | assumption | omega)) (cwV 2 hT (wT_V k4n_9 k4n_10 k4n_11 k4n_6 k4n_8) rfl rfl rfl (by decide +kernel) ⟨Nat.le_of_ble_eq_true rfl, Nat.le_of_ble_eq_true rfl⟩) (x_preV hK hP hD 0 rfl rfl) rfl rfl hl.1 rfl (lv_room (Nat.le_of_ble_eq_true rfl)) xd_Mo_isElsewhere_36 ⟨Nat.le_of_ble_eq_true rfl, Nat.le_of_ble_eq_true rfl⟩) hS (fun q _ h => hFc q h) hFc (fun r9 u10 t H1 locs ht hvm hp11 hB hz1 hk1 hS => ?_)
        obtain ⟨hP1, hD1⟩ := hB
        rw [ht] at hP1
        have hD1 := hD1.weaken (fun _ _ _ h => hFc _ h)
        generalize H1 = H at hP1 hS ⊢
        have hP := hP1
        have hD := hD1
        have hP : va_P D xcl (moW h mm kA v g) H := hP
        have hD : va_D A (moW h mm kA v g) := hD
        rcases hp11 with ⟨z12, z13, z14, rfl, z15, z16⟩ | ⟨rfl, z17⟩
        · refine lv_goto (tgt := 43) hx hb xd_Mo_isElsewhere_39 (by decide) ?_
          refine lv_istore hx hb xd_Mo_isElsewhere_43 hl (Nat.le_of_ble_eq_true rfl) rfl (fun ls hl => ?_)
          have hl : lv_has ls 7 [(6, .int (nI z12)), (5, .int (nI m5)), (4, .int (nI is4)), (0, .ref h), (1, .int (nI bt)), (2, .int nm), (3, .int tn)] := hl
          refine lv_iload hx hb xd_Mo_isElsewhere_45 (lv_at hl 2 rfl) ?_
          refine xz_ne (a := is4) (tgt := 65) hx hb xd_Mo_isElsewhere_47 (by decide) (by omega) (fun hc18 => ?_) (fun hc18 => ?_)
          · refine lv_iconst (v := 1) hx hb xd_Mo_isElsewhere_65 (by decide) ?_
            refine lv_goto (tgt := 70) hx hb xd_Mo_isElsewhere_66 (by decide) ?_
            refine lv_istore hx hb xd_Mo_isElsewhere_70 hl (Nat.le_of_ble_eq_true rfl) rfl (fun ls hl => ?_)
            have hl : lv_has ls 7 [(4, .int 1), (6, .int (nI z12)), (5, .int (nI m5)), (0, .ref h), (1, .int (nI bt)), (2, .int nm), (3, .int tn)] := hl
            refine lv_iinc (k := 2) (x := (nI m5)) (v := (nI (m5 + 1))) hx hb xd_Mo_isElsewhere_72 hl rfl (xb_inc m5 1) (Nat.le_of_ble_eq_true rfl) rfl (fun ls hl => ?_)
            have hl : lv_has ls 7 [(5, .int (nI (m5 + 1))), (4, .int 1), (6, .int (nI z12)), (0, .ref h), (1, .int (nI bt)), (2, .int nm), (3, .int tn)] := hl
            refine lv_goto (tgt := 6) hx hb xd_Mo_isElsewhere_75 (by decide) ?_
            exact ih1 (m5 + 1, 1) _ _ _ (show 72 - (m5 + 1) < 72 - m5 by omega) (lv_sub hl [0, 1, 3, 4, 5, 6] rfl) hP hD hS ⟨(show (m5 + 1) ≤ 72 from by first | assumption | omega), (show 1 ≤ 1 from by first | assumption | omega), (show (1 = 1 ∧ elK g (fun m => ¬ g 24 m = 0) bt nm tn (m5 + 1)) ∨ (1 = 0 ∧ ¬ elK g (fun m => ¬ g 24 m = 0) bt nm tn (m5 + 1)) from by
        rcases hel with ⟨_, m, q1, q2⟩ | ⟨q, _⟩
        · exact Or.inl ⟨rfl, m, by omega, q2⟩
        · omega)⟩
          · refine lv_iload hx hb xd_Mo_isElsewhere_50 (lv_at hl 0 rfl) ?_
            refine xz_lt (a := z12) (tgt := 69) hx hb xd_Mo_isElsewhere_52 (by decide) (by omega) ?_
            refine lv_aload_n hx hb xd_Mo_isElsewhere_55 rfl (lv_at hl 3 rfl) ?_
            refine lv_iload hx hb xd_Mo_isElsewhere_56 (lv_at hl 0 rfl) ?_
            refine lv_iload_n hx hb xd_Mo_isElsewhere_58 rfl (lv_at hl 6 rfl) ?_
            have hFc := va_free (wc := (moW h mm kA v g)) hD hS hA [0, 1, 2, 3, 4, 5, 6, 7, 8, 9, 10, 11, 12, 13, 14, 15, 16, 17, 18, 19, 20, 21, 22, 23, 24, 25] rfl
            refine va_calli (va_runV (As := [.int (nI z12), .int tn]) (rest := []) ⟨hx, hb, hml, hown, hT⟩ (xc_Mo_exportsX l D kA H.size h mm v g z12 tn (by first | assumption | omega)) (cwV 2 hT (wT_V k4n_13 k4n_14 k4n_15 k4n_6 k4n_12) rfl rfl rfl (by decide +kernel) ⟨Nat.le_of_ble_eq_true rfl, Nat.le_of_ble_eq_true rfl⟩) (x_preV hK hP hD 0 rfl rfl) rfl rfl hl.1 rfl (lv_room (Nat.le_of_ble_eq_true rfl)) xd_Mo_isElsewhere_59 ⟨Nat.le_of_ble_eq_true rfl, Nat.le_of_ble_eq_true rfl⟩) hS (fun q _ h => hFc q h) hFc (fun r20 u21 t H1 locs ht hvm hp22 hB hz1 hk1 hS => ?_)
            obtain ⟨hP1, hD1⟩ := hB
            rw [ht] at hP1
            have hD1 := hD1.weaken (fun _ _ _ h => hFc _ h)
            generalize H1 = H at hP1 hS ⊢
            have hP := hP1
            have hD := hD1
            have hP : va_P D xcl (moW h mm kA v g) H := hP
            have hD : va_D A (moW h mm kA v g) := hD
            rcases hp22 with ⟨rfl, z23⟩ | ⟨rfl, z24⟩
            · refine xz_eq (a := 1) (tgt := 69) hx hb xd_Mo_isElsewhere_62 (by decide) (by omega) (fun hc25 => absurd hc25 (by omega)) (fun _ => ?_)
              refine lv_iconst (v := 1) hx hb xd_Mo_isElsewhere_65 (by decide) ?_
              refine lv_goto (tgt := 70) hx hb xd_Mo_isElsewhere_66 (by decide) ?_
              refine lv_istore hx hb xd_Mo_isElsewhere_70 hl (Nat.le_of_ble_eq_true rfl) rfl (fun ls hl => ?_)
              have hl : lv_has ls 7 [(4, .int 1), (6, .int (nI z12)), (5, .int (nI m5)), (0, .ref h), (1, .int (nI bt)), (2, .int nm), (3, .int tn)] := hl
              refine lv_iinc (k := 2) (x := (nI m5)) (v := (nI (m5 + 1))) hx hb xd_Mo_isElsewhere_72 hl rfl (xb_inc m5 1) (Nat.le_of_ble_eq_true rfl) rfl (fun ls hl => ?_)
              have hl : lv_has ls 7 [(5, .int (nI (m5 + 1))), (4, .int 1), (6, .int (nI z12)), (0, .ref h), (1, .int (nI bt)), (2, .int nm), (3, .int tn)] := hl
              refine lv_goto (tgt := 6) hx hb xd_Mo_isElsewhere_75 (by decide) ?_
              exact ih1 (m5 + 1, 1) _ _ _ (show 72 - (m5 + 1) < 72 - m5 by omega) (lv_sub hl [0, 1, 3, 4, 5, 6] rfl) hP hD hS ⟨(show (m5 + 1) ≤ 72 from by first | assumption | omega), (show 1 ≤ 1 from by first | assumption | omega), (show (1 = 1 ∧ elK g (fun m => ¬ g 24 m = 0) bt nm tn (m5 + 1)) ∨ (1 = 0 ∧ ¬ elK g (fun m => ¬ g 24 m = 0) bt nm tn (m5 + 1)) from Or.inl ⟨rfl, m5, by omega, hc3, hc6, z12 - 6 * (m5 % 12), (pI_some epkc (by omega) z13 z14 z15 z16), by rw [show 6 * (m5 % 12) + (z12 - 6 * (m5 % 12)) = z12 by omega]; exact z23⟩)⟩
            · refine xz_eq (a := 0) (tgt := 69) hx hb xd_Mo_isElsewhere_62 (by decide) (by omega) (fun _ => ?_) (fun hc26 => absurd hc26 (by omega))
              refine lv_iconst (v := 0) hx hb xd_Mo_isElsewhere_69 (by decide) ?_
              refine lv_istore hx hb xd_Mo_isElsewhere_70 hl (Nat.le_of_ble_eq_true rfl) rfl (fun ls hl => ?_)
              have hl : lv_has ls 7 [(4, .int 0), (6, .int (nI z12)), (5, .int (nI m5)), (0, .ref h), (1, .int (nI bt)), (2, .int nm), (3, .int tn)] := hl
              refine lv_iinc (k := 2) (x := (nI m5)) (v := (nI (m5 + 1))) hx hb xd_Mo_isElsewhere_72 hl rfl (xb_inc m5 1) (Nat.le_of_ble_eq_true rfl) rfl (fun ls hl => ?_)
              have hl : lv_has ls 7 [(5, .int (nI (m5 + 1))), (4, .int 0), (6, .int (nI z12)), (0, .ref h), (1, .int (nI bt)), (2, .int nm), (3, .int tn)] := hl
              refine lv_goto (tgt := 6) hx hb xd_Mo_isElsewhere_75 (by decide) ?_
              exact ih1 (m5 + 1, 0) _ _ _ (show 72 - (m5 + 1) < 72 - m5 by omega) (lv_sub hl [0, 1, 3, 4, 5, 6] rfl) hP hD hS ⟨(show (m5 + 1) ≤ 72 from by first | assumption | omega), (show 0 ≤ 1 from by first | assumption | omega), (show (0 = 1 ∧ elK g (fun m => ¬ g 24 m = 0) bt nm tn (m5 + 1)) ∨ (0 = 0 ∧ ¬ elK g (fun m => ¬ g 24 m = 0) bt nm tn (m5 + 1)) from by
        rcases hel with ⟨q, _⟩ | ⟨_, q⟩
        · omega
        refine Or.inr ⟨rfl, fun ⟨m, q1, q2, q3, i, q4, q5⟩ => ?_⟩
        rcases Nat.lt_or_ge m m5 with z | z
        · exact q ⟨m, z, q2, q3, i, q4, q5⟩
        · have e : m = m5 := by omega
          rw [e] at q2 q3 q4 q5
          exact (by rw [(pI_some epkc (by omega) z13 z14 z15 z16)] at q4; rw [← Option.some.inj q4, show 6 * (m5 % 12) + (z12 - 6 * (m5 % 12)) = z12 by omega] at q5; exact z24 q5))⟩
        · refine lv_goto (tgt := 43) hx hb xd_Mo_isElsewhere_39 (by decide) ?_
          refine lv_istore hx hb xd_Mo_isElsewhere_43 hl (Nat.le_of_ble_eq_true rfl) rfl (fun ls hl => ?_)
          have hl : lv_has ls 7 [(6, .int (-1)), (5, .int (nI m5)), (4, .int (nI is4)), (0, .ref h), (1, .int (nI bt)), (2, .int nm), (3, .int tn)] := hl
          refine lv_iload hx hb xd_Mo_isElsewhere_45 (lv_at hl 2 rfl) ?_
          refine xz_ne (a := is4) (tgt := 65) hx hb xd_Mo_isElsewhere_47 (by decide) (by omega) (fun hc27 => ?_) (fun hc27 => ?_)
          · refine lv_iconst (v := 1) hx hb xd_Mo_isElsewhere_65 (by decide) ?_
            refine lv_goto (tgt := 70) hx hb xd_Mo_isElsewhere_66 (by decide) ?_
            refine lv_istore hx hb xd_Mo_isElsewhere_70 hl (Nat.le_of_ble_eq_true rfl) rfl (fun ls hl => ?_)
            have hl : lv_has ls 7 [(4, .int 1), (6, .int (-1)), (5, .int (nI m5)), (0, .ref h), (1, .int (nI bt)), (2, .int nm), (3, .int tn)] := hl
            refine lv_iinc (k := 2) (x := (nI m5)) (v := (nI (m5 + 1))) hx hb xd_Mo_isElsewhere_72 hl rfl (xb_inc m5 1) (Nat.le_of_ble_eq_true rfl) rfl (fun ls hl => ?_)
            have hl : lv_has ls 7 [(5, .int (nI (m5 + 1))), (4, .int 1), (6, .int (-1)), (0, .ref h), (1, .int (nI bt)), (2, .int nm), (3, .int tn)] := hl
            refine lv_goto (tgt := 6) hx hb xd_Mo_isElsewhere_75 (by decide) ?_
            exact ih1 (m5 + 1, 1) _ _ _ (show 72 - (m5 + 1) < 72 - m5 by omega) (lv_sub hl [0, 1, 3, 4, 5, 6] rfl) hP hD hS ⟨(show (m5 + 1) ≤ 72 from by first | assumption | omega), (show 1 ≤ 1 from by first | assumption | omega), (show (1 = 1 ∧ elK g (fun m => ¬ g 24 m = 0) bt nm tn (m5 + 1)) ∨ (1 = 0 ∧ ¬ elK g (fun m => ¬ g 24 m = 0) bt nm tn (m5 + 1)) from by
        rcases hel with ⟨_, m, q1, q2⟩ | ⟨q, _⟩
        · exact Or.inl ⟨rfl, m, by omega, q2⟩
        · omega)⟩
          · refine lv_iload hx hb xd_Mo_isElsewhere_50 (lv_at hl 0 rfl) ?_
            refine lv_if_lt (tgt := 69) hx hb xd_Mo_isElsewhere_52 (by decide) (fun _ => ?_) (fun hc28 => absurd hc28 (by decide))
            refine lv_iconst (v := 0) hx hb xd_Mo_isElsewhere_69 (by decide) ?_
            refine lv_istore hx hb xd_Mo_isElsewhere_70 hl (Nat.le_of_ble_eq_true rfl) rfl (fun ls hl => ?_)
            have hl : lv_has ls 7 [(4, .int 0), (6, .int (-1)), (5, .int (nI m5)), (0, .ref h), (1, .int (nI bt)), (2, .int nm), (3, .int tn)] := hl
            refine lv_iinc (k := 2) (x := (nI m5)) (v := (nI (m5 + 1))) hx hb xd_Mo_isElsewhere_72 hl rfl (xb_inc m5 1) (Nat.le_of_ble_eq_true rfl) rfl (fun ls hl => ?_)
            have hl : lv_has ls 7 [(5, .int (nI (m5 + 1))), (4, .int 0), (6, .int (-1)), (0, .ref h), (1, .int (nI bt)), (2, .int nm), (3, .int tn)] := hl
            refine lv_goto (tgt := 6) hx hb xd_Mo_isElsewhere_75 (by decide) ?_
            exact ih1 (m5 + 1, 0) _ _ _ (show 72 - (m5 + 1) < 72 - m5 by omega) (lv_sub hl [0, 1, 3, 4, 5, 6] rfl) hP hD hS ⟨(show (m5 + 1) ≤ 72 from by first | assumption | omega), (show 0 ≤ 1 from by first | assumption | omega), (show (0 = 1 ∧ elK g (fun m => ¬ g 24 m = 0) bt nm tn (m5 + 1)) ∨ (0 = 0 ∧ ¬ elK g (fun m => ¬ g 24 m = 0) bt nm tn (m5 + 1)) from by
        rcases hel with ⟨q, _⟩ | ⟨_, q⟩
        · omega
        refine Or.inr ⟨rfl, fun ⟨m, q1, q2, q3, i, q4, q5⟩ => ?_⟩
        rcases Nat.lt_or_ge m m5 with z | z
        · exact q ⟨m, z, q2, q3, i, q4, q5⟩
        · have e : m = m5 := by omega
          rw [e] at q2 q3 q4 q5
          exact (by rw [pI_none epkc (by omega) z17] at q4; cases q4))⟩
set_option maxHeartbeats 4000000 in
set_option maxRecDepth 100000 in
theorem xc_Mo_isSplitX (l : Launch) (D : va_G) (kA : Nat → ClassId) (sz h : Nat) (mm : Nat → Nat) (v : Nat → Int32) (g : Nat → Nat → Int32) (ly : Nat) (d : Nat) (np : Nat) (hMI : MI v g) (hnp : np ≤ 6) (hpar : ∀ la, la < np → ∃ lq, lq ≤ la ∧ g 19 la = nI lq - 1) (hly : ly < np) (hd : d < 12) : Met l xy_Mo_isSplit (.code xy_Mo_isSplit xb_Mo_isSplit 5 (some .boolean) :: wT) { frames := 3, cells := 0, slots := 0, locals := 73 } (va_Pc [.ref h, .int (nI ly), .int (nI d)] (xPre D kA sz (moW h mm kA v g))) (va_Qi (fun (r : Int32) (u : (Nat → Int32) × (Nat → Nat → Int32)) => u.1 = v ∧ (∀ j, j ≠ 24 → u.2 j = g j) ∧ ((r = 1 ∧ spQ g (rdQ g ly d) d) ∨ (r = 0 ∧ ¬ spQ g (rdQ g ly d) d))) (fun (u : (Nat → Int32) × (Nat → Nat → Int32)) t => va_P D xcl (moW h mm kA u.1 u.2) t.heap ∧ va_D (va_A (moW h mm kA v g) sz) (moW h mm kA u.1 u.2)) (va_A (moW h mm kA v g) sz)) 0 0 (va_A (moW h mm kA v g) sz) := by
  refine Met.ofW (cc := xb_Mo_isSplit) (maxL := 5) (ret := (some .boolean)) (by decide) rfl ?_
  intro p e s m args below meth c s₁ B hml hv
  obtain ⟨rfl, hsz, hP, hK, hD0⟩ := hv
  have hx := B.exec
  have hb := B.bytes
  have hr := B.returns
  have hT := x_hT B.pre
  have hown : s.vm.findClass xR_Mo = some m.cls := findClass_of_methodNamed B.named
  have hlocks := B.notSynchronized
  subst hsz
  have hD := hD0.self (sz := s.heap.size)
  generalize hAe : va_A (moW h mm kA v g) s.heap.size = A at hD ⊢
  have hA : ∀ q : Nat, s.heap.size ≤ q → A q := fun q h => by rw [← hAe]; exact Or.inr h
  have hS : va_S A s.heap s.heap [] := va_S.rf
  have hl := lv_entry ([.ref h, .int (nI ly), .int (nI d)]) (n := 5) (Nat.le_of_ble_eq_true rfl)
  rw [lg_entry_eq]
  generalize (lg_sl ([.ref h, .int (nI ly), .int (nI d)]) ++ List.replicate (5 - (lg_sl ([.ref h, .int (nI ly), .int (nI d)])).length) Slot.unset).toArray = ls at hl ⊢
  have hl : lv_has ls 5 [(0, .ref h), (1, .int (nI ly)), (2, .int (nI d))] := hl
  have hP : va_P D xcl (moW h mm kA v g) s.heap := hP
  obtain ⟨-, -, -, hpk, hrq, hmd, -⟩ := id hMI
  refine lv_aload_n hx hb xd_Mo_isSplit_0 rfl (lv_at hl 0 rfl) ?_
  refine lv_iload_n hx hb xd_Mo_isSplit_1 rfl (lv_at hl 1 rfl) ?_
  refine lv_iload_n hx hb xd_Mo_isSplit_2 rfl (lv_at hl 2 rfl) ?_
  have hFc := va_free (wc := (moW h mm kA v g)) hD hS hA [0, 1, 2, 3, 4, 5, 6, 7, 8, 9, 10, 11, 12, 13, 14, 15, 16, 17, 18, 19, 20, 21, 22, 23, 24, 25] rfl
  refine va_callv (va_runV (As := [.int (nI ly), .int (nI d)]) (rest := []) ⟨hx, hb, hml, hown, hT⟩ (xc_Mo_readingX l D kA s.heap.size h mm v g ly d np (by first | assumption | omega) (by first | assumption | omega) (by first | assumption | omega) (by first | assumption | omega) (by first | assumption | omega)) (cwV 2 hT (wT_V k4n_17 k4n_18 k4n_19 k4n_6 k4n_16) rfl rfl rfl (by decide +kernel) ⟨Nat.le_of_ble_eq_true rfl, Nat.le_of_ble_eq_true rfl⟩) (x_preV hK hP hD 0 rfl rfl) rfl rfl hl.1 rfl (lv_room (Nat.le_of_ble_eq_true rfl)) xd_Mo_isSplit_3 ⟨Nat.le_of_ble_eq_true rfl, Nat.le_of_ble_eq_true rfl⟩) hS (fun q _ h => hFc q h) hFc (fun u2 t H1 locs ht hvm hp3 hB hz1 hk1 hS => ?_)
  obtain ⟨hP1, hD1⟩ := hB
  rw [ht] at hP1
  have hD1 := hD1.weaken (fun _ _ _ h => hFc _ h)
  obtain ⟨v4, g5⟩ := u2
  generalize H1 = H at hP1 hS ⊢
  have hP := hP1
  have hD := hD1
  have hP : va_P D xcl (moW h mm kA v4 g5) H := hP
  have hD : va_D A (moW h mm kA v4 g5) := hD
  obtain ⟨hu9, hfr9, hbz9, hsn9, hrd9⟩ := hp3
  have hu9 : v = v4 := hu9.symm
  subst hu9
  obtain ⟨fs6, hge⟩ : ∃ z, g5 = va_up g 24 z := ⟨_, g24 (fun j h => (hfr9 j h).trans (by first | rfl | simp [va_up, h]))⟩
  subst hge
  have hP : va_P D xcl (moW h mm kA v (va_up g 24 fs6)) H := hP
  have hD : va_D A (moW h mm kA v (va_up g 24 fs6)) := hD
  have hrd9 : ∀ b, b < 72 → (¬ fs6 b = 0 ↔ rdQ g ly d b) := hrd9
  refine lv_iconst (v := 0) hx hb xd_Mo_isSplit_6 (by decide) ?_
  refine lv_istore_n hx hb xd_Mo_isSplit_7 rfl hl (Nat.le_of_ble_eq_true rfl) rfl (fun ls hl => ?_)
  have hl : lv_has ls 5 [(3, .int 0), (0, .ref h), (1, .int (nI ly)), (2, .int (nI d))] := hl
  refine xlab (σ := Nat) (ml := 5) 8 (fun (m3 : Nat) => [(3, .int (nI m3)), (0, .ref h), (1, .int (nI ly)), (2, .int (nI d))]) (fun (m3 : Nat) => []) (fun (m3 : Nat) => moW h mm kA v (va_up g 24 fs6)) (fun (m3 : Nat) => (m3 ≤ 72) ∧ (∀ m, m < m3 → ¬ (¬ fs6 m = 0 ∧ ∃ p, 6 * (m % 12) ≤ p ∧ p < 6 * (m % 12) + iN (g 5 (m % 12)) ∧ spB g (fun m => ¬ fs6 m = 0) d m p))) (fun (m3 : Nat) => 72 - m3) ?_ 0 _ _ _ (lv_sub hl [0, 1, 2, 3] rfl) hP hD hS ⟨(show 0 ≤ 72 from by first | assumption | omega), (show ∀ m, m < 0 → ¬ (¬ fs6 m = 0 ∧ ∃ p, 6 * (m % 12) ≤ p ∧ p < 6 * (m % 12) + iN (g 5 (m % 12)) ∧ spB g (fun m => ¬ fs6 m = 0) d m p) from fun m h => absurd h (by omega))⟩
  intro n9 ih7 a9 ls H locs hμ hl hP hD hS hI
  subst hμ
  obtain ⟨m3, rfl⟩ : ∃ z, z = a9 := ⟨_, rfl⟩
  obtain ⟨hm3, hno3⟩ := hI
  have hm3 : m3 ≤ 72 := hm3
  have hno3 : ∀ m, m < m3 → ¬ (¬ fs6 m = 0 ∧ ∃ p, 6 * (m % 12) ≤ p ∧ p < 6 * (m % 12) + iN (g 5 (m % 12)) ∧ spB g (fun m => ¬ fs6 m = 0) d m p) := hno3
  have hl : lv_has ls 5 [(3, .int (nI m3)), (0, .ref h), (1, .int (nI ly)), (2, .int (nI d))] := hl
  have hP : va_P D xcl (moW h mm kA v (va_up g 24 fs6)) H := hP
  have hD : va_D A (moW h mm kA v (va_up g 24 fs6)) := hD
  refine lv_iload_n hx hb xd_Mo_isSplit_8 rfl (lv_at hl 0 rfl) ?_
  refine lv_bipush (v := 72) hx hb xd_Mo_isSplit_9 (by decide) ?_
  refine xn_ge (a := m3) (b := 72) (tgt := 119) hx hb xd_Mo_isSplit_11 (by decide) (by omega) (by omega) (fun hc8 => ?_) (fun hc8 => ?_)
  · refine lv_iconst (v := 0) hx hb xd_Mo_isSplit_119 (by decide) ?_
    exact W.zret (v := 0) hx hb hr rfl (fun t ht hW => ⟨⟨0, (v, (va_up g 24 fs6)), rfl, ⟨rfl, fun j h1 => by simp [va_up, h1], Or.inr ⟨rfl, fun q => by
        obtain ⟨m, q1, q2⟩ := (spQ_iff (Q := (fun m => ¬ fs6 m = 0)) hrd9).mpr q
        exact hno3 m (by omega) q2⟩⟩, by rw [ht]; exact hP, hD⟩, hS.F ht⟩) hS.2.2 xd_Mo_isSplit_120
  · obtain ⟨pkc, hpkc, epkc⟩ := hpk (m3 % 12) (by omega)
    refine lv_bipush (v := 6) hx hb xd_Mo_isSplit_14 (by decide) ?_
    refine lv_iload_n hx hb xd_Mo_isSplit_16 rfl (lv_at hl 0 rfl) ?_
    refine lv_bipush (v := 12) hx hb xd_Mo_isSplit_17 (by decide) ?_
    refine lv_irem hx hb xd_Mo_isSplit_19 (by decide) ?_
    refine xn_top (y := nI (m3 % 12)) (pk_rem (a := m3) (d := 12) (by omega) (by decide) (by decide)) ?_
    refine lv_imul hx hb xd_Mo_isSplit_20 ?_
    refine xn_top (y := nI (6 * (m3 % 12))) (pk_mul 6 (m3 % 12)) ?_
    refine lv_istore hx hb xd_Mo_isSplit_21 hl (Nat.le_of_ble_eq_true rfl) rfl (fun ls hl => ?_)
    have hl : lv_has ls 5 [(4, .int (nI (6 * (m3 % 12)))), (3, .int (nI m3)), (0, .ref h), (1, .int (nI ly)), (2, .int (nI d))] := hl
    refine xlab (σ := Nat) (ml := 5) 23 (fun (p4 : Nat) => [(4, .int (nI p4)), (3, .int (nI m3)), (0, .ref h), (1, .int (nI ly)), (2, .int (nI d))]) (fun (p4 : Nat) => []) (fun (p4 : Nat) => moW h mm kA v (va_up g 24 fs6)) (fun (p4 : Nat) => (6 * (m3 % 12) ≤ p4) ∧ (p4 ≤ 6 * (m3 % 12) + pkc) ∧ (∀ p, 6 * (m3 % 12) ≤ p → p < p4 → ¬ spB g (fun m => ¬ fs6 m = 0) d m3 p)) (fun (p4 : Nat) => 6 * (m3 % 12) + pkc - p4) ?_ (6 * (m3 % 12)) _ _ _ (lv_sub hl [0, 1, 2, 3, 4] rfl) hP hD hS ⟨(show 6 * (m3 % 12) ≤ (6 * (m3 % 12)) from by first | assumption | omega), (show (6 * (m3 % 12)) ≤ 6 * (m3 % 12) + pkc from by first | assumption | omega), (show ∀ p, 6 * (m3 % 12) ≤ p → p < (6 * (m3 % 12)) → ¬ spB g (fun m => ¬ fs6 m = 0) d m3 p from fun p h1 h2 => absurd h2 (by omega))⟩
    intro n9 ih9 a9 ls H locs hμ hl hP hD hS hI
    subst hμ
    obtain ⟨p4, rfl⟩ : ∃ z, z = a9 := ⟨_, rfl⟩
    obtain ⟨hp41, hp42, hno4⟩ := hI
    have hp41 : 6 * (m3 % 12) ≤ p4 := hp41
    have hp42 : p4 ≤ 6 * (m3 % 12) + pkc := hp42
    have hno4 : ∀ p, 6 * (m3 % 12) ≤ p → p < p4 → ¬ spB g (fun m => ¬ fs6 m = 0) d m3 p := hno4
    have hl : lv_has ls 5 [(4, .int (nI p4)), (3, .int (nI m3)), (0, .ref h), (1, .int (nI ly)), (2, .int (nI d))] := hl
    have hP : va_P D xcl (moW h mm kA v (va_up g 24 fs6)) H := hP
    have hD : va_D A (moW h mm kA v (va_up g 24 fs6)) := hD
    refine lv_aload_n hx hb xd_Mo_isSplit_23 rfl (lv_at hl 2 rfl) ?_
    refine va_get (D := D) (ci := 4) (v := .ref (mm 24)) (C := xR_Mo) (T := xT_Mo) (N := 31) hx hb hT xi_Mo hown hK.1 hP 0 rfl rfl 30 (by decide) (hT _ k4n_7) (fun _ h9 => h9) rfl xd_Mo_isSplit_24 ?_
    refine lv_iload_n hx hb xd_Mo_isSplit_27 rfl (lv_at hl 1 rfl) ?_
    refine xn_zald (i := m3) hx hb hK.1 hP 25 2 rfl rfl (by omega) (by decide) xd_Mo_isSplit_28 ?_
    refine lv_if_eq (tgt := 113) hx hb xd_Mo_isSplit_29 (by decide) (fun hc10 => ?_) (fun hc10 => ?_)
    · refine lv_iinc (k := 1) (x := (nI m3)) (v := (nI (m3 + 1))) hx hb xd_Mo_isSplit_113 hl rfl (xb_inc m3 1) (Nat.le_of_ble_eq_true rfl) rfl (fun ls hl => ?_)
      have hl : lv_has ls 5 [(3, .int (nI (m3 + 1))), (4, .int (nI p4)), (0, .ref h), (1, .int (nI ly)), (2, .int (nI d))] := hl
      refine lv_goto (tgt := 8) hx hb xd_Mo_isSplit_116 (by decide) ?_
      exact ih7 (m3 + 1) _ _ _ (show 72 - (m3 + 1) < 72 - m3 by omega) (lv_sub hl [0, 2, 3, 4] rfl) hP hD hS ⟨(show (m3 + 1) ≤ 72 from by first | assumption | omega), (show ∀ m, m < (m3 + 1) → ¬ (¬ fs6 m = 0 ∧ ∃ p, 6 * (m % 12) ≤ p ∧ p < 6 * (m % 12) + iN (g 5 (m % 12)) ∧ spB g (fun m => ¬ fs6 m = 0) d m p) from fun m h ⟨q1, q2⟩ => by
        rcases Nat.lt_or_ge m m3 with z | z
        · exact hno3 m z ⟨q1, q2⟩
        · rw [show m = m3 by omega] at q1 q2; exact absurd hc10 q1)⟩
    · refine lv_iload hx hb xd_Mo_isSplit_32 (lv_at hl 0 rfl) ?_
      refine lv_bipush (v := 6) hx hb xd_Mo_isSplit_34 (by decide) ?_
      refine lv_iload_n hx hb xd_Mo_isSplit_36 rfl (lv_at hl 1 rfl) ?_
      refine lv_bipush (v := 12) hx hb xd_Mo_isSplit_37 (by decide) ?_
      refine lv_irem hx hb xd_Mo_isSplit_39 (by decide) ?_
      refine xn_top (y := nI (m3 % 12)) (pk_rem (a := m3) (d := 12) (by omega) (by decide) (by decide)) ?_
      refine lv_imul hx hb xd_Mo_isSplit_40 ?_
      refine xn_top (y := nI (6 * (m3 % 12))) (pk_mul 6 (m3 % 12)) ?_
      refine lv_aload_n hx hb xd_Mo_isSplit_41 rfl (lv_at hl 2 rfl) ?_
      refine va_get (D := D) (ci := 4) (v := .ref (mm 5)) (C := xR_Mo) (T := xT_Mo) (N := 31) hx hb hT xi_Mo hown hK.1 hP 0 rfl rfl 10 (by decide) (hT _ k4n_20) (fun _ h9 => h9) rfl xd_Mo_isSplit_42 ?_
      refine lv_iload_n hx hb xd_Mo_isSplit_45 rfl (lv_at hl 1 rfl) ?_
      refine lv_bipush (v := 12) hx hb xd_Mo_isSplit_46 (by decide) ?_
      refine lv_irem hx hb xd_Mo_isSplit_48 (by decide) ?_
      refine xn_top (y := nI (m3 % 12)) (pk_rem (a := m3) (d := 12) (by omega) (by decide) (by decide)) ?_
      refine xn_iald (i := m3 % 12) hx hb hK.1 hP 6 0 rfl rfl (by omega) (by decide) xd_Mo_isSplit_49 ?_
      refine xn_top (x := (g 5 (m3 % 12))) (y := nI pkc) epkc ?_
      refine lv_iadd hx hb xd_Mo_isSplit_50 ?_
      refine xn_top (y := nI ((6 * (m3 % 12)) + pkc)) (nI_add (6 * (m3 % 12)) pkc) ?_
      refine xn_ge (a := p4) (b := (6 * (m3 % 12)) + pkc) (tgt := 113) hx hb xd_Mo_isSplit_51 (by decide) (by omega) (by omega) (fun hc11 => ?_) (fun hc11 => ?_)
      · refine lv_iinc (k := 1) (x := (nI m3)) (v := (nI (m3 + 1))) hx hb xd_Mo_isSplit_113 hl rfl (xb_inc m3 1) (Nat.le_of_ble_eq_true rfl) rfl (fun ls hl => ?_)
        have hl : lv_has ls 5 [(3, .int (nI (m3 + 1))), (4, .int (nI p4)), (0, .ref h), (1, .int (nI ly)), (2, .int (nI d))] := hl
        refine lv_goto (tgt := 8) hx hb xd_Mo_isSplit_116 (by decide) ?_
        exact ih7 (m3 + 1) _ _ _ (show 72 - (m3 + 1) < 72 - m3 by omega) (lv_sub hl [0, 2, 3, 4] rfl) hP hD hS ⟨(show (m3 + 1) ≤ 72 from by first | assumption | omega), (show ∀ m, m < (m3 + 1) → ¬ (¬ fs6 m = 0 ∧ ∃ p, 6 * (m % 12) ≤ p ∧ p < 6 * (m % 12) + iN (g 5 (m % 12)) ∧ spB g (fun m => ¬ fs6 m = 0) d m p) from fun m h ⟨q1, q2⟩ => by
        rcases Nat.lt_or_ge m m3 with z | z
        · exact hno3 m z ⟨q1, q2⟩
        · rw [show m = m3 by omega] at q1 q2; exact (by
            obtain ⟨p, h1, h2, h3⟩ := q2
            exact hno4 p h1 (by rw [epkc, iN_nI (by omega)] at h2; omega) h3))⟩
      · refine lv_aload_n hx hb xd_Mo_isSplit_54 rfl (lv_at hl 2 rfl) ?_
        refine lv_iload hx hb xd_Mo_isSplit_55 (lv_at hl 0 rfl) ?_
        refine lv_aload_n hx hb xd_Mo_isSplit_57 rfl (lv_at hl 2 rfl) ?_
        refine va_get (D := D) (ci := 4) (v := .ref (mm 4)) (C := xR_Mo) (T := xT_Mo) (N := 31) hx hb hT xi_Mo hown hK.1 hP 0 rfl rfl 9 (by decide) (hT _ k4n_21) (fun _ h9 => h9) rfl xd_Mo_isSplit_58 ?_
        refine lv_iload_n hx hb xd_Mo_isSplit_61 rfl (lv_at hl 4 rfl) ?_
        refine xn_iald (i := d) hx hb hK.1 hP 5 0 rfl rfl (by omega) (by decide) xd_Mo_isSplit_62 ?_
        have hFc := va_free (wc := (moW h mm kA v (va_up g 24 fs6))) hD hS hA [0, 1, 2, 3, 4, 5, 6, 7, 8, 9, 10, 11, 12, 13, 14, 15, 16, 17, 18, 19, 20, 21, 22, 23, 24, 25] rfl
        refine va_calli (va_runV (As := [.int (nI p4), .int (g 4 d)]) (rest := []) ⟨hx, hb, hml, hown, hT⟩ (xc_Mo_exportsX l D kA H.size h mm v (va_up g 24 fs6) p4 (g 4 d) (by first | assumption | omega)) (cwV 2 hT (wT_V k4n_13 k4n_14 k4n_15 k4n_6 k4n_12) rfl rfl rfl (by decide +kernel) ⟨Nat.le_of_ble_eq_true rfl, Nat.le_of_ble_eq_true rfl⟩) (x_preV hK hP hD 0 rfl rfl) rfl rfl hl.1 rfl (lv_room (Nat.le_of_ble_eq_true rfl)) xd_Mo_isSplit_63 ⟨Nat.le_of_ble_eq_true rfl, Nat.le_of_ble_eq_true rfl⟩) hS (fun q _ h => hFc q h) hFc (fun r12 u13 t H1 locs ht hvm hp14 hB hz1 hk1 hS => ?_)
        obtain ⟨hP1, hD1⟩ := hB
        rw [ht] at hP1
        have hD1 := hD1.weaken (fun _ _ _ h => hFc _ h)
        generalize H1 = H at hP1 hS ⊢
        have hP := hP1
        have hD := hD1
        have hP : va_P D xcl (moW h mm kA v (va_up g 24 fs6)) H := hP
        have hD : va_D A (moW h mm kA v (va_up g 24 fs6)) := hD
        rcases hp14 with ⟨rfl, z15⟩ | ⟨rfl, z16⟩
        · have hex9 : exP g p4 (g 4 d) := z15
          refine xz_eq (a := 1) (tgt := 107) hx hb xd_Mo_isSplit_66 (by decide) (by omega) (fun hc17 => absurd hc17 (by omega)) (fun _ => ?_)
          obtain ⟨pke, hpke, epke⟩ := hpk d (by omega)
          refine lv_aload_n hx hb xd_Mo_isSplit_69 rfl (lv_at hl 2 rfl) ?_
          refine lv_iload_n hx hb xd_Mo_isSplit_70 rfl (lv_at hl 4 rfl) ?_
          refine lv_aload_n hx hb xd_Mo_isSplit_71 rfl (lv_at hl 2 rfl) ?_
          refine va_get (D := D) (ci := 4) (v := .ref (mm 6)) (C := xR_Mo) (T := xT_Mo) (N := 31) hx hb hT xi_Mo hown hK.1 hP 0 rfl rfl 11 (by decide) (hT _ k4n_22) (fun _ h9 => h9) rfl xd_Mo_isSplit_72 ?_
          refine lv_iload hx hb xd_Mo_isSplit_75 (lv_at hl 0 rfl) ?_
          refine xn_iald (i := p4) hx hb hK.1 hP 7 0 rfl rfl (by omega) (by decide) xd_Mo_isSplit_77 ?_
          have hFc := va_free (wc := (moW h mm kA v (va_up g 24 fs6))) hD hS hA [0, 1, 2, 3, 4, 5, 6, 7, 8, 9, 10, 11, 12, 13, 14, 15, 16, 17, 18, 19, 20, 21, 22, 23, 24, 25] rfl
          refine va_calli (va_runV (As := [.int (nI d), .int (g 6 p4)]) (rest := []) ⟨hx, hb, hml, hown, hT⟩ (xc_Mo_packageOfX l D kA H.size h mm v (va_up g 24 fs6) d (g 6 p4) pke (by first | assumption | omega) (by first | assumption | omega) (by first | assumption | omega)) (cwV 2 hT (wT_V k4n_9 k4n_10 k4n_11 k4n_6 k4n_8) rfl rfl rfl (by decide +kernel) ⟨Nat.le_of_ble_eq_true rfl, Nat.le_of_ble_eq_true rfl⟩) (x_preV hK hP hD 0 rfl rfl) rfl rfl hl.1 rfl (lv_room (Nat.le_of_ble_eq_true rfl)) xd_Mo_isSplit_78 ⟨Nat.le_of_ble_eq_true rfl, Nat.le_of_ble_eq_true rfl⟩) hS (fun q _ h => hFc q h) hFc (fun r18 u19 t H1 locs ht hvm hp20 hB hz1 hk1 hS => ?_)
          obtain ⟨hP1, hD1⟩ := hB
          rw [ht] at hP1
          have hD1 := hD1.weaken (fun _ _ _ h => hFc _ h)
          generalize H1 = H at hP1 hS ⊢
          have hP := hP1
          have hD := hD1
          have hP : va_P D xcl (moW h mm kA v (va_up g 24 fs6)) H := hP
          have hD : va_D A (moW h mm kA v (va_up g 24 fs6)) := hD
          rcases hp20 with ⟨z21, z22, z23, rfl, z24, z25⟩ | ⟨rfl, z26⟩
          · have hpk9 : ∃ i, pI g d (g 6 p4) = some i := ⟨_, pI_some epke (by omega) z22 z23 z24 z25⟩
            refine xz_ge (a := z21) (tgt := 105) hx hb xd_Mo_isSplit_81 (by decide) (by omega) ?_
            refine lv_iconst (v := 1) hx hb xd_Mo_isSplit_105 (by decide) ?_
            exact W.zret (v := 1) hx hb hr rfl (fun t ht hW => ⟨⟨1, (v, (va_up g 24 fs6)), rfl, ⟨rfl, fun j h1 => by simp [va_up, h1], Or.inl ⟨rfl, (spQ_iff (Q := (fun m => ¬ fs6 m = 0)) hrd9).mp ⟨m3, by omega, hc10, p4, hp41, by rw [epkc, iN_nI (by omega)]; omega, hex9, Or.inl hpk9⟩⟩⟩, by rw [ht]; exact hP, hD⟩, hS.F ht⟩) hS.2.2 xd_Mo_isSplit_106
          · have hpk9 : ¬ ∃ i, pI g d (g 6 p4) = some i := fun ⟨i, q⟩ => by rw [pI_none epke (by omega) z26] at q; cases q
            refine lv_if_ge (tgt := 105) hx hb xd_Mo_isSplit_81 (by decide) (fun hc28 => absurd hc28 (by decide)) (fun _ => ?_)
            refine lv_aload_n hx hb xd_Mo_isSplit_84 rfl (lv_at hl 2 rfl) ?_
            refine lv_iload_n hx hb xd_Mo_isSplit_85 rfl (lv_at hl 1 rfl) ?_
            refine lv_aload_n hx hb xd_Mo_isSplit_86 rfl (lv_at hl 2 rfl) ?_
            refine va_get (D := D) (ci := 4) (v := .ref (mm 6)) (C := xR_Mo) (T := xT_Mo) (N := 31) hx hb hT xi_Mo hown hK.1 hP 0 rfl rfl 11 (by decide) (hT _ k4n_22) (fun _ h9 => h9) rfl xd_Mo_isSplit_87 ?_
            refine lv_iload hx hb xd_Mo_isSplit_90 (lv_at hl 0 rfl) ?_
            refine xn_iald (i := p4) hx hb hK.1 hP 7 0 rfl rfl (by omega) (by decide) xd_Mo_isSplit_92 ?_
            refine lv_aload_n hx hb xd_Mo_isSplit_93 rfl (lv_at hl 2 rfl) ?_
            refine va_get (D := D) (ci := 4) (v := .ref (mm 4)) (C := xR_Mo) (T := xT_Mo) (N := 31) hx hb hT xi_Mo hown hK.1 hP 0 rfl rfl 9 (by decide) (hT _ k4n_21) (fun _ h9 => h9) rfl xd_Mo_isSplit_94 ?_
            refine lv_iload_n hx hb xd_Mo_isSplit_97 rfl (lv_at hl 4 rfl) ?_
            refine xn_iald (i := d) hx hb hK.1 hP 5 0 rfl rfl (by omega) (by decide) xd_Mo_isSplit_98 ?_
            have hFc := va_free (wc := (moW h mm kA v (va_up g 24 fs6))) hD hS hA [0, 1, 2, 3, 4, 5, 6, 7, 8, 9, 10, 11, 12, 13, 14, 15, 16, 17, 18, 19, 20, 21, 22, 23, 24, 25] rfl
            refine va_calli (va_runV (As := [.int (nI m3), .int (g 6 p4), .int (g 4 d)]) (rest := []) ⟨hx, hb, hml, hown, hT⟩ (xc_Mo_isElsewhereX l D kA H.size h mm v (va_up g 24 fs6) m3 (g 6 p4) (g 4 d) (by first | assumption | omega) (by first | assumption | omega)) (cwV 3 hT (wT_V k4n_24 k4n_25 k4n_26 k4n_6 k4n_23) rfl rfl rfl (by decide +kernel) ⟨Nat.le_of_ble_eq_true rfl, Nat.le_of_ble_eq_true rfl⟩) (x_preV hK hP hD 0 rfl rfl) rfl rfl hl.1 rfl (lv_room (Nat.le_of_ble_eq_true rfl)) xd_Mo_isSplit_99 ⟨Nat.le_of_ble_eq_true rfl, Nat.le_of_ble_eq_true rfl⟩) hS (fun q _ h => hFc q h) hFc (fun r29 u30 t H1 locs ht hvm hp31 hB hz1 hk1 hS => ?_)
            obtain ⟨hP1, hD1⟩ := hB
            rw [ht] at hP1
            have hD1 := hD1.weaken (fun _ _ _ h => hFc _ h)
            generalize H1 = H at hP1 hS ⊢
            have hP := hP1
            have hD := hD1
            have hP : va_P D xcl (moW h mm kA v (va_up g 24 fs6)) H := hP
            have hD : va_D A (moW h mm kA v (va_up g 24 fs6)) := hD
            rcases hp31 with ⟨rfl, z32⟩ | ⟨rfl, z33⟩
            · have hel9 : elK g (fun m => ¬ fs6 m = 0) m3 (g 6 p4) (g 4 d) 72 := z32
              refine xz_eq (a := 1) (tgt := 107) hx hb xd_Mo_isSplit_102 (by decide) (by omega) (fun hc34 => absurd hc34 (by omega)) (fun _ => ?_)
              refine lv_iconst (v := 1) hx hb xd_Mo_isSplit_105 (by decide) ?_
              exact W.zret (v := 1) hx hb hr rfl (fun t ht hW => ⟨⟨1, (v, (va_up g 24 fs6)), rfl, ⟨rfl, fun j h1 => by simp [va_up, h1], Or.inl ⟨rfl, (spQ_iff (Q := (fun m => ¬ fs6 m = 0)) hrd9).mp ⟨m3, by omega, hc10, p4, hp41, by rw [epkc, iN_nI (by omega)]; omega, hex9, Or.inr hel9⟩⟩⟩, by rw [ht]; exact hP, hD⟩, hS.F ht⟩) hS.2.2 xd_Mo_isSplit_106
            · have hel9 : ¬ elK g (fun m => ¬ fs6 m = 0) m3 (g 6 p4) (g 4 d) 72 := z33
              refine xz_eq (a := 0) (tgt := 107) hx hb xd_Mo_isSplit_102 (by decide) (by omega) (fun _ => ?_) (fun hc35 => absurd hc35 (by omega))
              refine lv_iinc (k := 0) (x := (nI p4)) (v := (nI (p4 + 1))) hx hb xd_Mo_isSplit_107 hl rfl (xb_inc p4 1) (Nat.le_of_ble_eq_true rfl) rfl (fun ls hl => ?_)
              have hl : lv_has ls 5 [(4, .int (nI (p4 + 1))), (3, .int (nI m3)), (0, .ref h), (1, .int (nI ly)), (2, .int (nI d))] := hl
              refine lv_goto (tgt := 23) hx hb xd_Mo_isSplit_110 (by decide) ?_
              exact ih9 (p4 + 1) _ _ _ (show 6 * (m3 % 12) + pkc - (p4 + 1) < 6 * (m3 % 12) + pkc - p4 by omega) (lv_sub hl [0, 1, 2, 3, 4] rfl) hP hD hS ⟨(show 6 * (m3 % 12) ≤ (p4 + 1) from by first | assumption | omega), (show (p4 + 1) ≤ 6 * (m3 % 12) + pkc from by first | assumption | omega), (show ∀ p, 6 * (m3 % 12) ≤ p → p < (p4 + 1) → ¬ spB g (fun m => ¬ fs6 m = 0) d m3 p from fun p h1 h2 q => by
        rcases Nat.lt_or_ge p p4 with z | z
        · exact hno4 p h1 z q
        · rw [show p = p4 by omega] at q; exact q.2.elim hpk9 hel9)⟩
        · have hex9 : ¬ exP g p4 (g 4 d) := z16
          refine xz_eq (a := 0) (tgt := 107) hx hb xd_Mo_isSplit_66 (by decide) (by omega) (fun _ => ?_) (fun hc36 => absurd hc36 (by omega))
          refine lv_iinc (k := 0) (x := (nI p4)) (v := (nI (p4 + 1))) hx hb xd_Mo_isSplit_107 hl rfl (xb_inc p4 1) (Nat.le_of_ble_eq_true rfl) rfl (fun ls hl => ?_)
          have hl : lv_has ls 5 [(4, .int (nI (p4 + 1))), (3, .int (nI m3)), (0, .ref h), (1, .int (nI ly)), (2, .int (nI d))] := hl
          refine lv_goto (tgt := 23) hx hb xd_Mo_isSplit_110 (by decide) ?_
          exact ih9 (p4 + 1) _ _ _ (show 6 * (m3 % 12) + pkc - (p4 + 1) < 6 * (m3 % 12) + pkc - p4 by omega) (lv_sub hl [0, 1, 2, 3, 4] rfl) hP hD hS ⟨(show 6 * (m3 % 12) ≤ (p4 + 1) from by first | assumption | omega), (show (p4 + 1) ≤ 6 * (m3 % 12) + pkc from by first | assumption | omega), (show ∀ p, 6 * (m3 % 12) ≤ p → p < (p4 + 1) → ¬ spB g (fun m => ¬ fs6 m = 0) d m3 p from fun p h1 h2 q => by
        rcases Nat.lt_or_ge p p4 with z | z
        · exact hno4 p h1 z q
        · rw [show p = p4 by omega] at q; exact hex9 q.1)⟩
theorem k4o_0 : (Cond.fieldLink "LayerDeskModel" 150 "LayerDeskModel" "layers" "I") ∈ wT := wT_t (List.mem_append_right _ (List.mem_append_right _ (List.mem_append_right _ (List.mem_append_left _ (List.mem_of_getElem? (i := 107) rfl))))) rfl
theorem k4o_1 : (Cond.fieldLink "LayerDeskModel" 72 "LayerDeskModel" "modules" "[I") ∈ wT := wT_t (List.mem_append_right _ (List.mem_append_right _ (List.mem_append_right _ (List.mem_append_left _ (List.mem_of_getElem? (i := 110) rfl))))) rfl
theorem k4o_2 : (Cond.fieldLink "LayerDeskModel" 75 "LayerDeskModel" "module" "[I") ∈ wT := wT_t (List.mem_append_right _ (List.mem_append_right _ (List.mem_append_right _ (List.mem_append_left _ (List.mem_of_getElem? (i := 111) rfl))))) rfl
theorem k4o_3 : (Cond.code xy_Mo_isSplit xb_Mo_isSplit 5 (some .boolean)) ∈ wT := wT_t (List.mem_append_right _ (List.mem_append_right _ (List.mem_append_right _ (List.mem_append_right _ (List.mem_of_getElem? (i := 44) rfl))))) rfl
theorem k4o_4 : (Cond.methodLink "LayerDeskModel" 184 xy_Mo_isSplit) ∈ wT := wT_t (List.mem_append_right _ (List.mem_append_right _ (List.mem_append_right _ (List.mem_append_right _ (List.mem_of_getElem? (i := 41) rfl))))) rfl
theorem k4o_5 : (Cond.instanceMethod xy_Mo_isSplit) ∈ wT := wT_t (List.mem_append_right _ (List.mem_append_right _ (List.mem_append_right _ (List.mem_append_right _ (List.mem_of_getElem? (i := 43) rfl))))) rfl
theorem k4o_6 : (Cond.selects "LayerDeskModel" xy_Mo_isSplit xy_Mo_isSplit) ∈ wT := wT_s (q := (xy_Mo_isSplit, 31)) (by decide +kernel) rfl
theorem k4o_7 : (Cond.initialized "LayerDeskModel") ∈ wT := wT_t (List.mem_append_left _ (List.mem_of_getElem? (i := 5) rfl)) rfl
theorem k4o_8 : (Cond.code xy_Mo_isCycle xb_Mo_isCycle 10 (some .boolean)) ∈ wT := wT_t (List.mem_append_right _ (List.mem_append_right _ (List.mem_append_right _ (List.mem_append_right _ (List.mem_of_getElem? (i := 40) rfl))))) rfl
theorem k4o_9 : (Cond.methodLink "LayerDeskModel" 181 xy_Mo_isCycle) ∈ wT := wT_t (List.mem_append_right _ (List.mem_append_right _ (List.mem_append_right _ (List.mem_append_right _ (List.mem_of_getElem? (i := 37) rfl))))) rfl
theorem k4o_10 : (Cond.instanceMethod xy_Mo_isCycle) ∈ wT := wT_t (List.mem_append_right _ (List.mem_append_right _ (List.mem_append_right _ (List.mem_append_right _ (List.mem_of_getElem? (i := 39) rfl))))) rfl
theorem k4o_11 : (Cond.selects "LayerDeskModel" xy_Mo_isCycle xy_Mo_isCycle) ∈ wT := wT_s (q := (xy_Mo_isCycle, 31)) (by decide +kernel) rfl
set_option maxHeartbeats 4000000 in
set_option maxRecDepth 100000 in
theorem xc_Mo_reasonX (l : Launch) (D : va_G) (kA : Nat → ClassId) (sz h : Nat) (mm : Nat → Nat) (v : Nat → Int32) (g : Nat → Nat → Int32) (nl : Nat) (md0 : Nat) (hMI : MI v g) (hnl : v 5 = nI nl) (hnl5 : nl ≤ 5) (hpn : ∀ la, la < nl + 1 → ∃ lq, lq ≤ la ∧ g 19 la = nI lq - 1) (hmd0 : g 20 nl = nI md0) (hmd012 : md0 ≤ 12) : Met l xy_Mo_reason (.code xy_Mo_reason xb_Mo_reason 4 (some .int) :: wT) { frames := 4, cells := 0, slots := 0, locals := 97 } (va_Pc [.ref h] (xPre D kA sz (moW h mm kA v g))) (va_Qi (fun (r : Int32) (u : (Nat → Int32) × (Nat → Nat → Int32)) => u.1 = v ∧ (∀ j, j ≠ 24 → u.2 j = g j) ∧ r = nI (rsW g nl md0)) (fun (u : (Nat → Int32) × (Nat → Nat → Int32)) t => va_P D xcl (moW h mm kA u.1 u.2) t.heap ∧ va_D (va_A (moW h mm kA v g) sz) (moW h mm kA u.1 u.2)) (va_A (moW h mm kA v g) sz)) 0 0 (va_A (moW h mm kA v g) sz) := by
  refine Met.ofW (cc := xb_Mo_reason) (maxL := 4) (ret := (some .int)) (by decide) rfl ?_
  intro p e s m args below meth c s₁ B hml hv
  obtain ⟨rfl, hsz, hP, hK, hD0⟩ := hv
  have hx := B.exec
  have hb := B.bytes
  have hr := B.returns
  have hT := x_hT B.pre
  have hown : s.vm.findClass xR_Mo = some m.cls := findClass_of_methodNamed B.named
  have hlocks := B.notSynchronized
  subst hsz
  have hD := hD0.self (sz := s.heap.size)
  generalize hAe : va_A (moW h mm kA v g) s.heap.size = A at hD ⊢
  have hA : ∀ q : Nat, s.heap.size ≤ q → A q := fun q h => by rw [← hAe]; exact Or.inr h
  have hS : va_S A s.heap s.heap [] := va_S.rf
  have hl := lv_entry ([.ref h]) (n := 4) (Nat.le_of_ble_eq_true rfl)
  rw [lg_entry_eq]
  generalize (lg_sl ([.ref h]) ++ List.replicate (4 - (lg_sl ([.ref h])).length) Slot.unset).toArray = ls at hl ⊢
  have hl : lv_has ls 4 [(0, .ref h)] := hl
  have hP : va_P D xcl (moW h mm kA v g) s.heap := hP
  obtain ⟨-, -, -, -, hrq, hmd, -⟩ := id hMI
  obtain ⟨mdk, hmdk, emdk, hent⟩ := hmd nl (by omega)
  have emd : md0 = mdk := (nI_eq (by rw [xb_31]; omega) (by rw [xb_31]; omega)).mp (hmd0.symm.trans emdk)
  have hent2 : ∀ i, 12 * nl ≤ i → i < 12 * nl + md0 → ∃ d, d < 12 ∧ g 21 i = nI d := fun i h1 h2 => by
    have h3 := hent (i - 12 * nl) (by omega)
    rwa [show 12 * nl + (i - 12 * nl) = i by omega] at h3
  refine lv_iconst (v := 0) hx hb xd_Mo_reason_0 (by decide) ?_
  refine lv_istore_n hx hb xd_Mo_reason_1 rfl hl (Nat.le_of_ble_eq_true rfl) rfl (fun ls hl => ?_)
  have hl : lv_has ls 4 [(1, .int 0), (0, .ref h)] := hl
  refine lv_iconst (v := 0) hx hb xd_Mo_reason_2 (by decide) ?_
  refine lv_istore_n hx hb xd_Mo_reason_3 rfl hl (Nat.le_of_ble_eq_true rfl) rfl (fun ls hl => ?_)
  have hl : lv_has ls 4 [(2, .int 0), (1, .int 0), (0, .ref h)] := hl
  refine lv_bipush (v := 12) hx hb xd_Mo_reason_4 (by decide) ?_
  refine lv_aload_n hx hb xd_Mo_reason_6 rfl (lv_at hl 2 rfl) ?_
  refine va_get (D := D) (ci := 4) (v := .int (v 5)) (C := xR_Mo) (T := xT_Mo) (N := 31) hx hb hT xi_Mo hown hK.1 hP 0 rfl rfl 23 (by decide) (hT _ k4o_0) (fun _ h9 => h9) rfl xd_Mo_reason_7 ?_
  refine xn_top (x := (v 5)) (y := nI nl) hnl ?_
  refine lv_imul hx hb xd_Mo_reason_10 ?_
  refine xn_top (y := nI (12 * nl)) (pk_mul 12 nl) ?_
  refine lv_istore_n hx hb xd_Mo_reason_11 rfl hl (Nat.le_of_ble_eq_true rfl) rfl (fun ls hl => ?_)
  have hl : lv_has ls 4 [(3, .int (nI (12 * nl))), (2, .int 0), (1, .int 0), (0, .ref h)] := hl
  refine xlab (σ := Nat × Nat × (Nat → Int32)) (ml := 4) 12 (fun (i1, cy, f1) => [(3, .int (nI i1)), (1, .int (nI cy)), (2, .int 0), (0, .ref h)]) (fun (i1, cy, f1) => []) (fun (i1, cy, f1) => moW h mm kA v (va_up g 24 f1)) (fun (i1, cy, f1) => (12 * nl ≤ i1) ∧ (i1 ≤ 12 * nl + md0) ∧ (cy ≤ 1) ∧ ((cy = 1 ∧ cyK g nl i1) ∨ (cy = 0 ∧ ¬ cyK g nl i1))) (fun (i1, cy, f1) => 12 * nl + md0 - i1) ?_ (12 * nl, 0, (g 24)) _ _ _ (lv_sub hl [0, 2, 1, 3] rfl) hP hD hS ⟨(show 12 * nl ≤ (12 * nl) from by first | assumption | omega), (show (12 * nl) ≤ 12 * nl + md0 from by first | assumption | omega), (show 0 ≤ 1 from by first | assumption | omega), (show (0 = 1 ∧ cyK g nl (12 * nl)) ∨ (0 = 0 ∧ ¬ cyK g nl (12 * nl)) from Or.inr ⟨rfl, fun ⟨j, h1, h2, _⟩ => absurd h2 (by omega)⟩)⟩
  intro n9 ih1 a9 ls H locs hμ hl hP hD hS hI
  subst hμ
  obtain ⟨i1, cy, f1⟩ := a9
  obtain ⟨hi11, hi12, hcy1, hcy⟩ := hI
  have hi11 : 12 * nl ≤ i1 := hi11
  have hi12 : i1 ≤ 12 * nl + md0 := hi12
  have hcy1 : cy ≤ 1 := hcy1
  have hcy : (cy = 1 ∧ cyK g nl i1) ∨ (cy = 0 ∧ ¬ cyK g nl i1) := hcy
  have hl : lv_has ls 4 [(3, .int (nI i1)), (1, .int (nI cy)), (2, .int 0), (0, .ref h)] := hl
  have hP : va_P D xcl (moW h mm kA v (va_up g 24 f1)) H := hP
  have hD : va_D A (moW h mm kA v (va_up g 24 f1)) := hD
  refine lv_iload_n hx hb xd_Mo_reason_12 rfl (lv_at hl 0 rfl) ?_
  refine lv_bipush (v := 12) hx hb xd_Mo_reason_13 (by decide) ?_
  refine lv_aload_n hx hb xd_Mo_reason_15 rfl (lv_at hl 3 rfl) ?_
  refine va_get (D := D) (ci := 4) (v := .int (v 5)) (C := xR_Mo) (T := xT_Mo) (N := 31) hx hb hT xi_Mo hown hK.1 hP 0 rfl rfl 23 (by decide) (hT _ k4o_0) (fun _ h9 => h9) rfl xd_Mo_reason_16 ?_
  refine xn_top (x := (v 5)) (y := nI nl) hnl ?_
  refine lv_imul hx hb xd_Mo_reason_19 ?_
  refine xn_top (y := nI (12 * nl)) (pk_mul 12 nl) ?_
  refine lv_aload_n hx hb xd_Mo_reason_20 rfl (lv_at hl 3 rfl) ?_
  refine va_get (D := D) (ci := 4) (v := .ref (mm 20)) (C := xR_Mo) (T := xT_Mo) (N := 31) hx hb hT xi_Mo hown hK.1 hP 0 rfl rfl 26 (by decide) (hT _ k4o_1) (fun _ h9 => h9) rfl xd_Mo_reason_21 ?_
  refine lv_aload_n hx hb xd_Mo_reason_24 rfl (lv_at hl 3 rfl) ?_
  refine va_get (D := D) (ci := 4) (v := .int (v 5)) (C := xR_Mo) (T := xT_Mo) (N := 31) hx hb hT xi_Mo hown hK.1 hP 0 rfl rfl 23 (by decide) (hT _ k4o_0) (fun _ h9 => h9) rfl xd_Mo_reason_25 ?_
  refine xn_top (x := (v 5)) (y := nI nl) hnl ?_
  refine xn_iald (i := nl) hx hb hK.1 hP 21 0 rfl rfl (by omega) (by decide) xd_Mo_reason_28 ?_
  refine xn_top (x := (g 20 nl)) (y := nI md0) hmd0 ?_
  refine lv_iadd hx hb xd_Mo_reason_29 ?_
  refine xn_top (y := nI ((12 * nl) + md0)) (nI_add (12 * nl) md0) ?_
  refine xn_ge (a := i1) (b := (12 * nl) + md0) (tgt := 62) hx hb xd_Mo_reason_30 (by decide) (by omega) (by omega) (fun hc2 => ?_) (fun hc2 => ?_)
  · refine lv_bipush (v := 12) hx hb xd_Mo_reason_62 (by decide) ?_
    refine lv_aload_n hx hb xd_Mo_reason_64 rfl (lv_at hl 3 rfl) ?_
    refine va_get (D := D) (ci := 4) (v := .int (v 5)) (C := xR_Mo) (T := xT_Mo) (N := 31) hx hb hT xi_Mo hown hK.1 hP 0 rfl rfl 23 (by decide) (hT _ k4o_0) (fun _ h9 => h9) rfl xd_Mo_reason_65 ?_
    refine xn_top (x := (v 5)) (y := nI nl) hnl ?_
    refine lv_imul hx hb xd_Mo_reason_68 ?_
    refine xn_top (y := nI (12 * nl)) (pk_mul 12 nl) ?_
    refine lv_istore_n hx hb xd_Mo_reason_69 rfl hl (Nat.le_of_ble_eq_true rfl) rfl (fun ls hl => ?_)
    have hl : lv_has ls 4 [(3, .int (nI (12 * nl))), (1, .int (nI cy)), (2, .int 0), (0, .ref h)] := hl
    refine xlab (σ := Nat × Nat × (Nat → Int32)) (ml := 4) 70 (fun (i2, sp, f2) => [(3, .int (nI i2)), (2, .int (nI sp)), (1, .int (nI cy)), (0, .ref h)]) (fun (i2, sp, f2) => []) (fun (i2, sp, f2) => moW h mm kA v (va_up g 24 f2)) (fun (i2, sp, f2) => (12 * nl ≤ i2) ∧ (i2 ≤ 12 * nl + md0) ∧ (sp ≤ 1) ∧ ((sp = 1 ∧ spK g nl i2) ∨ (sp = 0 ∧ ¬ spK g nl i2))) (fun (i2, sp, f2) => 12 * nl + md0 - i2) ?_ (12 * nl, 0, f1) _ _ _ (lv_sub hl [0, 2, 1, 3] rfl) hP hD hS ⟨(show 12 * nl ≤ (12 * nl) from by first | assumption | omega), (show (12 * nl) ≤ 12 * nl + md0 from by first | assumption | omega), (show 0 ≤ 1 from by first | assumption | omega), (show (0 = 1 ∧ spK g nl (12 * nl)) ∨ (0 = 0 ∧ ¬ spK g nl (12 * nl)) from Or.inr ⟨rfl, fun ⟨j, h1, h2, _⟩ => absurd h2 (by omega)⟩)⟩
    intro n9 ih3 a9 ls H locs hμ hl hP hD hS hI
    subst hμ
    obtain ⟨i2, sp, f2⟩ := a9
    obtain ⟨hi21, hi22, hsp1, hsp⟩ := hI
    have hi21 : 12 * nl ≤ i2 := hi21
    have hi22 : i2 ≤ 12 * nl + md0 := hi22
    have hsp1 : sp ≤ 1 := hsp1
    have hsp : (sp = 1 ∧ spK g nl i2) ∨ (sp = 0 ∧ ¬ spK g nl i2) := hsp
    have hl : lv_has ls 4 [(3, .int (nI i2)), (2, .int (nI sp)), (1, .int (nI cy)), (0, .ref h)] := hl
    have hP : va_P D xcl (moW h mm kA v (va_up g 24 f2)) H := hP
    have hD : va_D A (moW h mm kA v (va_up g 24 f2)) := hD
    refine lv_iload_n hx hb xd_Mo_reason_70 rfl (lv_at hl 0 rfl) ?_
    refine lv_bipush (v := 12) hx hb xd_Mo_reason_71 (by decide) ?_
    refine lv_aload_n hx hb xd_Mo_reason_73 rfl (lv_at hl 3 rfl) ?_
    refine va_get (D := D) (ci := 4) (v := .int (v 5)) (C := xR_Mo) (T := xT_Mo) (N := 31) hx hb hT xi_Mo hown hK.1 hP 0 rfl rfl 23 (by decide) (hT _ k4o_0) (fun _ h9 => h9) rfl xd_Mo_reason_74 ?_
    refine xn_top (x := (v 5)) (y := nI nl) hnl ?_
    refine lv_imul hx hb xd_Mo_reason_77 ?_
    refine xn_top (y := nI (12 * nl)) (pk_mul 12 nl) ?_
    refine lv_aload_n hx hb xd_Mo_reason_78 rfl (lv_at hl 3 rfl) ?_
    refine va_get (D := D) (ci := 4) (v := .ref (mm 20)) (C := xR_Mo) (T := xT_Mo) (N := 31) hx hb hT xi_Mo hown hK.1 hP 0 rfl rfl 26 (by decide) (hT _ k4o_1) (fun _ h9 => h9) rfl xd_Mo_reason_79 ?_
    refine lv_aload_n hx hb xd_Mo_reason_82 rfl (lv_at hl 3 rfl) ?_
    refine va_get (D := D) (ci := 4) (v := .int (v 5)) (C := xR_Mo) (T := xT_Mo) (N := 31) hx hb hT xi_Mo hown hK.1 hP 0 rfl rfl 23 (by decide) (hT _ k4o_0) (fun _ h9 => h9) rfl xd_Mo_reason_83 ?_
    refine xn_top (x := (v 5)) (y := nI nl) hnl ?_
    refine xn_iald (i := nl) hx hb hK.1 hP 21 0 rfl rfl (by omega) (by decide) xd_Mo_reason_86 ?_
    refine xn_top (x := (g 20 nl)) (y := nI md0) hmd0 ?_
    refine lv_iadd hx hb xd_Mo_reason_87 ?_
    refine xn_top (y := nI ((12 * nl) + md0)) (nI_add (12 * nl) md0) ?_
    refine xn_ge (a := i2) (b := (12 * nl) + md0) (tgt := 128) hx hb xd_Mo_reason_88 (by decide) (by omega) (by omega) (fun hc4 => ?_) (fun hc4 => ?_)
    · refine lv_iload_n hx hb xd_Mo_reason_128 rfl (lv_at hl 2 rfl) ?_
      refine xz_eq (a := cy) (tgt := 136) hx hb xd_Mo_reason_129 (by decide) (by omega) (fun hc5 => ?_) (fun hc5 => ?_)
      · refine lv_iload_n hx hb xd_Mo_reason_136 rfl (lv_at hl 1 rfl) ?_
        refine xz_eq (a := sp) (tgt := 144) hx hb xd_Mo_reason_137 (by decide) (by omega) (fun hc6 => ?_) (fun hc6 => ?_)
        · refine lv_aload_n hx hb xd_Mo_reason_144 rfl (lv_at hl 3 rfl) ?_
          refine va_get (D := D) (ci := 4) (v := .int (v 5)) (C := xR_Mo) (T := xT_Mo) (N := 31) hx hb hT xi_Mo hown hK.1 hP 0 rfl rfl 23 (by decide) (hT _ k4o_0) (fun _ h9 => h9) rfl xd_Mo_reason_145 ?_
          refine xn_top (x := (v 5)) (y := nI nl) hnl ?_
          refine lv_iconst (v := 5) hx hb xd_Mo_reason_148 (by decide) ?_
          refine xn_ne (a := nl) (b := 5) (tgt := 156) hx hb xd_Mo_reason_149 (by decide) (by omega) (by omega) (fun hc7 => ?_) (fun hc7 => ?_)
          · refine lv_iconst (v := 0) hx hb xd_Mo_reason_156 (by decide) ?_
            exact W.iret (v := 0) hx hb hr (fun t ht hW => ⟨⟨0, (v, (va_up g 24 f2)), rfl, ⟨rfl, fun j h1 => by simp [va_up, h1], (by
        unfold rsW
        rw [cif_neg (fun z => by
          have z2 := cyK_all.mpr z
          rw [← show i1 = 12 * nl + md0 by omega] at z2
          rcases hcy with ⟨q, _⟩ | ⟨_, q⟩
          · omega
          · exact q z2), cif_neg (fun z => by
          have z2 := spK_all.mpr z
          rw [← show i2 = 12 * nl + md0 by omega] at z2
          rcases hsp with ⟨q, _⟩ | ⟨_, q⟩
          · omega
          · exact q z2), cif_neg (show ¬ nl = 5 by omega)]
        rfl)⟩, by rw [ht]; exact hP, hD⟩, hS.F ht⟩) hS.2.2 xd_Mo_reason_157
          · refine lv_iconst (v := 3) hx hb xd_Mo_reason_152 (by decide) ?_
            refine lv_goto (tgt := 157) hx hb xd_Mo_reason_153 (by decide) ?_
            exact W.iret (v := 3) hx hb hr (fun t ht hW => ⟨⟨3, (v, (va_up g 24 f2)), rfl, ⟨rfl, fun j h1 => by simp [va_up, h1], (by
        unfold rsW
        rw [cif_neg (fun z => by
          have z2 := cyK_all.mpr z
          rw [← show i1 = 12 * nl + md0 by omega] at z2
          rcases hcy with ⟨q, _⟩ | ⟨_, q⟩
          · omega
          · exact q z2), cif_neg (fun z => by
          have z2 := spK_all.mpr z
          rw [← show i2 = 12 * nl + md0 by omega] at z2
          rcases hsp with ⟨q, _⟩ | ⟨_, q⟩
          · omega
          · exact q z2), cif_pos (show nl = 5 by omega)]
        rfl)⟩, by rw [ht]; exact hP, hD⟩, hS.F ht⟩) hS.2.2 xd_Mo_reason_157
        · refine lv_iconst (v := 2) hx hb xd_Mo_reason_140 (by decide) ?_
          refine lv_goto (tgt := 157) hx hb xd_Mo_reason_141 (by decide) ?_
          exact W.iret (v := 2) hx hb hr (fun t ht hW => ⟨⟨2, (v, (va_up g 24 f2)), rfl, ⟨rfl, fun j h1 => by simp [va_up, h1], (by
        unfold rsW
        rw [cif_neg (fun z => by
          have z2 := cyK_all.mpr z
          rw [← show i1 = 12 * nl + md0 by omega] at z2
          rcases hcy with ⟨q, _⟩ | ⟨_, q⟩
          · omega
          · exact q z2), cif_pos (spK_all.mp (by rw [← show i2 = 12 * nl + md0 by omega]; rcases hsp with ⟨_, q⟩ | ⟨q, _⟩; exact q; omega))]
        rfl)⟩, by rw [ht]; exact hP, hD⟩, hS.F ht⟩) hS.2.2 xd_Mo_reason_157
      · refine lv_iconst (v := 1) hx hb xd_Mo_reason_132 (by decide) ?_
        refine lv_goto (tgt := 157) hx hb xd_Mo_reason_133 (by decide) ?_
        exact W.iret (v := 1) hx hb hr (fun t ht hW => ⟨⟨1, (v, (va_up g 24 f2)), rfl, ⟨rfl, fun j h1 => by simp [va_up, h1], (by
        unfold rsW
        rw [cif_pos (cyK_all.mp (by rw [← show i1 = 12 * nl + md0 by omega]; rcases hcy with ⟨_, q⟩ | ⟨q, _⟩; exact q; omega))]
        rfl)⟩, by rw [ht]; exact hP, hD⟩, hS.F ht⟩) hS.2.2 xd_Mo_reason_157
    · refine lv_iload_n hx hb xd_Mo_reason_91 rfl (lv_at hl 2 rfl) ?_
      refine xz_ne (a := cy) (tgt := 128) hx hb xd_Mo_reason_92 (by decide) (by omega) (fun hc8 => ?_) (fun hc8 => ?_)
      · refine lv_iload_n hx hb xd_Mo_reason_128 rfl (lv_at hl 2 rfl) ?_
        refine xz_eq (a := cy) (tgt := 136) hx hb xd_Mo_reason_129 (by decide) (by omega) (fun hc9 => ?_) (fun hc9 => ?_)
        · refine lv_iload_n hx hb xd_Mo_reason_136 rfl (lv_at hl 1 rfl) ?_
          refine xz_eq (a := sp) (tgt := 144) hx hb xd_Mo_reason_137 (by decide) (by omega) (fun hc10 => ?_) (fun hc10 => ?_)
          · refine lv_aload_n hx hb xd_Mo_reason_144 rfl (lv_at hl 3 rfl) ?_
            refine va_get (D := D) (ci := 4) (v := .int (v 5)) (C := xR_Mo) (T := xT_Mo) (N := 31) hx hb hT xi_Mo hown hK.1 hP 0 rfl rfl 23 (by decide) (hT _ k4o_0) (fun _ h9 => h9) rfl xd_Mo_reason_145 ?_
            refine xn_top (x := (v 5)) (y := nI nl) hnl ?_
            refine lv_iconst (v := 5) hx hb xd_Mo_reason_148 (by decide) ?_
            refine xn_ne (a := nl) (b := 5) (tgt := 156) hx hb xd_Mo_reason_149 (by decide) (by omega) (by omega) (fun hc11 => ?_) (fun hc11 => ?_)
            · refine lv_iconst (v := 0) hx hb xd_Mo_reason_156 (by decide) ?_
              exact W.iret (v := 0) hx hb hr (fun t ht hW => ⟨⟨0, (v, (va_up g 24 f2)), rfl, ⟨rfl, fun j h1 => by simp [va_up, h1], (by
        unfold rsW
        rw [cif_neg (fun z => by
          have z2 := cyK_all.mpr z
          rw [← show i1 = 12 * nl + md0 by omega] at z2
          rcases hcy with ⟨q, _⟩ | ⟨_, q⟩
          · omega
          · exact q z2), cif_neg (fun z => by
          have z2 := spK_all.mpr z
          rw [← show i2 = 12 * nl + md0 by omega] at z2
          rcases hsp with ⟨q, _⟩ | ⟨_, q⟩
          · omega
          · exact q z2), cif_neg (show ¬ nl = 5 by omega)]
        rfl)⟩, by rw [ht]; exact hP, hD⟩, hS.F ht⟩) hS.2.2 xd_Mo_reason_157
            · refine lv_iconst (v := 3) hx hb xd_Mo_reason_152 (by decide) ?_
              refine lv_goto (tgt := 157) hx hb xd_Mo_reason_153 (by decide) ?_
              exact W.iret (v := 3) hx hb hr (fun t ht hW => ⟨⟨3, (v, (va_up g 24 f2)), rfl, ⟨rfl, fun j h1 => by simp [va_up, h1], (by
        unfold rsW
        rw [cif_neg (fun z => by
          have z2 := cyK_all.mpr z
          rw [← show i1 = 12 * nl + md0 by omega] at z2
          rcases hcy with ⟨q, _⟩ | ⟨_, q⟩
          · omega
          · exact q z2), cif_neg (fun z => by
          have z2 := spK_all.mpr z
          rw [← show i2 = 12 * nl + md0 by omega] at z2
          rcases hsp with ⟨q, _⟩ | ⟨_, q⟩
          · omega
          · exact q z2), cif_pos (show nl = 5 by omega)]
        rfl)⟩, by rw [ht]; exact hP, hD⟩, hS.F ht⟩) hS.2.2 xd_Mo_reason_157
          · refine lv_iconst (v := 2) hx hb xd_Mo_reason_140 (by decide) ?_
            refine lv_goto (tgt := 157) hx hb xd_Mo_reason_141 (by decide) ?_
            exact W.iret (v := 2) hx hb hr (fun t ht hW => ⟨⟨2, (v, (va_up g 24 f2)), rfl, ⟨rfl, fun j h1 => by simp [va_up, h1], (by
        unfold rsW
        rw [cif_neg (fun z => by
          have z2 := cyK_all.mpr z
          rw [← show i1 = 12 * nl + md0 by omega] at z2
          rcases hcy with ⟨q, _⟩ | ⟨_, q⟩
          · omega
          · exact q z2), cif_pos (spK_all.mp (by rw [← show i2 = 12 * nl + md0 by omega]; rcases hsp with ⟨_, q⟩ | ⟨q, _⟩; exact q; omega))]
        rfl)⟩, by rw [ht]; exact hP, hD⟩, hS.F ht⟩) hS.2.2 xd_Mo_reason_157
        · refine lv_iconst (v := 1) hx hb xd_Mo_reason_132 (by decide) ?_
          refine lv_goto (tgt := 157) hx hb xd_Mo_reason_133 (by decide) ?_
          exact W.iret (v := 1) hx hb hr (fun t ht hW => ⟨⟨1, (v, (va_up g 24 f2)), rfl, ⟨rfl, fun j h1 => by simp [va_up, h1], (by
        unfold rsW
        rw [cif_pos (cyK_all.mp (by rw [← show i1 = 12 * nl + md0 by omega]; rcases hcy with ⟨_, q⟩ | ⟨q, _⟩; exact q; omega))]
        rfl)⟩, by rw [ht]; exact hP, hD⟩, hS.F ht⟩) hS.2.2 xd_Mo_reason_157
      · refine lv_iload_n hx hb xd_Mo_reason_95 rfl (lv_at hl 1 rfl) ?_
        refine xz_ne (a := sp) (tgt := 116) hx hb xd_Mo_reason_96 (by decide) (by omega) (fun hc12 => ?_) (fun hc12 => ?_)
        · refine lv_iconst (v := 1) hx hb xd_Mo_reason_116 (by decide) ?_
          refine lv_goto (tgt := 121) hx hb xd_Mo_reason_117 (by decide) ?_
          refine lv_istore_n hx hb xd_Mo_reason_121 rfl hl (Nat.le_of_ble_eq_true rfl) rfl (fun ls hl => ?_)
          have hl : lv_has ls 4 [(2, .int 1), (3, .int (nI i2)), (1, .int (nI cy)), (0, .ref h)] := hl
          refine lv_iinc (k := 1) (x := (nI i2)) (v := (nI (i2 + 1))) hx hb xd_Mo_reason_122 hl rfl (xb_inc i2 1) (Nat.le_of_ble_eq_true rfl) rfl (fun ls hl => ?_)
          have hl : lv_has ls 4 [(3, .int (nI (i2 + 1))), (2, .int 1), (1, .int (nI cy)), (0, .ref h)] := hl
          refine lv_goto (tgt := 70) hx hb xd_Mo_reason_125 (by decide) ?_
          exact ih3 (i2 + 1, 1, f2) _ _ _ (show 12 * nl + md0 - (i2 + 1) < 12 * nl + md0 - i2 by omega) (lv_sub hl [0, 1, 2, 3] rfl) hP hD hS ⟨(show 12 * nl ≤ (i2 + 1) from by first | assumption | omega), (show (i2 + 1) ≤ 12 * nl + md0 from by first | assumption | omega), (show 1 ≤ 1 from by first | assumption | omega), (show (1 = 1 ∧ spK g nl (i2 + 1)) ∨ (1 = 0 ∧ ¬ spK g nl (i2 + 1)) from by
        rcases hsp with ⟨_, j, q1, q2, q3⟩ | ⟨q, _⟩
        · exact Or.inl ⟨rfl, j, q1, by omega, q3⟩
        · omega)⟩
        · refine lv_aload_n hx hb xd_Mo_reason_99 rfl (lv_at hl 3 rfl) ?_
          refine lv_aload_n hx hb xd_Mo_reason_100 rfl (lv_at hl 3 rfl) ?_
          refine va_get (D := D) (ci := 4) (v := .int (v 5)) (C := xR_Mo) (T := xT_Mo) (N := 31) hx hb hT xi_Mo hown hK.1 hP 0 rfl rfl 23 (by decide) (hT _ k4o_0) (fun _ h9 => h9) rfl xd_Mo_reason_101 ?_
          refine xn_top (x := (v 5)) (y := nI nl) hnl ?_
          refine lv_aload_n hx hb xd_Mo_reason_104 rfl (lv_at hl 3 rfl) ?_
          refine va_get (D := D) (ci := 4) (v := .ref (mm 21)) (C := xR_Mo) (T := xT_Mo) (N := 31) hx hb hT xi_Mo hown hK.1 hP 0 rfl rfl 27 (by decide) (hT _ k4o_2) (fun _ h9 => h9) rfl xd_Mo_reason_105 ?_
          refine lv_iload_n hx hb xd_Mo_reason_108 rfl (lv_at hl 0 rfl) ?_
          refine xn_iald (i := i2) hx hb hK.1 hP 22 0 rfl rfl (by omega) (by decide) xd_Mo_reason_109 ?_
          obtain ⟨k13, hk14, ek15⟩ := hent2 i2 (by omega) (by omega)
          refine xn_top (x := (g 21 i2)) ek15 ?_
          have hFc := va_free (wc := (moW h mm kA v (va_up g 24 f2))) hD hS hA [0, 1, 2, 3, 4, 5, 6, 7, 8, 9, 10, 11, 12, 13, 14, 15, 16, 17, 18, 19, 20, 21, 22, 23, 24, 25] rfl
          refine va_calli (va_runV (As := [.int (nI nl), .int (nI k13)]) (rest := []) ⟨hx, hb, hml, hown, hT⟩ (xc_Mo_isSplitX l D kA H.size h mm v (va_up g 24 f2) nl k13 (nl + 1) (MI_g rfl rfl rfl rfl rfl rfl rfl rfl hMI) (by first | assumption | omega) hpn (by first | assumption | omega) (by first | assumption | omega)) (cwV 2 hT (wT_V k4o_4 k4o_5 k4o_6 k4o_7 k4o_3) rfl rfl rfl (by decide +kernel) ⟨Nat.le_of_ble_eq_true rfl, Nat.le_of_ble_eq_true rfl⟩) (x_preV hK hP hD 0 rfl rfl) rfl rfl hl.1 rfl (lv_room (Nat.le_of_ble_eq_true rfl)) xd_Mo_reason_110 ⟨Nat.le_of_ble_eq_true rfl, Nat.le_of_ble_eq_true rfl⟩) hS (fun q _ h => hFc q h) hFc (fun r16 u17 t H1 locs ht hvm hp18 hB hz1 hk1 hS => ?_)
          obtain ⟨hP1, hD1⟩ := hB
          rw [ht] at hP1
          have hD1 := hD1.weaken (fun _ _ _ h => hFc _ h)
          obtain ⟨v19, g20⟩ := u17
          generalize H1 = H at hP1 hS ⊢
          have hP := hP1
          have hD := hD1
          have hP : va_P D xcl (moW h mm kA v19 g20) H := hP
          have hD : va_D A (moW h mm kA v19 g20) := hD
          obtain ⟨hu9, hfr9, hsp9⟩ := hp18
          have hu9 : v = v19 := hu9.symm
          subst hu9
          obtain ⟨fs21, hge⟩ : ∃ z, g20 = va_up g 24 z := ⟨_, g24 (fun j h => (hfr9 j h).trans (by first | rfl | simp [va_up, h]))⟩
          subst hge
          have hP : va_P D xcl (moW h mm kA v (va_up g 24 fs21)) H := hP
          have hD : va_D A (moW h mm kA v (va_up g 24 fs21)) := hD
          have hsp9 : (r16 = 1 ∧ spQ g (rdQ g nl k13) k13) ∨ (r16 = 0 ∧ ¬ spQ g (rdQ g nl k13) k13) := hsp9
          refine lv_if_eq (tgt := 120) hx hb xd_Mo_reason_113 (by decide) (fun hc22 => ?_) (fun hc22 => ?_)
          · refine lv_iconst (v := 0) hx hb xd_Mo_reason_120 (by decide) ?_
            refine lv_istore_n hx hb xd_Mo_reason_121 rfl hl (Nat.le_of_ble_eq_true rfl) rfl (fun ls hl => ?_)
            have hl : lv_has ls 4 [(2, .int 0), (3, .int (nI i2)), (1, .int (nI cy)), (0, .ref h)] := hl
            refine lv_iinc (k := 1) (x := (nI i2)) (v := (nI (i2 + 1))) hx hb xd_Mo_reason_122 hl rfl (xb_inc i2 1) (Nat.le_of_ble_eq_true rfl) rfl (fun ls hl => ?_)
            have hl : lv_has ls 4 [(3, .int (nI (i2 + 1))), (2, .int 0), (1, .int (nI cy)), (0, .ref h)] := hl
            refine lv_goto (tgt := 70) hx hb xd_Mo_reason_125 (by decide) ?_
            exact ih3 (i2 + 1, 0, fs21) _ _ _ (show 12 * nl + md0 - (i2 + 1) < 12 * nl + md0 - i2 by omega) (lv_sub hl [0, 1, 2, 3] rfl) hP hD hS ⟨(show 12 * nl ≤ (i2 + 1) from by first | assumption | omega), (show (i2 + 1) ≤ 12 * nl + md0 from by first | assumption | omega), (show 0 ≤ 1 from by first | assumption | omega), (show (0 = 1 ∧ spK g nl (i2 + 1)) ∨ (0 = 0 ∧ ¬ spK g nl (i2 + 1)) from by
        rcases hsp with ⟨q, _⟩ | ⟨_, q⟩
        · omega
        refine Or.inr ⟨rfl, fun ⟨j, q1, q2, b, q4, q5, q6⟩ => ?_⟩
        rcases Nat.lt_or_ge j i2 with z | z
        · exact q ⟨j, q1, z, b, q4, q5, q6⟩
        · rw [show j = i2 by omega, ek15] at q4
          rw [← nI_inj (by omega) (by omega) q4] at q6
          exact (by rcases hsp9 with ⟨q, _⟩ | ⟨_, q⟩; exact absurd (q.symm.trans hc22) (by decide); exact q q6))⟩
          · refine lv_iconst (v := 1) hx hb xd_Mo_reason_116 (by decide) ?_
            refine lv_goto (tgt := 121) hx hb xd_Mo_reason_117 (by decide) ?_
            refine lv_istore_n hx hb xd_Mo_reason_121 rfl hl (Nat.le_of_ble_eq_true rfl) rfl (fun ls hl => ?_)
            have hl : lv_has ls 4 [(2, .int 1), (3, .int (nI i2)), (1, .int (nI cy)), (0, .ref h)] := hl
            refine lv_iinc (k := 1) (x := (nI i2)) (v := (nI (i2 + 1))) hx hb xd_Mo_reason_122 hl rfl (xb_inc i2 1) (Nat.le_of_ble_eq_true rfl) rfl (fun ls hl => ?_)
            have hl : lv_has ls 4 [(3, .int (nI (i2 + 1))), (2, .int 1), (1, .int (nI cy)), (0, .ref h)] := hl
            refine lv_goto (tgt := 70) hx hb xd_Mo_reason_125 (by decide) ?_
            exact ih3 (i2 + 1, 1, fs21) _ _ _ (show 12 * nl + md0 - (i2 + 1) < 12 * nl + md0 - i2 by omega) (lv_sub hl [0, 1, 2, 3] rfl) hP hD hS ⟨(show 12 * nl ≤ (i2 + 1) from by first | assumption | omega), (show (i2 + 1) ≤ 12 * nl + md0 from by first | assumption | omega), (show 1 ≤ 1 from by first | assumption | omega), (show (1 = 1 ∧ spK g nl (i2 + 1)) ∨ (1 = 0 ∧ ¬ spK g nl (i2 + 1)) from Or.inl ⟨rfl, i2, by omega, by omega, k13, ek15, hk14, (by rcases hsp9 with ⟨_, q⟩ | ⟨q, _⟩; exact q; exact absurd q hc22)⟩)⟩
  · refine lv_iload_n hx hb xd_Mo_reason_33 rfl (lv_at hl 1 rfl) ?_
    refine xz_ne (a := cy) (tgt := 50) hx hb xd_Mo_reason_34 (by decide) (by omega) (fun hc23 => ?_) (fun hc23 => ?_)
    · refine lv_iconst (v := 1) hx hb xd_Mo_reason_50 (by decide) ?_
      refine lv_goto (tgt := 55) hx hb xd_Mo_reason_51 (by decide) ?_
      refine lv_istore_n hx hb xd_Mo_reason_55 rfl hl (Nat.le_of_ble_eq_true rfl) rfl (fun ls hl => ?_)
      have hl : lv_has ls 4 [(1, .int 1), (3, .int (nI i1)), (2, .int 0), (0, .ref h)] := hl
      refine lv_iinc (k := 1) (x := (nI i1)) (v := (nI (i1 + 1))) hx hb xd_Mo_reason_56 hl rfl (xb_inc i1 1) (Nat.le_of_ble_eq_true rfl) rfl (fun ls hl => ?_)
      have hl : lv_has ls 4 [(3, .int (nI (i1 + 1))), (1, .int 1), (2, .int 0), (0, .ref h)] := hl
      refine lv_goto (tgt := 12) hx hb xd_Mo_reason_59 (by decide) ?_
      exact ih1 (i1 + 1, 1, f1) _ _ _ (show 12 * nl + md0 - (i1 + 1) < 12 * nl + md0 - i1 by omega) (lv_sub hl [0, 1, 2, 3] rfl) hP hD hS ⟨(show 12 * nl ≤ (i1 + 1) from by first | assumption | omega), (show (i1 + 1) ≤ 12 * nl + md0 from by first | assumption | omega), (show 1 ≤ 1 from by first | assumption | omega), (show (1 = 1 ∧ cyK g nl (i1 + 1)) ∨ (1 = 0 ∧ ¬ cyK g nl (i1 + 1)) from by
        rcases hcy with ⟨_, j, q1, q2, q3⟩ | ⟨q, _⟩
        · exact Or.inl ⟨rfl, j, q1, by omega, q3⟩
        · omega)⟩
    · refine lv_aload_n hx hb xd_Mo_reason_37 rfl (lv_at hl 3 rfl) ?_
      refine lv_aload_n hx hb xd_Mo_reason_38 rfl (lv_at hl 3 rfl) ?_
      refine va_get (D := D) (ci := 4) (v := .ref (mm 21)) (C := xR_Mo) (T := xT_Mo) (N := 31) hx hb hT xi_Mo hown hK.1 hP 0 rfl rfl 27 (by decide) (hT _ k4o_2) (fun _ h9 => h9) rfl xd_Mo_reason_39 ?_
      refine lv_iload_n hx hb xd_Mo_reason_42 rfl (lv_at hl 0 rfl) ?_
      refine xn_iald (i := i1) hx hb hK.1 hP 22 0 rfl rfl (by omega) (by decide) xd_Mo_reason_43 ?_
      obtain ⟨k24, hk25, ek26⟩ := hent2 i1 (by omega) (by omega)
      refine xn_top (x := (g 21 i1)) ek26 ?_
      have hFc := va_free (wc := (moW h mm kA v (va_up g 24 f1))) hD hS hA [0, 1, 2, 3, 4, 5, 6, 7, 8, 9, 10, 11, 12, 13, 14, 15, 16, 17, 18, 19, 20, 21, 22, 23, 24, 25] rfl
      refine va_calli (va_runV (As := [.int (nI k24)]) (rest := []) ⟨hx, hb, hml, hown, hT⟩ (xc_Mo_isCycleX l D kA H.size h mm v (va_up g 24 f1) k24 nl md0 (MI_g rfl rfl rfl rfl rfl rfl rfl rfl hMI) (by first | assumption | omega) (by first | assumption | omega) (by first | assumption | omega) (by first | assumption | omega) (by first | assumption | omega) (by first | assumption | omega) (⟨hk25, i1, hi11, by omega, ek26⟩)) (cwV 1 hT (wT_V k4o_9 k4o_10 k4o_11 k4o_7 k4o_8) rfl rfl rfl (by decide +kernel) ⟨Nat.le_of_ble_eq_true rfl, Nat.le_of_ble_eq_true rfl⟩) (x_preV hK hP hD 0 rfl rfl) rfl rfl hl.1 rfl (lv_room (Nat.le_of_ble_eq_true rfl)) xd_Mo_reason_44 ⟨Nat.le_of_ble_eq_true rfl, Nat.le_of_ble_eq_true rfl⟩) hS (fun q _ h => hFc q h) hFc (fun r27 u28 t H1 locs ht hvm hp29 hB hz1 hk1 hS => ?_)
      obtain ⟨hP1, hD1⟩ := hB
      rw [ht] at hP1
      have hD1 := hD1.weaken (fun _ _ _ h => hFc _ h)
      obtain ⟨v30, g31⟩ := u28
      generalize H1 = H at hP1 hS ⊢
      have hP := hP1
      have hD := hD1
      have hP : va_P D xcl (moW h mm kA v30 g31) H := hP
      have hD : va_D A (moW h mm kA v30 g31) := hD
      obtain ⟨hu9, hfr9, hcy9⟩ := hp29
      have hu9 : v = v30 := hu9.symm
      subst hu9
      obtain ⟨fs32, hge⟩ : ∃ z, g31 = va_up g 24 z := ⟨_, g24 (fun j h => (hfr9 j h).trans (by first | rfl | simp [va_up, h]))⟩
      subst hge
      have hP : va_P D xcl (moW h mm kA v (va_up g 24 fs32)) H := hP
      have hD : va_D A (moW h mm kA v (va_up g 24 fs32)) := hD
      have hcy9 : ¬ r27 = 0 ↔ tc (stp g nl) k24 k24 := hcy9
      refine lv_if_eq (tgt := 54) hx hb xd_Mo_reason_47 (by decide) (fun hc33 => ?_) (fun hc33 => ?_)
      · refine lv_iconst (v := 0) hx hb xd_Mo_reason_54 (by decide) ?_
        refine lv_istore_n hx hb xd_Mo_reason_55 rfl hl (Nat.le_of_ble_eq_true rfl) rfl (fun ls hl => ?_)
        have hl : lv_has ls 4 [(1, .int 0), (3, .int (nI i1)), (2, .int 0), (0, .ref h)] := hl
        refine lv_iinc (k := 1) (x := (nI i1)) (v := (nI (i1 + 1))) hx hb xd_Mo_reason_56 hl rfl (xb_inc i1 1) (Nat.le_of_ble_eq_true rfl) rfl (fun ls hl => ?_)
        have hl : lv_has ls 4 [(3, .int (nI (i1 + 1))), (1, .int 0), (2, .int 0), (0, .ref h)] := hl
        refine lv_goto (tgt := 12) hx hb xd_Mo_reason_59 (by decide) ?_
        exact ih1 (i1 + 1, 0, fs32) _ _ _ (show 12 * nl + md0 - (i1 + 1) < 12 * nl + md0 - i1 by omega) (lv_sub hl [0, 1, 2, 3] rfl) hP hD hS ⟨(show 12 * nl ≤ (i1 + 1) from by first | assumption | omega), (show (i1 + 1) ≤ 12 * nl + md0 from by first | assumption | omega), (show 0 ≤ 1 from by first | assumption | omega), (show (0 = 1 ∧ cyK g nl (i1 + 1)) ∨ (0 = 0 ∧ ¬ cyK g nl (i1 + 1)) from by
        rcases hcy with ⟨q, _⟩ | ⟨_, q⟩
        · omega
        refine Or.inr ⟨rfl, fun ⟨j, q1, q2, b, q4, q5, q6⟩ => ?_⟩
        rcases Nat.lt_or_ge j i1 with z | z
        · exact q ⟨j, q1, z, b, q4, q5, q6⟩
        · rw [show j = i1 by omega, ek26] at q4
          rw [← nI_inj (by omega) (by omega) q4] at q6
          exact absurd (hcy9.mpr q6) (fun z => z hc33))⟩
      · refine lv_iconst (v := 1) hx hb xd_Mo_reason_50 (by decide) ?_
        refine lv_goto (tgt := 55) hx hb xd_Mo_reason_51 (by decide) ?_
        refine lv_istore_n hx hb xd_Mo_reason_55 rfl hl (Nat.le_of_ble_eq_true rfl) rfl (fun ls hl => ?_)
        have hl : lv_has ls 4 [(1, .int 1), (3, .int (nI i1)), (2, .int 0), (0, .ref h)] := hl
        refine lv_iinc (k := 1) (x := (nI i1)) (v := (nI (i1 + 1))) hx hb xd_Mo_reason_56 hl rfl (xb_inc i1 1) (Nat.le_of_ble_eq_true rfl) rfl (fun ls hl => ?_)
        have hl : lv_has ls 4 [(3, .int (nI (i1 + 1))), (1, .int 1), (2, .int 0), (0, .ref h)] := hl
        refine lv_goto (tgt := 12) hx hb xd_Mo_reason_59 (by decide) ?_
        exact ih1 (i1 + 1, 1, fs32) _ _ _ (show 12 * nl + md0 - (i1 + 1) < 12 * nl + md0 - i1 by omega) (lv_sub hl [0, 1, 2, 3] rfl) hP hD hS ⟨(show 12 * nl ≤ (i1 + 1) from by first | assumption | omega), (show (i1 + 1) ≤ 12 * nl + md0 from by first | assumption | omega), (show 1 ≤ 1 from by first | assumption | omega), (show (1 = 1 ∧ cyK g nl (i1 + 1)) ∨ (1 = 0 ∧ ¬ cyK g nl (i1 + 1)) from Or.inl ⟨rfl, i1, by omega, by omega, k24, ek26, hk25, hcy9.mp hc33⟩)⟩
def opP (g : gT) (nl : Nat) (ly : Int32) : Prop := ∃ la, la < nl ∧ ly = nI la ∧ ¬ g 22 la = 0
noncomputable def clF (nl : Nat) (g : gT) (ly : Int32) : gT := cif (opP g nl ly ∧ ∀ j, j < nl → ¬ g 22 j = 0 → ¬ g 19 j = ly) (va_up g 22 (upd (g 22) (iN ly) 0)) g
theorem clF_no {nl : Nat} {g : gT} {ly : Int32} (h : ¬ (opP g nl ly ∧ ∀ j, j < nl → ¬ g 22 j = 0 → ¬ g 19 j = ly)) : g = clF nl g ly := by unfold clF; rw [cif_neg h]
theorem clF_ok {nl la : Nat} {g : gT} {x : Int32} (hl : la < 100) (h : opP g nl (nI la)) (h2 : ∀ j, j < nl → ¬ g 22 j = 0 → ¬ g 19 j = nI la) (hx : x = 0) : va_up g 22 (upd (g 22) la x) = clF nl g (nI la) := by unfold clF; rw [cif_pos ⟨h, h2⟩, iN_nI (by omega), hx]
theorem lkG_row2 {g g1 : gT} {nl lq np : Nat} {n : Int32} (hnp : np ≤ 6) (hpar : ∀ la, la < np → ∃ lq, lq ≤ la ∧ g 19 la = nI lq - 1) (hlq : lq ≤ np) (hlq2 : lq ≤ nl) (h : RW g g1 nl) (h4 : g1 4 = g 4) (h19 : ∀ la, la < nl → g1 19 la = g 19 la) (hmd : ∀ la, la < 6 → ∃ k, k ≤ 12 ∧ g 20 la = nI k ∧ ∀ j, j < k → ∃ d, d < 12 ∧ g 21 (12 * la + j) = nI d) : lkG g1 lq n = lkG g lq n := by
  unfold lkG lkU
  refine lkf_same _ _ _ (Nat.le_refl _) (Nat.le_refl _) (fun la hla => prv_le hnp hpar la (by omega)) (fun la hla => ?_)
  obtain ⟨k, h1, h2, _⟩ := hmd la (by omega)
  obtain ⟨r1, r2⟩ := h la (by omega)
  refine ⟨by unfold mcv; rw [r1], by unfold prv; rw [h19 la (by omega)], fun j hj => ?_⟩
  unfold mcv at hj
  rw [h2, iN_nI (by omega)] at hj
  refine ⟨by unfold mdv; rw [r2 j (by omega)], by rw [h4]⟩
theorem adG_eq {g g1 : gT} {nd lq : Nat} {fi : Int32} (e3 : g1 3 = g 3) (e4 : g1 4 = g 4) (e12 : g1 12 = g 12) (e13 : g1 13 = g 13) (e17 : g1 17 = g 17) (hlk : ∀ n, lkG g1 lq n = lkG g lq n) : adG g1 nd fi lq = adG g nd fi lq := by
  have h1 : dsG g1 nd fi = dsG g nd fi := by funext n; unfold dsG; rw [e3, e4]
  have h2 : upG g1 lq = upG g lq := by funext n; unfold upG; rw [hlk]
  have h3 : rqG g1 = rqG g := by funext d; unfold rqG; rw [e12, e13, e17]
  unfold adG
  rw [h1, h2, h3]
theorem bUg_eq {g g1 : gT} {nd lq : Nat} {fi : Int32} (hA : adG g1 nd fi lq = adG g nd fi lq) (e3 : g1 3 = g 3) (e4 : g1 4 = g 4) (e14 : g1 14 = g 14) (e15 : g1 15 = g 15) : bUg g1 nd fi lq = bUg g nd fi lq := by
  have h1 : bSv g1 nd fi lq = bSv g nd fi lq := by
    funext sv L
    unfold bSv
    rw [hA, e4]
    have : okB g1 fi sv = okB g fi sv := by funext d; unfold okB gvP; rw [e3, e15]
    rw [this]
  funext d L
  unfold bUg
  rw [h1, e14]
theorem bR_same {U : Nat → List Nat → List Nat} {md md2 : Nat → Nat} : ∀ (m k : Nat) (L : List Nat), (∀ j, k ≤ j → j < k + m → md2 j = md j) → bR U md2 m k L = bR U md m k L
  | 0, _, _, _ => rfl
  | m + 1, k, L, h => by
    show bR U md2 m (k + 1) (U (md2 k) L) = bR U md m (k + 1) (U (md k) L)
    rw [h k (by omega) (by omega)]
    exact bR_same m (k + 1) _ (fun j h1 h2 => h j (by omega) (by omega))
theorem bA_same {U : Nat → List Nat → List Nat} {mc mc2 : Nat → Nat} {md md2 : Nat → Nat → Nat} {pr pr2 : Nat → Nat} : ∀ (f lq : Nat) (L : List Nat), lq ≤ f → (∀ la, la < lq → pr la ≤ la) → (∀ la, la < lq → mc2 la = mc la ∧ pr2 la = pr la ∧ ∀ k, k < mc la → md2 la k = md la k) → bA U mc2 md2 pr2 f lq L = bA U mc md pr f lq L
  | f, 0, L, _, _, _ => by rw [bA_0, bA_0]
  | 0, la + 1, _, h, _, _ => absurd h (by omega)
  | f + 1, la + 1, L, h1, hp, he => by
    obtain ⟨e1, e2, e3⟩ := he la (by omega)
    have hpl := hp la (by omega)
    show bA U mc2 md2 pr2 f (pr2 la) (bR U (md2 la) (mc2 la) 0 L) = bA U mc md pr f (pr la) (bR U (md la) (mc la) 0 L)
    rw [e1, e2, bR_same (mc la) 0 L (fun j _ h => e3 j (by omega))]
    exact bA_same f (pr la) _ (by omega) (fun x hx => hp x (by omega)) (fun x hx => he x (by omega))
theorem bAU_row {U : Nat → List Nat → List Nat} {g g1 : gT} {nl lq np : Nat} {L : List Nat} (hnp : np ≤ 6) (hpar : ∀ la, la < np → ∃ lq, lq ≤ la ∧ g 19 la = nI lq - 1) (hlq : lq ≤ np) (hlq2 : lq ≤ nl) (h : RW g g1 nl) (h19 : ∀ la, la < nl → g1 19 la = g 19 la) (hmd : ∀ la, la < 6 → ∃ k, k ≤ 12 ∧ g 20 la = nI k ∧ ∀ j, j < k → ∃ d, d < 12 ∧ g 21 (12 * la + j) = nI d) : bAU U g1 lq L = bAU U g lq L := by
  unfold bAU
  refine bA_same lq lq L (Nat.le_refl _) (fun la hla => prv_le hnp hpar la (by omega)) (fun la hla => ?_)
  obtain ⟨k, h1, h2, _⟩ := hmd la (by omega)
  obtain ⟨r1, r2⟩ := h la (by omega)
  refine ⟨by unfold mcv; rw [r1], by unfold prv; rw [h19 la (by omega)], fun j hj => ?_⟩
  unfold mcv at hj
  rw [h2, iN_nI (by omega)] at hj
  unfold mdv; rw [r2 j (by omega)]
theorem bIt_row {U : Nat → List Nat → List Nat} {g g1 : gT} {nl lq np : Nat} (hnp : np ≤ 6) (hpar : ∀ la, la < np → ∃ lq, lq ≤ la ∧ g 19 la = nI lq - 1) (hlq : lq ≤ np) (hlq2 : lq ≤ nl) (h : RW g g1 nl) (h19 : ∀ la, la < nl → g1 19 la = g 19 la) (hmd : ∀ la, la < 6 → ∃ k, k ≤ 12 ∧ g 20 la = nI k ∧ ∀ j, j < k → ∃ d, d < 12 ∧ g 21 (12 * la + j) = nI d) : ∀ (n : Nat) (L : List Nat), bIt U g1 lq n L = bIt U g lq n L
  | 0, _ => rfl
  | n + 1, L => by
    show bIt U g1 lq n (bO U g1 lq L) = bIt U g lq n (bO U g lq L)
    have e : bO U g1 lq L = bO U g lq L := by unfold bO; exact bAU_row hnp hpar hlq hlq2 h h19 hmd
    rw [e]; exact bIt_row hnp hpar hlq hlq2 h h19 hmd n _
noncomputable def nmL (t : Nat → Int32) (wl : List (Nat × Nat)) : Nat → Nat → List Int32
  | 0, _ => []
  | m + 1, i => wN t wl i :: nmL t wl m (i + 1)
theorem nmL_s {t : Nat → Int32} {wl : List (Nat × Nat)} {w : Nat} (h : w < wl.length) : nmL t wl (wl.length - w) w = wN t wl w :: nmL t wl (wl.length - (w + 1)) (w + 1) := by
  rw [show wl.length - w = wl.length - (w + 1) + 1 by omega]; rfl
theorem aF_t {F : List Nat → Int32 → Bool × List Nat} {L L2 : List Nat} {n : Int32} {S : List Int32} (h : F L n = (true, L2)) : aF F L (n :: S) = aF F L2 S := by
  conv => lhs; unfold aF
  rw [h]
theorem aF_f {F : List Nat → Int32 → Bool × List Nat} {L L2 : List Nat} {n : Int32} {S : List Int32} (h : F L n = (false, L2)) : aF F L (n :: S) = (false, L2) := by
  conv => lhs; unfold aF
  rw [h]
def ok1 (g : gT) (t : Nat → Int32) (wl : List (Nat × Nat)) (nl : Nat) (fi pa : Int32) : Prop := 1 ≤ wl.length ∧ wl.length ≤ 3 ∧ (∀ w, w < wl.length → ¬ wN t wl w = 0) ∧ (¬ fi < 0 ∧ ¬ 1 < fi) ∧ (pa = -1 ∨ opP g nl pa)
def SQ (g g2 : gT) (nl : Nat) : Prop := (∀ j, j ≠ 1 → j ≠ 2 → j ≠ 18 → j ≠ 19 → j ≠ 20 → j ≠ 21 → j ≠ 23 → j ≠ 24 → g2 j = g j) ∧ (∀ la, la < nl → g2 19 la = g 19 la) ∧ RW g g2 nl
def DT (g : gT) (nl lq : Nat) (L : List Nat) (gD : gT) : Prop := SQ g gD nl ∧ gD 19 nl = nI lq - 1 ∧ LT (gD 20) (gD 21) nl L
def NW (g : gT) (nl lq : Nat) (L : List Nat) (g2 : gT) : Prop := (∀ j, j ≠ 1 → j ≠ 2 → j ≠ 11 → j ≠ 18 → j ≠ 19 → j ≠ 20 → j ≠ 21 → j ≠ 22 → j ≠ 23 → j ≠ 24 → g2 j = g j) ∧ (∀ la, la < nl → g2 19 la = g 19 la) ∧ RW g g2 nl ∧ g2 19 nl = nI lq - 1 ∧ LT (g2 20) (g2 21) nl L ∧ (∀ d, g2 11 d = cif (d ∈ L) 1 (g 11 d)) ∧ g2 22 = upd (g 22) nl 1
def lyR (g : gT) (t : Nat → Int32) (wl : List (Nat × Nat)) (nd nl : Nat) (fi pa bi : Int32) (code why : Nat) (r u5 : Int32) (u2 : gT) : Prop :=
  (¬ ok1 g t wl nl fi pa ∧ code = 1 ∧ why = 0 ∧ u5 = nI nl ∧ SQ g u2 nl) ∨
  (ok1 g t wl nl fi pa ∧ (∃ Lx, aF (adG g nd fi (iN (pa + 1))) [] (nmL t wl wl.length 0) = (false, Lx)) ∧ code = 2 ∧ why = 0 ∧ u5 = nI nl ∧ SQ g u2 nl) ∨
  (ok1 g t wl nl fi pa ∧ ∃ L1 L gD, aF (adG g nd fi (iN (pa + 1))) [] (nmL t wl wl.length 0) = (true, L1) ∧ L = cif (¬ bi = 0) (bIt (bUg g nd fi (iN (pa + 1))) g (iN (pa + 1)) 13 L1) L1 ∧ GL nd L ∧ DT g nl (iN (pa + 1)) L gD ∧ why = rsW gD nl L.length ∧ ((¬ why = 0 ∧ code = 3 ∧ u5 = nI nl ∧ SQ g u2 nl) ∨ (why = 0 ∧ code = 0 ∧ r = nI nl ∧ u5 = nI (nl + 1) ∧ NW g nl (iN (pa + 1)) L u2)))
theorem lq_m1 : iN ((-1 : Int32) + 1) = 0 := by decide
theorem lq_la {la : Nat} (h : la < 100) : iN (nI la + 1) = la + 1 := by
  rw [show (1 : Int32) = nI 1 from rfl, nI_add, iN_nI (by omega)]
theorem lk11 {f f11 : Nat → Int32} {L : List Nat} {i b kn : Nat} (h1 : b ≤ i) (hk : kn = L.getD (i - b) 0) (h : ∀ d, f d = cif (∃ k, k < i - b ∧ L.getD k 0 = d) 1 (f11 d)) : ∀ d, upd f kn (vp_nar .boolean 1) d = cif (∃ k, k < i + 1 - b ∧ L.getD k 0 = d) 1 (f11 d) := fun d => by
  by_cases e : d = kn
  · rw [e, pk_us, cif_pos ⟨i - b, by omega, hk.symm⟩]; rfl
  · rw [pk_un e, h d]
    by_cases q : ∃ k, k < i - b ∧ L.getD k 0 = d
    · obtain ⟨k, q1, q2⟩ := id q
      rw [cif_pos q, cif_pos ⟨k, by omega, q2⟩]
    · rw [cif_neg q, cif_neg]
      intro ⟨k, q1, q2⟩
      rcases Nat.lt_or_ge k (i - b) with z | z
      · exact q ⟨k, z, q2⟩
      · exact e (by rw [hk, ← q2, show k = i - b by omega])
theorem lk11_end {f f11 : Nat → Int32} {L : List Nat} {n : Nat} (hn : n = L.length) (h : ∀ d, f d = cif (∃ k, k < n ∧ L.getD k 0 = d) 1 (f11 d)) : ∀ d, f d = cif (d ∈ L) 1 (f11 d) := fun d => by
  rw [h d]
  by_cases q : d ∈ L
  · obtain ⟨k, q1, q2⟩ := mem_getD q
    rw [cif_pos q, cif_pos ⟨k, by omega, q2⟩]
  · rw [cif_neg q, cif_neg]
    intro ⟨k, q1, q2⟩
    exact q (by rw [← q2]; exact getD_mem (by omega))
theorem k4p_0 : (Cond.fieldLink "LayerDeskModel" 150 "LayerDeskModel" "layers" "I") ∈ wT := wT_t (List.mem_append_right _ (List.mem_append_right _ (List.mem_append_right _ (List.mem_append_left _ (List.mem_of_getElem? (i := 107) rfl))))) rfl
theorem k4p_1 : (Cond.fieldLink "LayerDeskModel" 78 "LayerDeskModel" "open" "[Z") ∈ wT := wT_t (List.mem_append_right _ (List.mem_append_right _ (List.mem_append_right _ (List.mem_append_left _ (List.mem_of_getElem? (i := 112) rfl))))) rfl
theorem k4p_2 : (Cond.fieldLink "LayerDeskModel" 87 "LayerDeskModel" "fault" "I") ∈ wT := wT_t (List.mem_append_right _ (List.mem_append_right _ (List.mem_append_right _ (List.mem_append_left _ (List.mem_of_getElem? (i := 84) rfl))))) rfl
theorem k4p_3 : (Cond.code xy_Mo_isOpen xb_Mo_isOpen 2 (some .boolean)) ∈ wT := wT_t (List.mem_append_right _ (List.mem_append_right _ (List.mem_append_right _ (List.mem_append_right _ (List.mem_of_getElem? (i := 12) rfl))))) rfl
theorem k4p_4 : (Cond.methodLink "LayerDeskModel" 190 xy_Mo_isOpen) ∈ wT := wT_t (List.mem_append_right _ (List.mem_append_right _ (List.mem_append_right _ (List.mem_append_right _ (List.mem_of_getElem? (i := 9) rfl))))) rfl
theorem k4p_5 : (Cond.instanceMethod xy_Mo_isOpen) ∈ wT := wT_t (List.mem_append_right _ (List.mem_append_right _ (List.mem_append_right _ (List.mem_append_right _ (List.mem_of_getElem? (i := 11) rfl))))) rfl
theorem k4p_6 : (Cond.selects "LayerDeskModel" xy_Mo_isOpen xy_Mo_isOpen) ∈ wT := wT_s (q := (xy_Mo_isOpen, 31)) (by decide +kernel) rfl
theorem k4p_7 : (Cond.initialized "LayerDeskModel") ∈ wT := wT_t (List.mem_append_left _ (List.mem_of_getElem? (i := 5) rfl)) rfl
theorem k4p_8 : (Cond.fieldLink "LayerDeskModel" 69 "LayerDeskModel" "parent" "[I") ∈ wT := wT_t (List.mem_append_right _ (List.mem_append_right _ (List.mem_append_right _ (List.mem_append_left _ (List.mem_of_getElem? (i := 109) rfl))))) rfl
set_option maxHeartbeats 4000000 in
set_option maxRecDepth 100000 in
theorem xc_Mo_isOpenX (l : Launch) (D : va_G) (kA : Nat → ClassId) (sz h : Nat) (mm : Nat → Nat) (v : Nat → Int32) (g : Nat → Nat → Int32) (ly : Int32) (nl : Nat) (hnl : v 5 = nI nl) (hnl5 : nl ≤ 5) : Met l xy_Mo_isOpen (.code xy_Mo_isOpen xb_Mo_isOpen 2 (some .boolean) :: wT) { frames := 0, cells := 0, slots := 0, locals := 0 } (va_Pc [.ref h, .int ly] (xPre D kA sz (moW h mm kA v g))) (va_Qi (fun (r : Int32) (u : Unit) => (r = 0 ∧ ¬ opP g nl ly) ∨ (r = 1 ∧ opP g nl ly)) (fun (u : Unit) t => va_P D xcl (moW h mm kA v g) t.heap ∧ va_D (va_A (moW h mm kA v g) sz) (moW h mm kA v g)) (va_A (moW h mm kA v g) sz)) 0 0 (va_A (moW h mm kA v g) sz) := by
  refine Met.ofW (cc := xb_Mo_isOpen) (maxL := 2) (ret := (some .boolean)) (by decide) rfl ?_
  intro p e s m args below meth c s₁ B hml hv
  obtain ⟨rfl, hsz, hP, hK, hD0⟩ := hv
  have hx := B.exec
  have hb := B.bytes
  have hr := B.returns
  have hT := x_hT B.pre
  have hown : s.vm.findClass xR_Mo = some m.cls := findClass_of_methodNamed B.named
  have hlocks := B.notSynchronized
  subst hsz
  have hD := hD0.self (sz := s.heap.size)
  generalize hAe : va_A (moW h mm kA v g) s.heap.size = A at hD ⊢
  have hA : ∀ q : Nat, s.heap.size ≤ q → A q := fun q h => by rw [← hAe]; exact Or.inr h
  have hS : va_S A s.heap s.heap [] := va_S.rf
  have hl := lv_entry ([.ref h, .int ly]) (n := 2) (Nat.le_of_ble_eq_true rfl)
  rw [lg_entry_eq]
  generalize (lg_sl ([.ref h, .int ly]) ++ List.replicate (2 - (lg_sl ([.ref h, .int ly])).length) Slot.unset).toArray = ls at hl ⊢
  have hl : lv_has ls 2 [(0, .ref h), (1, .int ly)] := hl
  have hP : va_P D xcl (moW h mm kA v g) s.heap := hP
  refine lv_iload_n hx hb xd_Mo_isOpen_0 rfl (lv_at hl 1 rfl) ?_
  refine lv_if_lt (tgt := 25) hx hb xd_Mo_isOpen_1 (by decide) (fun hc1 => ?_) (fun hc1 => ?_)
  · refine lv_iconst (v := 0) hx hb xd_Mo_isOpen_25 (by decide) ?_
    exact W.zret (v := 0) hx hb hr rfl (fun t ht hW => ⟨⟨0, (), rfl, Or.inl ⟨rfl, fun ⟨la9, q1, q2, q3⟩ => absurd (show nI la9 < 0 by rw [← q2]; exact hc1) (nI_pos (by rw [xb_31]; omega))⟩, by rw [ht]; exact hP, hD⟩, hS.F ht⟩) hS.2.2 xd_Mo_isOpen_26
  · obtain ⟨la, hla31, hly⟩ := nI_of hc1
    rw [xb_31] at hla31
    rw [hly] at hl
    refine lv_iload_n hx hb xd_Mo_isOpen_4 rfl (lv_at hl 1 rfl) ?_
    refine lv_aload_n hx hb xd_Mo_isOpen_5 rfl (lv_at hl 0 rfl) ?_
    refine va_get (D := D) (ci := 4) (v := .int (v 5)) (C := xR_Mo) (T := xT_Mo) (N := 31) hx hb hT xi_Mo hown hK.1 hP 0 rfl rfl 23 (by decide) (hT _ k4p_0) (fun _ h9 => h9) rfl xd_Mo_isOpen_6 ?_
    refine xn_top (x := (v 5)) (y := nI nl) hnl ?_
    refine xn_ge (a := la) (b := nl) (tgt := 25) hx hb xd_Mo_isOpen_9 (by decide) (by omega) (by omega) (fun hc2 => ?_) (fun hc2 => ?_)
    · refine lv_iconst (v := 0) hx hb xd_Mo_isOpen_25 (by decide) ?_
      exact W.zret (v := 0) hx hb hr rfl (fun t ht hW => ⟨⟨0, (), rfl, Or.inl ⟨rfl, fun ⟨la9, q1, q2, q3⟩ => by rw [hly] at q2; have e9 := (nI_eq (by rw [xb_31]; omega) (by rw [xb_31]; omega)).mp q2; omega⟩, by rw [ht]; exact hP, hD⟩, hS.F ht⟩) hS.2.2 xd_Mo_isOpen_26
    · refine lv_aload_n hx hb xd_Mo_isOpen_12 rfl (lv_at hl 0 rfl) ?_
      refine va_get (D := D) (ci := 4) (v := .ref (mm 22)) (C := xR_Mo) (T := xT_Mo) (N := 31) hx hb hT xi_Mo hown hK.1 hP 0 rfl rfl 28 (by decide) (hT _ k4p_1) (fun _ h9 => h9) rfl xd_Mo_isOpen_13 ?_
      refine lv_iload_n hx hb xd_Mo_isOpen_16 rfl (lv_at hl 1 rfl) ?_
      refine xn_zald (i := la) hx hb hK.1 hP 23 2 rfl rfl (by omega) (by decide) xd_Mo_isOpen_17 ?_
      refine lv_if_eq (tgt := 25) hx hb xd_Mo_isOpen_18 (by decide) (fun hc3 => ?_) (fun hc3 => ?_)
      · refine lv_iconst (v := 0) hx hb xd_Mo_isOpen_25 (by decide) ?_
        exact W.zret (v := 0) hx hb hr rfl (fun t ht hW => ⟨⟨0, (), rfl, Or.inl ⟨rfl, fun ⟨la9, q1, q2, q3⟩ => by rw [hly] at q2; have e9 := (nI_eq (by rw [xb_31]; omega) (by rw [xb_31]; omega)).mp q2; rw [← e9] at q3; exact q3 hc3⟩, by rw [ht]; exact hP, hD⟩, hS.F ht⟩) hS.2.2 xd_Mo_isOpen_26
      · refine lv_iconst (v := 1) hx hb xd_Mo_isOpen_21 (by decide) ?_
        refine lv_goto (tgt := 26) hx hb xd_Mo_isOpen_22 (by decide) ?_
        exact W.zret (v := 1) hx hb hr rfl (fun t ht hW => ⟨⟨1, (), rfl, Or.inr ⟨rfl, la, by omega, hly, hc3⟩, by rw [ht]; exact hP, hD⟩, hS.F ht⟩) hS.2.2 xd_Mo_isOpen_26
set_option maxHeartbeats 4000000 in
set_option maxRecDepth 100000 in
theorem xc_Mo_closeX (l : Launch) (D : va_G) (kA : Nat → ClassId) (sz h : Nat) (mm : Nat → Nat) (v : Nat → Int32) (g : Nat → Nat → Int32) (ly : Int32) (nl : Nat) (hMI : MI v g) (hnl : v 5 = nI nl) (hnl5 : nl ≤ 5) : Met l xy_Mo_close (.code xy_Mo_close xb_Mo_close 3 (some .boolean) :: wT) { frames := 1, cells := 0, slots := 0, locals := 21 } (va_Pc [.ref h, .int ly] (xPre D kA sz (moW h mm kA v g))) (va_Qi (fun (r : Int32) (u : (Nat → Int32) × (Nat → Nat → Int32)) => MI u.1 u.2 ∧ u.1 1 = v 1 ∧ u.1 2 = v 2 ∧ u.1 4 = v 4 ∧ u.1 5 = v 5 ∧ u.2 = clF nl g ly) (fun (u : (Nat → Int32) × (Nat → Nat → Int32)) t => va_P D xcl (moW h mm kA u.1 u.2) t.heap ∧ va_D (va_A (moW h mm kA v g) sz) (moW h mm kA u.1 u.2)) (va_A (moW h mm kA v g) sz)) 0 0 (va_A (moW h mm kA v g) sz) := by
  refine Met.ofW (cc := xb_Mo_close) (maxL := 3) (ret := (some .boolean)) (by decide) rfl ?_
  intro p e s m args below meth c s₁ B hml hv
  obtain ⟨rfl, hsz, hP, hK, hD0⟩ := hv
  have hx := B.exec
  have hb := B.bytes
  have hr := B.returns
  have hT := x_hT B.pre
  have hown : s.vm.findClass xR_Mo = some m.cls := findClass_of_methodNamed B.named
  have hlocks := B.notSynchronized
  subst hsz
  have hD := hD0.self (sz := s.heap.size)
  generalize hAe : va_A (moW h mm kA v g) s.heap.size = A at hD ⊢
  have hA : ∀ q : Nat, s.heap.size ≤ q → A q := fun q h => by rw [← hAe]; exact Or.inr h
  have hS : va_S A s.heap s.heap [] := va_S.rf
  have hl := lv_entry ([.ref h, .int ly]) (n := 3) (Nat.le_of_ble_eq_true rfl)
  rw [lg_entry_eq]
  generalize (lg_sl ([.ref h, .int ly]) ++ List.replicate (3 - (lg_sl ([.ref h, .int ly])).length) Slot.unset).toArray = ls at hl ⊢
  have hl : lv_has ls 3 [(0, .ref h), (1, .int ly)] := hl
  have hP : va_P D xcl (moW h mm kA v g) s.heap := hP
  refine lv_aload_n hx hb xd_Mo_close_0 rfl (lv_at hl 0 rfl) ?_
  refine lv_iconst (v := 0) hx hb xd_Mo_close_1 (by decide) ?_
  refine va_put (D := D) (ci := 4) (v := .int 0) (ty := .int) (C := xR_Mo) (T := xT_Mo) (N := 31) hx hb hT xi_Mo xt_Mo xt_Mo_ok xn_Mo hown hK.1 hP hD hS 0 rfl rfl 0 (by decide) (hT _ k4p_2) (fun _ h9 => h9) rfl (by decide +kernel) rfl rfl (Nat.le_of_ble_eq_true rfl) xd_Mo_close_2 (fun H locs hP hD hS => ?_)
  have hP : va_P D xcl (moW h mm kA (va_up v 0 0) g) H := hP
  have hD : va_D A (moW h mm kA (va_up v 0 0) g) := hD
  refine lv_aload_n hx hb xd_Mo_close_5 rfl (lv_at hl 0 rfl) ?_
  refine lv_iload_n hx hb xd_Mo_close_6 rfl (lv_at hl 1 rfl) ?_
  have hFc := va_free (wc := (moW h mm kA (va_up v 0 0) g)) hD hS hA [0, 1, 2, 3, 4, 5, 6, 7, 8, 9, 10, 11, 12, 13, 14, 15, 16, 17, 18, 19, 20, 21, 22, 23, 24, 25] rfl
  refine va_calli (va_runV (As := [.int ly]) (rest := []) ⟨hx, hb, hml, hown, hT⟩ (xc_Mo_isOpenX l D kA H.size h mm (va_up v 0 0) g ly nl (by first | assumption | omega) (by first | assumption | omega)) (cwV 1 hT (wT_V k4p_4 k4p_5 k4p_6 k4p_7 k4p_3) rfl rfl rfl (by decide +kernel) ⟨Nat.le_of_ble_eq_true rfl, Nat.le_of_ble_eq_true rfl⟩) (x_preV hK hP hD 0 rfl rfl) rfl rfl hl.1 rfl (lv_room (Nat.le_of_ble_eq_true rfl)) xd_Mo_close_7 ⟨Nat.le_of_ble_eq_true rfl, Nat.le_of_ble_eq_true rfl⟩) hS (fun q _ h => hFc q h) hFc (fun r1 u2 t H1 locs ht hvm hp3 hB hz1 hk1 hS => ?_)
  obtain ⟨hP1, hD1⟩ := hB
  rw [ht] at hP1
  have hD1 := hD1.weaken (fun _ _ _ h => hFc _ h)
  generalize H1 = H at hP1 hS ⊢
  have hP := hP1
  have hD := hD1
  have hP : va_P D xcl (moW h mm kA (va_up v 0 0) g) H := hP
  have hD : va_D A (moW h mm kA (va_up v 0 0) g) := hD
  rcases hp3 with ⟨rfl, z4⟩ | ⟨rfl, z5, z6, z7, z8⟩
  · refine xz_ne (a := 0) (tgt := 15) hx hb xd_Mo_close_10 (by decide) (by omega) (fun hc9 => absurd hc9 (by omega)) (fun _ => ?_)
    refine lv_iconst (v := 0) hx hb xd_Mo_close_13 (by decide) ?_
    exact W.zret (v := 0) hx hb hr rfl (fun t ht hW => ⟨⟨0, ((va_up v 0 0), g), rfl, ⟨MI_v rfl rfl hMI, rfl, rfl, rfl, rfl, clF_no (fun q => z4 q.1)⟩, by rw [ht]; exact hP, hD⟩, hS.F ht⟩) hS.2.2 xd_Mo_close_14
  · have hop9 : opP g nl ly := ⟨z5, z6, z7, z8⟩
    rw [z7] at hl
    have hl : lv_has ls 3 [(0, .ref h), (1, .int (nI z5))] := hl
    refine xz_ne (a := 1) (tgt := 15) hx hb xd_Mo_close_10 (by decide) (by omega) (fun _ => ?_) (fun hc10 => absurd hc10 (by omega))
    refine lv_iconst (v := 0) hx hb xd_Mo_close_15 (by decide) ?_
    refine lv_istore_n hx hb xd_Mo_close_16 rfl hl (Nat.le_of_ble_eq_true rfl) rfl (fun ls hl => ?_)
    have hl : lv_has ls 3 [(2, .int 0), (0, .ref h), (1, .int (nI z5))] := hl
    refine xlab (σ := Nat) (ml := 3) 17 (fun (i2 : Nat) => [(2, .int (nI i2)), (0, .ref h), (1, .int (nI z5))]) (fun (i2 : Nat) => []) (fun (i2 : Nat) => moW h mm kA (va_up v 0 0) g) (fun (i2 : Nat) => (i2 ≤ nl) ∧ (∀ j, j < i2 → ¬ g 22 j = 0 → ¬ g 19 j = nI z5)) (fun (i2 : Nat) => nl - i2) ?_ 0 _ _ _ (lv_sub hl [0, 1, 2] rfl) hP hD hS ⟨(show 0 ≤ nl from by first | assumption | omega), (show ∀ j, j < 0 → ¬ g 22 j = 0 → ¬ g 19 j = nI z5 from fun j hj => absurd hj (by omega))⟩
    intro n9 ih11 a9 ls H locs hμ hl hP hD hS hI
    subst hμ
    obtain ⟨i2, rfl⟩ : ∃ z, z = a9 := ⟨_, rfl⟩
    obtain ⟨hi2, hno⟩ := hI
    have hi2 : i2 ≤ nl := hi2
    have hno : ∀ j, j < i2 → ¬ g 22 j = 0 → ¬ g 19 j = nI z5 := hno
    have hl : lv_has ls 3 [(2, .int (nI i2)), (0, .ref h), (1, .int (nI z5))] := hl
    have hP : va_P D xcl (moW h mm kA (va_up v 0 0) g) H := hP
    have hD : va_D A (moW h mm kA (va_up v 0 0) g) := hD
    refine lv_iload_n hx hb xd_Mo_close_17 rfl (lv_at hl 0 rfl) ?_
    refine lv_aload_n hx hb xd_Mo_close_18 rfl (lv_at hl 1 rfl) ?_
    refine va_get (D := D) (ci := 4) (v := .int (v 5)) (C := xR_Mo) (T := xT_Mo) (N := 31) hx hb hT xi_Mo hown hK.1 hP 0 rfl rfl 23 (by decide) (hT _ k4p_0) (fun _ h9 => h9) rfl xd_Mo_close_19 ?_
    refine xn_top (x := (v 5)) (y := nI nl) hnl ?_
    refine xn_ge (a := i2) (b := nl) (tgt := 52) hx hb xd_Mo_close_22 (by decide) (by omega) (by omega) (fun hc12 => ?_) (fun hc12 => ?_)
    · refine lv_aload_n hx hb xd_Mo_close_52 rfl (lv_at hl 1 rfl) ?_
      refine va_get (D := D) (ci := 4) (v := .ref (mm 22)) (C := xR_Mo) (T := xT_Mo) (N := 31) hx hb hT xi_Mo hown hK.1 hP 0 rfl rfl 28 (by decide) (hT _ k4p_1) (fun _ h9 => h9) rfl xd_Mo_close_53 ?_
      refine lv_iload_n hx hb xd_Mo_close_56 rfl (lv_at hl 2 rfl) ?_
      refine lv_iconst (v := 0) hx hb xd_Mo_close_57 (by decide) ?_
      refine xn_zast (i := z5) hx hb hK.1 hP hD hS 23 2 rfl rfl (by omega) (by decide) xd_Mo_close_58 (fun H locs hP hD hS => ?_)
      have hP : va_P D xcl (moW h mm kA (va_up v 0 0) (va_up g 22 (upd (g 22) z5 (vp_nar .boolean 0)))) H := hP
      have hD : va_D A (moW h mm kA (va_up v 0 0) (va_up g 22 (upd (g 22) z5 (vp_nar .boolean 0)))) := hD
      refine lv_iconst (v := 1) hx hb xd_Mo_close_59 (by decide) ?_
      exact W.zret (v := 1) hx hb hr rfl (fun t ht hW => ⟨⟨1, ((va_up v 0 0), (va_up g 22 (upd (g 22) z5 (vp_nar .boolean 0)))), rfl, ⟨MI_g rfl rfl rfl rfl rfl rfl rfl rfl (MI_v rfl rfl hMI), rfl, rfl, rfl, rfl, by rw [z7]; exact clF_ok (by omega) ⟨z5, z6, rfl, z8⟩ (fun j hj q => hno j (by omega) q) rfl⟩, by rw [ht]; exact hP, hD⟩, hS.F ht⟩) hS.2.2 xd_Mo_close_60
    · refine lv_aload_n hx hb xd_Mo_close_25 rfl (lv_at hl 1 rfl) ?_
      refine va_get (D := D) (ci := 4) (v := .ref (mm 22)) (C := xR_Mo) (T := xT_Mo) (N := 31) hx hb hT xi_Mo hown hK.1 hP 0 rfl rfl 28 (by decide) (hT _ k4p_1) (fun _ h9 => h9) rfl xd_Mo_close_26 ?_
      refine lv_iload_n hx hb xd_Mo_close_29 rfl (lv_at hl 0 rfl) ?_
      refine xn_zald (i := i2) hx hb hK.1 hP 23 2 rfl rfl (by omega) (by decide) xd_Mo_close_30 ?_
      refine lv_if_eq (tgt := 46) hx hb xd_Mo_close_31 (by decide) (fun hc13 => ?_) (fun hc13 => ?_)
      · refine lv_iinc (k := 0) (x := (nI i2)) (v := (nI (i2 + 1))) hx hb xd_Mo_close_46 hl rfl (xb_inc i2 1) (Nat.le_of_ble_eq_true rfl) rfl (fun ls hl => ?_)
        have hl : lv_has ls 3 [(2, .int (nI (i2 + 1))), (0, .ref h), (1, .int (nI z5))] := hl
        refine lv_goto (tgt := 17) hx hb xd_Mo_close_49 (by decide) ?_
        exact ih11 (i2 + 1) _ _ _ (show nl - (i2 + 1) < nl - i2 by omega) (lv_sub hl [0, 1, 2] rfl) hP hD hS ⟨(show (i2 + 1) ≤ nl from by first | assumption | omega), (show ∀ j, j < (i2 + 1) → ¬ g 22 j = 0 → ¬ g 19 j = nI z5 from fun j hj q => by
        rcases Nat.lt_or_ge j i2 with z | z
        · exact hno j z q
        · rw [show j = i2 by omega] at q ⊢
          exact absurd hc13 q)⟩
      · refine lv_aload_n hx hb xd_Mo_close_34 rfl (lv_at hl 1 rfl) ?_
        refine va_get (D := D) (ci := 4) (v := .ref (mm 19)) (C := xR_Mo) (T := xT_Mo) (N := 31) hx hb hT xi_Mo hown hK.1 hP 0 rfl rfl 25 (by decide) (hT _ k4p_8) (fun _ h9 => h9) rfl xd_Mo_close_35 ?_
        refine lv_iload_n hx hb xd_Mo_close_38 rfl (lv_at hl 0 rfl) ?_
        refine xn_iald (i := i2) hx hb hK.1 hP 20 0 rfl rfl (by omega) (by decide) xd_Mo_close_39 ?_
        refine lv_iload_n hx hb xd_Mo_close_40 rfl (lv_at hl 2 rfl) ?_
        refine lv_icmp_ne (tgt := 46) hx hb xd_Mo_close_41 (by decide) (fun hc14 => ?_) (fun hc14 => ?_)
        · refine lv_iinc (k := 0) (x := (nI i2)) (v := (nI (i2 + 1))) hx hb xd_Mo_close_46 hl rfl (xb_inc i2 1) (Nat.le_of_ble_eq_true rfl) rfl (fun ls hl => ?_)
          have hl : lv_has ls 3 [(2, .int (nI (i2 + 1))), (0, .ref h), (1, .int (nI z5))] := hl
          refine lv_goto (tgt := 17) hx hb xd_Mo_close_49 (by decide) ?_
          exact ih11 (i2 + 1) _ _ _ (show nl - (i2 + 1) < nl - i2 by omega) (lv_sub hl [0, 1, 2] rfl) hP hD hS ⟨(show (i2 + 1) ≤ nl from by first | assumption | omega), (show ∀ j, j < (i2 + 1) → ¬ g 22 j = 0 → ¬ g 19 j = nI z5 from fun j hj q => by
        rcases Nat.lt_or_ge j i2 with z | z
        · exact hno j z q
        · rw [show j = i2 by omega] at q ⊢
          exact hc14)⟩
        · refine lv_iconst (v := 0) hx hb xd_Mo_close_44 (by decide) ?_
          exact W.zret (v := 0) hx hb hr rfl (fun t ht hW => ⟨⟨0, ((va_up v 0 0), g), rfl, ⟨MI_v rfl rfl hMI, rfl, rfl, rfl, rfl, clF_no (fun q => q.2 i2 (by omega) hc13 (by rw [z7]; exact hc14))⟩, by rw [ht]; exact hP, hD⟩, hS.F ht⟩) hS.2.2 xd_Mo_close_45
