theorem k4k_0 : (Cond.fieldLink "LayerDeskModel" 150 "LayerDeskModel" "layers" "I") ∈ wT := wT_t (List.mem_append_right _ (List.mem_append_right _ (List.mem_append_right _ (List.mem_append_left _ (List.mem_of_getElem? (i := 107) rfl))))) rfl
theorem k4k_1 : (Cond.fieldLink "LayerDeskModel" 72 "LayerDeskModel" "modules" "[I") ∈ wT := wT_t (List.mem_append_right _ (List.mem_append_right _ (List.mem_append_right _ (List.mem_append_left _ (List.mem_of_getElem? (i := 110) rfl))))) rfl
theorem k4k_2 : (Cond.fieldLink "LayerDeskModel" 69 "LayerDeskModel" "parent" "[I") ∈ wT := wT_t (List.mem_append_right _ (List.mem_append_right _ (List.mem_append_right _ (List.mem_append_left _ (List.mem_of_getElem? (i := 109) rfl))))) rfl
theorem k4k_3 : (Cond.fieldLink "LayerDeskModel" 75 "LayerDeskModel" "module" "[I") ∈ wT := wT_t (List.mem_append_right _ (List.mem_append_right _ (List.mem_append_right _ (List.mem_append_left _ (List.mem_of_getElem? (i := 111) rfl))))) rfl
theorem k4k_4 : (Cond.code xy_Mo_bindsFor xb_Mo_bindsFor 9 (some .boolean)) ∈ wT := wT_t (List.mem_append_right _ (List.mem_append_right _ (List.mem_append_right _ (List.mem_append_right _ (List.mem_of_getElem? (i := 32) rfl))))) rfl
theorem k4k_5 : (Cond.methodLink "LayerDeskModel" 164 xy_Mo_bindsFor) ∈ wT := wT_t (List.mem_append_right _ (List.mem_append_right _ (List.mem_append_right _ (List.mem_append_right _ (List.mem_of_getElem? (i := 29) rfl))))) rfl
theorem k4k_6 : (Cond.instanceMethod xy_Mo_bindsFor) ∈ wT := wT_t (List.mem_append_right _ (List.mem_append_right _ (List.mem_append_right _ (List.mem_append_right _ (List.mem_of_getElem? (i := 31) rfl))))) rfl
theorem k4k_7 : (Cond.selects "LayerDeskModel" xy_Mo_bindsFor xy_Mo_bindsFor) ∈ wT := wT_s (q := (xy_Mo_bindsFor, 31)) (by decide +kernel) rfl
theorem k4k_8 : (Cond.initialized "LayerDeskModel") ∈ wT := wT_t (List.mem_append_left _ (List.mem_of_getElem? (i := 5) rfl)) rfl
set_option maxHeartbeats 4000000 in
set_option maxRecDepth 100000 in
theorem xc_Mo_bindingX (l : Launch) (D : va_G) (kA : Nat → ClassId) (sz h : Nat) (mm : Nat → Nat) (v : Nat → Int32) (g : Nat → Nat → Int32) (nd : Nat) (nl : Nat) (lq : Nat) (L0 : List Nat) (hMI : MI v g) (hnd : v 4 = nI nd) (hnd12 : nd ≤ 12) (hnl : v 5 = nI nl) (hnl5 : nl ≤ 5) (hpn : ∀ la, la < nl + 1 → ∃ lq, lq ≤ la ∧ g 19 la = nI lq - 1) (hlqe : g 19 nl = nI lq - 1) (hlqn : lq ≤ nl) (hLT : LT (g 20) (g 21) nl L0) (hGL : GL nd L0) : Met l xy_Mo_binding (.code xy_Mo_binding xb_Mo_binding 5 none :: wT) { frames := 3, cells := 0, slots := 0, locals := 77 } (va_Pc [.ref h] (xPre D kA sz (moW h mm kA v g))) (va_Qv (fun (u : (Nat → Int32) × (Nat → Nat → Int32)) => u.1 = v ∧ MI v u.2 ∧ (∀ j, j ≠ 20 → j ≠ 21 → j ≠ 23 → u.2 j = g j) ∧ RW g u.2 nl ∧ ∃ L1, GL nd L1 ∧ LT (u.2 20) (u.2 21) nl L1 ∧ bIt (bUg g nd (g 18 nl) lq) g lq 13 L0 = L1) (fun (u : (Nat → Int32) × (Nat → Nat → Int32)) t => va_P D xcl (moW h mm kA u.1 u.2) t.heap ∧ va_D (va_A (moW h mm kA v g) sz) (moW h mm kA u.1 u.2)) (va_A (moW h mm kA v g) sz)) 0 0 (va_A (moW h mm kA v g) sz) := by
  refine Met.ofW (cc := xb_Mo_binding) (maxL := 5) (ret := none) (by decide) rfl ?_
  intro p e s m args below meth c s₁ B hml hv
  obtain ⟨rfl, hsz, hP, hK, hD0⟩ := hv
  have hx := B.exec
  have hb := B.bytes
  have hr := B.returns
  have hT := x_hT B.pre
  have hown : s.vm.findClass xR_Mo = some m.cls := findClass_of_methodNamed B.named
  have hlocks := B.notSynchronized
  subst hsz
  have hD := hD0.self (sz := s.heap.size)
  generalize hAe : va_A (moW h mm kA v g) s.heap.size = A at hD ⊢
  have hA : ∀ q : Nat, s.heap.size ≤ q → A q := fun q h => by rw [← hAe]; exact Or.inr h
  have hS : va_S A s.heap s.heap [] := va_S.rf
  have hl := lv_entry ([.ref h]) (n := 5) (Nat.le_of_ble_eq_true rfl)
  rw [lg_entry_eq]
  generalize (lg_sl ([.ref h]) ++ List.replicate (5 - (lg_sl ([.ref h])).length) Slot.unset).toArray = ls at hl ⊢
  have hl : lv_has ls 5 [(0, .ref h)] := hl
  have hP : va_P D xcl (moW h mm kA v g) s.heap := hP
  obtain ⟨-, -, -, -, -, hmdg, huq⟩ := id hMI
  have hL0l := GL_len hGL
  refine lv_iconst (v := 1) hx hb xd_Mo_binding_0 (by decide) ?_
  refine lv_istore_n hx hb xd_Mo_binding_1 rfl hl (Nat.le_of_ble_eq_true rfl) rfl (fun ls hl => ?_)
  have hl : lv_has ls 5 [(1, .int 1), (0, .ref h)] := hl
  refine xlab (σ := Nat × List Nat × (Nat → Nat → Int32)) (ml := 5) 2 (fun (mr, L, g1) => [(1, .int (nI mr)), (0, .ref h)]) (fun (mr, L, g1) => []) (fun (mr, L, g1) => moW h mm kA v g1) (fun (mr, L, g1) => (mr ≤ 1) ∧ (MI v g1) ∧ (∀ j, j ≠ 20 → j ≠ 21 → j ≠ 23 → g1 j = g j) ∧ (RW g g1 nl) ∧ (LT (g1 20) (g1 21) nl L) ∧ (GL nd L) ∧ ((mr = 1 ∧ ∃ m, bIt (bUg g nd (g 18 nl) lq) g lq 13 L0 = bIt (bUg g nd (g 18 nl) lq) g lq m L ∧ 13 ≤ m + L.length) ∨ (mr = 0 ∧ bIt (bUg g nd (g 18 nl) lq) g lq 13 L0 = L))) (fun (mr, L, g1) => 2 * (12 - L.length) + mr) ?_ (1, L0, g) _ _ _ (lv_sub hl [0, 1] rfl) hP hD hS ⟨(show 1 ≤ 1 from by first | assumption | omega), (show MI v g from hMI), (show ∀ j, j ≠ 20 → j ≠ 21 → j ≠ 23 → g j = g j from fun j h1 h2 h3 => rfl), (show RW g g nl from RW_rf), (show LT (g 20) (g 21) nl L0 from hLT), (show GL nd L0 from hGL), (show (1 = 1 ∧ ∃ m, bIt (bUg g nd (g 18 nl) lq) g lq 13 L0 = bIt (bUg g nd (g 18 nl) lq) g lq m L0 ∧ 13 ≤ m + L0.length) ∨ (1 = 0 ∧ bIt (bUg g nd (g 18 nl) lq) g lq 13 L0 = L0) from Or.inl ⟨rfl, 13, rfl, by omega⟩)⟩
  intro n9 ih1 a9 ls H locs hμ hl hP hD hS hI
  subst hμ
  obtain ⟨mr, L, g1⟩ := a9
  obtain ⟨hmr1, hM1, hfr1, hRW1, hL1, hG1, hI⟩ := hI
  have hmr1 : mr ≤ 1 := hmr1
  have hM1 : MI v g1 := hM1
  have hfr1 : ∀ j, j ≠ 20 → j ≠ 21 → j ≠ 23 → g1 j = g j := hfr1
  have hRW1 : RW g g1 nl := hRW1
  have hL1 : LT (g1 20) (g1 21) nl L := hL1
  have hG1 : GL nd L := hG1
  have hI : (mr = 1 ∧ ∃ m, bIt (bUg g nd (g 18 nl) lq) g lq 13 L0 = bIt (bUg g nd (g 18 nl) lq) g lq m L ∧ 13 ≤ m + L.length) ∨ (mr = 0 ∧ bIt (bUg g nd (g 18 nl) lq) g lq 13 L0 = L) := hI
  have hpar1 : ∀ la, la < nl + 1 → ∃ lq, lq ≤ la ∧ g1 19 la = nI lq - 1 := fun la h => by rw [hfr1 19 (by decide) (by decide) (by decide)]; exact hpn la h
  have hlqe1 : g1 19 nl = nI lq - 1 := by rw [hfr1 19 (by decide) (by decide) (by decide)]; exact hlqe
  have hLl1 := GL_len hG1
  have hmk1 := hL1.1
  have hSM1 : adG g1 nd (g1 18 nl) lq = adG g nd (g 18 nl) lq := adG_sm hnl5 hpn hlqn hmdg hfr1 hRW1
  obtain ⟨-, -, -, -, -, hmd1, -⟩ := id hM1
  have hl : lv_has ls 5 [(1, .int (nI mr)), (0, .ref h)] := hl
  have hP : va_P D xcl (moW h mm kA v g1) H := hP
  have hD : va_D A (moW h mm kA v g1) := hD
  refine lv_iload_n hx hb xd_Mo_binding_2 rfl (lv_at hl 0 rfl) ?_
  refine xz_eq (a := mr) (tgt := 80) hx hb xd_Mo_binding_3 (by decide) (by omega) (fun hc2 => ?_) (fun hc2 => ?_)
  · exact W.vret hx hb hr (fun t ht hW => ⟨⟨(v, g1), rfl, ⟨rfl, hM1, hfr1, hRW1, L, hG1, hL1, by rcases hI with ⟨q, _⟩ | ⟨_, q⟩; omega; exact q⟩, by rw [ht]; exact hP, hD⟩, hS.F ht⟩) hS.2.2 xd_Mo_binding_80
  · refine lv_iconst (v := 0) hx hb xd_Mo_binding_6 (by decide) ?_
    refine lv_istore_n hx hb xd_Mo_binding_7 rfl hl (Nat.le_of_ble_eq_true rfl) rfl (fun ls hl => ?_)
    have hl : lv_has ls 5 [(1, .int 0), (0, .ref h)] := hl
    refine lv_aload_n hx hb xd_Mo_binding_8 rfl (lv_at hl 1 rfl) ?_
    refine va_get (D := D) (ci := 4) (v := .int (v 5)) (C := xR_Mo) (T := xT_Mo) (N := 31) hx hb hT xi_Mo hown hK.1 hP 0 rfl rfl 23 (by decide) (hT _ k4k_0) (fun _ h9 => h9) rfl xd_Mo_binding_9 ?_
    refine xn_top (x := (v 5)) (y := nI nl) hnl ?_
    refine lv_istore_n hx hb xd_Mo_binding_12 rfl hl (Nat.le_of_ble_eq_true rfl) rfl (fun ls hl => ?_)
    have hl : lv_has ls 5 [(2, .int (nI nl)), (1, .int 0), (0, .ref h)] := hl
    rw [← nI_pred nl] at hl
    refine xlab (σ := Nat × Nat × List Nat × (Nat → Nat → Int32)) (ml := 5) 13 (fun (lq8, mr8, L8, g8) => [(2, .int (nI lq8 - 1)), (1, .int (nI mr8)), (0, .ref h)]) (fun (lq8, mr8, L8, g8) => []) (fun (lq8, mr8, L8, g8) => moW h mm kA v g8) (fun (lq8, mr8, L8, g8) => (lq8 ≤ nl + 1) ∧ (mr8 ≤ 1) ∧ (MI v g8) ∧ (∀ j, j ≠ 20 → j ≠ 21 → j ≠ 23 → g8 j = g j) ∧ (RW g g8 nl) ∧ (LT (g8 20) (g8 21) nl L8) ∧ (GL nd L8) ∧ ((mr8 = 0 ∧ L8 = L) ∨ (mr8 = 1 ∧ L.length < L8.length)) ∧ ((lq8 = nl + 1 ∧ L8 = L) ∨ (lq8 ≤ nl ∧ bO (bUg g nd (g 18 nl) lq) g lq L = bAU (bUg g nd (g 18 nl) lq) g lq8 L8))) (fun (lq8, mr8, L8, g8) => lq8) ?_ (nl + 1, 0, L, g1) _ _ _ (lv_sub hl [0, 1, 2] rfl) hP hD hS ⟨(show (nl + 1) ≤ nl + 1 from by first | assumption | omega), (show 0 ≤ 1 from by first | assumption | omega), (show MI v g1 from hM1), (show ∀ j, j ≠ 20 → j ≠ 21 → j ≠ 23 → g1 j = g j from hfr1), (show RW g g1 nl from hRW1), (show LT (g1 20) (g1 21) nl L from hL1), (show GL nd L from hG1), (show (0 = 0 ∧ L = L) ∨ (0 = 1 ∧ L.length < L.length) from Or.inl ⟨rfl, rfl⟩), (show ((nl + 1) = nl + 1 ∧ L = L) ∨ ((nl + 1) ≤ nl ∧ bO (bUg g nd (g 18 nl) lq) g lq L = bAU (bUg g nd (g 18 nl) lq) g (nl + 1) L) from Or.inl ⟨rfl, rfl⟩)⟩
    intro n9 ih3 a9 ls H locs hμ hl hP hD hS hI
    subst hμ
    obtain ⟨lq8, mr8, L8, g8⟩ := a9
    obtain ⟨hlq8, hmr81, hM8, hfr8, hRW8, hL8, hG8, hmr8, hO⟩ := hI
    have hlq8 : lq8 ≤ nl + 1 := hlq8
    have hmr81 : mr8 ≤ 1 := hmr81
    have hM8 : MI v g8 := hM8
    have hfr8 : ∀ j, j ≠ 20 → j ≠ 21 → j ≠ 23 → g8 j = g j := hfr8
    have hRW8 : RW g g8 nl := hRW8
    have hL8 : LT (g8 20) (g8 21) nl L8 := hL8
    have hG8 : GL nd L8 := hG8
    have hmr8 : (mr8 = 0 ∧ L8 = L) ∨ (mr8 = 1 ∧ L.length < L8.length) := hmr8
    have hO : (lq8 = nl + 1 ∧ L8 = L) ∨ (lq8 ≤ nl ∧ bO (bUg g nd (g 18 nl) lq) g lq L = bAU (bUg g nd (g 18 nl) lq) g lq8 L8) := hO
    have hpar8 : ∀ la, la < nl + 1 → ∃ lq, lq ≤ la ∧ g8 19 la = nI lq - 1 := fun la h => by rw [hfr8 19 (by decide) (by decide) (by decide)]; exact hpn la h
    have hlqe8 : g8 19 nl = nI lq - 1 := by rw [hfr8 19 (by decide) (by decide) (by decide)]; exact hlqe
    have hLl8 := GL_len hG8
    have hmk8 := hL8.1
    have hSM8 : adG g8 nd (g8 18 nl) lq = adG g nd (g 18 nl) lq := adG_sm hnl5 hpn hlqn hmdg hfr8 hRW8
    have hln8 : (mr8 = 0 ∧ L8.length = L.length) ∨ (mr8 = 1 ∧ L.length < L8.length) := by
      rcases hmr8 with ⟨q, q2⟩ | q
      · exact Or.inl ⟨q, by rw [q2]⟩
      · exact Or.inr q
    obtain ⟨-, -, -, -, -, hmd8, -⟩ := id hM8
    have hl : lv_has ls 5 [(2, .int (nI lq8 - 1)), (1, .int (nI mr8)), (0, .ref h)] := hl
    have hP : va_P D xcl (moW h mm kA v g8) H := hP
    have hD : va_D A (moW h mm kA v g8) := hD
    rcases Nat.eq_zero_or_pos lq8 with hz5 | hz5
    · have e5 : nI lq8 - 1 = -1 := by rw [hz5]; decide
      rw [e5] at hl
      refine lv_iload_n hx hb xd_Mo_binding_13 rfl (lv_at hl 0 rfl) ?_
      refine lv_if_lt (tgt := 77) hx hb xd_Mo_binding_14 (by decide) (fun _ => ?_) (fun hc4 => absurd hc4 (by decide))
      refine lv_goto (tgt := 2) hx hb xd_Mo_binding_77 (by decide) ?_
      exact ih1 (mr8, L8, g8) _ _ _ (show 2 * (12 - L8.length) + mr8 < 2 * (12 - L.length) + mr by omega) (lv_sub hl [1, 2] rfl) hP hD hS ⟨(show mr8 ≤ 1 from by first | assumption | omega), (show MI v g8 from hM8), (show ∀ j, j ≠ 20 → j ≠ 21 → j ≠ 23 → g8 j = g j from hfr8), (show RW g g8 nl from hRW8), (show LT (g8 20) (g8 21) nl L8 from hL8), (show GL nd L8 from hG8), (show (mr8 = 1 ∧ ∃ m, bIt (bUg g nd (g 18 nl) lq) g lq 13 L0 = bIt (bUg g nd (g 18 nl) lq) g lq m L8 ∧ 13 ≤ m + L8.length) ∨ (mr8 = 0 ∧ bIt (bUg g nd (g 18 nl) lq) g lq 13 L0 = L8) from by
        rcases hI with ⟨_, m, q1, q2⟩ | ⟨q, _⟩
        · have hO2 : bO (bUg g nd (g 18 nl) lq) g lq L = L8 := by
            rcases hO with ⟨q3, _⟩ | ⟨_, q3⟩
            · omega
            · rw [q3, hz5]; rfl
          rcases hmr8 with ⟨e, e2⟩ | ⟨e, e2⟩
          · refine Or.inr ⟨e, ?_⟩
            rw [q1, e2]; exact bIt_fix (hO2.trans e2) m
          · exact Or.inl ⟨e, m - 1, by rw [q1, bIt_s (by omega), hO2], by omega⟩
        · omega)⟩
    · have e5 : nI lq8 - 1 = nI (lq8 - 1) := pk_sub (a := lq8) (b := 1) hz5
      rw [e5] at hl
      refine lv_iload_n hx hb xd_Mo_binding_13 rfl (lv_at hl 0 rfl) ?_
      refine xz_lt (a := lq8 - 1) (tgt := 77) hx hb xd_Mo_binding_14 (by decide) (by omega) ?_
      refine lv_iconst (v := 0) hx hb xd_Mo_binding_17 (by decide) ?_
      refine lv_istore_n hx hb xd_Mo_binding_18 rfl hl (Nat.le_of_ble_eq_true rfl) rfl (fun ls hl => ?_)
      have hl : lv_has ls 5 [(3, .int 0), (2, .int (nI (lq8 - 1))), (1, .int (nI mr8)), (0, .ref h)] := hl
      refine xlab (σ := Nat × Nat × List Nat × (Nat → Nat → Int32)) (ml := 5) 19 (fun (k7, mr7, L7, g7) => [(3, .int (nI k7)), (2, .int (nI (lq8 - 1))), (1, .int (nI mr7)), (0, .ref h)]) (fun (k7, mr7, L7, g7) => []) (fun (k7, mr7, L7, g7) => moW h mm kA v g7) (fun (k7, mr7, L7, g7) => (k7 ≤ 12) ∧ (mr7 ≤ 1) ∧ (MI v g7) ∧ (∀ j, j ≠ 20 → j ≠ 21 → j ≠ 23 → g7 j = g j) ∧ (RW g g7 nl) ∧ (LT (g7 20) (g7 21) nl L7) ∧ (GL nd L7) ∧ ((mr7 = 0 ∧ L7 = L) ∨ (mr7 = 1 ∧ L.length < L7.length)) ∧ ((lq8 = nl + 1 ∧ bO (bUg g nd (g 18 nl) lq) g lq L = bAU (bUg g nd (g 18 nl) lq) g lq (bL (bUg g nd (g 18 nl) lq) (12 - k7) k7 L7)) ∨ (lq8 ≤ nl ∧ bO (bUg g nd (g 18 nl) lq) g lq L = bAU (bUg g nd (g 18 nl) lq) g (prv g (lq8 - 1)) (bR (bUg g nd (g 18 nl) lq) (mdv g (lq8 - 1)) (mcv g (lq8 - 1) - k7) k7 L7)))) (fun (k7, mr7, L7, g7) => 12 - k7) ?_ (0, mr8, L8, g8) _ _ _ (lv_sub hl [0, 1, 2, 3] rfl) hP hD hS ⟨(show 0 ≤ 12 from by first | assumption | omega), (show mr8 ≤ 1 from by first | assumption | omega), (show MI v g8 from hM8), (show ∀ j, j ≠ 20 → j ≠ 21 → j ≠ 23 → g8 j = g j from hfr8), (show RW g g8 nl from hRW8), (show LT (g8 20) (g8 21) nl L8 from hL8), (show GL nd L8 from hG8), (show (mr8 = 0 ∧ L8 = L) ∨ (mr8 = 1 ∧ L.length < L8.length) from hmr8), (show (lq8 = nl + 1 ∧ bO (bUg g nd (g 18 nl) lq) g lq L = bAU (bUg g nd (g 18 nl) lq) g lq (bL (bUg g nd (g 18 nl) lq) (12 - 0) 0 L8)) ∨ (lq8 ≤ nl ∧ bO (bUg g nd (g 18 nl) lq) g lq L = bAU (bUg g nd (g 18 nl) lq) g (prv g (lq8 - 1)) (bR (bUg g nd (g 18 nl) lq) (mdv g (lq8 - 1)) (mcv g (lq8 - 1) - 0) 0 L8)) from by
        rcases hO with ⟨q, q1⟩ | ⟨q, q1⟩
        · refine Or.inl ⟨q, ?_⟩
          rw [q1]; rfl
        · refine Or.inr ⟨q, ?_⟩
          rw [q1, bAU_s hz5 (fun la hla => prv_le (np := nl + 1) (by omega) hpn la (by omega))]; rfl)⟩
      intro n9 ih6 a9 ls H locs hμ hl hP hD hS hI
      subst hμ
      obtain ⟨k7, mr7, L7, g7⟩ := a9
      obtain ⟨hk7, hmr71, hM7, hfr7, hRW7, hL7, hG7, hmr7, hO7⟩ := hI
      have hk7 : k7 ≤ 12 := hk7
      have hmr71 : mr7 ≤ 1 := hmr71
      have hM7 : MI v g7 := hM7
      have hfr7 : ∀ j, j ≠ 20 → j ≠ 21 → j ≠ 23 → g7 j = g j := hfr7
      have hRW7 : RW g g7 nl := hRW7
      have hL7 : LT (g7 20) (g7 21) nl L7 := hL7
      have hG7 : GL nd L7 := hG7
      have hmr7 : (mr7 = 0 ∧ L7 = L) ∨ (mr7 = 1 ∧ L.length < L7.length) := hmr7
      have hO7 : (lq8 = nl + 1 ∧ bO (bUg g nd (g 18 nl) lq) g lq L = bAU (bUg g nd (g 18 nl) lq) g lq (bL (bUg g nd (g 18 nl) lq) (12 - k7) k7 L7)) ∨ (lq8 ≤ nl ∧ bO (bUg g nd (g 18 nl) lq) g lq L = bAU (bUg g nd (g 18 nl) lq) g (prv g (lq8 - 1)) (bR (bUg g nd (g 18 nl) lq) (mdv g (lq8 - 1)) (mcv g (lq8 - 1) - k7) k7 L7)) := hO7
      have hpar7 : ∀ la, la < nl + 1 → ∃ lq, lq ≤ la ∧ g7 19 la = nI lq - 1 := fun la h => by rw [hfr7 19 (by decide) (by decide) (by decide)]; exact hpn la h
      have hlqe7 : g7 19 nl = nI lq - 1 := by rw [hfr7 19 (by decide) (by decide) (by decide)]; exact hlqe
      have hLl7 := GL_len hG7
      have hmk7 := hL7.1
      have hSM7 : adG g7 nd (g7 18 nl) lq = adG g nd (g 18 nl) lq := adG_sm hnl5 hpn hlqn hmdg hfr7 hRW7
      have hln7 : (mr7 = 0 ∧ L7.length = L.length) ∨ (mr7 = 1 ∧ L.length < L7.length) := by
        rcases hmr7 with ⟨q, q2⟩ | q
        · exact Or.inl ⟨q, by rw [q2]⟩
        · exact Or.inr q
      obtain ⟨-, -, -, -, -, hmd7, -⟩ := id hM7
      have hl : lv_has ls 5 [(3, .int (nI k7)), (2, .int (nI (lq8 - 1))), (1, .int (nI mr7)), (0, .ref h)] := hl
      have hP : va_P D xcl (moW h mm kA v g7) H := hP
      have hD : va_D A (moW h mm kA v g7) := hD
      refine lv_iload_n hx hb xd_Mo_binding_19 rfl (lv_at hl 0 rfl) ?_
      obtain ⟨mdk, hmdk, emdk, hent⟩ := hmd7 (lq8 - 1) (by omega)
      have hcase : (lq8 = nl + 1 ∧ mdk = L7.length) ∨ (lq8 ≤ nl ∧ mcv g (lq8 - 1) = mdk) := by
        rcases Nat.lt_or_ge nl lq8 with q | q
        · refine Or.inl ⟨by omega, ?_⟩
          have q1 := emdk
          rw [show lq8 - 1 = nl by omega] at q1
          exact nI_inj (by omega) (by omega) (q1.symm.trans hmk7)
        · refine Or.inr ⟨q, ?_⟩
          unfold mcv
          rw [← (hRW7 (lq8 - 1) (by omega)).1, emdk, iN_nI (by omega)]
      refine lv_aload_n hx hb xd_Mo_binding_20 rfl (lv_at hl 3 rfl) ?_
      refine va_get (D := D) (ci := 4) (v := .ref (mm 20)) (C := xR_Mo) (T := xT_Mo) (N := 31) hx hb hT xi_Mo hown hK.1 hP 0 rfl rfl 26 (by decide) (hT _ k4k_1) (fun _ h9 => h9) rfl xd_Mo_binding_21 ?_
      refine lv_iload_n hx hb xd_Mo_binding_24 rfl (lv_at hl 1 rfl) ?_
      refine xn_iald (i := lq8 - 1) hx hb hK.1 hP 21 0 rfl rfl (by omega) (by decide) xd_Mo_binding_25 ?_
      refine xn_top (x := (g7 20 (lq8 - 1))) (y := nI mdk) emdk ?_
      refine xn_ge (a := k7) (b := mdk) (tgt := 67) hx hb xd_Mo_binding_26 (by decide) (by omega) (by omega) (fun hc7 => ?_) (fun hc7 => ?_)
      · refine lv_aload_n hx hb xd_Mo_binding_67 rfl (lv_at hl 3 rfl) ?_
        refine va_get (D := D) (ci := 4) (v := .ref (mm 19)) (C := xR_Mo) (T := xT_Mo) (N := 31) hx hb hT xi_Mo hown hK.1 hP 0 rfl rfl 25 (by decide) (hT _ k4k_2) (fun _ h9 => h9) rfl xd_Mo_binding_68 ?_
        refine lv_iload_n hx hb xd_Mo_binding_71 rfl (lv_at hl 1 rfl) ?_
        refine xn_iald (i := lq8 - 1) hx hb hK.1 hP 20 0 rfl rfl (by omega) (by decide) xd_Mo_binding_72 ?_
        obtain ⟨q8, hq9, eq10⟩ := hpar7 (lq8 - 1) (by omega)
        refine xn_top (x := (g7 19 (lq8 - 1))) eq10 ?_
        refine lv_istore_n hx hb xd_Mo_binding_73 rfl hl (Nat.le_of_ble_eq_true rfl) rfl (fun ls hl => ?_)
        have hl : lv_has ls 5 [(2, .int (nI q8 - 1)), (3, .int (nI k7)), (1, .int (nI mr7)), (0, .ref h)] := hl
        refine lv_goto (tgt := 13) hx hb xd_Mo_binding_74 (by decide) ?_
        exact ih3 (q8, mr7, L7, g7) _ _ _ (show q8 < lq8 by omega) (lv_sub hl [0, 2, 3] rfl) hP hD hS ⟨(show q8 ≤ nl + 1 from by first | assumption | omega), (show mr7 ≤ 1 from by first | assumption | omega), (show MI v g7 from hM7), (show ∀ j, j ≠ 20 → j ≠ 21 → j ≠ 23 → g7 j = g j from hfr7), (show RW g g7 nl from hRW7), (show LT (g7 20) (g7 21) nl L7 from hL7), (show GL nd L7 from hG7), (show (mr7 = 0 ∧ L7 = L) ∨ (mr7 = 1 ∧ L.length < L7.length) from hmr7), (show (q8 = nl + 1 ∧ L7 = L) ∨ (q8 ≤ nl ∧ bO (bUg g nd (g 18 nl) lq) g lq L = bAU (bUg g nd (g 18 nl) lq) g q8 L7) from by
        refine Or.inr ⟨by omega, ?_⟩
        have q0 : prv g (lq8 - 1) = q8 := prv_of (show g 19 (lq8 - 1) = nI q8 - 1 from by rw [← hfr7 19 (by decide) (by decide) (by decide)]; exact eq10) (by omega)
        rcases hO7 with ⟨q, q1⟩ | ⟨q, q1⟩
        · rw [q1, bL_e (by rcases hcase with ⟨_, q9⟩ | ⟨q8, _⟩ <;> omega)]
          rw [show lq8 - 1 = nl by omega] at q0
          rw [← q0, prv_of hlqe (by omega)]
        · rw [q1, bR_e (by rcases hcase with ⟨q8, _⟩ | ⟨_, q9⟩ <;> omega), q0])⟩
      · refine lv_aload_n hx hb xd_Mo_binding_29 rfl (lv_at hl 3 rfl) ?_
        refine lv_aload_n hx hb xd_Mo_binding_30 rfl (lv_at hl 3 rfl) ?_
        refine va_get (D := D) (ci := 4) (v := .ref (mm 21)) (C := xR_Mo) (T := xT_Mo) (N := 31) hx hb hT xi_Mo hown hK.1 hP 0 rfl rfl 27 (by decide) (hT _ k4k_3) (fun _ h9 => h9) rfl xd_Mo_binding_31 ?_
        refine lv_bipush (v := 12) hx hb xd_Mo_binding_34 (by decide) ?_
        refine lv_iload_n hx hb xd_Mo_binding_36 rfl (lv_at hl 1 rfl) ?_
        refine lv_imul hx hb xd_Mo_binding_37 ?_
        refine xn_top (y := nI (12 * (lq8 - 1))) (pk_mul 12 (lq8 - 1)) ?_
        refine lv_iload_n hx hb xd_Mo_binding_38 rfl (lv_at hl 0 rfl) ?_
        refine lv_iadd hx hb xd_Mo_binding_39 ?_
        refine xn_top (y := nI ((12 * (lq8 - 1)) + k7)) (nI_add (12 * (lq8 - 1)) k7) ?_
        refine xn_iald (i := (12 * (lq8 - 1)) + k7) hx hb hK.1 hP 22 0 rfl rfl (by omega) (by decide) xd_Mo_binding_40 ?_
        obtain ⟨k11, hk12, ek13⟩ := hent k7 (by omega)
        refine xn_top (x := (g7 21 ((12 * (lq8 - 1)) + k7))) ek13 ?_
        have hFc := va_free (wc := (moW h mm kA v g7)) hD hS hA [0, 1, 2, 3, 4, 5, 6, 7, 8, 9, 10, 11, 12, 13, 14, 15, 16, 17, 18, 19, 20, 21, 22, 23, 24, 25] rfl
        refine va_calli (va_runV (As := [.int (nI k11)]) (rest := []) ⟨hx, hb, hml, hown, hT⟩ (xc_Mo_bindsForX l D kA H.size h mm v g7 k11 nd nl lq L7 hM7 (by first | assumption | omega) (by first | assumption | omega) (by first | assumption | omega) (by first | assumption | omega) hpar7 hlqe7 (by first | assumption | omega) hL7 hG7 (by first | assumption | omega)) (cwV 1 hT (wT_V k4k_5 k4k_6 k4k_7 k4k_8 k4k_4) rfl rfl rfl (by decide +kernel) ⟨Nat.le_of_ble_eq_true rfl, Nat.le_of_ble_eq_true rfl⟩) (x_preV hK hP hD 0 rfl rfl) rfl rfl hl.1 rfl (lv_room (Nat.le_of_ble_eq_true rfl)) xd_Mo_binding_41 ⟨Nat.le_of_ble_eq_true rfl, Nat.le_of_ble_eq_true rfl⟩) hS (fun q _ h => hFc q h) hFc (fun r14 u15 t H1 locs ht hvm hp16 hB hz1 hk1 hS => ?_)
        obtain ⟨hP1, hD1⟩ := hB
        rw [ht] at hP1
        have hD1 := hD1.weaken (fun _ _ _ h => hFc _ h)
        obtain ⟨v17, g18⟩ := u15
        generalize H1 = H at hP1 hS ⊢
        have hP := hP1
        have hD := hD1
        have hP : va_P D xcl (moW h mm kA v17 g18) H := hP
        have hD : va_D A (moW h mm kA v17 g18) := hD
        obtain ⟨hu9, hM9, hfr9, hRW9, L9, hx2, hx3, hxU, hx5⟩ := hp16
        have hu9 : v = v17 := hu9.symm
        subst hu9
        have hM9 : MI v g18 := hM9
        have hfr9 : ∀ j, j ≠ 20 → j ≠ 21 → j ≠ 23 → g18 j = g7 j := hfr9
        have hRW9 : RW g7 g18 nl := hRW9
        have hx3 : LT (g18 20) (g18 21) nl L9 := hx3
        have hx3l := hx3.1
        have hx9 := GL_len hx2
        rw [bUg_sm hSM7 hfr7] at hxU
        have hkL : lq8 = nl + 1 → k11 = L7.getD k7 0 := fun q => by
          have q1 := ek13
          rw [show lq8 - 1 = nl by omega, hL7.2 k7 (by rcases hcase with ⟨_, q9⟩ | ⟨q8, _⟩ <;> omega)] at q1
          have q2 := hG7.1 _ (getD_mem (L := L7) (k := k7) (by rcases hcase with ⟨_, q9⟩ | ⟨q8, _⟩ <;> omega))
          exact (nI_inj (by omega) (by omega) q1).symm
        have hkR : lq8 ≤ nl → mdv g (lq8 - 1) k7 = k11 := fun q => by
          unfold mdv
          rw [← (hRW7 (lq8 - 1) (by omega)).2 k7 (by omega), ek13, iN_nI (by omega)]
        have hP : va_P D xcl (moW h mm kA v g18) H := hP
        have hD : va_D A (moW h mm kA v g18) := hD
        rcases hx5 with ⟨rfl, hgr9⟩ | ⟨rfl, hgr9⟩
        · have hgl : L9.length = L7.length := by rw [hgr9]
          refine lv_istore hx hb xd_Mo_binding_44 hl (Nat.le_of_ble_eq_true rfl) rfl (fun ls hl => ?_)
          have hl : lv_has ls 5 [(4, .int 0), (3, .int (nI k7)), (2, .int (nI (lq8 - 1))), (1, .int (nI mr7)), (0, .ref h)] := hl
          refine lv_iload_n hx hb xd_Mo_binding_46 rfl (lv_at hl 3 rfl) ?_
          refine xz_ne (a := mr7) (tgt := 55) hx hb xd_Mo_binding_47 (by decide) (by omega) (fun hc19 => ?_) (fun hc19 => ?_)
          · refine lv_iconst (v := 1) hx hb xd_Mo_binding_55 (by decide) ?_
            refine lv_goto (tgt := 60) hx hb xd_Mo_binding_56 (by decide) ?_
            refine lv_istore_n hx hb xd_Mo_binding_60 rfl hl (Nat.le_of_ble_eq_true rfl) rfl (fun ls hl => ?_)
            have hl : lv_has ls 5 [(1, .int 1), (4, .int 0), (3, .int (nI k7)), (2, .int (nI (lq8 - 1))), (0, .ref h)] := hl
            refine lv_iinc (k := 2) (x := (nI k7)) (v := (nI (k7 + 1))) hx hb xd_Mo_binding_61 hl rfl (xb_inc k7 1) (Nat.le_of_ble_eq_true rfl) rfl (fun ls hl => ?_)
            have hl : lv_has ls 5 [(3, .int (nI (k7 + 1))), (1, .int 1), (4, .int 0), (2, .int (nI (lq8 - 1))), (0, .ref h)] := hl
            refine lv_goto (tgt := 19) hx hb xd_Mo_binding_64 (by decide) ?_
            exact ih6 (k7 + 1, 1, L9, g18) _ _ _ (show 12 - (k7 + 1) < 12 - k7 by omega) (lv_sub hl [0, 3, 1, 4] rfl) hP hD hS ⟨(show (k7 + 1) ≤ 12 from by first | assumption | omega), (show 1 ≤ 1 from by first | assumption | omega), (show MI v g18 from hM9), (show ∀ j, j ≠ 20 → j ≠ 21 → j ≠ 23 → g18 j = g j from fun j h1 h2 h3 => (hfr9 j h1 h2 h3).trans (hfr7 j h1 h2 h3)), (show RW g g18 nl from RW_tr hRW7 hRW9), (show LT (g18 20) (g18 21) nl L9 from hx3), (show GL nd L9 from hx2), (show (1 = 0 ∧ L9 = L) ∨ (1 = 1 ∧ L.length < L9.length) from Or.inr ⟨rfl, by omega⟩), (show (lq8 = nl + 1 ∧ bO (bUg g nd (g 18 nl) lq) g lq L = bAU (bUg g nd (g 18 nl) lq) g lq (bL (bUg g nd (g 18 nl) lq) (12 - (k7 + 1)) (k7 + 1) L9)) ∨ (lq8 ≤ nl ∧ bO (bUg g nd (g 18 nl) lq) g lq L = bAU (bUg g nd (g 18 nl) lq) g (prv g (lq8 - 1)) (bR (bUg g nd (g 18 nl) lq) (mdv g (lq8 - 1)) (mcv g (lq8 - 1) - (k7 + 1)) (k7 + 1) L9)) from by
        rcases hO7 with ⟨q, q1⟩ | ⟨q, q1⟩
        · refine Or.inl ⟨q, ?_⟩
          rw [q1, bL_s (by rcases hcase with ⟨_, q9⟩ | ⟨q8, _⟩ <;> omega) (by omega), ← hkL q, hxU]
        · refine Or.inr ⟨q, ?_⟩
          rw [q1, bR_s (by rcases hcase with ⟨q8, _⟩ | ⟨_, q9⟩ <;> omega), hkR q, hxU])⟩
          · refine lv_iload hx hb xd_Mo_binding_50 (lv_at hl 0 rfl) ?_
            refine xz_eq (a := 0) (tgt := 59) hx hb xd_Mo_binding_52 (by decide) (by omega) (fun _ => ?_) (fun hc20 => absurd hc20 (by omega))
            refine lv_iconst (v := 0) hx hb xd_Mo_binding_59 (by decide) ?_
            refine lv_istore_n hx hb xd_Mo_binding_60 rfl hl (Nat.le_of_ble_eq_true rfl) rfl (fun ls hl => ?_)
            have hl : lv_has ls 5 [(1, .int 0), (4, .int 0), (3, .int (nI k7)), (2, .int (nI (lq8 - 1))), (0, .ref h)] := hl
            refine lv_iinc (k := 2) (x := (nI k7)) (v := (nI (k7 + 1))) hx hb xd_Mo_binding_61 hl rfl (xb_inc k7 1) (Nat.le_of_ble_eq_true rfl) rfl (fun ls hl => ?_)
            have hl : lv_has ls 5 [(3, .int (nI (k7 + 1))), (1, .int 0), (4, .int 0), (2, .int (nI (lq8 - 1))), (0, .ref h)] := hl
            refine lv_goto (tgt := 19) hx hb xd_Mo_binding_64 (by decide) ?_
            exact ih6 (k7 + 1, 0, L9, g18) _ _ _ (show 12 - (k7 + 1) < 12 - k7 by omega) (lv_sub hl [0, 3, 1, 4] rfl) hP hD hS ⟨(show (k7 + 1) ≤ 12 from by first | assumption | omega), (show 0 ≤ 1 from by first | assumption | omega), (show MI v g18 from hM9), (show ∀ j, j ≠ 20 → j ≠ 21 → j ≠ 23 → g18 j = g j from fun j h1 h2 h3 => (hfr9 j h1 h2 h3).trans (hfr7 j h1 h2 h3)), (show RW g g18 nl from RW_tr hRW7 hRW9), (show LT (g18 20) (g18 21) nl L9 from hx3), (show GL nd L9 from hx2), (show (0 = 0 ∧ L9 = L) ∨ (0 = 1 ∧ L.length < L9.length) from Or.inl ⟨rfl, hgr9.trans (by rcases hmr7 with ⟨_, q⟩ | ⟨q, _⟩; exact q; omega)⟩), (show (lq8 = nl + 1 ∧ bO (bUg g nd (g 18 nl) lq) g lq L = bAU (bUg g nd (g 18 nl) lq) g lq (bL (bUg g nd (g 18 nl) lq) (12 - (k7 + 1)) (k7 + 1) L9)) ∨ (lq8 ≤ nl ∧ bO (bUg g nd (g 18 nl) lq) g lq L = bAU (bUg g nd (g 18 nl) lq) g (prv g (lq8 - 1)) (bR (bUg g nd (g 18 nl) lq) (mdv g (lq8 - 1)) (mcv g (lq8 - 1) - (k7 + 1)) (k7 + 1) L9)) from by
        rcases hO7 with ⟨q, q1⟩ | ⟨q, q1⟩
        · refine Or.inl ⟨q, ?_⟩
          rw [q1, bL_s (by rcases hcase with ⟨_, q9⟩ | ⟨q8, _⟩ <;> omega) (by omega), ← hkL q, hxU]
        · refine Or.inr ⟨q, ?_⟩
          rw [q1, bR_s (by rcases hcase with ⟨q8, _⟩ | ⟨_, q9⟩ <;> omega), hkR q, hxU])⟩
        · have hgl := hgr9
          refine lv_istore hx hb xd_Mo_binding_44 hl (Nat.le_of_ble_eq_true rfl) rfl (fun ls hl => ?_)
          have hl : lv_has ls 5 [(4, .int 1), (3, .int (nI k7)), (2, .int (nI (lq8 - 1))), (1, .int (nI mr7)), (0, .ref h)] := hl
          refine lv_iload_n hx hb xd_Mo_binding_46 rfl (lv_at hl 3 rfl) ?_
          refine xz_ne (a := mr7) (tgt := 55) hx hb xd_Mo_binding_47 (by decide) (by omega) (fun hc21 => ?_) (fun hc21 => ?_)
          · refine lv_iconst (v := 1) hx hb xd_Mo_binding_55 (by decide) ?_
            refine lv_goto (tgt := 60) hx hb xd_Mo_binding_56 (by decide) ?_
            refine lv_istore_n hx hb xd_Mo_binding_60 rfl hl (Nat.le_of_ble_eq_true rfl) rfl (fun ls hl => ?_)
            have hl : lv_has ls 5 [(1, .int 1), (4, .int 1), (3, .int (nI k7)), (2, .int (nI (lq8 - 1))), (0, .ref h)] := hl
            refine lv_iinc (k := 2) (x := (nI k7)) (v := (nI (k7 + 1))) hx hb xd_Mo_binding_61 hl rfl (xb_inc k7 1) (Nat.le_of_ble_eq_true rfl) rfl (fun ls hl => ?_)
            have hl : lv_has ls 5 [(3, .int (nI (k7 + 1))), (1, .int 1), (4, .int 1), (2, .int (nI (lq8 - 1))), (0, .ref h)] := hl
            refine lv_goto (tgt := 19) hx hb xd_Mo_binding_64 (by decide) ?_
            exact ih6 (k7 + 1, 1, L9, g18) _ _ _ (show 12 - (k7 + 1) < 12 - k7 by omega) (lv_sub hl [0, 3, 1, 4] rfl) hP hD hS ⟨(show (k7 + 1) ≤ 12 from by first | assumption | omega), (show 1 ≤ 1 from by first | assumption | omega), (show MI v g18 from hM9), (show ∀ j, j ≠ 20 → j ≠ 21 → j ≠ 23 → g18 j = g j from fun j h1 h2 h3 => (hfr9 j h1 h2 h3).trans (hfr7 j h1 h2 h3)), (show RW g g18 nl from RW_tr hRW7 hRW9), (show LT (g18 20) (g18 21) nl L9 from hx3), (show GL nd L9 from hx2), (show (1 = 0 ∧ L9 = L) ∨ (1 = 1 ∧ L.length < L9.length) from Or.inr ⟨rfl, by omega⟩), (show (lq8 = nl + 1 ∧ bO (bUg g nd (g 18 nl) lq) g lq L = bAU (bUg g nd (g 18 nl) lq) g lq (bL (bUg g nd (g 18 nl) lq) (12 - (k7 + 1)) (k7 + 1) L9)) ∨ (lq8 ≤ nl ∧ bO (bUg g nd (g 18 nl) lq) g lq L = bAU (bUg g nd (g 18 nl) lq) g (prv g (lq8 - 1)) (bR (bUg g nd (g 18 nl) lq) (mdv g (lq8 - 1)) (mcv g (lq8 - 1) - (k7 + 1)) (k7 + 1) L9)) from by
        rcases hO7 with ⟨q, q1⟩ | ⟨q, q1⟩
        · refine Or.inl ⟨q, ?_⟩
          rw [q1, bL_s (by rcases hcase with ⟨_, q9⟩ | ⟨q8, _⟩ <;> omega) (by omega), ← hkL q, hxU]
        · refine Or.inr ⟨q, ?_⟩
          rw [q1, bR_s (by rcases hcase with ⟨q8, _⟩ | ⟨_, q9⟩ <;> omega), hkR q, hxU])⟩
          · refine lv_iload hx hb xd_Mo_binding_50 (lv_at hl 0 rfl) ?_
            refine xz_eq (a := 1) (tgt := 59) hx hb xd_Mo_binding_52 (by decide) (by omega) (fun hc22 => absurd hc22 (by omega)) (fun _ => ?_)
            refine lv_iconst (v := 1) hx hb xd_Mo_binding_55 (by decide) ?_
            refine lv_goto (tgt := 60) hx hb xd_Mo_binding_56 (by decide) ?_
            refine lv_istore_n hx hb xd_Mo_binding_60 rfl hl (Nat.le_of_ble_eq_true rfl) rfl (fun ls hl => ?_)
            have hl : lv_has ls 5 [(1, .int 1), (4, .int 1), (3, .int (nI k7)), (2, .int (nI (lq8 - 1))), (0, .ref h)] := hl
            refine lv_iinc (k := 2) (x := (nI k7)) (v := (nI (k7 + 1))) hx hb xd_Mo_binding_61 hl rfl (xb_inc k7 1) (Nat.le_of_ble_eq_true rfl) rfl (fun ls hl => ?_)
            have hl : lv_has ls 5 [(3, .int (nI (k7 + 1))), (1, .int 1), (4, .int 1), (2, .int (nI (lq8 - 1))), (0, .ref h)] := hl
            refine lv_goto (tgt := 19) hx hb xd_Mo_binding_64 (by decide) ?_
            exact ih6 (k7 + 1, 1, L9, g18) _ _ _ (show 12 - (k7 + 1) < 12 - k7 by omega) (lv_sub hl [0, 3, 1, 4] rfl) hP hD hS ⟨(show (k7 + 1) ≤ 12 from by first | assumption | omega), (show 1 ≤ 1 from by first | assumption | omega), (show MI v g18 from hM9), (show ∀ j, j ≠ 20 → j ≠ 21 → j ≠ 23 → g18 j = g j from fun j h1 h2 h3 => (hfr9 j h1 h2 h3).trans (hfr7 j h1 h2 h3)), (show RW g g18 nl from RW_tr hRW7 hRW9), (show LT (g18 20) (g18 21) nl L9 from hx3), (show GL nd L9 from hx2), (show (1 = 0 ∧ L9 = L) ∨ (1 = 1 ∧ L.length < L9.length) from Or.inr ⟨rfl, by omega⟩), (show (lq8 = nl + 1 ∧ bO (bUg g nd (g 18 nl) lq) g lq L = bAU (bUg g nd (g 18 nl) lq) g lq (bL (bUg g nd (g 18 nl) lq) (12 - (k7 + 1)) (k7 + 1) L9)) ∨ (lq8 ≤ nl ∧ bO (bUg g nd (g 18 nl) lq) g lq L = bAU (bUg g nd (g 18 nl) lq) g (prv g (lq8 - 1)) (bR (bUg g nd (g 18 nl) lq) (mdv g (lq8 - 1)) (mcv g (lq8 - 1) - (k7 + 1)) (k7 + 1) L9)) from by
        rcases hO7 with ⟨q, q1⟩ | ⟨q, q1⟩
        · refine Or.inl ⟨q, ?_⟩
          rw [q1, bL_s (by rcases hcase with ⟨_, q9⟩ | ⟨q8, _⟩ <;> omega) (by omega), ← hkL q, hxU]
        · refine Or.inr ⟨q, ?_⟩
          rw [q1, bR_s (by rcases hcase with ⟨q8, _⟩ | ⟨_, q9⟩ <;> omega), hkR q, hxU])⟩
