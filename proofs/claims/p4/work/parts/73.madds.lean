theorem k4i_0 : (Cond.fieldLink "LayerDeskModel" 150 "LayerDeskModel" "layers" "I") ∈ wT := wT_t (List.mem_append_right _ (List.mem_append_right _ (List.mem_append_right _ (List.mem_append_left _ (List.mem_of_getElem? (i := 107) rfl))))) rfl
theorem k4i_1 : (Cond.fieldLink "LayerDeskModel" 81 "LayerDeskModel" "stack" "[I") ∈ wT := wT_t (List.mem_append_right _ (List.mem_append_right _ (List.mem_append_right _ (List.mem_append_left _ (List.mem_of_getElem? (i := 113) rfl))))) rfl
theorem k4i_2 : (Cond.fieldLink "LayerDeskModel" 66 "LayerDeskModel" "finderOf" "[I") ∈ wT := wT_t (List.mem_append_right _ (List.mem_append_right _ (List.mem_append_right _ (List.mem_append_left _ (List.mem_of_getElem? (i := 108) rfl))))) rfl
theorem k4i_3 : (Cond.code xy_Mo_descriptorOf xb_Mo_descriptorOf 4 (some .int)) ∈ wT := wT_t (List.mem_append_right _ (List.mem_append_right _ (List.mem_append_right _ (List.mem_append_left _ (List.mem_of_getElem? (i := 216) rfl))))) rfl
theorem k4i_4 : (Cond.methodLink "LayerDeskModel" 136 xy_Mo_descriptorOf) ∈ wT := wT_t (List.mem_append_right _ (List.mem_append_right _ (List.mem_append_right _ (List.mem_append_left _ (List.mem_of_getElem? (i := 213) rfl))))) rfl
theorem k4i_5 : (Cond.instanceMethod xy_Mo_descriptorOf) ∈ wT := wT_t (List.mem_append_right _ (List.mem_append_right _ (List.mem_append_right _ (List.mem_append_left _ (List.mem_of_getElem? (i := 215) rfl))))) rfl
theorem k4i_6 : (Cond.selects "LayerDeskModel" xy_Mo_descriptorOf xy_Mo_descriptorOf) ∈ wT := wT_s (q := (xy_Mo_descriptorOf, 31)) (by decide +kernel) rfl
theorem k4i_7 : (Cond.initialized "LayerDeskModel") ∈ wT := wT_t (List.mem_append_left _ (List.mem_of_getElem? (i := 5) rfl)) rfl
theorem k4i_8 : (Cond.code xy_Mo_isIn xb_Mo_isIn 5 (some .boolean)) ∈ wT := wT_t (List.mem_append_right _ (List.mem_append_right _ (List.mem_append_right _ (List.mem_append_right _ (List.mem_of_getElem? (i := 24) rfl))))) rfl
theorem k4i_9 : (Cond.methodLink "LayerDeskModel" 156 xy_Mo_isIn) ∈ wT := wT_t (List.mem_append_right _ (List.mem_append_right _ (List.mem_append_right _ (List.mem_append_right _ (List.mem_of_getElem? (i := 21) rfl))))) rfl
theorem k4i_10 : (Cond.instanceMethod xy_Mo_isIn) ∈ wT := wT_t (List.mem_append_right _ (List.mem_append_right _ (List.mem_append_right _ (List.mem_append_right _ (List.mem_of_getElem? (i := 23) rfl))))) rfl
theorem k4i_11 : (Cond.selects "LayerDeskModel" xy_Mo_isIn xy_Mo_isIn) ∈ wT := wT_s (q := (xy_Mo_isIn, 31)) (by decide +kernel) rfl
theorem k4i_12 : (Cond.fieldLink "LayerDeskModel" 75 "LayerDeskModel" "module" "[I") ∈ wT := wT_t (List.mem_append_right _ (List.mem_append_right _ (List.mem_append_right _ (List.mem_append_left _ (List.mem_of_getElem? (i := 111) rfl))))) rfl
theorem k4i_13 : (Cond.fieldLink "LayerDeskModel" 72 "LayerDeskModel" "modules" "[I") ∈ wT := wT_t (List.mem_append_right _ (List.mem_append_right _ (List.mem_append_right _ (List.mem_append_left _ (List.mem_of_getElem? (i := 110) rfl))))) rfl
theorem k4i_14 : (Cond.fieldLink "LayerDeskModel" 48 "LayerDeskModel" "requires" "[I") ∈ wT := wT_t (List.mem_append_right _ (List.mem_append_right _ (List.mem_append_right _ (List.mem_append_left _ (List.mem_of_getElem? (i := 101) rfl))))) rfl
theorem k4i_15 : (Cond.fieldLink "LayerDeskModel" 63 "LayerDeskModel" "still" "[Z") ∈ wT := wT_t (List.mem_append_right _ (List.mem_append_right _ (List.mem_append_right _ (List.mem_append_left _ (List.mem_of_getElem? (i := 106) rfl))))) rfl
theorem k4i_16 : (Cond.fieldLink "LayerDeskModel" 51 "LayerDeskModel" "require" "[I") ∈ wT := wT_t (List.mem_append_right _ (List.mem_append_right _ (List.mem_append_right _ (List.mem_append_left _ (List.mem_of_getElem? (i := 102) rfl))))) rfl
theorem k4i_17 : (Cond.fieldLink "LayerDeskModel" 69 "LayerDeskModel" "parent" "[I") ∈ wT := wT_t (List.mem_append_right _ (List.mem_append_right _ (List.mem_append_right _ (List.mem_append_left _ (List.mem_of_getElem? (i := 109) rfl))))) rfl
theorem k4i_18 : (Cond.code xy_Mo_lookUp xb_Mo_lookUp 5 (some .int)) ∈ wT := wT_t (List.mem_append_right _ (List.mem_append_right _ (List.mem_append_right _ (List.mem_append_right _ (List.mem_of_getElem? (i := 20) rfl))))) rfl
theorem k4i_19 : (Cond.methodLink "LayerDeskModel" 153 xy_Mo_lookUp) ∈ wT := wT_t (List.mem_append_right _ (List.mem_append_right _ (List.mem_append_right _ (List.mem_append_right _ (List.mem_of_getElem? (i := 17) rfl))))) rfl
theorem k4i_20 : (Cond.instanceMethod xy_Mo_lookUp) ∈ wT := wT_t (List.mem_append_right _ (List.mem_append_right _ (List.mem_append_right _ (List.mem_append_right _ (List.mem_of_getElem? (i := 19) rfl))))) rfl
theorem k4i_21 : (Cond.selects "LayerDeskModel" xy_Mo_lookUp xy_Mo_lookUp) ∈ wT := wT_s (q := (xy_Mo_lookUp, 31)) (by decide +kernel) rfl
set_option maxHeartbeats 4000000 in
set_option maxRecDepth 100000 in
theorem xc_Mo_addsX (l : Launch) (D : va_G) (kA : Nat → ClassId) (sz h : Nat) (mm : Nat → Nat) (v : Nat → Int32) (g : Nat → Nat → Int32) (nm : Int32) (nd : Nat) (nl : Nat) (lq : Nat) (L0 : List Nat) (hMI : MI v g) (hnd : v 4 = nI nd) (hnd12 : nd ≤ 12) (hnl : v 5 = nI nl) (hnl5 : nl ≤ 5) (hpn : ∀ la, la < nl + 1 → ∃ lq, lq ≤ la ∧ g 19 la = nI lq - 1) (hlqe : g 19 nl = nI lq - 1) (hlqn : lq ≤ nl) (hLT : LT (g 20) (g 21) nl L0) (hGL : GL nd L0) : Met l xy_Mo_adds (.code xy_Mo_adds xb_Mo_adds 6 (some .boolean) :: wT) { frames := 1, cells := 0, slots := 0, locals := 24 } (va_Pc [.ref h, .int nm] (xPre D kA sz (moW h mm kA v g))) (va_Qi (fun (r : Int32) (u : (Nat → Int32) × (Nat → Nat → Int32)) => u.1 = v ∧ MI v u.2 ∧ (∀ j, j ≠ 20 → j ≠ 21 → j ≠ 23 → u.2 j = g j) ∧ RW g u.2 nl ∧ ∃ L1, GL nd L1 ∧ LT (u.2 20) (u.2 21) nl L1 ∧ ((r = 0 ∧ adG g nd (g 18 nl) lq L0 nm = (false, L1)) ∨ (r = 1 ∧ adG g nd (g 18 nl) lq L0 nm = (true, L1)))) (fun (u : (Nat → Int32) × (Nat → Nat → Int32)) t => va_P D xcl (moW h mm kA u.1 u.2) t.heap ∧ va_D (va_A (moW h mm kA v g) sz) (moW h mm kA u.1 u.2)) (va_A (moW h mm kA v g) sz)) 0 0 (va_A (moW h mm kA v g) sz) := by
  refine Met.ofW (cc := xb_Mo_adds) (maxL := 6) (ret := (some .boolean)) (by decide) rfl ?_
  intro p e s m args below meth c s₁ B hml hv
  obtain ⟨rfl, hsz, hP, hK, hD0⟩ := hv
  have hx := B.exec
  have hb := B.bytes
  have hr := B.returns
  have hT := x_hT B.pre
  have hown : s.vm.findClass xR_Mo = some m.cls := findClass_of_methodNamed B.named
  have hlocks := B.notSynchronized
  subst hsz
  have hD := hD0.self (sz := s.heap.size)
  generalize hAe : va_A (moW h mm kA v g) s.heap.size = A at hD ⊢
  have hA : ∀ q : Nat, s.heap.size ≤ q → A q := fun q h => by rw [← hAe]; exact Or.inr h
  have hS : va_S A s.heap s.heap [] := va_S.rf
  have hl := lv_entry ([.ref h, .int nm]) (n := 6) (Nat.le_of_ble_eq_true rfl)
  rw [lg_entry_eq]
  generalize (lg_sl ([.ref h, .int nm]) ++ List.replicate (6 - (lg_sl ([.ref h, .int nm])).length) Slot.unset).toArray = ls at hl ⊢
  have hl : lv_has ls 6 [(0, .ref h), (1, .int nm)] := hl
  have hP : va_P D xcl (moW h mm kA v g) s.heap := hP
  obtain ⟨-, -, -, -, -, hmdg, -⟩ := id hMI
  have hL0l := GL_len hGL
  refine lv_aload_n hx hb xd_Mo_adds_0 rfl (lv_at hl 0 rfl) ?_
  refine va_get (D := D) (ci := 4) (v := .int (v 5)) (C := xR_Mo) (T := xT_Mo) (N := 31) hx hb hT xi_Mo hown hK.1 hP 0 rfl rfl 23 (by decide) (hT _ k4i_0) (fun _ h9 => h9) rfl xd_Mo_adds_1 ?_
  refine xn_top (x := (v 5)) (y := nI nl) hnl ?_
  refine lv_istore_n hx hb xd_Mo_adds_4 rfl hl (Nat.le_of_ble_eq_true rfl) rfl (fun ls hl => ?_)
  have hl : lv_has ls 6 [(2, .int (nI nl)), (0, .ref h), (1, .int nm)] := hl
  refine lv_iconst (v := 1) hx hb xd_Mo_adds_5 (by decide) ?_
  refine lv_istore_n hx hb xd_Mo_adds_6 rfl hl (Nat.le_of_ble_eq_true rfl) rfl (fun ls hl => ?_)
  have hl : lv_has ls 6 [(3, .int 1), (2, .int (nI nl)), (0, .ref h), (1, .int nm)] := hl
  refine lv_aload_n hx hb xd_Mo_adds_7 rfl (lv_at hl 2 rfl) ?_
  refine va_get (D := D) (ci := 4) (v := .ref (mm 23)) (C := xR_Mo) (T := xT_Mo) (N := 31) hx hb hT xi_Mo hown hK.1 hP 0 rfl rfl 29 (by decide) (hT _ k4i_1) (fun _ h9 => h9) rfl xd_Mo_adds_8 ?_
  refine lv_iconst (v := 0) hx hb xd_Mo_adds_11 (by decide) ?_
  refine lv_iload_n hx hb xd_Mo_adds_12 rfl (lv_at hl 3 rfl) ?_
  refine xn_iast (i := 0) hx hb hK.1 hP hD hS 24 0 rfl rfl (by omega) (by decide) xd_Mo_adds_13 (fun H locs hP hD hS => ?_)
  have hP : va_P D xcl (moW h mm kA v (va_up g 23 (upd (g 23) 0 nm))) H := hP
  have hD : va_D A (moW h mm kA v (va_up g 23 (upd (g 23) 0 nm))) := hD
  refine xlab (σ := Nat × List Nat × (Nat → Nat → Int32)) (ml := 6) 14 (fun (tp, L, g1) => [(3, .int (nI tp)), (0, .ref h), (1, .int nm), (2, .int (nI nl))]) (fun (tp, L, g1) => []) (fun (tp, L, g1) => moW h mm kA v g1) (fun (tp, L, g1) => (tp + 5 * (12 - L.length) ≤ 61) ∧ (MI v g1) ∧ (∀ j, j ≠ 20 → j ≠ 21 → j ≠ 23 → g1 j = g j) ∧ (RW g g1 nl) ∧ (LT (g1 20) (g1 21) nl L) ∧ (GL nd L) ∧ (aF (aN (dsG g nd (g 18 nl)) (upG g lq) (rqG g) 12) L0 [nm] = aF (aN (dsG g nd (g 18 nl)) (upG g lq) (rqG g) 12) L (ST (g1 23) tp))) (fun (tp, L, g1) => tp + 6 * (12 - L.length)) ?_ (1, L0, (va_up g 23 (upd (g 23) 0 nm))) _ _ _ (lv_sub hl [0, 2, 3, 1] rfl) hP hD hS ⟨(show 1 + 5 * (12 - L0.length) ≤ 61 from by omega), (show MI v (va_up g 23 (upd (g 23) 0 nm)) from MI_g rfl rfl rfl rfl rfl rfl rfl rfl hMI), (show ∀ j, j ≠ 20 → j ≠ 21 → j ≠ 23 → (va_up g 23 (upd (g 23) 0 nm)) j = g j from fun j h1 h2 h3 => by simp [va_up, h3]), (show RW g (va_up g 23 (upd (g 23) 0 nm)) nl from RW_rf), (show LT ((va_up g 23 (upd (g 23) 0 nm)) 20) ((va_up g 23 (upd (g 23) 0 nm)) 21) nl L0 from hLT), (show GL nd L0 from hGL), (show aF (aN (dsG g nd (g 18 nl)) (upG g lq) (rqG g) 12) L0 [nm] = aF (aN (dsG g nd (g 18 nl)) (upG g lq) (rqG g) 12) L0 (ST ((va_up g 23 (upd (g 23) 0 nm)) 23) 1) from congrArg (aF (aN (dsG g nd (g 18 nl)) (upG g lq) (rqG g) 12) L0) (show ST (upd (g 23) 0 nm) 1 = [nm] from ST_push).symm)⟩
  intro n9 ih1 a9 ls H locs hμ hl hP hD hS hI
  subst hμ
  obtain ⟨tp, L, g1⟩ := a9
  obtain ⟨htp, hM1, hfr, hRW, hL1, hG1, hA1⟩ := hI
  have htp : tp + 5 * (12 - L.length) ≤ 61 := htp
  have hM1 : MI v g1 := hM1
  have hfr : ∀ j, j ≠ 20 → j ≠ 21 → j ≠ 23 → g1 j = g j := hfr
  have hRW : RW g g1 nl := hRW
  have hL1 : LT (g1 20) (g1 21) nl L := hL1
  have hG1 : GL nd L := hG1
  have hA1 : aF (aN (dsG g nd (g 18 nl)) (upG g lq) (rqG g) 12) L0 [nm] = aF (aN (dsG g nd (g 18 nl)) (upG g lq) (rqG g) 12) L (ST (g1 23) tp) := hA1
  obtain ⟨-, -, -, -, hrq1, hmd1, huq⟩ := id hM1
  have hpar1 : ∀ la, la < nl + 1 → ∃ lq, lq ≤ la ∧ g1 19 la = nI lq - 1 := fun la h => by rw [hfr 19 (by decide) (by decide) (by decide)]; exact hpn la h
  have hLl := GL_len hG1
  have hmk1 := hL1.1
  have hl : lv_has ls 6 [(3, .int (nI tp)), (0, .ref h), (1, .int nm), (2, .int (nI nl))] := hl
  have hP : va_P D xcl (moW h mm kA v g1) H := hP
  have hD : va_D A (moW h mm kA v g1) := hD
  refine lv_iload_n hx hb xd_Mo_adds_14 rfl (lv_at hl 0 rfl) ?_
  refine xz_le (a := tp) (tgt := 163) hx hb xd_Mo_adds_15 (by decide) (by omega) (fun hc2 => ?_) (fun hc2 => ?_)
  · refine lv_iconst (v := 1) hx hb xd_Mo_adds_163 (by decide) ?_
    exact W.zret (v := 1) hx hb hr rfl (fun t ht hW => ⟨⟨1, (v, g1), rfl, ⟨rfl, hM1, hfr, hRW, L, hG1, hL1, Or.inr ⟨rfl, (aF_one (F := aN (dsG g nd (g 18 nl)) (upG g lq) (rqG g) 12)).symm.trans (hA1.trans (by rw [show tp = 0 by omega]; rfl))⟩⟩, by rw [ht]; exact hP, hD⟩, hS.F ht⟩) hS.2.2 xd_Mo_adds_164
  · refine lv_iinc (k := 0) (x := (nI tp)) (v := (nI (tp - 1))) hx hb xd_Mo_adds_18 hl rfl (xb_m1 (i := tp) (by omega)) (Nat.le_of_ble_eq_true rfl) rfl (fun ls hl => ?_)
    have hl : lv_has ls 6 [(3, .int (nI (tp - 1))), (0, .ref h), (1, .int nm), (2, .int (nI nl))] := hl
    refine lv_aload_n hx hb xd_Mo_adds_21 rfl (lv_at hl 1 rfl) ?_
    refine lv_aload_n hx hb xd_Mo_adds_22 rfl (lv_at hl 1 rfl) ?_
    refine va_get (D := D) (ci := 4) (v := .ref (mm 18)) (C := xR_Mo) (T := xT_Mo) (N := 31) hx hb hT xi_Mo hown hK.1 hP 0 rfl rfl 24 (by decide) (hT _ k4i_2) (fun _ h9 => h9) rfl xd_Mo_adds_23 ?_
    refine lv_iload_n hx hb xd_Mo_adds_26 rfl (lv_at hl 3 rfl) ?_
    refine xn_iald (i := nl) hx hb hK.1 hP 19 0 rfl rfl (by omega) (by decide) xd_Mo_adds_27 ?_
    refine lv_aload_n hx hb xd_Mo_adds_28 rfl (lv_at hl 1 rfl) ?_
    refine va_get (D := D) (ci := 4) (v := .ref (mm 23)) (C := xR_Mo) (T := xT_Mo) (N := 31) hx hb hT xi_Mo hown hK.1 hP 0 rfl rfl 29 (by decide) (hT _ k4i_1) (fun _ h9 => h9) rfl xd_Mo_adds_29 ?_
    refine lv_iload_n hx hb xd_Mo_adds_32 rfl (lv_at hl 0 rfl) ?_
    refine xn_iald (i := tp - 1) hx hb hK.1 hP 24 0 rfl rfl (by omega) (by decide) xd_Mo_adds_33 ?_
    have hFc := va_free (wc := (moW h mm kA v g1)) hD hS hA [0, 1, 2, 3, 4, 5, 6, 7, 8, 9, 10, 11, 12, 13, 14, 15, 16, 17, 18, 19, 20, 21, 22, 23, 24, 25] rfl
    refine va_calli (va_runV (As := [.int (g1 18 nl), .int (g1 23 (tp - 1))]) (rest := []) ⟨hx, hb, hml, hown, hT⟩ (xc_Mo_descriptorOf l D kA H.size h mm v g1 (g1 18 nl) (g1 23 (tp - 1)) nd (by first | assumption | omega) (by first | assumption | omega)) (cwV 2 hT (wT_V k4i_4 k4i_5 k4i_6 k4i_7 k4i_3) rfl rfl rfl (by decide +kernel) ⟨Nat.le_of_ble_eq_true rfl, Nat.le_of_ble_eq_true rfl⟩) (x_preV hK hP hD 0 rfl rfl) rfl rfl hl.1 rfl (lv_room (Nat.le_of_ble_eq_true rfl)) xd_Mo_adds_34 ⟨Nat.le_of_ble_eq_true rfl, Nat.le_of_ble_eq_true rfl⟩) hS (fun q _ h => hFc q h) hFc (fun r3 u4 t H1 locs ht hvm hp5 hB hz1 hk1 hS => ?_)
    obtain ⟨hP1, hD1⟩ := hB
    rw [ht] at hP1
    have hD1 := hD1.weaken (fun _ _ _ h => hFc _ h)
    generalize H1 = H at hP1 hS ⊢
    have hP := hP1
    have hD := hD1
    have hP : va_P D xcl (moW h mm kA v g1) H := hP
    have hD : va_D A (moW h mm kA v g1) := hD
    rcases hp5 with ⟨z6, z7, rfl, z8, z9, z10⟩ | ⟨rfl, z11⟩
    · have hds : dsG g nd (g 18 nl) (g1 23 (tp - 1)) = some z6 := by unfold dsG; rw [← hfr 3 (by decide) (by decide) (by decide), ← hfr 4 (by decide) (by decide) (by decide), ← hfr 18 (by decide) (by decide) (by decide)]; exact ff_some z7 ⟨z8, z9⟩ z10
      refine lv_istore hx hb xd_Mo_adds_37 hl (Nat.le_of_ble_eq_true rfl) rfl (fun ls hl => ?_)
      have hl : lv_has ls 6 [(4, .int (nI z6)), (3, .int (nI (tp - 1))), (0, .ref h), (1, .int nm), (2, .int (nI nl))] := hl
      refine lv_iload hx hb xd_Mo_adds_39 (lv_at hl 0 rfl) ?_
      refine xz_ge (a := z6) (tgt := 65) hx hb xd_Mo_adds_41 (by decide) (by omega) ?_
      refine lv_aload_n hx hb xd_Mo_adds_65 rfl (lv_at hl 2 rfl) ?_
      refine lv_iload_n hx hb xd_Mo_adds_66 rfl (lv_at hl 4 rfl) ?_
      refine lv_iload hx hb xd_Mo_adds_67 (lv_at hl 0 rfl) ?_
      have hFc := va_free (wc := (moW h mm kA v g1)) hD hS hA [0, 1, 2, 3, 4, 5, 6, 7, 8, 9, 10, 11, 12, 13, 14, 15, 16, 17, 18, 19, 20, 21, 22, 23, 24, 25] rfl
      refine va_calli (va_runV (As := [.int (nI nl), .int (nI z6)]) (rest := []) ⟨hx, hb, hml, hown, hT⟩ (xc_Mo_isIn l D kA H.size h mm v g1 nl (nI z6) L.length (by first | assumption | omega) (by first | assumption | omega) (by first | assumption | omega)) (cwV 2 hT (wT_V k4i_9 k4i_10 k4i_11 k4i_7 k4i_8) rfl rfl rfl (by decide +kernel) ⟨Nat.le_of_ble_eq_true rfl, Nat.le_of_ble_eq_true rfl⟩) (x_preV hK hP hD 0 rfl rfl) rfl rfl hl.1 rfl (lv_room (Nat.le_of_ble_eq_true rfl)) xd_Mo_adds_69 ⟨Nat.le_of_ble_eq_true rfl, Nat.le_of_ble_eq_true rfl⟩) hS (fun q _ h => hFc q h) hFc (fun r13 u14 t H1 locs ht hvm hp15 hB hz1 hk1 hS => ?_)
      obtain ⟨hP1, hD1⟩ := hB
      rw [ht] at hP1
      have hD1 := hD1.weaken (fun _ _ _ h => hFc _ h)
      generalize H1 = H at hP1 hS ⊢
      have hP := hP1
      have hD := hD1
      have hP : va_P D xcl (moW h mm kA v g1) H := hP
      have hD : va_D A (moW h mm kA v g1) := hD
      rcases hp15 with ⟨rfl, z16, z17, z18, z19⟩ | ⟨rfl, z20⟩
      · refine xz_ne (a := 1) (tgt := 160) hx hb xd_Mo_adds_72 (by decide) (by omega) (fun _ => ?_) (fun hc21 => absurd hc21 (by omega))
        refine lv_goto (tgt := 14) hx hb xd_Mo_adds_160 (by decide) ?_
        exact ih1 (tp - 1, L, g1) _ _ _ (show (tp - 1) + 6 * (12 - L.length) < tp + 6 * (12 - L.length) by first | omega | (rw [hLk]; omega)) (lv_sub hl [1, 2, 3, 4] rfl) hP hD hS ⟨(show (tp - 1) + 5 * (12 - L.length) ≤ 61 from by omega), (show MI v g1 from hM1), (show ∀ j, j ≠ 20 → j ≠ 21 → j ≠ 23 → g1 j = g j from hfr), (show RW g g1 nl from hRW), (show LT (g1 20) (g1 21) nl L from hL1), (show GL nd L from hG1), (show aF (aN (dsG g nd (g 18 nl)) (upG g lq) (rqG g) 12) L0 [nm] = aF (aN (dsG g nd (g 18 nl)) (upG g lq) (rqG g) 12) L (ST (g1 23) (tp - 1)) from by rw [hA1, ST_pop (by omega), aM_in hds (LT_in hL1 hG1 hnd12 (by omega) z17 z18 z19)])⟩
      · refine xz_ne (a := 0) (tgt := 160) hx hb xd_Mo_adds_72 (by decide) (by omega) (fun hc22 => absurd hc22 (by omega)) (fun _ => ?_)
        have hnin : z6 ∉ L := LT_out hL1 z20
        have hG2 := GL_add hG1 (dsG_lt _ _ hds) hnin
        have hlt12 : L.length < 12 := by have q := GL_len hG2; rw [len_app] at q; omega
        obtain ⟨rq1, hrq2, erq1⟩ := hrq1 z6 (by omega)
        refine lv_aload_n hx hb xd_Mo_adds_75 rfl (lv_at hl 2 rfl) ?_
        refine va_get (D := D) (ci := 4) (v := .ref (mm 21)) (C := xR_Mo) (T := xT_Mo) (N := 31) hx hb hT xi_Mo hown hK.1 hP 0 rfl rfl 27 (by decide) (hT _ k4i_12) (fun _ h9 => h9) rfl xd_Mo_adds_76 ?_
        refine lv_bipush (v := 12) hx hb xd_Mo_adds_79 (by decide) ?_
        refine lv_iload_n hx hb xd_Mo_adds_81 rfl (lv_at hl 4 rfl) ?_
        refine lv_imul hx hb xd_Mo_adds_82 ?_
        refine xn_top (y := nI (12 * nl)) (pk_mul 12 nl) ?_
        refine lv_aload_n hx hb xd_Mo_adds_83 rfl (lv_at hl 2 rfl) ?_
        refine va_get (D := D) (ci := 4) (v := .ref (mm 20)) (C := xR_Mo) (T := xT_Mo) (N := 31) hx hb hT xi_Mo hown hK.1 hP 0 rfl rfl 26 (by decide) (hT _ k4i_13) (fun _ h9 => h9) rfl xd_Mo_adds_84 ?_
        refine lv_iload_n hx hb xd_Mo_adds_87 rfl (lv_at hl 4 rfl) ?_
        refine xn_iald (i := nl) hx hb hK.1 hP 21 0 rfl rfl (by omega) (by decide) xd_Mo_adds_88 ?_
        refine xn_top (x := (g1 20 nl)) (y := nI L.length) hmk1 ?_
        refine lv_iadd hx hb xd_Mo_adds_89 ?_
        refine xn_top (y := nI ((12 * nl) + L.length)) (nI_add (12 * nl) L.length) ?_
        refine lv_iload hx hb xd_Mo_adds_90 (lv_at hl 0 rfl) ?_
        refine xn_iast (i := (12 * nl) + L.length) hx hb hK.1 hP hD hS 22 0 rfl rfl (by omega) (by decide) xd_Mo_adds_92 (fun H locs hP hD hS => ?_)
        have hP : va_P D xcl (moW h mm kA v (va_up g1 21 (upd (g1 21) ((12 * nl) + L.length) (nI z6)))) H := hP
        have hD : va_D A (moW h mm kA v (va_up g1 21 (upd (g1 21) ((12 * nl) + L.length) (nI z6)))) := hD
        refine lv_aload_n hx hb xd_Mo_adds_93 rfl (lv_at hl 2 rfl) ?_
        refine va_get (D := D) (ci := 4) (v := .ref (mm 20)) (C := xR_Mo) (T := xT_Mo) (N := 31) hx hb hT xi_Mo hown hK.1 hP 0 rfl rfl 26 (by decide) (hT _ k4i_13) (fun _ h9 => h9) rfl xd_Mo_adds_94 ?_
        refine lv_iload_n hx hb xd_Mo_adds_97 rfl (lv_at hl 4 rfl) ?_
        refine lv_dup2_11 hx hb xd_Mo_adds_98 rfl rfl ?_
        refine xn_iald (i := nl) hx hb hK.1 hP 21 0 rfl rfl (by omega) (by decide) xd_Mo_adds_99 ?_
        refine xn_top (x := (g1 20 nl)) (y := nI L.length) hmk1 ?_
        refine lv_iconst (v := 1) hx hb xd_Mo_adds_100 (by decide) ?_
        refine lv_iadd hx hb xd_Mo_adds_101 ?_
        refine xn_top (y := nI (L.length + 1)) (nI_add L.length 1) ?_
        refine xn_iast (i := nl) hx hb hK.1 hP hD hS 21 0 rfl rfl (by omega) (by decide) xd_Mo_adds_102 (fun H locs hP hD hS => ?_)
        have hP : va_P D xcl (moW h mm kA v (va_up (va_up g1 20 (upd (g1 20) nl (nI (L.length + 1)))) 21 (upd (g1 21) ((12 * nl) + L.length) (nI z6)))) H := hP
        have hD : va_D A (moW h mm kA v (va_up (va_up g1 20 (upd (g1 20) nl (nI (L.length + 1)))) 21 (upd (g1 21) ((12 * nl) + L.length) (nI z6)))) := hD
        have hLk : (L ++ [z6]).length = L.length + 1 := len_app
        refine lv_iconst (v := 5) hx hb xd_Mo_adds_103 (by decide) ?_
        refine lv_iload hx hb xd_Mo_adds_104 (lv_at hl 0 rfl) ?_
        refine lv_imul hx hb xd_Mo_adds_106 ?_
        refine xn_top (y := nI (5 * z6)) (pk_mul 5 z6) ?_
        refine lv_aload_n hx hb xd_Mo_adds_107 rfl (lv_at hl 2 rfl) ?_
        refine va_get (D := D) (ci := 4) (v := .ref (mm 12)) (C := xR_Mo) (T := xT_Mo) (N := 31) hx hb hT xi_Mo hown hK.1 hP 0 rfl rfl 17 (by decide) (hT _ k4i_14) (fun _ h9 => h9) rfl xd_Mo_adds_108 ?_
        refine lv_iload hx hb xd_Mo_adds_111 (lv_at hl 0 rfl) ?_
        refine xn_iald (i := z6) hx hb hK.1 hP 13 0 rfl rfl (by omega) (by decide) xd_Mo_adds_113 ?_
        refine xn_top (x := (g1 12 z6)) (y := nI rq1) erq1 ?_
        refine lv_iadd hx hb xd_Mo_adds_114 ?_
        refine xn_top (y := nI ((5 * z6) + rq1)) (nI_add (5 * z6) rq1) ?_
        refine lv_iconst (v := 1) hx hb xd_Mo_adds_115 (by decide) ?_
        refine lv_isub hx hb xd_Mo_adds_116 ?_
        refine lv_istore hx hb xd_Mo_adds_117 hl (Nat.le_of_ble_eq_true rfl) rfl (fun ls hl => ?_)
        have hl : lv_has ls 6 [(5, .int (nI ((5 * z6) + rq1) - 1)), (4, .int (nI z6)), (3, .int (nI (tp - 1))), (0, .ref h), (1, .int nm), (2, .int (nI nl))] := hl
        refine xlab (σ := Nat × Nat × (Nat → Int32)) (ml := 6) 119 (fun (kk, tp2, f23) => [(5, .int (nI kk - 1)), (3, .int (nI tp2)), (4, .int (nI z6)), (2, .int (nI nl)), (0, .ref h), (1, .int nm)]) (fun (kk, tp2, f23) => []) (fun (kk, tp2, f23) => moW h mm kA v (va_up (va_up (va_up g1 20 (upd (g1 20) nl (nI (L.length + 1)))) 21 (upd (g1 21) ((12 * nl) + L.length) (nI z6))) 23 f23)) (fun (kk, tp2, f23) => (5 * z6 ≤ kk) ∧ (kk ≤ 5 * z6 + rq1) ∧ (tp2 + kk ≤ tp - 1 + (5 * z6 + rq1)) ∧ (ST f23 tp2 = rqL (g 13) (g 17) kk (5 * z6 + rq1 - kk) ++ ST (g1 23) (tp - 1))) (fun (kk, tp2, f23) => kk) ?_ (((5 * z6) + rq1), tp - 1, (g1 23)) _ _ _ (lv_sub hl [0, 2, 1, 5, 3, 4] rfl) hP hD hS ⟨(show 5 * z6 ≤ ((5 * z6) + rq1) from by first | assumption | omega), (show ((5 * z6) + rq1) ≤ 5 * z6 + rq1 from by first | assumption | omega), (show (tp - 1) + ((5 * z6) + rq1) ≤ tp - 1 + (5 * z6 + rq1) from by first | assumption | omega), (show ST (g1 23) (tp - 1) = rqL (g 13) (g 17) ((5 * z6) + rq1) (5 * z6 + rq1 - ((5 * z6) + rq1)) ++ ST (g1 23) (tp - 1) from by rw [show 5 * z6 + rq1 - (5 * z6 + rq1) = 0 by omega]; rfl)⟩
        intro n9 ih23 a9 ls H locs hμ hl hP hD hS hI
        subst hμ
        obtain ⟨kk, tp2, f23⟩ := a9
        obtain ⟨hkk1, hkk2, htp2, hST⟩ := hI
        have hkk1 : 5 * z6 ≤ kk := hkk1
        have hkk2 : kk ≤ 5 * z6 + rq1 := hkk2
        have htp2 : tp2 + kk ≤ tp - 1 + (5 * z6 + rq1) := htp2
        have hST : ST f23 tp2 = rqL (g 13) (g 17) kk (5 * z6 + rq1 - kk) ++ ST (g1 23) (tp - 1) := hST
        have hl : lv_has ls 6 [(5, .int (nI kk - 1)), (3, .int (nI tp2)), (4, .int (nI z6)), (2, .int (nI nl)), (0, .ref h), (1, .int nm)] := hl
        have hP : va_P D xcl (moW h mm kA v (va_up (va_up (va_up g1 20 (upd (g1 20) nl (nI (L.length + 1)))) 21 (upd (g1 21) ((12 * nl) + L.length) (nI z6))) 23 f23)) H := hP
        have hD : va_D A (moW h mm kA v (va_up (va_up (va_up g1 20 (upd (g1 20) nl (nI (L.length + 1)))) 21 (upd (g1 21) ((12 * nl) + L.length) (nI z6))) 23 f23)) := hD
        rcases Nat.lt_or_ge (5 * z6) kk with hz5 | hz5
        · have e5 : nI kk - 1 = nI (kk - 1) := pk_sub (a := kk) (b := 1) (by omega)
          rw [e5] at hl
          refine lv_iload hx hb xd_Mo_adds_119 (lv_at hl 0 rfl) ?_
          refine lv_iconst (v := 5) hx hb xd_Mo_adds_121 (by decide) ?_
          refine lv_iload hx hb xd_Mo_adds_122 (lv_at hl 2 rfl) ?_
          refine lv_imul hx hb xd_Mo_adds_124 ?_
          refine xn_top (y := nI (5 * z6)) (pk_mul 5 z6) ?_
          refine xn_lt (a := kk - 1) (b := 5 * z6) (tgt := 160) hx hb xd_Mo_adds_125 (by decide) (by omega) (by omega) (fun hc24 => absurd hc24 (by omega)) (fun _ => ?_)
          refine lv_aload_n hx hb xd_Mo_adds_128 rfl (lv_at hl 4 rfl) ?_
          refine va_get (D := D) (ci := 4) (v := .ref (mm 17)) (C := xR_Mo) (T := xT_Mo) (N := 31) hx hb hT xi_Mo hown hK.1 hP 0 rfl rfl 22 (by decide) (hT _ k4i_15) (fun _ h9 => h9) rfl xd_Mo_adds_129 ?_
          refine lv_iload hx hb xd_Mo_adds_132 (lv_at hl 0 rfl) ?_
          refine xn_zald (i := kk - 1) hx hb hK.1 hP 18 2 rfl rfl (by omega) (by decide) xd_Mo_adds_134 ?_
          refine lv_if_ne (tgt := 154) hx hb xd_Mo_adds_135 (by decide) (fun hc25 => ?_) (fun hc25 => ?_)
          · refine lv_iinc (k := 0) (x := (nI (kk - 1))) (v := (nI (kk - 1) - 1)) hx hb xd_Mo_adds_154 hl rfl (by rw [Int32.sub_eq_add_neg]; rfl) (Nat.le_of_ble_eq_true rfl) rfl (fun ls hl => ?_)
            have hl : lv_has ls 6 [(5, .int (nI (kk - 1) - 1)), (3, .int (nI tp2)), (4, .int (nI z6)), (2, .int (nI nl)), (0, .ref h), (1, .int nm)] := hl
            refine lv_goto (tgt := 119) hx hb xd_Mo_adds_157 (by decide) ?_
            exact ih23 ((kk - 1), tp2, f23) _ _ _ (show (kk - 1) < kk by omega) (lv_sub hl [0, 1, 2, 3, 4, 5] rfl) hP hD hS ⟨(show 5 * z6 ≤ (kk - 1) from by first | assumption | omega), (show (kk - 1) ≤ 5 * z6 + rq1 from by first | assumption | omega), (show tp2 + (kk - 1) ≤ tp - 1 + (5 * z6 + rq1) from by first | assumption | omega), (show ST f23 tp2 = rqL (g 13) (g 17) (kk - 1) (5 * z6 + rq1 - (kk - 1)) ++ ST (g1 23) (tp - 1) from by rw [show 5 * z6 + rq1 - (kk - 1) = 5 * z6 + rq1 - kk + 1 by omega, rqL_n (by rw [← hfr 17 (by decide) (by decide) (by decide)]; exact hc25), show kk - 1 + 1 = kk by omega]; exact hST)⟩
          · refine lv_aload_n hx hb xd_Mo_adds_138 rfl (lv_at hl 4 rfl) ?_
            refine va_get (D := D) (ci := 4) (v := .ref (mm 23)) (C := xR_Mo) (T := xT_Mo) (N := 31) hx hb hT xi_Mo hown hK.1 hP 0 rfl rfl 29 (by decide) (hT _ k4i_1) (fun _ h9 => h9) rfl xd_Mo_adds_139 ?_
            refine lv_iload_n hx hb xd_Mo_adds_142 rfl (lv_at hl 1 rfl) ?_
            refine lv_aload_n hx hb xd_Mo_adds_143 rfl (lv_at hl 4 rfl) ?_
            refine va_get (D := D) (ci := 4) (v := .ref (mm 13)) (C := xR_Mo) (T := xT_Mo) (N := 31) hx hb hT xi_Mo hown hK.1 hP 0 rfl rfl 18 (by decide) (hT _ k4i_16) (fun _ h9 => h9) rfl xd_Mo_adds_144 ?_
            refine lv_iload hx hb xd_Mo_adds_147 (lv_at hl 0 rfl) ?_
            refine xn_iald (i := kk - 1) hx hb hK.1 hP 14 0 rfl rfl (by omega) (by decide) xd_Mo_adds_149 ?_
            refine xn_iast (i := tp2) hx hb hK.1 hP hD hS 24 0 rfl rfl (by omega) (by decide) xd_Mo_adds_150 (fun H locs hP hD hS => ?_)
            have hP : va_P D xcl (moW h mm kA v (va_up (va_up (va_up g1 20 (upd (g1 20) nl (nI (L.length + 1)))) 21 (upd (g1 21) ((12 * nl) + L.length) (nI z6))) 23 (upd f23 tp2 (g1 13 (kk - 1))))) H := hP
            have hD : va_D A (moW h mm kA v (va_up (va_up (va_up g1 20 (upd (g1 20) nl (nI (L.length + 1)))) 21 (upd (g1 21) ((12 * nl) + L.length) (nI z6))) 23 (upd f23 tp2 (g1 13 (kk - 1))))) := hD
            refine lv_iinc (k := 1) (x := (nI tp2)) (v := (nI (tp2 + 1))) hx hb xd_Mo_adds_151 hl rfl (xb_inc tp2 1) (Nat.le_of_ble_eq_true rfl) rfl (fun ls hl => ?_)
            have hl : lv_has ls 6 [(3, .int (nI (tp2 + 1))), (5, .int (nI (kk - 1))), (4, .int (nI z6)), (2, .int (nI nl)), (0, .ref h), (1, .int nm)] := hl
            refine lv_iinc (k := 1) (x := (nI (kk - 1))) (v := (nI (kk - 1) - 1)) hx hb xd_Mo_adds_154 hl rfl (by rw [Int32.sub_eq_add_neg]; rfl) (Nat.le_of_ble_eq_true rfl) rfl (fun ls hl => ?_)
            have hl : lv_has ls 6 [(5, .int (nI (kk - 1) - 1)), (3, .int (nI (tp2 + 1))), (4, .int (nI z6)), (2, .int (nI nl)), (0, .ref h), (1, .int nm)] := hl
            refine lv_goto (tgt := 119) hx hb xd_Mo_adds_157 (by decide) ?_
            exact ih23 ((kk - 1), tp2 + 1, (upd f23 tp2 (g1 13 (kk - 1)))) _ _ _ (show (kk - 1) < kk by omega) (lv_sub hl [0, 1, 2, 3, 4, 5] rfl) hP hD hS ⟨(show 5 * z6 ≤ (kk - 1) from by first | assumption | omega), (show (kk - 1) ≤ 5 * z6 + rq1 from by first | assumption | omega), (show (tp2 + 1) + (kk - 1) ≤ tp - 1 + (5 * z6 + rq1) from by first | assumption | omega), (show ST (upd f23 tp2 (g1 13 (kk - 1))) (tp2 + 1) = rqL (g 13) (g 17) (kk - 1) (5 * z6 + rq1 - (kk - 1)) ++ ST (g1 23) (tp - 1) from by rw [show 5 * z6 + rq1 - (kk - 1) = 5 * z6 + rq1 - kk + 1 by omega, rqL_y (by rw [← hfr 17 (by decide) (by decide) (by decide)]; exact hc25), show kk - 1 + 1 = kk by omega, ST_push, hST, ← hfr 13 (by decide) (by decide) (by decide)]; rfl)⟩
        · refine lv_iload hx hb xd_Mo_adds_119 (lv_at hl 0 rfl) ?_
          refine lv_iconst (v := 5) hx hb xd_Mo_adds_121 (by decide) ?_
          refine lv_iload hx hb xd_Mo_adds_122 (lv_at hl 2 rfl) ?_
          refine lv_imul hx hb xd_Mo_adds_124 ?_
          refine xn_top (y := nI (5 * z6)) (pk_mul 5 z6) ?_
          refine lv_icmp_lt (tgt := 160) hx hb xd_Mo_adds_125 (by decide) (fun _ => ?_) (fun hc26 => absurd (xb_predlt hz5 (by omega)) hc26)
          refine lv_goto (tgt := 14) hx hb xd_Mo_adds_160 (by decide) ?_
          exact ih1 (tp2, (L ++ [z6]), (va_up (va_up (va_up g1 20 (upd (g1 20) nl (nI (L.length + 1)))) 21 (upd (g1 21) ((12 * nl) + L.length) (nI z6))) 23 f23)) _ _ _ (show tp2 + 6 * (12 - (L ++ [z6]).length) < tp + 6 * (12 - L.length) by first | omega | (rw [hLk]; omega)) (lv_sub hl [1, 4, 5, 3] rfl) hP hD hS ⟨(show tp2 + 5 * (12 - (L ++ [z6]).length) ≤ 61 from by rw [hLk]; omega), (show MI v (va_up (va_up (va_up g1 20 (upd (g1 20) nl (nI (L.length + 1)))) 21 (upd (g1 21) ((12 * nl) + L.length) (nI z6))) 23 f23) from MI_g (g := va_up (va_up g1 20 (upd (g1 20) nl (nI (L.length + 1)))) 21 (upd (g1 21) (12 * nl + L.length) (nI z6))) rfl rfl rfl rfl rfl rfl rfl rfl (MI_add (by omega) hmk1 hlt12 (by omega) hM1)), (show ∀ j, j ≠ 20 → j ≠ 21 → j ≠ 23 → (va_up (va_up (va_up g1 20 (upd (g1 20) nl (nI (L.length + 1)))) 21 (upd (g1 21) ((12 * nl) + L.length) (nI z6))) 23 f23) j = g j from fun j h1 h2 h3 => by rw [← hfr j h1 h2 h3]; simp [va_up, h1, h2, h3]), (show RW g (va_up (va_up (va_up g1 20 (upd (g1 20) nl (nI (L.length + 1)))) 21 (upd (g1 21) ((12 * nl) + L.length) (nI z6))) 23 f23) nl from fun la hla => ⟨(show upd (g1 20) nl (nI (L.length + 1)) la = g 20 la by rw [pk_un (by omega)]; exact (hRW la hla).1), fun k9 hk9 => (show upd (g1 21) (12 * nl + L.length) (nI z6) (12 * la + k9) = g 21 (12 * la + k9) by rw [pk_un (by omega)]; exact (hRW la hla).2 k9 hk9)⟩), (show LT ((va_up (va_up (va_up g1 20 (upd (g1 20) nl (nI (L.length + 1)))) 21 (upd (g1 21) ((12 * nl) + L.length) (nI z6))) 23 f23) 20) ((va_up (va_up (va_up g1 20 (upd (g1 20) nl (nI (L.length + 1)))) 21 (upd (g1 21) ((12 * nl) + L.length) (nI z6))) 23 f23) 21) nl (L ++ [z6]) from LT_add hL1), (show GL nd (L ++ [z6]) from hG2), (show aF (aN (dsG g nd (g 18 nl)) (upG g lq) (rqG g) 12) L0 [nm] = aF (aN (dsG g nd (g 18 nl)) (upG g lq) (rqG g) 12) (L ++ [z6]) (ST ((va_up (va_up (va_up g1 20 (upd (g1 20) nl (nI (L.length + 1)))) 21 (upd (g1 21) ((12 * nl) + L.length) (nI z6))) 23 f23) 23) tp2) from by
        rw [hA1, ST_pop (by omega), aM_new dsG_lt hG1 (by omega) hds hnin]
        have q := hST
        rw [show kk = 5 * z6 by omega, show 5 * z6 + rq1 - 5 * z6 = rq1 by omega, ← show rqG g z6 = rqL (g 13) (g 17) (5 * z6) rq1 from by unfold rqG; rw [← hfr 12 (by decide) (by decide) (by decide), erq1, iN_nI (by omega)]] at q
        exact congrArg (aF (aN (dsG g nd (g 18 nl)) (upG g lq) (rqG g) 12) (L ++ [z6])) q.symm)⟩
    · have hds : dsG g nd (g 18 nl) (g1 23 (tp - 1)) = none := by unfold dsG; rw [← hfr 3 (by decide) (by decide) (by decide), ← hfr 4 (by decide) (by decide) (by decide), ← hfr 18 (by decide) (by decide) (by decide)]; exact ff_none z11
      refine lv_istore hx hb xd_Mo_adds_37 hl (Nat.le_of_ble_eq_true rfl) rfl (fun ls hl => ?_)
      have hl : lv_has ls 6 [(4, .int (-1)), (3, .int (nI (tp - 1))), (0, .ref h), (1, .int nm), (2, .int (nI nl))] := hl
      refine lv_iload hx hb xd_Mo_adds_39 (lv_at hl 0 rfl) ?_
      refine lv_if_ge (tgt := 65) hx hb xd_Mo_adds_41 (by decide) (fun hc27 => absurd hc27 (by decide)) (fun _ => ?_)
      refine lv_aload_n hx hb xd_Mo_adds_44 rfl (lv_at hl 2 rfl) ?_
      refine lv_aload_n hx hb xd_Mo_adds_45 rfl (lv_at hl 2 rfl) ?_
      refine va_get (D := D) (ci := 4) (v := .ref (mm 19)) (C := xR_Mo) (T := xT_Mo) (N := 31) hx hb hT xi_Mo hown hK.1 hP 0 rfl rfl 25 (by decide) (hT _ k4i_17) (fun _ h9 => h9) rfl xd_Mo_adds_46 ?_
      refine lv_iload_n hx hb xd_Mo_adds_49 rfl (lv_at hl 4 rfl) ?_
      refine xn_iald (i := nl) hx hb hK.1 hP 20 0 rfl rfl (by omega) (by decide) xd_Mo_adds_50 ?_
      refine xn_top (x := (g1 19 nl)) (y := nI lq - 1) (by rw [hfr 19 (by decide) (by decide) (by decide)]; exact hlqe) ?_
      refine lv_aload_n hx hb xd_Mo_adds_51 rfl (lv_at hl 2 rfl) ?_
      refine va_get (D := D) (ci := 4) (v := .ref (mm 23)) (C := xR_Mo) (T := xT_Mo) (N := 31) hx hb hT xi_Mo hown hK.1 hP 0 rfl rfl 29 (by decide) (hT _ k4i_1) (fun _ h9 => h9) rfl xd_Mo_adds_52 ?_
      refine lv_iload_n hx hb xd_Mo_adds_55 rfl (lv_at hl 1 rfl) ?_
      refine xn_iald (i := tp - 1) hx hb hK.1 hP 24 0 rfl rfl (by omega) (by decide) xd_Mo_adds_56 ?_
      have hFc := va_free (wc := (moW h mm kA v g1)) hD hS hA [0, 1, 2, 3, 4, 5, 6, 7, 8, 9, 10, 11, 12, 13, 14, 15, 16, 17, 18, 19, 20, 21, 22, 23, 24, 25] rfl
      refine va_calli (va_runV (As := [.int (nI lq - 1), .int (g1 23 (tp - 1))]) (rest := []) ⟨hx, hb, hml, hown, hT⟩ (xc_Mo_lookUpX l D kA H.size h mm v g1 lq (g1 23 (tp - 1)) (nl + 1) (by first | assumption | omega) hpar1 (by first | assumption | omega) hmd1) (cwV 2 hT (wT_V k4i_19 k4i_20 k4i_21 k4i_7 k4i_18) rfl rfl rfl (by decide +kernel) ⟨Nat.le_of_ble_eq_true rfl, Nat.le_of_ble_eq_true rfl⟩) (x_preV hK hP hD 0 rfl rfl) rfl rfl hl.1 rfl (lv_room (Nat.le_of_ble_eq_true rfl)) xd_Mo_adds_57 ⟨Nat.le_of_ble_eq_true rfl, Nat.le_of_ble_eq_true rfl⟩) hS (fun q _ h => hFc q h) hFc (fun r28 u29 t H1 locs ht hvm hp30 hB hz1 hk1 hS => ?_)
      obtain ⟨hP1, hD1⟩ := hB
      rw [ht] at hP1
      have hD1 := hD1.weaken (fun _ _ _ h => hFc _ h)
      generalize H1 = H at hP1 hS ⊢
      have hP := hP1
      have hD := hD1
      have hP : va_P D xcl (moW h mm kA v g1) H := hP
      have hD : va_D A (moW h mm kA v g1) := hD
      have hlk9 : lkG g1 lq (g1 23 (tp - 1)) = lkG g lq (g1 23 (tp - 1)) := lkG_row (np := nl + 1) (by omega) hpn (by omega) hlqn hRW (hfr 4 (by decide) (by decide) (by decide)) (hfr 19 (by decide) (by decide) (by decide)) hmdg
      rcases hp30 with ⟨z31, rfl⟩ | ⟨z32, z33, z34, z35, z36, rfl⟩
      · refine lv_if_ge (tgt := 160) hx hb xd_Mo_adds_60 (by decide) (fun hc37 => absurd hc37 (by decide)) (fun _ => ?_)
        refine lv_iconst (v := 0) hx hb xd_Mo_adds_63 (by decide) ?_
        exact W.zret (v := 0) hx hb hr rfl (fun t ht hW => ⟨⟨0, (v, g1), rfl, ⟨rfl, hM1, hfr, hRW, L, hG1, hL1, Or.inl ⟨rfl, (aF_one (F := aN (dsG g nd (g 18 nl)) (upG g lq) (rqG g) 12)).symm.trans (hA1.trans (by rw [ST_pop (by omega), aM_bad hds (by unfold upG; rw [← hlk9, z31]; rfl)]))⟩⟩, by rw [ht]; exact hP, hD⟩, hS.F ht⟩) hS.2.2 xd_Mo_adds_64
      · refine xz_ge (a := 12 * z32 + z33) (tgt := 160) hx hb xd_Mo_adds_60 (by decide) (by omega) ?_
        refine lv_goto (tgt := 14) hx hb xd_Mo_adds_160 (by decide) ?_
        exact ih1 (tp - 1, L, g1) _ _ _ (show (tp - 1) + 6 * (12 - L.length) < tp + 6 * (12 - L.length) by first | omega | (rw [hLk]; omega)) (lv_sub hl [1, 2, 3, 4] rfl) hP hD hS ⟨(show (tp - 1) + 5 * (12 - L.length) ≤ 61 from by omega), (show MI v g1 from hM1), (show ∀ j, j ≠ 20 → j ≠ 21 → j ≠ 23 → g1 j = g j from hfr), (show RW g g1 nl from hRW), (show LT (g1 20) (g1 21) nl L from hL1), (show GL nd L from hG1), (show aF (aN (dsG g nd (g 18 nl)) (upG g lq) (rqG g) 12) L0 [nm] = aF (aN (dsG g nd (g 18 nl)) (upG g lq) (rqG g) 12) L (ST (g1 23) (tp - 1)) from by rw [hA1, ST_pop (by omega), aM_up hds (by unfold upG; rw [← hlk9, z34]; rfl)])⟩
