theorem k5l_0 : (Cond.fieldLink "LayerDesk$Chooser" 28 "LayerDesk$Chooser" "shelf" "LLayerDesk$Shelf;") ∈ wT := wT_t (List.mem_append_left _ (List.mem_of_getElem? (i := 81) rfl)) rfl
theorem k5l_1 : (Cond.fieldLink "LayerDesk$Chooser" 21 "LayerDesk$Chooser" "finder" "I") ∈ wT := wT_t (List.mem_append_left _ (List.mem_of_getElem? (i := 84) rfl)) rfl
theorem k5l_2 : (Cond.code xy_Sh_find xb_Sh_find 4 (some (.object "LayerDesk$Descriptor"))) ∈ wT := wT_t (List.mem_append_right _ (List.mem_append_left _ (List.mem_of_getElem? (i := 21) rfl))) rfl
theorem k5l_3 : (Cond.methodLink "LayerDesk$Chooser" 56 xy_Sh_find) ∈ wT := wT_t (List.mem_append_right _ (List.mem_append_right _ (List.mem_append_left _ (List.mem_of_getElem? (i := 81) rfl)))) rfl
theorem k5l_4 : (Cond.instanceMethod xy_Sh_find) ∈ wT := wT_t (List.mem_append_right _ (List.mem_append_left _ (List.mem_of_getElem? (i := 19) rfl))) rfl
theorem k5l_5 : (Cond.selects "LayerDesk$Shelf" xy_Sh_find xy_Sh_find) ∈ wT := wT_t (List.mem_append_right _ (List.mem_append_left _ (List.mem_of_getElem? (i := 20) rfl))) rfl
theorem k5l_6 : (Cond.initialized "LayerDesk$Shelf") ∈ wT := wT_t (List.mem_append_left _ (List.mem_of_getElem? (i := 3) rfl)) rfl
theorem k5l_7 : (Cond.fieldLink "LayerDesk$Chooser" 24 "LayerDesk$Chooser" "parent" "LLayerDesk$Layer;") ∈ wT := wT_t (List.mem_append_left _ (List.mem_of_getElem? (i := 85) rfl)) rfl
theorem k5l_8 : (Cond.code xy_Ly_lookUp xb_Ly_lookUp 4 (some (.object "LayerDesk$Member"))) ∈ wT := wT_t (List.mem_append_right _ (List.mem_append_right _ (List.mem_append_left _ (List.mem_of_getElem? (i := 85) rfl)))) rfl
theorem k5l_9 : (Cond.methodLink "LayerDesk$Chooser" 62 xy_Ly_lookUp) ∈ wT := wT_t (List.mem_append_right _ (List.mem_append_right _ (List.mem_append_left _ (List.mem_of_getElem? (i := 82) rfl)))) rfl
theorem k5l_10 : (Cond.instanceMethod xy_Ly_lookUp) ∈ wT := wT_t (List.mem_append_right _ (List.mem_append_right _ (List.mem_append_left _ (List.mem_of_getElem? (i := 83) rfl)))) rfl
theorem k5l_11 : (Cond.selects "LayerDesk$Layer" xy_Ly_lookUp xy_Ly_lookUp) ∈ wT := wT_t (List.mem_append_right _ (List.mem_append_right _ (List.mem_append_left _ (List.mem_of_getElem? (i := 84) rfl)))) rfl
theorem k5l_12 : (Cond.initialized "LayerDesk$Layer") ∈ wT := wT_t (List.mem_append_left _ (List.mem_of_getElem? (i := 19) rfl)) rfl
theorem k5l_13 : (Cond.code xy_Ch_isChosen xb_Ch_isChosen 3 (some .boolean)) ∈ wT := wT_t (List.mem_append_right _ (List.mem_append_right _ (List.mem_append_left _ (List.mem_of_getElem? (i := 89) rfl)))) rfl
theorem k5l_14 : (Cond.methodLink "LayerDesk$Chooser" 66 xy_Ch_isChosen) ∈ wT := wT_t (List.mem_append_right _ (List.mem_append_right _ (List.mem_append_left _ (List.mem_of_getElem? (i := 86) rfl)))) rfl
theorem k5l_15 : (Cond.instanceMethod xy_Ch_isChosen) ∈ wT := wT_t (List.mem_append_right _ (List.mem_append_right _ (List.mem_append_left _ (List.mem_of_getElem? (i := 88) rfl)))) rfl
theorem k5l_16 : (Cond.selects "LayerDesk$Chooser" xy_Ch_isChosen xy_Ch_isChosen) ∈ wT := wT_s (q := (xy_Ch_isChosen, 5)) (by decide +kernel) rfl
theorem k5l_17 : (Cond.initialized "LayerDesk$Chooser") ∈ wT := wT_t (List.mem_append_left _ (List.mem_of_getElem? (i := 4) rfl)) rfl
theorem k5l_18 : (Cond.fieldLink "LayerDesk$Chooser" 17 "LayerDesk$Chooser" "size" "I") ∈ wT := wT_t (List.mem_append_left _ (List.mem_of_getElem? (i := 83) rfl)) rfl
theorem k5l_19 : (Cond.fieldLink "LayerDesk$Chooser" 11 "LayerDesk$Chooser" "chosen" "[LLayerDesk$Descriptor;") ∈ wT := wT_t (List.mem_append_left _ (List.mem_of_getElem? (i := 82) rfl)) rfl
theorem k5l_20 : (Cond.fieldLink "LayerDesk$Chooser" 70 "LayerDesk$Descriptor" "required" "LLayerDesk$Names;") ∈ wT := wT_t (List.mem_append_right _ (List.mem_append_left _ (List.mem_of_getElem? (i := 68) rfl))) rfl
theorem k5l_21 : (Cond.fieldLink "LayerDesk$Chooser" 74 "LayerDesk$Names" "size" "I") ∈ wT := wT_t (List.mem_append_right _ (List.mem_append_left _ (List.mem_of_getElem? (i := 37) rfl))) rfl
theorem k5l_22 : (Cond.fieldLink "LayerDesk$Chooser" 77 "LayerDesk$Descriptor" "optional" "[Z") ∈ wT := wT_t (List.mem_append_right _ (List.mem_append_left _ (List.mem_of_getElem? (i := 74) rfl))) rfl
theorem k5l_23 : (Cond.code xy_Na_at xb_Na_at 2 (some .int)) ∈ wT := wT_t (List.mem_append_right _ (List.mem_append_right _ (List.mem_append_left _ (List.mem_of_getElem? (i := 93) rfl)))) rfl
theorem k5l_24 : (Cond.methodLink "LayerDesk$Chooser" 81 xy_Na_at) ∈ wT := wT_t (List.mem_append_right _ (List.mem_append_right _ (List.mem_append_left _ (List.mem_of_getElem? (i := 90) rfl)))) rfl
theorem k5l_25 : (Cond.instanceMethod xy_Na_at) ∈ wT := wT_t (List.mem_append_right _ (List.mem_append_right _ (List.mem_append_left _ (List.mem_of_getElem? (i := 91) rfl)))) rfl
theorem k5l_26 : (Cond.selects "LayerDesk$Names" xy_Na_at xy_Na_at) ∈ wT := wT_t (List.mem_append_right _ (List.mem_append_right _ (List.mem_append_left _ (List.mem_of_getElem? (i := 92) rfl)))) rfl
theorem k5l_27 : (Cond.initialized "LayerDesk$Names") ∈ wT := wT_t (List.mem_append_left _ (List.mem_of_getElem? (i := 11) rfl)) rfl
theorem k5l_28 : (Cond.code xy_Ch_addName xb_Ch_addName 5 (some .boolean)) ∈ wT := wT_t (List.mem_append_right _ (List.mem_append_right _ (List.mem_append_left _ (List.mem_of_getElem? (i := 80) rfl)))) rfl
theorem k5l_29 : (Cond.methodLink "LayerDesk$Chooser" 32 xy_Ch_addName) ∈ wT := wT_t (List.mem_append_right _ (List.mem_append_right _ (List.mem_append_left _ (List.mem_of_getElem? (i := 77) rfl)))) rfl
theorem k5l_30 : (Cond.instanceMethod xy_Ch_addName) ∈ wT := wT_t (List.mem_append_right _ (List.mem_append_right _ (List.mem_append_left _ (List.mem_of_getElem? (i := 79) rfl)))) rfl
theorem k5l_31 : (Cond.selects "LayerDesk$Chooser" xy_Ch_addName xy_Ch_addName) ∈ wT := wT_s (q := (xy_Ch_addName, 5)) (by decide +kernel) rfl
set_option maxHeartbeats 4000000 in
set_option maxRecDepth 100000 in
theorem xc_Ch_addNameRX (f : Nat) : ∀ (l : Launch) (D : va_G) (kA : Nat → ClassId) (sz : Nat) (ad : Nat → Nat → Nat) (E : Nat → Nat → va_E) (RL : List (Nat × Nat)) (g : Nat → Nat → Int32) (ml : Nat) (nd : Nat) (len : Nat) (wn : Nat) (fi : Int32) (lq : Nat) (L : List Nat) (nm : Int32) (dp : Nat) (hCI : CI kA ad E RL ml nd len wn L.length) (hCX : CX ad E nd fi lq L) (hTD : TDs g E nd) (hTL : TLas g ad E nd ml) (hlqm : lq ≤ ml) (hdp : dp + f = 12), Met l xy_Ch_addName (.code xy_Ch_addName xb_Ch_addName 5 (some .boolean) :: wT) { frames := 6 + f, cells := 0, slots := 0, locals := 90 + 90 * f } (va_Pc [.ref (ad 0 7), .int nm, .int (nI dp)] (xPre D kA sz (rp ad E RL))) (va_Qi (fun (r : Int32) (u : Nat → Nat → va_E) => ∃ L2, CI kA ad u RL ml nd len wn L2.length ∧ CX ad u nd fi lq L2 ∧ F78 E u ∧ ((r = 1 ∧ aN (dsG g nd fi) (upG g lq) (rqG g) f L nm = (true, L2)) ∨ (r = 0 ∧ aN (dsG g nd fi) (upG g lq) (rqG g) f L nm = (false, L2)))) (fun (u : Nat → Nat → va_E) t => va_P D xcl (rp ad u RL) t.heap ∧ va_D (va_A (rp ad E RL) sz) (rp ad u RL)) (va_A (rp ad E RL) sz)) 0 0 (va_A (rp ad E RL) sz) := by
  induction f using Nat.strongRecOn
  rename_i f ih
  intro l D kA sz ad E RL g ml nd len wn fi lq L nm dp hCI hCX hTD hTL hlqm hdp
  refine Met.ofW (cc := xb_Ch_addName) (maxL := 5) (ret := (some .boolean)) (by decide) rfl ?_
  intro p e s m args below meth c s₁ B hml hv
  obtain ⟨rfl, hsz, hP, hK, hD0⟩ := hv
  have hx := B.exec
  have hb := B.bytes
  have hr := B.returns
  have hT := x_hT B.pre
  have hown : s.vm.findClass xR_Ch = some m.cls := findClass_of_methodNamed B.named
  have hlocks := B.notSynchronized
  subst hsz
  have hD := hD0.self (sz := s.heap.size)
  generalize hAe : va_A (rp ad E RL) s.heap.size = A at hD ⊢
  have hA : ∀ q : Nat, s.heap.size ≤ q → A q := fun q h => by rw [← hAe]; exact Or.inr h
  have hS : va_S A s.heap s.heap [] := va_S.rf
  have hl := lv_entry ([.ref (ad 0 7), .int nm, .int (nI dp)]) (n := 5) (Nat.le_of_ble_eq_true rfl)
  rw [lg_entry_eq]
  generalize (lg_sl ([.ref (ad 0 7), .int nm, .int (nI dp)]) ++ List.replicate (5 - (lg_sl ([.ref (ad 0 7), .int nm, .int (nI dp)])).length) Slot.unset).toArray = ls at hl ⊢
  have hl : lv_has ls 5 [(0, .ref (ad 0 7)), (1, .int nm), (2, .int (nI dp))] := hl
  have hP : va_P D xcl (rp ad E RL) s.heap := hP
  obtain ⟨hmB, hDk, hLi, hSh, hCh, hLa, hDIs, hLIs⟩ := id hCI
  obtain ⟨lf_1, q_1⟩ := id (hDk)
  have c_2 : E 0 0 = .inr (0, [.ref (ad 0 1), .ref (ad 0 5), .ref (ad 0 7), .ref (ad 0 9), .int (nI ml), .int lf_1]) := q_1
  have m_3 : (0, 0) ∈ RL := hmB 0 (by omega)
  obtain ⟨tx_4, fb_4, fe_4, hl1_4, hw2_4, q1_4, q2_4, q3_4, q4_4, hws_4⟩ := id (hLi)
  have c_5 : E 0 1 = .inr (1, [.ref (ad 0 2), .ref (ad 0 3), .ref (ad 0 4), .int (nI len), .int (nI wn)]) := q1_4
  have m_6 : (0, 1) ∈ RL := hmB 1 (by omega)
  have c_7 : E 0 2 = .inl (kA 1, 40, .inl tx_4) := q2_4
  have m_8 : (0, 2) ∈ RL := hmB 2 (by omega)
  have c_9 : E 0 3 = .inl (kA 0, 20, .inl fb_4) := q3_4
  have m_10 : (0, 3) ∈ RL := hmB 3 (by omega)
  have c_11 : E 0 4 = .inl (kA 0, 20, .inl fe_4) := q4_4
  have m_12 : (0, 4) ∈ RL := hmB 4 (by omega)
  obtain ⟨fd_13, hnd_13, q5_13, q6_13, hds_13⟩ := id (hSh)
  have c_14 : E 0 5 = .inr (2, [.ref (ad 0 6), .int (nI nd)]) := q5_13
  have m_15 : (0, 5) ∈ RL := hmB 5 (by omega)
  have c_16 : E 0 6 = .inl (kA 4, 12, .inr (.inr (.inr (.inr fd_13)))) := q6_13
  have m_17 : (0, 6) ∈ RL := hmB 6 (by omega)
  obtain ⟨cf_18, pv_18, fc_18, hcs_18, hpv_18, q7_18, q8_18, hfc_18⟩ := id (hCh)
  have c_19 : E 0 7 = .inr (3, [.ref (ad 0 5), .ref (ad 0 8), .int (nI (L.length)), .int cf_18, pv_18]) := q7_18
  have m_20 : (0, 7) ∈ RL := hmB 7 (by omega)
  have c_21 : E 0 8 = .inl (kA 4, 12, .inr (.inr (.inr (.inr fc_18)))) := q8_18
  have m_22 : (0, 8) ∈ RL := hmB 8 (by omega)
  obtain ⟨fl_23, hml_23, q9_23, hla_23⟩ := id (hLa)
  have c_24 : E 0 9 = .inl (kA 5, 5, .inr (.inr (.inr (.inr fl_23)))) := q9_23
  have m_25 : (0, 9) ∈ RL := hmB 9 (by omega)
  obtain ⟨xfi_18, xpv_18, xfc_18, xGL_18⟩ := id hCX
  rw [c_19] at xfi_18 xpv_18
  rw [c_21] at xfc_18
  have xfi_18 : cf_18 = fi := xfi_18
  have xpv_18 : pv_18 = lyv ad lq := xpv_18
  have xfc_18 : ∀ k, k < L.length → fc_18 k = some (ad (1 + L.getD k 0) 0) := xfc_18
  have xln_18 := GL_len xGL_18
  refine lv_aload_n hx hb xd_Ch_addName_0 rfl (lv_at hl 0 rfl) ?_
  refine px_get (D := D) (ci := 3) (v := .ref (ad 0 5)) (C := xR_Ch) (T := xT_Ch) (N := 5) hx hb hT xi_Ch hown hK.1 hP m_20 c_19 rfl 0 (by decide) (hT _ k5l_0) (fun _ h9 => h9) rfl xd_Ch_addName_1 ?_
  refine lv_aload_n hx hb xd_Ch_addName_4 rfl (lv_at hl 0 rfl) ?_
  refine px_get (D := D) (ci := 3) (v := .int cf_18) (C := xR_Ch) (T := xT_Ch) (N := 5) hx hb hT xi_Ch hown hK.1 hP m_20 c_19 rfl 3 (by decide) (hT _ k5l_1) (fun _ h9 => h9) rfl xd_Ch_addName_5 ?_
  refine lv_iload_n hx hb xd_Ch_addName_8 rfl (lv_at hl 1 rfl) ?_
  have hFc := px_free hD hS hA
  refine va_callq (va_runV (As := [.int cf_18, .int nm]) (rest := []) ⟨hx, hb, hml, hown, hT⟩ (xc_Sh_findX l D kA s.heap.size ad E RL g ml nd len wn L.length cf_18 nm (by first | assumption | omega) (by first | assumption | omega)) (cwV 2 hT (wT_V k5l_3 k5l_4 k5l_5 k5l_6 k5l_2) rfl rfl rfl (by decide +kernel) ⟨(show 0 + 1 ≤ 6 + f by omega), (show 8 + (4 + 11) + (0) ≤ 90 + 90 * f by omega)⟩) (px_preV hK hP hD m_15 c_14 rfl) rfl rfl hl.1 rfl (lv_room (Nat.le_of_ble_eq_true rfl)) xd_Ch_addName_9 ⟨(Nat.le_of_ble_eq_true rfl), (Nat.le_of_ble_eq_true rfl)⟩) hS (fun q _ h => hFc q h) hFc (fun r26 u27 t H1 locs ht hvm hp28 hB hz1 hk1 hS => ?_)
  obtain ⟨hP1, hD1⟩ := hB
  rw [ht] at hP1
  have hD1 := hD1.weaken (fun _ _ _ h => hFc _ h)
  generalize H1 = H at hP1 hS ⊢
  have hP := hP1
  have hD := hD1
  have hP : va_P D xcl (rp ad E RL) H := hP
  have hD : va_D A (rp ad E RL) := hD
  rcases hp28 with ⟨rfl, z29⟩ | ⟨z30, z31, rfl, z32⟩
  · have hds : dsG g nd fi nm = none := by rw [← xfi_18]; exact z29
    refine W.eq (g2 := F0 m 12 ls [.null]) rfl ?_
    refine lv_astore_nN hx hb xd_Ch_addName_12 rfl hl (Nat.le_of_ble_eq_true rfl) rfl (fun ls hl => ?_)
    have hl : lv_has ls 5 [(3, .null), (0, .ref (ad 0 7)), (1, .int nm), (2, .int (nI dp))] := hl
    refine lv_aload_nN hx hb xd_Ch_addName_13 rfl (lv_at hl 0 rfl) ?_
    refine lv_ifnonnullN hx hb xd_Ch_addName_14 ?_
    refine lv_aload_n hx hb xd_Ch_addName_17 rfl (lv_at hl 1 rfl) ?_
    refine px_get (D := D) (ci := 3) (v := pv_18) (C := xR_Ch) (T := xT_Ch) (N := 5) hx hb hT xi_Ch hown hK.1 hP m_20 c_19 rfl 4 (by decide) (hT _ k5l_7) (fun _ h9 => h9) rfl xd_Ch_addName_18 ?_
    rcases (show lq = 0 ∨ ∃ yq, lq = yq + 1 from by rcases Nat.eq_zero_or_pos lq with q | q; exact Or.inl q; exact Or.inr ⟨lq - 1, by omega⟩) with hyq | ⟨yq, hyq⟩
    · refine W.eq (g2 := F0 m 21 ls [.null]) (by rw [xpv_18, lyv_0 hyq]) ?_
      refine lv_ifnullN (tgt := 39) hx hb xd_Ch_addName_21 (by decide) ?_
      refine lv_iconst (v := 0) hx hb xd_Ch_addName_39 (by decide) ?_
      refine W.widen (k := 0) (n := 0) (Nat.le_of_ble_eq_true rfl) (Nat.le_of_ble_eq_true rfl) ?_
      exact W.zret (v := 0) hx hb hr rfl (fun t ht hW => ⟨⟨0, E, rfl, ⟨L, hCI, hCX, F78_rf, Or.inr ⟨rfl, (aN_no hds).trans (by rw [show upG g lq nm = false from by unfold upG; rw [hyq]; rfl])⟩⟩, by rw [ht]; exact hP, hD⟩, hS.F ht⟩) hS.2.2 xd_Ch_addName_40
    · refine W.eq (g2 := F0 m 21 ls [.ref (ad (20 + yq) 0)]) (by rw [xpv_18, lyv_s hyq]) ?_
      refine lv_ifnull hx hb xd_Ch_addName_21 ?_
      refine lv_aload_n hx hb xd_Ch_addName_24 rfl (lv_at hl 1 rfl) ?_
      refine px_get (D := D) (ci := 3) (v := pv_18) (C := xR_Ch) (T := xT_Ch) (N := 5) hx hb hT xi_Ch hown hK.1 hP m_20 c_19 rfl 4 (by decide) (hT _ k5l_7) (fun _ h9 => h9) rfl xd_Ch_addName_25 ?_
      refine W.eq (g2 := F0 m 28 ls [.ref (ad (20 + yq) 0)]) (by rw [xpv_18, lyv_s hyq]) ?_
      refine lv_iload_n hx hb xd_Ch_addName_28 rfl (lv_at hl 2 rfl) ?_
      have hFc := px_free hD hS hA
      obtain ⟨m0_33, m1_33, pv_33, op_33, mk_33, fm_33, hmk_33, hpv_33, q0_33, q1_33, hk_33⟩ := id (hLIs yq (by omega))
      have c_34 : E (20 + yq) 0 = .inr (5, [.int (nI yq), pv_33, .ref (ad (20 + yq) 1), .int op_33]) := q0_33
      have m_35 : (20 + yq, 0) ∈ RL := m0_33
      have c_36 : E (20 + yq) 1 = .inl (kA 6, mk_33, .inr (.inr (.inr (.inr fm_33)))) := q1_33
      have m_37 : (20 + yq, 1) ∈ RL := m1_33
      obtain ⟨top_33, ⟨lq_33, hlq_33, h19_33, hpv2_33⟩, h20_33, tmd_33⟩ := TLa_get c_34 c_36 (hTL yq (by omega))
      have c_38 : E (20 + yq) 0 = .inr (5, [.int (nI yq), (lyv ad lq_33), .ref (ad (20 + yq) 1), .int op_33]) := by rw [← hpv2_33]; exact c_34
      refine va_callq (va_runV (As := [.int nm]) (rest := []) ⟨hx, hb, hml, hown, hT⟩ (xc_Ly_lookUpX l D kA H.size ad E RL g nd ml yq nm (by first | assumption | omega) (by first | assumption | omega) (by first | assumption | omega) (by first | assumption | omega) (by first | assumption | omega) (by first | assumption | omega) (by first | assumption | omega)) (cwV 1 hT (wT_V k5l_9 k5l_10 k5l_11 k5l_12 k5l_8) rfl rfl rfl (by decide +kernel) ⟨(show 0 + 1 ≤ 6 + f by omega), (show 8 + (4 + 11) + (0) ≤ 90 + 90 * f by omega)⟩) (px_preV hK hP hD m_35 c_38 rfl) rfl rfl hl.1 rfl (lv_room (Nat.le_of_ble_eq_true rfl)) xd_Ch_addName_29 ⟨(Nat.le_of_ble_eq_true rfl), (Nat.le_of_ble_eq_true rfl)⟩) hS (fun q _ h => hFc q h) hFc (fun r39 u40 t H1 locs ht hvm hp41 hB hz1 hk1 hS => ?_)
      obtain ⟨hP1, hD1⟩ := hB
      rw [ht] at hP1
      have hD1 := hD1.weaken (fun _ _ _ h => hFc _ h)
      generalize H1 = H at hP1 hS ⊢
      have hP := hP1
      have hD := hD1
      have hP : va_P D xcl (rp ad E RL) H := hP
      have hD : va_D A (rp ad E RL) := hD
      rcases hp41 with ⟨rfl, z42⟩ | ⟨z43, z44, z45, rfl, z46, z47, z48⟩
      · refine W.eq (g2 := F0 m 32 ls [.null]) rfl ?_
        refine lv_ifnullN (tgt := 39) hx hb xd_Ch_addName_32 (by decide) ?_
        refine lv_iconst (v := 0) hx hb xd_Ch_addName_39 (by decide) ?_
        refine W.widen (k := 0) (n := 0) (Nat.le_of_ble_eq_true rfl) (Nat.le_of_ble_eq_true rfl) ?_
        exact W.zret (v := 0) hx hb hr rfl (fun t ht hW => ⟨⟨0, E, rfl, ⟨L, hCI, hCX, F78_rf, Or.inr ⟨rfl, (aN_no hds).trans (by rw [show upG g lq nm = false from by unfold upG; rw [hyq, z42]; rfl])⟩⟩, by rw [ht]; exact hP, hD⟩, hS.F ht⟩) hS.2.2 xd_Ch_addName_40
      · refine W.eq (g2 := F0 m 32 ls [.ref (ad (20 + z43) (10 + 10 * z44))]) rfl ?_
        refine lv_ifnull hx hb xd_Ch_addName_32 ?_
        refine lv_iconst (v := 1) hx hb xd_Ch_addName_35 (by decide) ?_
        refine lv_goto (tgt := 40) hx hb xd_Ch_addName_36 (by decide) ?_
        refine W.widen (k := 0) (n := 0) (Nat.le_of_ble_eq_true rfl) (Nat.le_of_ble_eq_true rfl) ?_
        exact W.zret (v := 1) hx hb hr rfl (fun t ht hW => ⟨⟨1, E, rfl, ⟨L, hCI, hCX, F78_rf, Or.inl ⟨rfl, (aN_no hds).trans (by rw [show upG g lq nm = true from by unfold upG; rw [hyq, z48]; rfl])⟩⟩, by rw [ht]; exact hP, hD⟩, hS.F ht⟩) hS.2.2 xd_Ch_addName_40
  · have hds : dsG g nd fi nm = some z30 := by rw [← xfi_18]; exact z32
    refine W.eq (g2 := F0 m 12 ls [.ref (ad (1 + z30) 0)]) rfl ?_
    refine lv_astore_n hx hb xd_Ch_addName_12 rfl hl (Nat.le_of_ble_eq_true rfl) rfl (fun ls hl => ?_)
    have hl : lv_has ls 5 [(3, .ref (ad (1 + z30) 0)), (0, .ref (ad 0 7)), (1, .int nm), (2, .int (nI dp))] := hl
    refine lv_aload_n hx hb xd_Ch_addName_13 rfl (lv_at hl 0 rfl) ?_
    refine lv_ifnonnull (tgt := 41) hx hb xd_Ch_addName_14 (by decide) ?_
    refine lv_aload_n hx hb xd_Ch_addName_41 rfl (lv_at hl 1 rfl) ?_
    refine lv_aload_n hx hb xd_Ch_addName_42 rfl (lv_at hl 0 rfl) ?_
    have hFc := px_free hD hS hA
    refine va_calli (va_runV (As := [.ref (ad (1 + z30) 0)]) (rest := []) ⟨hx, hb, hml, hown, hT⟩ (xc_Ch_isChosenX l D kA H.size ad E RL g ml nd len wn fi lq L z30 (by first | assumption | omega) (by first | assumption | omega) (by first | assumption | omega)) (cwV 1 hT (wT_V k5l_14 k5l_15 k5l_16 k5l_17 k5l_13) rfl rfl rfl (by decide +kernel) ⟨(show 0 + 1 ≤ 6 + f by omega), (show 8 + (3 + 11) + (0) ≤ 90 + 90 * f by omega)⟩) (px_preV hK hP hD m_20 c_19 rfl) rfl rfl hl.1 rfl (lv_room (Nat.le_of_ble_eq_true rfl)) xd_Ch_addName_43 ⟨(Nat.le_of_ble_eq_true rfl), (Nat.le_of_ble_eq_true rfl)⟩) hS (fun q _ h => hFc q h) hFc (fun r49 u50 t H1 locs ht hvm hp51 hB hz1 hk1 hS => ?_)
    obtain ⟨hP1, hD1⟩ := hB
    rw [ht] at hP1
    have hD1 := hD1.weaken (fun _ _ _ h => hFc _ h)
    generalize H1 = H at hP1 hS ⊢
    have hP := hP1
    have hD := hD1
    have hP : va_P D xcl (rp ad E RL) H := hP
    have hD : va_D A (rp ad E RL) := hD
    rcases hp51 with ⟨rfl, z52⟩ | ⟨rfl, z53⟩
    · refine W.eq (g2 := F0 m 46 ls [.int 1]) rfl ?_
      refine lv_if_eq (tgt := 51) hx hb xd_Ch_addName_46 (by decide) (fun hc54 => absurd hc54 (by decide)) (fun _ => ?_)
      refine lv_iconst (v := 1) hx hb xd_Ch_addName_49 (by decide) ?_
      refine W.widen (k := 0) (n := 0) (Nat.le_of_ble_eq_true rfl) (Nat.le_of_ble_eq_true rfl) ?_
      exact W.zret (v := 1) hx hb hr rfl (fun t ht hW => ⟨⟨1, E, rfl, ⟨L, hCI, hCX, F78_rf, Or.inl ⟨rfl, aN_in hds z52⟩⟩, by rw [ht]; exact hP, hD⟩, hS.F ht⟩) hS.2.2 xd_Ch_addName_50
    · refine W.eq (g2 := F0 m 46 ls [.int 0]) rfl ?_
      refine lv_if_eq (tgt := 51) hx hb xd_Ch_addName_46 (by decide) (fun _ => ?_) (fun hc55 => absurd (by decide) hc55)
      refine lv_aload_n hx hb xd_Ch_addName_51 rfl (lv_at hl 1 rfl) ?_
      refine px_get (D := D) (ci := 3) (v := .int (nI (L.length))) (C := xR_Ch) (T := xT_Ch) (N := 5) hx hb hT xi_Ch hown hK.1 hP m_20 c_19 rfl 2 (by decide) (hT _ k5l_18) (fun _ h9 => h9) rfl xd_Ch_addName_52 ?_
      refine lv_bipush (v := 12) hx hb xd_Ch_addName_55 (by decide) ?_
      refine xn_ge (a := L.length) (b := 12) (tgt := 66) hx hb xd_Ch_addName_57 (by decide) (by omega) (by omega) (fun hc56 => absurd hc56 (by have q := GL_len (GL_add xGL_18 (dsG_lt _ _ hds) z53); rw [len_app] at q; omega)) (fun _ => ?_)
      refine lv_iload_n hx hb xd_Ch_addName_60 rfl (lv_at hl 3 rfl) ?_
      refine lv_bipush (v := 12) hx hb xd_Ch_addName_61 (by decide) ?_
      refine xn_lt (a := dp) (b := 12) (tgt := 68) hx hb xd_Ch_addName_63 (by decide) (by omega) (by omega) (fun hc57 => ?_) (fun hc57 => ?_)
      · refine lv_aload_n hx hb xd_Ch_addName_68 rfl (lv_at hl 1 rfl) ?_
        refine px_get (D := D) (ci := 3) (v := .ref (ad 0 8)) (C := xR_Ch) (T := xT_Ch) (N := 5) hx hb hT xi_Ch hown hK.1 hP m_20 c_19 rfl 1 (by decide) (hT _ k5l_19) (fun _ h9 => h9) rfl xd_Ch_addName_69 ?_
        refine lv_aload_n hx hb xd_Ch_addName_72 rfl (lv_at hl 1 rfl) ?_
        refine px_get (D := D) (ci := 3) (v := .int (nI (L.length))) (C := xR_Ch) (T := xT_Ch) (N := 5) hx hb hT xi_Ch hown hK.1 hP m_20 c_19 rfl 2 (by decide) (hT _ k5l_18) (fun _ h9 => h9) rfl xd_Ch_addName_73 ?_
        refine lv_aload_n hx hb xd_Ch_addName_76 rfl (lv_at hl 0 rfl) ?_
        obtain ⟨hm_58, fd_58, nm_58, sd_58, k0_58, k1_58, k2_58, k3_58, f0_58, f1_58, f2_58, f3_58, fe_58, fo_58, tr_58, op_58, hk0_58, hk1_58, hk2_58, hk3_58, q0_58, q1_58, q2_58, q3_58, q4_58, q5_58, q6_58, q7_58, q8_58, q9_58, q10_58, q11_58, q12_58, hg_58⟩ := id (hDIs z30 (by omega))
        have c_59 : E (1 + z30) 0 = .inr (7, [.int (nI z30), .int fd_58, .int nm_58, .ref (ad (1 + z30) 1), .ref (ad (1 + z30) 9), .ref (ad (1 + z30) 10), .ref (ad (1 + z30) 2), .ref (ad (1 + z30) 11), .ref (ad (1 + z30) 12), .ref (ad (1 + z30) 3), .ref (ad (1 + z30) 4), .int sd_58]) := q0_58
        have m_60 : (1 + z30, 0) ∈ RL := hm_58 0 (by omega)
        have c_61 : E (1 + z30) 1 = .inr (8, [.ref (ad (1 + z30) 5), .int (nI k0_58)]) := q1_58
        have m_62 : (1 + z30, 1) ∈ RL := hm_58 1 (by omega)
        have c_63 : E (1 + z30) 2 = .inr (8, [.ref (ad (1 + z30) 6), .int (nI k1_58)]) := q2_58
        have m_64 : (1 + z30, 2) ∈ RL := hm_58 2 (by omega)
        have c_65 : E (1 + z30) 3 = .inr (8, [.ref (ad (1 + z30) 7), .int (nI k2_58)]) := q3_58
        have m_66 : (1 + z30, 3) ∈ RL := hm_58 3 (by omega)
        have c_67 : E (1 + z30) 4 = .inr (8, [.ref (ad (1 + z30) 8), .int (nI k3_58)]) := q4_58
        have m_68 : (1 + z30, 4) ∈ RL := hm_58 4 (by omega)
        have c_69 : E (1 + z30) 5 = .inl (kA 0, 6, .inl f0_58) := q5_58
        have m_70 : (1 + z30, 5) ∈ RL := hm_58 5 (by omega)
        have c_71 : E (1 + z30) 6 = .inl (kA 0, 5, .inl f1_58) := q6_58
        have m_72 : (1 + z30, 6) ∈ RL := hm_58 6 (by omega)
        have c_73 : E (1 + z30) 7 = .inl (kA 0, 3, .inl f2_58) := q7_58
        have m_74 : (1 + z30, 7) ∈ RL := hm_58 7 (by omega)
        have c_75 : E (1 + z30) 8 = .inl (kA 0, 3, .inl f3_58) := q8_58
        have m_76 : (1 + z30, 8) ∈ RL := hm_58 8 (by omega)
        have c_77 : E (1 + z30) 9 = .inl (kA 8, 6, .inr (.inr (.inr (.inr fe_58)))) := q9_58
        have m_78 : (1 + z30, 9) ∈ RL := hm_58 9 (by omega)
        have c_79 : E (1 + z30) 10 = .inl (kA 8, 6, .inr (.inr (.inr (.inr fo_58)))) := q10_58
        have m_80 : (1 + z30, 10) ∈ RL := hm_58 10 (by omega)
        have c_81 : E (1 + z30) 11 = .inl (kA 2, 5, .inl tr_58) := q11_58
        have m_82 : (1 + z30, 11) ∈ RL := hm_58 11 (by omega)
        have c_83 : E (1 + z30) 12 = .inl (kA 2, 5, .inl op_58) := q12_58
        have m_84 : (1 + z30, 12) ∈ RL := hm_58 12 (by omega)
        have hg_58 : ∀ w9, w9 < k0_58 → fe_58 w9 = some (ad (1 + z30) (20 + 3 * w9)) ∧ fo_58 w9 = some (ad (1 + z30) (38 + 3 * w9)) ∧ GI kA (ad (1 + z30)) (E (1 + z30)) (fun o => (1 + z30, o) ∈ RL) (20 + 3 * w9) (21 + 3 * w9) (22 + 3 * w9) ∧ GI kA (ad (1 + z30)) (E (1 + z30)) (fun o => (1 + z30, o) ∈ RL) (38 + 3 * w9) (39 + 3 * w9) (40 + 3 * w9) := hg_58
        obtain ⟨hTT_58, tgr_58⟩ := TD_get hk0_58 hk1_58 hk2_58 hk3_58 c_59 c_61 c_63 c_65 c_67 c_69 c_71 c_73 c_75 c_81 c_83 (hTD z30 (by omega))
        obtain ⟨tfd_58, tnm_58, tsd_58, tk0_58, tf0_58, tk1_58, tf1_58, tk2_58, tk3_58⟩ := id hTT_58
        have ik0_58 : iN (g 5 z30) = k0_58 := by rw [← tk0_58, iN_nI (by omega)]
        have ik1_58 : iN (g 12 z30) = k1_58 := by rw [← tk1_58, iN_nI (by omega)]
        refine px_aast (i := L.length) (r := (xR_Ds, xT_Ds, 12)) hx hb hK.1 hP hD hS m_22 c_21 4 rfl m_60 c_59 rfl (by omega) (by decide) xd_Ch_addName_77 (fun H locs hP hD hS => ?_)
        have hP : va_P D xcl (rp ad (up2 E 0 8 (.inl (kA 4, 12, .inr (.inr (.inr (.inr (va_up fc_18 L.length (some (ad (1 + z30) 0))))))))) RL) H := hP
        have hD : va_D A (rp ad (up2 E 0 8 (.inl (kA 4, 12, .inr (.inr (.inr (.inr (va_up fc_18 L.length (some (ad (1 + z30) 0))))))))) RL) := hD
        generalize hE86 : up2 E 0 8 (.inl (kA 4, 12, .inr (.inr (.inr (.inr (va_up fc_18 L.length (some (ad (1 + z30) 0)))))))) = E85 at hP hD
        have fE87 : ∀ b2 o2, ¬ (b2 = 0 ∧ o2 = 8) → E85 b2 o2 = E b2 o2 := fun b2 o2 h9 => by rw [← hE86]; exact up2_ne (by omega)
        have c_88 : E85 0 8 = .inl (kA 4, 12, .inr (.inr (.inr (.inr (va_up fc_18 L.length (some (ad (1 + z30) 0))))))) := by rw [← hE86]; exact up2_eq
        have c_89 : E85 0 0 = .inr (0, [.ref (ad 0 1), .ref (ad 0 5), .ref (ad 0 7), .ref (ad 0 9), .int (nI ml), .int lf_1]) := (fE87 0 0 (by omega)).trans c_2
        have c_90 : E85 0 1 = .inr (1, [.ref (ad 0 2), .ref (ad 0 3), .ref (ad 0 4), .int (nI len), .int (nI wn)]) := (fE87 0 1 (by omega)).trans c_5
        have c_91 : E85 0 2 = .inl (kA 1, 40, .inl tx_4) := (fE87 0 2 (by omega)).trans c_7
        have c_92 : E85 0 3 = .inl (kA 0, 20, .inl fb_4) := (fE87 0 3 (by omega)).trans c_9
        have c_93 : E85 0 4 = .inl (kA 0, 20, .inl fe_4) := (fE87 0 4 (by omega)).trans c_11
        have c_94 : E85 0 5 = .inr (2, [.ref (ad 0 6), .int (nI nd)]) := (fE87 0 5 (by omega)).trans c_14
        have c_95 : E85 0 6 = .inl (kA 4, 12, .inr (.inr (.inr (.inr fd_13)))) := (fE87 0 6 (by omega)).trans c_16
        have c_96 : E85 0 7 = .inr (3, [.ref (ad 0 5), .ref (ad 0 8), .int (nI (L.length)), .int cf_18, pv_18]) := (fE87 0 7 (by omega)).trans c_19
        have c_97 : E85 0 9 = .inl (kA 5, 5, .inr (.inr (.inr (.inr fl_23)))) := (fE87 0 9 (by omega)).trans c_24
        have c_98 : E85 (1 + z30) 0 = .inr (7, [.int (nI z30), .int fd_58, .int nm_58, .ref (ad (1 + z30) 1), .ref (ad (1 + z30) 9), .ref (ad (1 + z30) 10), .ref (ad (1 + z30) 2), .ref (ad (1 + z30) 11), .ref (ad (1 + z30) 12), .ref (ad (1 + z30) 3), .ref (ad (1 + z30) 4), .int sd_58]) := (fE87 (1 + z30) 0 (by omega)).trans c_59
        have c_99 : E85 (1 + z30) 1 = .inr (8, [.ref (ad (1 + z30) 5), .int (nI k0_58)]) := (fE87 (1 + z30) 1 (by omega)).trans c_61
        have c_100 : E85 (1 + z30) 2 = .inr (8, [.ref (ad (1 + z30) 6), .int (nI k1_58)]) := (fE87 (1 + z30) 2 (by omega)).trans c_63
        have c_101 : E85 (1 + z30) 3 = .inr (8, [.ref (ad (1 + z30) 7), .int (nI k2_58)]) := (fE87 (1 + z30) 3 (by omega)).trans c_65
        have c_102 : E85 (1 + z30) 4 = .inr (8, [.ref (ad (1 + z30) 8), .int (nI k3_58)]) := (fE87 (1 + z30) 4 (by omega)).trans c_67
        have c_103 : E85 (1 + z30) 5 = .inl (kA 0, 6, .inl f0_58) := (fE87 (1 + z30) 5 (by omega)).trans c_69
        have c_104 : E85 (1 + z30) 6 = .inl (kA 0, 5, .inl f1_58) := (fE87 (1 + z30) 6 (by omega)).trans c_71
        have c_105 : E85 (1 + z30) 7 = .inl (kA 0, 3, .inl f2_58) := (fE87 (1 + z30) 7 (by omega)).trans c_73
        have c_106 : E85 (1 + z30) 8 = .inl (kA 0, 3, .inl f3_58) := (fE87 (1 + z30) 8 (by omega)).trans c_75
        have c_107 : E85 (1 + z30) 9 = .inl (kA 8, 6, .inr (.inr (.inr (.inr fe_58)))) := (fE87 (1 + z30) 9 (by omega)).trans c_77
        have c_108 : E85 (1 + z30) 10 = .inl (kA 8, 6, .inr (.inr (.inr (.inr fo_58)))) := (fE87 (1 + z30) 10 (by omega)).trans c_79
        have c_109 : E85 (1 + z30) 11 = .inl (kA 2, 5, .inl tr_58) := (fE87 (1 + z30) 11 (by omega)).trans c_81
        have c_110 : E85 (1 + z30) 12 = .inl (kA 2, 5, .inl op_58) := (fE87 (1 + z30) 12 (by omega)).trans c_83
        refine lv_aload_n hx hb xd_Ch_addName_78 rfl (lv_at hl 1 rfl) ?_
        refine lv_dup hx hb xd_Ch_addName_79 rfl ?_
        refine px_get (D := D) (ci := 3) (v := .int (nI (L.length))) (C := xR_Ch) (T := xT_Ch) (N := 5) hx hb hT xi_Ch hown hK.1 hP m_20 c_96 rfl 2 (by decide) (hT _ k5l_18) (fun _ h9 => h9) rfl xd_Ch_addName_80 ?_
        refine lv_iconst (v := 1) hx hb xd_Ch_addName_83 (by decide) ?_
        refine lv_iadd hx hb xd_Ch_addName_84 ?_
        refine xn_top (y := nI (L.length + 1)) (nI_add L.length 1) ?_
        refine px_put (D := D) (ci := 3) (v := .int (nI (L.length + 1))) (ty := .int) (C := xR_Ch) (T := xT_Ch) (N := 5) hx hb hT xi_Ch xt_Ch xt_Ch_ok xn_Ch hown hK.1 hP hD hS m_20 c_96 rfl 2 (by decide) (hT _ k5l_18) (fun _ h9 => h9) rfl (by decide +kernel) rfl rfl (Nat.le_of_ble_eq_true rfl) xd_Ch_addName_85 (fun H locs hP hD hS => ?_)
        have hP : va_P D xcl (rp ad (up2 E85 0 7 (.inr (3, [.ref (ad 0 5), .ref (ad 0 8), .int (nI (L.length + 1)), .int cf_18, pv_18]))) RL) H := hP
        have hD : va_D A (rp ad (up2 E85 0 7 (.inr (3, [.ref (ad 0 5), .ref (ad 0 8), .int (nI (L.length + 1)), .int cf_18, pv_18]))) RL) := hD
        generalize hE112 : up2 E85 0 7 (.inr (3, [.ref (ad 0 5), .ref (ad 0 8), .int (nI (L.length + 1)), .int cf_18, pv_18])) = E111 at hP hD
        have fE113 : ∀ b2 o2, ¬ (b2 = 0 ∧ o2 = 7) → E111 b2 o2 = E85 b2 o2 := fun b2 o2 h9 => by rw [← hE112]; exact up2_ne (by omega)
        have c_114 : E111 0 7 = .inr (3, [.ref (ad 0 5), .ref (ad 0 8), .int (nI (L.length + 1)), .int cf_18, pv_18]) := by rw [← hE112]; exact up2_eq
        have c_115 : E111 0 8 = .inl (kA 4, 12, .inr (.inr (.inr (.inr (va_up fc_18 L.length (some (ad (1 + z30) 0))))))) := (fE113 0 8 (by omega)).trans c_88
        have c_116 : E111 0 0 = .inr (0, [.ref (ad 0 1), .ref (ad 0 5), .ref (ad 0 7), .ref (ad 0 9), .int (nI ml), .int lf_1]) := (fE113 0 0 (by omega)).trans c_89
        have c_117 : E111 0 1 = .inr (1, [.ref (ad 0 2), .ref (ad 0 3), .ref (ad 0 4), .int (nI len), .int (nI wn)]) := (fE113 0 1 (by omega)).trans c_90
        have c_118 : E111 0 2 = .inl (kA 1, 40, .inl tx_4) := (fE113 0 2 (by omega)).trans c_91
        have c_119 : E111 0 3 = .inl (kA 0, 20, .inl fb_4) := (fE113 0 3 (by omega)).trans c_92
        have c_120 : E111 0 4 = .inl (kA 0, 20, .inl fe_4) := (fE113 0 4 (by omega)).trans c_93
        have c_121 : E111 0 5 = .inr (2, [.ref (ad 0 6), .int (nI nd)]) := (fE113 0 5 (by omega)).trans c_94
        have c_122 : E111 0 6 = .inl (kA 4, 12, .inr (.inr (.inr (.inr fd_13)))) := (fE113 0 6 (by omega)).trans c_95
        have c_123 : E111 0 9 = .inl (kA 5, 5, .inr (.inr (.inr (.inr fl_23)))) := (fE113 0 9 (by omega)).trans c_97
        have c_124 : E111 (1 + z30) 0 = .inr (7, [.int (nI z30), .int fd_58, .int nm_58, .ref (ad (1 + z30) 1), .ref (ad (1 + z30) 9), .ref (ad (1 + z30) 10), .ref (ad (1 + z30) 2), .ref (ad (1 + z30) 11), .ref (ad (1 + z30) 12), .ref (ad (1 + z30) 3), .ref (ad (1 + z30) 4), .int sd_58]) := (fE113 (1 + z30) 0 (by omega)).trans c_98
        have c_125 : E111 (1 + z30) 1 = .inr (8, [.ref (ad (1 + z30) 5), .int (nI k0_58)]) := (fE113 (1 + z30) 1 (by omega)).trans c_99
        have c_126 : E111 (1 + z30) 2 = .inr (8, [.ref (ad (1 + z30) 6), .int (nI k1_58)]) := (fE113 (1 + z30) 2 (by omega)).trans c_100
        have c_127 : E111 (1 + z30) 3 = .inr (8, [.ref (ad (1 + z30) 7), .int (nI k2_58)]) := (fE113 (1 + z30) 3 (by omega)).trans c_101
        have c_128 : E111 (1 + z30) 4 = .inr (8, [.ref (ad (1 + z30) 8), .int (nI k3_58)]) := (fE113 (1 + z30) 4 (by omega)).trans c_102
        have c_129 : E111 (1 + z30) 5 = .inl (kA 0, 6, .inl f0_58) := (fE113 (1 + z30) 5 (by omega)).trans c_103
        have c_130 : E111 (1 + z30) 6 = .inl (kA 0, 5, .inl f1_58) := (fE113 (1 + z30) 6 (by omega)).trans c_104
        have c_131 : E111 (1 + z30) 7 = .inl (kA 0, 3, .inl f2_58) := (fE113 (1 + z30) 7 (by omega)).trans c_105
        have c_132 : E111 (1 + z30) 8 = .inl (kA 0, 3, .inl f3_58) := (fE113 (1 + z30) 8 (by omega)).trans c_106
        have c_133 : E111 (1 + z30) 9 = .inl (kA 8, 6, .inr (.inr (.inr (.inr fe_58)))) := (fE113 (1 + z30) 9 (by omega)).trans c_107
        have c_134 : E111 (1 + z30) 10 = .inl (kA 8, 6, .inr (.inr (.inr (.inr fo_58)))) := (fE113 (1 + z30) 10 (by omega)).trans c_108
        have c_135 : E111 (1 + z30) 11 = .inl (kA 2, 5, .inl tr_58) := (fE113 (1 + z30) 11 (by omega)).trans c_109
        have c_136 : E111 (1 + z30) 12 = .inl (kA 2, 5, .inl op_58) := (fE113 (1 + z30) 12 (by omega)).trans c_110
        have hCX2 : CX ad E111 nd fi lq (L ++ [z30]) := ⟨by rw [c_114]; exact xfi_18, by rw [c_114]; exact xpv_18, by rw [c_115]; exact CX_add xfc_18, GL_add xGL_18 (dsG_lt _ _ hds) z53⟩
        have hF2 : F78 E E111 := fun b2 o2 h79 h89 => by show E111 b2 o2 = _; rw [fE113 b2 o2 (by omega), fE87 b2 o2 (by omega)]
        have hCI : CI kA ad E111 RL ml nd len wn (L.length + 1) := ⟨hmB, ⟨lf_1, c_116⟩, ⟨tx_4, fb_4, fe_4, (by omega), (by omega), c_117, c_118, c_119, c_120, hws_4⟩, ⟨fd_13, (by omega), c_121, c_122, hds_13⟩, ⟨cf_18, pv_18, (va_up fc_18 L.length (some (ad (1 + z30) 0))), (by omega), hpv_18, c_114, c_115, (FC_add hfc_18 (d0 := z30) (by omega))⟩, ⟨fl_23, (by omega), c_123, hla_23⟩, (DIs_same (fun d9 hd9 => fun2 fun o9 => by show E111 (1 + d9) o9 = _; rw [fE113 (1 + d9) o9 (by omega), fE87 (1 + d9) o9 (by omega)]) (fun _ _ => rfl) (fun _ h9 => h9) hDIs), (LIs_same (Nat.le_refl _) (fun n9 hn9 => fun2 fun o9 => by show E111 (20 + n9) o9 = _; rw [fE113 (20 + n9) o9 (by omega), fE87 (20 + n9) o9 (by omega)]) (fun _ _ => rfl) (fun _ _ => rfl) (fun _ h9 => h9) hLIs)⟩
        obtain ⟨hmB, hDk, hLi, hSh, hCh, hLa, hDIs, hLIs⟩ := id hCI
        have hCI : CI kA ad E111 RL ml nd len wn (L ++ [z30]).length := by rw [len_app]; exact hCI
        refine lv_iconst (v := 0) hx hb xd_Ch_addName_88 (by decide) ?_
        refine lv_istore hx hb xd_Ch_addName_89 hl (Nat.le_of_ble_eq_true rfl) rfl (fun ls hl => ?_)
        have hl : lv_has ls 5 [(4, .int 0), (3, .ref (ad (1 + z30) 0)), (0, .ref (ad 0 7)), (1, .int nm), (2, .int (nI dp))] := hl
        refine xlab (σ := Nat × (Nat → Nat → va_E) × List Nat) (ml := 5) 91 (fun (i, E1, L1) => [(4, .int (nI i)), (3, .ref (ad (1 + z30) 0)), (2, .int (nI dp)), (1, .int nm), (0, .ref (ad 0 7))]) (fun (i, E1, L1) => []) (fun (i, E1, L1) => rp ad E1 RL) (fun (i, E1, L1) => (i ≤ iN (g 12 z30)) ∧ (CI kA ad E1 RL ml nd len wn L1.length) ∧ (CX ad E1 nd fi lq L1) ∧ (F78 E E1) ∧ (aF (aN (dsG g nd fi) (upG g lq) (rqG g) (f - 1)) (L ++ [z30]) (rqG g z30) = aF (aN (dsG g nd fi) (upG g lq) (rqG g) (f - 1)) L1 (rqL (g 13) (g 17) (5 * z30 + i) (iN (g 12 z30) - i)))) (fun (i, E1, L1) => iN (g 12 z30) - i) ?_ (0, E111, (L ++ [z30])) _ _ _ (lv_sub hl [0, 1, 4, 3, 2] rfl) hP hD hS ⟨(show 0 ≤ iN (g 12 z30) from by first | assumption | omega), (show CI kA ad E111 RL ml nd len wn (L ++ [z30]).length from hCI), (show CX ad E111 nd fi lq (L ++ [z30]) from hCX2), (show F78 E E111 from hF2), (show aF (aN (dsG g nd fi) (upG g lq) (rqG g) (f - 1)) (L ++ [z30]) (rqG g z30) = aF (aN (dsG g nd fi) (upG g lq) (rqG g) (f - 1)) (L ++ [z30]) (rqL (g 13) (g 17) (5 * z30 + 0) (iN (g 12 z30) - 0)) from (show aF (aN (dsG g nd fi) (upG g lq) (rqG g) (f - 1)) (L ++ [z30]) (rqG g z30) = aF (aN (dsG g nd fi) (upG g lq) (rqG g) (f - 1)) (L ++ [z30]) (rqL (g 13) (g 17) (5 * z30 + 0) (iN (g 12 z30) - 0)) from rfl))⟩
        intro n9 ih137 a9 ls H locs hμ hl hP hD hS hI
        subst hμ
        obtain ⟨i, E1, L1⟩ := a9
        obtain ⟨hi, hCI, hCX1, hF, hAn⟩ := hI
        have hi : i ≤ iN (g 12 z30) := hi
        have hCI : CI kA ad E1 RL ml nd len wn L1.length := hCI
        have hCX1 : CX ad E1 nd fi lq L1 := hCX1
        have hF : F78 E E1 := hF
        have hAn : aF (aN (dsG g nd fi) (upG g lq) (rqG g) (f - 1)) (L ++ [z30]) (rqG g z30) = aF (aN (dsG g nd fi) (upG g lq) (rqG g) (f - 1)) L1 (rqL (g 13) (g 17) (5 * z30 + i) (iN (g 12 z30) - i)) := hAn
        have hl : lv_has ls 5 [(4, .int (nI i)), (3, .ref (ad (1 + z30) 0)), (2, .int (nI dp)), (1, .int nm), (0, .ref (ad 0 7))] := hl
        have hP : va_P D xcl (rp ad E1 RL) H := hP
        have hD : va_D A (rp ad E1 RL) := hD
        obtain ⟨hmB, hDk, hLi, hSh, hCh, hLa, hDIs, hLIs⟩ := id hCI
        obtain ⟨lf_138, q_138⟩ := id (hDk)
        have c_139 : E1 0 0 = .inr (0, [.ref (ad 0 1), .ref (ad 0 5), .ref (ad 0 7), .ref (ad 0 9), .int (nI ml), .int lf_138]) := q_138
        have m_140 : (0, 0) ∈ RL := hmB 0 (by omega)
        obtain ⟨tx_141, fb_141, fe_141, hl1_141, hw2_141, q1_141, q2_141, q3_141, q4_141, hws_141⟩ := id (hLi)
        have c_142 : E1 0 1 = .inr (1, [.ref (ad 0 2), .ref (ad 0 3), .ref (ad 0 4), .int (nI len), .int (nI wn)]) := q1_141
        have m_143 : (0, 1) ∈ RL := hmB 1 (by omega)
        have c_144 : E1 0 2 = .inl (kA 1, 40, .inl tx_141) := q2_141
        have m_145 : (0, 2) ∈ RL := hmB 2 (by omega)
        have c_146 : E1 0 3 = .inl (kA 0, 20, .inl fb_141) := q3_141
        have m_147 : (0, 3) ∈ RL := hmB 3 (by omega)
        have c_148 : E1 0 4 = .inl (kA 0, 20, .inl fe_141) := q4_141
        have m_149 : (0, 4) ∈ RL := hmB 4 (by omega)
        obtain ⟨fd_150, hnd_150, q5_150, q6_150, hds_150⟩ := id (hSh)
        have c_151 : E1 0 5 = .inr (2, [.ref (ad 0 6), .int (nI nd)]) := q5_150
        have m_152 : (0, 5) ∈ RL := hmB 5 (by omega)
        have c_153 : E1 0 6 = .inl (kA 4, 12, .inr (.inr (.inr (.inr fd_150)))) := q6_150
        have m_154 : (0, 6) ∈ RL := hmB 6 (by omega)
        obtain ⟨cf_155, pv_155, fc_155, hcs_155, hpv_155, q7_155, q8_155, hfc_155⟩ := id (hCh)
        have c_156 : E1 0 7 = .inr (3, [.ref (ad 0 5), .ref (ad 0 8), .int (nI (L1.length)), .int cf_155, pv_155]) := q7_155
        have m_157 : (0, 7) ∈ RL := hmB 7 (by omega)
        have c_158 : E1 0 8 = .inl (kA 4, 12, .inr (.inr (.inr (.inr fc_155)))) := q8_155
        have m_159 : (0, 8) ∈ RL := hmB 8 (by omega)
        obtain ⟨fl_160, hml_160, q9_160, hla_160⟩ := id (hLa)
        have c_161 : E1 0 9 = .inl (kA 5, 5, .inr (.inr (.inr (.inr fl_160)))) := q9_160
        have m_162 : (0, 9) ∈ RL := hmB 9 (by omega)
        have hTD1 : TDs g E1 nd := TDs_78 hF hTD
        have hTL1 : TLas g ad E1 nd ml := TLas_78 hF hTL
        obtain ⟨xfi_155, xpv_155, xfc_155, xGL_155⟩ := id hCX1
        rw [c_156] at xfi_155 xpv_155
        rw [c_158] at xfc_155
        have xfi_155 : cf_155 = fi := xfi_155
        have xpv_155 : pv_155 = lyv ad lq := xpv_155
        have xfc_155 : ∀ k, k < L1.length → fc_155 k = some (ad (1 + L1.getD k 0) 0) := xfc_155
        have xln_155 := GL_len xGL_155
        refine lv_iload hx hb xd_Ch_addName_91 (lv_at hl 0 rfl) ?_
        refine lv_aload_n hx hb xd_Ch_addName_93 rfl (lv_at hl 1 rfl) ?_
        obtain ⟨hm_163, fd_163, nm_163, sd_163, k0_163, k1_163, k2_163, k3_163, f0_163, f1_163, f2_163, f3_163, fe_163, fo_163, tr_163, op_163, hk0_163, hk1_163, hk2_163, hk3_163, q0_163, q1_163, q2_163, q3_163, q4_163, q5_163, q6_163, q7_163, q8_163, q9_163, q10_163, q11_163, q12_163, hg_163⟩ := id (hDIs z30 (by omega))
        have c_164 : E1 (1 + z30) 0 = .inr (7, [.int (nI z30), .int fd_163, .int nm_163, .ref (ad (1 + z30) 1), .ref (ad (1 + z30) 9), .ref (ad (1 + z30) 10), .ref (ad (1 + z30) 2), .ref (ad (1 + z30) 11), .ref (ad (1 + z30) 12), .ref (ad (1 + z30) 3), .ref (ad (1 + z30) 4), .int sd_163]) := q0_163
        have m_165 : (1 + z30, 0) ∈ RL := hm_163 0 (by omega)
        have c_166 : E1 (1 + z30) 1 = .inr (8, [.ref (ad (1 + z30) 5), .int (nI k0_163)]) := q1_163
        have m_167 : (1 + z30, 1) ∈ RL := hm_163 1 (by omega)
        have c_168 : E1 (1 + z30) 2 = .inr (8, [.ref (ad (1 + z30) 6), .int (nI k1_163)]) := q2_163
        have m_169 : (1 + z30, 2) ∈ RL := hm_163 2 (by omega)
        have c_170 : E1 (1 + z30) 3 = .inr (8, [.ref (ad (1 + z30) 7), .int (nI k2_163)]) := q3_163
        have m_171 : (1 + z30, 3) ∈ RL := hm_163 3 (by omega)
        have c_172 : E1 (1 + z30) 4 = .inr (8, [.ref (ad (1 + z30) 8), .int (nI k3_163)]) := q4_163
        have m_173 : (1 + z30, 4) ∈ RL := hm_163 4 (by omega)
        have c_174 : E1 (1 + z30) 5 = .inl (kA 0, 6, .inl f0_163) := q5_163
        have m_175 : (1 + z30, 5) ∈ RL := hm_163 5 (by omega)
        have c_176 : E1 (1 + z30) 6 = .inl (kA 0, 5, .inl f1_163) := q6_163
        have m_177 : (1 + z30, 6) ∈ RL := hm_163 6 (by omega)
        have c_178 : E1 (1 + z30) 7 = .inl (kA 0, 3, .inl f2_163) := q7_163
        have m_179 : (1 + z30, 7) ∈ RL := hm_163 7 (by omega)
        have c_180 : E1 (1 + z30) 8 = .inl (kA 0, 3, .inl f3_163) := q8_163
        have m_181 : (1 + z30, 8) ∈ RL := hm_163 8 (by omega)
        have c_182 : E1 (1 + z30) 9 = .inl (kA 8, 6, .inr (.inr (.inr (.inr fe_163)))) := q9_163
        have m_183 : (1 + z30, 9) ∈ RL := hm_163 9 (by omega)
        have c_184 : E1 (1 + z30) 10 = .inl (kA 8, 6, .inr (.inr (.inr (.inr fo_163)))) := q10_163
        have m_185 : (1 + z30, 10) ∈ RL := hm_163 10 (by omega)
        have c_186 : E1 (1 + z30) 11 = .inl (kA 2, 5, .inl tr_163) := q11_163
        have m_187 : (1 + z30, 11) ∈ RL := hm_163 11 (by omega)
        have c_188 : E1 (1 + z30) 12 = .inl (kA 2, 5, .inl op_163) := q12_163
        have m_189 : (1 + z30, 12) ∈ RL := hm_163 12 (by omega)
        have hg_163 : ∀ w9, w9 < k0_163 → fe_163 w9 = some (ad (1 + z30) (20 + 3 * w9)) ∧ fo_163 w9 = some (ad (1 + z30) (38 + 3 * w9)) ∧ GI kA (ad (1 + z30)) (E1 (1 + z30)) (fun o => (1 + z30, o) ∈ RL) (20 + 3 * w9) (21 + 3 * w9) (22 + 3 * w9) ∧ GI kA (ad (1 + z30)) (E1 (1 + z30)) (fun o => (1 + z30, o) ∈ RL) (38 + 3 * w9) (39 + 3 * w9) (40 + 3 * w9) := hg_163
        obtain ⟨hTT_163, tgr_163⟩ := TD_get hk0_163 hk1_163 hk2_163 hk3_163 c_164 c_166 c_168 c_170 c_172 c_174 c_176 c_178 c_180 c_186 c_188 (hTD1 z30 (by omega))
        obtain ⟨tfd_163, tnm_163, tsd_163, tk0_163, tf0_163, tk1_163, tf1_163, tk2_163, tk3_163⟩ := id hTT_163
        have ik0_163 : iN (g 5 z30) = k0_163 := by rw [← tk0_163, iN_nI (by omega)]
        have ik1_163 : iN (g 12 z30) = k1_163 := by rw [← tk1_163, iN_nI (by omega)]
        refine px_get (D := D) (ci := 7) (v := .ref (ad (1 + z30) 2)) (C := xR_Ds) (T := xT_Ds) (N := 12) hx hb hT xi_Ds hown hK.1 hP m_165 c_164 rfl 6 (by decide) (hT _ k5l_20) (fun _ h9 => h9) rfl xd_Ch_addName_94 ?_
        refine px_get (D := D) (ci := 8) (v := .int (nI k1_163)) (C := xR_Na) (T := xT_Na) (N := 2) hx hb hT xi_Na hown hK.1 hP m_169 c_168 rfl 1 (by decide) (hT _ k5l_21) (fun _ h9 => h9) rfl xd_Ch_addName_97 ?_
        refine xn_ge (a := i) (b := k1_163) (tgt := 140) hx hb xd_Ch_addName_100 (by decide) (by omega) (by omega) (fun hc190 => ?_) (fun hc190 => ?_)
        · refine lv_iconst (v := 1) hx hb xd_Ch_addName_140 (by decide) ?_
          refine W.widen (k := 0) (n := 0) (Nat.le_of_ble_eq_true rfl) (Nat.le_of_ble_eq_true rfl) ?_
          exact W.zret (v := 1) hx hb hr rfl (fun t ht hW => ⟨⟨1, E1, rfl, ⟨L1, hCI, hCX1, hF, Or.inl ⟨rfl, (aN_s (by omega) hds z53).trans (hAn.trans (by rw [show iN (g 12 z30) - i = 0 by omega]; rfl))⟩⟩, by rw [ht]; exact hP, hD⟩, hS.F ht⟩) hS.2.2 xd_Ch_addName_141
        · refine lv_aload_n hx hb xd_Ch_addName_103 rfl (lv_at hl 1 rfl) ?_
          refine px_get (D := D) (ci := 7) (v := .ref (ad (1 + z30) 12)) (C := xR_Ds) (T := xT_Ds) (N := 12) hx hb hT xi_Ds hown hK.1 hP m_165 c_164 rfl 8 (by decide) (hT _ k5l_22) (fun _ h9 => h9) rfl xd_Ch_addName_104 ?_
          refine lv_iload hx hb xd_Ch_addName_107 (lv_at hl 0 rfl) ?_
          refine px_zald (i := i) hx hb hK.1 hP m_189 c_188 2 rfl (by omega) (by decide) xd_Ch_addName_109 ?_
          refine lv_if_ne (tgt := 134) hx hb xd_Ch_addName_110 (by decide) (fun hc191 => ?_) (fun hc191 => ?_)
          · refine lv_iinc (k := 0) (x := (nI i)) (v := (nI (i + 1))) hx hb xd_Ch_addName_134 hl rfl (xb_inc i 1) (Nat.le_of_ble_eq_true rfl) rfl (fun ls hl => ?_)
            have hl : lv_has ls 5 [(4, .int (nI (i + 1))), (3, .ref (ad (1 + z30) 0)), (2, .int (nI dp)), (1, .int nm), (0, .ref (ad 0 7))] := hl
            refine lv_goto (tgt := 91) hx hb xd_Ch_addName_137 (by decide) ?_
            exact ih137 (i + 1, E1, L1) _ _ _ (show iN (g 12 z30) - (i + 1) < iN (g 12 z30) - i by omega) (lv_sub hl [0, 1, 2, 3, 4] rfl) hP hD hS ⟨(show (i + 1) ≤ iN (g 12 z30) from by first | assumption | omega), (show CI kA ad E1 RL ml nd len wn L1.length from hCI), (show CX ad E1 nd fi lq L1 from hCX1), (show F78 E E1 from hF), (show aF (aN (dsG g nd fi) (upG g lq) (rqG g) (f - 1)) (L ++ [z30]) (rqG g z30) = aF (aN (dsG g nd fi) (upG g lq) (rqG g) (f - 1)) L1 (rqL (g 13) (g 17) (5 * z30 + (i + 1)) (iN (g 12 z30) - (i + 1))) from by rw [hAn, show iN (g 12 z30) - i = iN (g 12 z30) - (i + 1) + 1 by omega, rqL_n (by rw [← (tf1_163 i (by omega)).2.2]; exact hc191), Nat.add_assoc])⟩
          · refine lv_aload_n hx hb xd_Ch_addName_113 rfl (lv_at hl 4 rfl) ?_
            refine lv_aload_n hx hb xd_Ch_addName_114 rfl (lv_at hl 1 rfl) ?_
            refine px_get (D := D) (ci := 7) (v := .ref (ad (1 + z30) 2)) (C := xR_Ds) (T := xT_Ds) (N := 12) hx hb hT xi_Ds hown hK.1 hP m_165 c_164 rfl 6 (by decide) (hT _ k5l_20) (fun _ h9 => h9) rfl xd_Ch_addName_115 ?_
            refine lv_iload hx hb xd_Ch_addName_118 (lv_at hl 0 rfl) ?_
            have hFc := px_free hD hS hA
            refine va_calli (va_runV (As := [.int (nI i)]) (rest := [.ref (ad 0 7)]) ⟨hx, hb, hml, hown, hT⟩ (xc_Na_at l D kA H.size ad E1 RL (1 + z30) 2 6 5 k1_163 f1_163 i m_169 c_168 m_177 c_176 (by first | assumption | omega) (by first | assumption | omega) (by first | assumption | omega)) (cwV 1 hT (wT_V k5l_24 k5l_25 k5l_26 k5l_27 k5l_23) rfl rfl rfl (by decide +kernel) ⟨(show 0 + 1 ≤ 6 + f by omega), (show 8 + (2 + 11) + (0) ≤ 90 + 90 * f by omega)⟩) (px_preV hK hP hD m_169 c_168 rfl) rfl rfl hl.1 rfl (lv_room (Nat.le_of_ble_eq_true rfl)) xd_Ch_addName_120 ⟨(Nat.le_of_ble_eq_true rfl), (Nat.le_of_ble_eq_true rfl)⟩) hS (fun q _ h => hFc q h) hFc (fun r192 u193 t H1 locs ht hvm hp194 hB hz1 hk1 hS => ?_)
            obtain ⟨hP1, hD1⟩ := hB
            rw [ht] at hP1
            have hD1 := hD1.weaken (fun _ _ _ h => hFc _ h)
            generalize H1 = H at hP1 hS ⊢
            have hP := hP1
            have hD := hD1
            have hP : va_P D xcl (rp ad E1 RL) H := hP
            have hD : va_D A (rp ad E1 RL) := hD
            have hp194 : r192 = g 13 (5 * z30 + i) := by
              rcases hp194 with ⟨q, q2⟩ | ⟨q, _⟩
              · rw [q2]; exact (tf1_163 i q).1
              · omega
            subst hp194
            have hP : va_P D xcl (rp ad E1 RL) H := hP
            have hD : va_D A (rp ad E1 RL) := hD
            refine lv_iload_n hx hb xd_Ch_addName_123 rfl (lv_at hl 2 rfl) ?_
            refine lv_iconst (v := 1) hx hb xd_Ch_addName_124 (by decide) ?_
            refine lv_iadd hx hb xd_Ch_addName_125 ?_
            refine xn_top (y := nI (dp + 1)) (nI_add dp 1) ?_
            have hFc := px_free hD hS hA
            refine va_calli (va_runV (As := [.int (g 13 (5 * z30 + i)), .int (nI (dp + 1))]) (rest := []) ⟨hx, hb, hml, hown, hT⟩ (ih (f - 1) (by omega) l D kA H.size ad E1 RL g ml nd len wn fi lq L1 (g 13 (5 * z30 + i)) (dp + 1) hCI hCX1 hTD1 hTL1 (by first | assumption | omega) (by first | assumption | omega)) (cwV 2 hT (wT_V k5l_29 k5l_30 k5l_31 k5l_17 k5l_28) rfl rfl rfl (by decide +kernel) ⟨(show 6 + (f - 1) + 1 ≤ 6 + f by omega), (show 8 + (5 + 11) + (90 + 90 * (f - 1)) ≤ 90 + 90 * f by omega)⟩) (px_preV hK hP hD m_157 c_156 rfl) rfl rfl hl.1 rfl (lv_room (Nat.le_of_ble_eq_true rfl)) xd_Ch_addName_126 ⟨(Nat.le_of_ble_eq_true rfl), (Nat.le_of_ble_eq_true rfl)⟩) hS (fun q _ h => hFc q h) hFc (fun r195 u196 t H1 locs ht hvm hp197 hB hz1 hk1 hS => ?_)
            obtain ⟨hP1, hD1⟩ := hB
            rw [ht] at hP1
            have hD1 := hD1.weaken (fun _ _ _ h => hFc _ h)
            generalize H1 = H at hP1 hS ⊢
            have hP := hP1
            have hD := hD1
            obtain ⟨E198, rfl⟩ : ∃ z, z = u196 := ⟨_, rfl⟩
            have hP : va_P D xcl (rp ad E198 RL) H := hP
            have hD : va_D A (rp ad E198 RL) := hD
            obtain ⟨L2, hCI, hCX2, hF9, hres⟩ := hp197
            have hCI : CI kA ad E198 RL ml nd len wn L2.length := hCI
            have hF2 : F78 E E198 := F78_tr hF hF9
            obtain ⟨hmB, hDk, hLi, hSh, hCh, hLa, hDIs, hLIs⟩ := id hCI
            rcases hres with ⟨rfl, hok9⟩ | ⟨rfl, hok9⟩
            · have hok8 := hok9
              refine lv_if_ne (tgt := 134) hx hb xd_Ch_addName_129 (by decide) (fun _ => ?_) (fun hc199 => absurd hc199 (by decide))
              refine lv_iinc (k := 0) (x := (nI i)) (v := (nI (i + 1))) hx hb xd_Ch_addName_134 hl rfl (xb_inc i 1) (Nat.le_of_ble_eq_true rfl) rfl (fun ls hl => ?_)
              have hl : lv_has ls 5 [(4, .int (nI (i + 1))), (3, .ref (ad (1 + z30) 0)), (2, .int (nI dp)), (1, .int nm), (0, .ref (ad 0 7))] := hl
              refine lv_goto (tgt := 91) hx hb xd_Ch_addName_137 (by decide) ?_
              exact ih137 (i + 1, E198, L2) _ _ _ (show iN (g 12 z30) - (i + 1) < iN (g 12 z30) - i by omega) (lv_sub hl [0, 1, 2, 3, 4] rfl) hP hD hS ⟨(show (i + 1) ≤ iN (g 12 z30) from by first | assumption | omega), (show CI kA ad E198 RL ml nd len wn L2.length from hCI), (show CX ad E198 nd fi lq L2 from hCX2), (show F78 E E198 from hF2), (show aF (aN (dsG g nd fi) (upG g lq) (rqG g) (f - 1)) (L ++ [z30]) (rqG g z30) = aF (aN (dsG g nd fi) (upG g lq) (rqG g) (f - 1)) L2 (rqL (g 13) (g 17) (5 * z30 + (i + 1)) (iN (g 12 z30) - (i + 1))) from by rw [hAn, show iN (g 12 z30) - i = iN (g 12 z30) - (i + 1) + 1 by omega, rqL_y (by rw [← (tf1_163 i (by omega)).2.2]; exact hc191), aF_t hok9, Nat.add_assoc])⟩
            · have hok8 := hok9
              refine lv_if_ne (tgt := 134) hx hb xd_Ch_addName_129 (by decide) (fun hc200 => absurd (by decide) hc200) (fun _ => ?_)
              refine lv_iconst (v := 0) hx hb xd_Ch_addName_132 (by decide) ?_
              refine W.widen (k := 0) (n := 0) (Nat.le_of_ble_eq_true rfl) (Nat.le_of_ble_eq_true rfl) ?_
              exact W.zret (v := 0) hx hb hr rfl (fun t ht hW => ⟨⟨0, E198, rfl, ⟨L2, hCI, hCX2, hF2, Or.inr ⟨rfl, (aN_s (by omega) hds z53).trans (hAn.trans (by rw [show iN (g 12 z30) - i = iN (g 12 z30) - (i + 1) + 1 by omega, rqL_y (by rw [← (tf1_163 i (by omega)).2.2]; exact hc191), aF_f hok9]))⟩⟩, by rw [ht]; exact hP, hD⟩, hS.F ht⟩) hS.2.2 xd_Ch_addName_133
      · refine lv_iconst (v := 0) hx hb xd_Ch_addName_66 (by decide) ?_
        refine W.widen (k := 0) (n := 0) (Nat.le_of_ble_eq_true rfl) (Nat.le_of_ble_eq_true rfl) ?_
        exact W.zret (v := 0) hx hb hr rfl (fun t ht hW => ⟨⟨0, E, rfl, ⟨L, hCI, hCX, F78_rf, Or.inr ⟨rfl, aN_z (by omega) hds z53⟩⟩, by rw [ht]; exact hP, hD⟩, hS.F ht⟩) hS.2.2 xd_Ch_addName_67
