theorem k5n_0 : (Cond.code xy_Ch_addName xb_Ch_addName 5 (some .boolean)) ∈ wT := wT_t (List.mem_append_right _ (List.mem_append_right _ (List.mem_append_left _ (List.mem_of_getElem? (i := 80) rfl)))) rfl
theorem k5n_1 : (Cond.methodLink "LayerDesk$Chooser" 32 xy_Ch_addName) ∈ wT := wT_t (List.mem_append_right _ (List.mem_append_right _ (List.mem_append_left _ (List.mem_of_getElem? (i := 77) rfl)))) rfl
theorem k5n_2 : (Cond.instanceMethod xy_Ch_addName) ∈ wT := wT_t (List.mem_append_right _ (List.mem_append_right _ (List.mem_append_left _ (List.mem_of_getElem? (i := 79) rfl)))) rfl
theorem k5n_3 : (Cond.selects "LayerDesk$Chooser" xy_Ch_addName xy_Ch_addName) ∈ wT := wT_s (q := (xy_Ch_addName, 5)) (by decide +kernel) rfl
theorem k5n_4 : (Cond.initialized "LayerDesk$Chooser") ∈ wT := wT_t (List.mem_append_left _ (List.mem_of_getElem? (i := 4) rfl)) rfl
theorem k5n_5 : (Cond.fieldLink "LayerDesk$Chooser" 28 "LayerDesk$Chooser" "shelf" "LLayerDesk$Shelf;") ∈ wT := wT_t (List.mem_append_left _ (List.mem_of_getElem? (i := 81) rfl)) rfl
theorem k5n_6 : (Cond.fieldLink "LayerDesk$Chooser" 101 "LayerDesk$Shelf" "size" "I") ∈ wT := wT_t (List.mem_append_left _ (List.mem_of_getElem? (i := 68) rfl)) rfl
theorem k5n_7 : (Cond.fieldLink "LayerDesk$Chooser" 102 "LayerDesk$Shelf" "descriptors" "[LLayerDesk$Descriptor;") ∈ wT := wT_t (List.mem_append_left _ (List.mem_of_getElem? (i := 65) rfl)) rfl
theorem k5n_8 : (Cond.fieldLink "LayerDesk$Chooser" 17 "LayerDesk$Chooser" "size" "I") ∈ wT := wT_t (List.mem_append_left _ (List.mem_of_getElem? (i := 83) rfl)) rfl
theorem k5n_9 : (Cond.fieldLink "LayerDesk$Chooser" 105 "LayerDesk$Descriptor" "finder" "I") ∈ wT := wT_t (List.mem_append_right _ (List.mem_append_left _ (List.mem_of_getElem? (i := 53) rfl))) rfl
theorem k5n_10 : (Cond.fieldLink "LayerDesk$Chooser" 21 "LayerDesk$Chooser" "finder" "I") ∈ wT := wT_t (List.mem_append_left _ (List.mem_of_getElem? (i := 84) rfl)) rfl
theorem k5n_11 : (Cond.fieldLink "LayerDesk$Chooser" 106 "LayerDesk$Descriptor" "provided" "LLayerDesk$Names;") ∈ wT := wT_t (List.mem_append_right _ (List.mem_append_left _ (List.mem_of_getElem? (i := 80) rfl))) rfl
theorem k5n_12 : (Cond.code xy_Na_holds xb_Na_holds 2 (some .boolean)) ∈ wT := wT_t (List.mem_append_right _ (List.mem_append_left _ (List.mem_of_getElem? (i := 123) rfl))) rfl
theorem k5n_13 : (Cond.methodLink "LayerDesk$Chooser" 109 xy_Na_holds) ∈ wT := wT_t (List.mem_append_right _ (List.mem_append_right _ (List.mem_append_left _ (List.mem_of_getElem? (i := 126) rfl)))) rfl
theorem k5n_14 : (Cond.instanceMethod xy_Na_holds) ∈ wT := wT_t (List.mem_append_right _ (List.mem_append_left _ (List.mem_of_getElem? (i := 121) rfl))) rfl
theorem k5n_15 : (Cond.selects "LayerDesk$Names" xy_Na_holds xy_Na_holds) ∈ wT := wT_t (List.mem_append_right _ (List.mem_append_left _ (List.mem_of_getElem? (i := 122) rfl))) rfl
theorem k5n_16 : (Cond.initialized "LayerDesk$Names") ∈ wT := wT_t (List.mem_append_left _ (List.mem_of_getElem? (i := 11) rfl)) rfl
theorem k5n_17 : (Cond.code xy_Ch_isChosen xb_Ch_isChosen 3 (some .boolean)) ∈ wT := wT_t (List.mem_append_right _ (List.mem_append_right _ (List.mem_append_left _ (List.mem_of_getElem? (i := 89) rfl)))) rfl
theorem k5n_18 : (Cond.methodLink "LayerDesk$Chooser" 66 xy_Ch_isChosen) ∈ wT := wT_t (List.mem_append_right _ (List.mem_append_right _ (List.mem_append_left _ (List.mem_of_getElem? (i := 86) rfl)))) rfl
theorem k5n_19 : (Cond.instanceMethod xy_Ch_isChosen) ∈ wT := wT_t (List.mem_append_right _ (List.mem_append_right _ (List.mem_append_left _ (List.mem_of_getElem? (i := 88) rfl)))) rfl
theorem k5n_20 : (Cond.selects "LayerDesk$Chooser" xy_Ch_isChosen xy_Ch_isChosen) ∈ wT := wT_s (q := (xy_Ch_isChosen, 5)) (by decide +kernel) rfl
theorem k5n_21 : (Cond.fieldLink "LayerDesk$Chooser" 113 "LayerDesk$Descriptor" "name" "I") ∈ wT := wT_t (List.mem_append_right _ (List.mem_append_left _ (List.mem_of_getElem? (i := 58) rfl))) rfl
set_option maxHeartbeats 4000000 in
set_option maxRecDepth 100000 in
theorem xc_Ch_addRootX (l : Launch) (D : va_G) (kA : Nat → ClassId) (sz : Nat) (ad : Nat → Nat → Nat) (E : Nat → Nat → va_E) (RL : List (Nat × Nat)) (g : Nat → Nat → Int32) (ml : Nat) (nd : Nat) (len : Nat) (wn : Nat) (fi : Int32) (lq : Nat) (L : List Nat) (nm : Int32) (hCI : CI kA ad E RL ml nd len wn L.length) (hCX : CX ad E nd fi lq L) (hTD : TDs g E nd) (hTL : TLas g ad E nd ml) (hlqm : lq ≤ ml) : Met l xy_Ch_addRoot (.code xy_Ch_addRoot xb_Ch_addRoot 2 (some .boolean) :: wT) { frames := 19, cells := 0, slots := 0, locals := 1194 } (va_Pc [.ref (ad 0 7), .int nm] (xPre D kA sz (rp ad E RL))) (va_Qi (fun (r : Int32) (u : Nat → Nat → va_E) => ∃ L2, CI kA ad u RL ml nd len wn L2.length ∧ CX ad u nd fi lq L2 ∧ F78 E u ∧ ((r = 1 ∧ adG g nd fi lq L nm = (true, L2)) ∨ (r = 0 ∧ adG g nd fi lq L nm = (false, L2)))) (fun (u : Nat → Nat → va_E) t => va_P D xcl (rp ad u RL) t.heap ∧ va_D (va_A (rp ad E RL) sz) (rp ad u RL)) (va_A (rp ad E RL) sz)) 0 0 (va_A (rp ad E RL) sz) := by
  refine Met.ofW (cc := xb_Ch_addRoot) (maxL := 2) (ret := (some .boolean)) (by decide) rfl ?_
  intro p e s m args below meth c s₁ B hml hv
  obtain ⟨rfl, hsz, hP, hK, hD0⟩ := hv
  have hx := B.exec
  have hb := B.bytes
  have hr := B.returns
  have hT := x_hT B.pre
  have hown : s.vm.findClass xR_Ch = some m.cls := findClass_of_methodNamed B.named
  have hlocks := B.notSynchronized
  subst hsz
  have hD := hD0.self (sz := s.heap.size)
  generalize hAe : va_A (rp ad E RL) s.heap.size = A at hD ⊢
  have hA : ∀ q : Nat, s.heap.size ≤ q → A q := fun q h => by rw [← hAe]; exact Or.inr h
  have hS : va_S A s.heap s.heap [] := va_S.rf
  have hl := lv_entry ([.ref (ad 0 7), .int nm]) (n := 2) (Nat.le_of_ble_eq_true rfl)
  rw [lg_entry_eq]
  generalize (lg_sl ([.ref (ad 0 7), .int nm]) ++ List.replicate (2 - (lg_sl ([.ref (ad 0 7), .int nm])).length) Slot.unset).toArray = ls at hl ⊢
  have hl : lv_has ls 2 [(0, .ref (ad 0 7)), (1, .int nm)] := hl
  have hP : va_P D xcl (rp ad E RL) s.heap := hP
  obtain ⟨hmB, hDk, hLi, hSh, hCh, hLa, hDIs, hLIs⟩ := id hCI
  obtain ⟨cf_1, pv_1, fc_1, hcs_1, hpv_1, q7_1, q8_1, hfc_1⟩ := id (hCh)
  have c_2 : E 0 7 = .inr (3, [.ref (ad 0 5), .ref (ad 0 8), .int (nI (L.length)), .int cf_1, pv_1]) := q7_1
  have m_3 : (0, 7) ∈ RL := hmB 7 (by omega)
  have c_4 : E 0 8 = .inl (kA 4, 12, .inr (.inr (.inr (.inr fc_1)))) := q8_1
  have m_5 : (0, 8) ∈ RL := hmB 8 (by omega)
  obtain ⟨xfi_1, xpv_1, xfc_1, xGL_1⟩ := id hCX
  rw [c_2] at xfi_1 xpv_1
  rw [c_4] at xfc_1
  have xfi_1 : cf_1 = fi := xfi_1
  have xpv_1 : pv_1 = lyv ad lq := xpv_1
  have xfc_1 : ∀ k, k < L.length → fc_1 k = some (ad (1 + L.getD k 0) 0) := xfc_1
  have xln_1 := GL_len xGL_1
  refine lv_aload_n hx hb xd_Ch_addRoot_0 rfl (lv_at hl 0 rfl) ?_
  refine lv_iload_n hx hb xd_Ch_addRoot_1 rfl (lv_at hl 1 rfl) ?_
  refine lv_iconst (v := 0) hx hb xd_Ch_addRoot_2 (by decide) ?_
  have hFc := px_free hD hS hA
  refine va_calli (va_runV (As := [.int nm, .int 0]) (rest := []) ⟨hx, hb, hml, hown, hT⟩ (xc_Ch_addNameX l D kA s.heap.size ad E RL g ml nd len wn fi lq L nm (by first | assumption | omega) (by first | assumption | omega) (by first | assumption | omega) (by first | assumption | omega) (by first | assumption | omega)) (cwV 2 hT (wT_V k5n_1 k5n_2 k5n_3 k5n_4 k5n_0) rfl rfl rfl (by decide +kernel) ⟨Nat.le_of_ble_eq_true rfl, Nat.le_of_ble_eq_true rfl⟩) (px_preV hK hP hD m_3 c_2 rfl) rfl rfl hl.1 rfl (lv_room (Nat.le_of_ble_eq_true rfl)) xd_Ch_addRoot_3 ⟨(Nat.le_of_ble_eq_true rfl), (Nat.le_of_ble_eq_true rfl)⟩) hS (fun q _ h => hFc q h) hFc (fun r6 u7 t H1 locs ht hvm hp8 hB hz1 hk1 hS => ?_)
  obtain ⟨hP1, hD1⟩ := hB
  rw [ht] at hP1
  have hD1 := hD1.weaken (fun _ _ _ h => hFc _ h)
  generalize H1 = H at hP1 hS ⊢
  have hP := hP1
  have hD := hD1
  obtain ⟨E9, rfl⟩ : ∃ z, z = u7 := ⟨_, rfl⟩
  have hP : va_P D xcl (rp ad E9 RL) H := hP
  have hD : va_D A (rp ad E9 RL) := hD
  obtain ⟨L2, hCI, hCX2, hF9, hres⟩ := hp8
  have hCI : CI kA ad E9 RL ml nd len wn L2.length := hCI
  have hF2 : F78 E E9 := F78_tr F78_rf hF9
  obtain ⟨hmB, hDk, hLi, hSh, hCh, hLa, hDIs, hLIs⟩ := id hCI
  exact W.zret (v := r6) hx hb hr (by rcases hres with h | h <;> rw [h.1] <;> rfl) (fun t ht hW => ⟨⟨r6, E9, rfl, ⟨L2, hCI, hCX2, hF2, hres⟩, by rw [ht]; exact hP, hD⟩, hS.F ht⟩) hS.2.2 xd_Ch_addRoot_6
set_option maxHeartbeats 4000000 in
set_option maxRecDepth 100000 in
theorem xc_Ch_bindProvidersOfX (l : Launch) (D : va_G) (kA : Nat → ClassId) (sz : Nat) (ad : Nat → Nat → Nat) (E : Nat → Nat → va_E) (RL : List (Nat × Nat)) (g : Nat → Nat → Int32) (ml : Nat) (nd : Nat) (len : Nat) (wn : Nat) (fi : Int32) (lq : Nat) (L : List Nat) (sv : Int32) (hCI : CI kA ad E RL ml nd len wn L.length) (hCX : CX ad E nd fi lq L) (hTD : TDs g E nd) (hTL : TLas g ad E nd ml) (hlqm : lq ≤ ml) (hsv : 0 < sv) : Met l xy_Ch_bindProvidersOf (.code xy_Ch_bindProvidersOf xb_Ch_bindProvidersOf 5 none :: wT) { frames := 19, cells := 0, slots := 0, locals := 1194 } (va_Pc [.ref (ad 0 7), .int sv] (xPre D kA sz (rp ad E RL))) (va_Qv (fun (u : Nat → Nat → va_E) => ∃ L2, CI kA ad u RL ml nd len wn L2.length ∧ CX ad u nd fi lq L2 ∧ F78 E u ∧ bSv g nd fi lq sv L = L2) (fun (u : Nat → Nat → va_E) t => va_P D xcl (rp ad u RL) t.heap ∧ va_D (va_A (rp ad E RL) sz) (rp ad u RL)) (va_A (rp ad E RL) sz)) 0 0 (va_A (rp ad E RL) sz) := by
  refine Met.ofW (cc := xb_Ch_bindProvidersOf) (maxL := 5) (ret := none) (by decide) rfl ?_
  intro p e s m args below meth c s₁ B hml hv
  obtain ⟨rfl, hsz, hP, hK, hD0⟩ := hv
  have hx := B.exec
  have hb := B.bytes
  have hr := B.returns
  have hT := x_hT B.pre
  have hown : s.vm.findClass xR_Ch = some m.cls := findClass_of_methodNamed B.named
  have hlocks := B.notSynchronized
  subst hsz
  have hD := hD0.self (sz := s.heap.size)
  generalize hAe : va_A (rp ad E RL) s.heap.size = A at hD ⊢
  have hA : ∀ q : Nat, s.heap.size ≤ q → A q := fun q h => by rw [← hAe]; exact Or.inr h
  have hS : va_S A s.heap s.heap [] := va_S.rf
  have hl := lv_entry ([.ref (ad 0 7), .int sv]) (n := 5) (Nat.le_of_ble_eq_true rfl)
  rw [lg_entry_eq]
  generalize (lg_sl ([.ref (ad 0 7), .int sv]) ++ List.replicate (5 - (lg_sl ([.ref (ad 0 7), .int sv])).length) Slot.unset).toArray = ls at hl ⊢
  have hl : lv_has ls 5 [(0, .ref (ad 0 7)), (1, .int sv)] := hl
  have hP : va_P D xcl (rp ad E RL) s.heap := hP
  obtain ⟨hmB, hDk, hLi, hSh, hCh, hLa, hDIs, hLIs⟩ := id hCI
  obtain ⟨lf_1, q_1⟩ := id (hDk)
  have c_2 : E 0 0 = .inr (0, [.ref (ad 0 1), .ref (ad 0 5), .ref (ad 0 7), .ref (ad 0 9), .int (nI ml), .int lf_1]) := q_1
  have m_3 : (0, 0) ∈ RL := hmB 0 (by omega)
  obtain ⟨tx_4, fb_4, fe_4, hl1_4, hw2_4, q1_4, q2_4, q3_4, q4_4, hws_4⟩ := id (hLi)
  have c_5 : E 0 1 = .inr (1, [.ref (ad 0 2), .ref (ad 0 3), .ref (ad 0 4), .int (nI len), .int (nI wn)]) := q1_4
  have m_6 : (0, 1) ∈ RL := hmB 1 (by omega)
  have c_7 : E 0 2 = .inl (kA 1, 40, .inl tx_4) := q2_4
  have m_8 : (0, 2) ∈ RL := hmB 2 (by omega)
  have c_9 : E 0 3 = .inl (kA 0, 20, .inl fb_4) := q3_4
  have m_10 : (0, 3) ∈ RL := hmB 3 (by omega)
  have c_11 : E 0 4 = .inl (kA 0, 20, .inl fe_4) := q4_4
  have m_12 : (0, 4) ∈ RL := hmB 4 (by omega)
  obtain ⟨fd_13, hnd_13, q5_13, q6_13, hds_13⟩ := id (hSh)
  have c_14 : E 0 5 = .inr (2, [.ref (ad 0 6), .int (nI nd)]) := q5_13
  have m_15 : (0, 5) ∈ RL := hmB 5 (by omega)
  have c_16 : E 0 6 = .inl (kA 4, 12, .inr (.inr (.inr (.inr fd_13)))) := q6_13
  have m_17 : (0, 6) ∈ RL := hmB 6 (by omega)
  obtain ⟨cf_18, pv_18, fc_18, hcs_18, hpv_18, q7_18, q8_18, hfc_18⟩ := id (hCh)
  have c_19 : E 0 7 = .inr (3, [.ref (ad 0 5), .ref (ad 0 8), .int (nI (L.length)), .int cf_18, pv_18]) := q7_18
  have m_20 : (0, 7) ∈ RL := hmB 7 (by omega)
  have c_21 : E 0 8 = .inl (kA 4, 12, .inr (.inr (.inr (.inr fc_18)))) := q8_18
  have m_22 : (0, 8) ∈ RL := hmB 8 (by omega)
  obtain ⟨fl_23, hml_23, q9_23, hla_23⟩ := id (hLa)
  have c_24 : E 0 9 = .inl (kA 5, 5, .inr (.inr (.inr (.inr fl_23)))) := q9_23
  have m_25 : (0, 9) ∈ RL := hmB 9 (by omega)
  obtain ⟨xfi_18, xpv_18, xfc_18, xGL_18⟩ := id hCX
  rw [c_19] at xfi_18 xpv_18
  rw [c_21] at xfc_18
  have xfi_18 : cf_18 = fi := xfi_18
  have xpv_18 : pv_18 = lyv ad lq := xpv_18
  have xfc_18 : ∀ k, k < L.length → fc_18 k = some (ad (1 + L.getD k 0) 0) := xfc_18
  have xln_18 := GL_len xGL_18
  refine lv_iconst (v := 0) hx hb xd_Ch_bindProvidersOf_0 (by decide) ?_
  refine lv_istore_n hx hb xd_Ch_bindProvidersOf_1 rfl hl (Nat.le_of_ble_eq_true rfl) rfl (fun ls hl => ?_)
  have hl : lv_has ls 5 [(2, .int 0), (0, .ref (ad 0 7)), (1, .int sv)] := hl
  refine xlab (σ := Nat × (Nat → Nat → va_E) × List Nat) (ml := 5) 2 (fun (i, E1, L1) => [(2, .int (nI i)), (1, .int sv), (0, .ref (ad 0 7))]) (fun (i, E1, L1) => []) (fun (i, E1, L1) => rp ad E1 RL) (fun (i, E1, L1) => (i ≤ nd) ∧ (bSv g nd fi lq sv L = bD (adG g nd fi lq) (g 4) (okB g fi sv) (nd - i) i L1) ∧ (CI kA ad E1 RL ml nd len wn L1.length) ∧ (CX ad E1 nd fi lq L1) ∧ (F78 E E1)) (fun (i, E1, L1) => nd - i) ?_ (0, E, L) _ _ _ (lv_sub hl [0, 2, 1] rfl) hP hD hS ⟨(show 0 ≤ nd from by first | assumption | omega), (show bSv g nd fi lq sv L = bD (adG g nd fi lq) (g 4) (okB g fi sv) (nd - 0) 0 L from (show bSv g nd fi lq sv L = _ from by unfold bSv; rfl)), (show CI kA ad E RL ml nd len wn L.length from hCI), (show CX ad E nd fi lq L from hCX), (show F78 E E from F78_rf)⟩
  intro n9 ih26 a9 ls H locs hμ hl hP hD hS hI
  subst hμ
  obtain ⟨i, E1, L1⟩ := a9
  obtain ⟨hi, hB, hCI, hCX1, hF1⟩ := hI
  have hi : i ≤ nd := hi
  have hB : bSv g nd fi lq sv L = bD (adG g nd fi lq) (g 4) (okB g fi sv) (nd - i) i L1 := hB
  have hCI : CI kA ad E1 RL ml nd len wn L1.length := hCI
  have hCX1 : CX ad E1 nd fi lq L1 := hCX1
  have hF1 : F78 E E1 := hF1
  have hl : lv_has ls 5 [(2, .int (nI i)), (1, .int sv), (0, .ref (ad 0 7))] := hl
  have hP : va_P D xcl (rp ad E1 RL) H := hP
  have hD : va_D A (rp ad E1 RL) := hD
  obtain ⟨hmB, hDk, hLi, hSh, hCh, hLa, hDIs, hLIs⟩ := id hCI
  obtain ⟨lf_27, q_27⟩ := id (hDk)
  have c_28 : E1 0 0 = .inr (0, [.ref (ad 0 1), .ref (ad 0 5), .ref (ad 0 7), .ref (ad 0 9), .int (nI ml), .int lf_27]) := q_27
  have m_29 : (0, 0) ∈ RL := hmB 0 (by omega)
  obtain ⟨tx_30, fb_30, fe_30, hl1_30, hw2_30, q1_30, q2_30, q3_30, q4_30, hws_30⟩ := id (hLi)
  have c_31 : E1 0 1 = .inr (1, [.ref (ad 0 2), .ref (ad 0 3), .ref (ad 0 4), .int (nI len), .int (nI wn)]) := q1_30
  have m_32 : (0, 1) ∈ RL := hmB 1 (by omega)
  have c_33 : E1 0 2 = .inl (kA 1, 40, .inl tx_30) := q2_30
  have m_34 : (0, 2) ∈ RL := hmB 2 (by omega)
  have c_35 : E1 0 3 = .inl (kA 0, 20, .inl fb_30) := q3_30
  have m_36 : (0, 3) ∈ RL := hmB 3 (by omega)
  have c_37 : E1 0 4 = .inl (kA 0, 20, .inl fe_30) := q4_30
  have m_38 : (0, 4) ∈ RL := hmB 4 (by omega)
  obtain ⟨fd_39, hnd_39, q5_39, q6_39, hds_39⟩ := id (hSh)
  have c_40 : E1 0 5 = .inr (2, [.ref (ad 0 6), .int (nI nd)]) := q5_39
  have m_41 : (0, 5) ∈ RL := hmB 5 (by omega)
  have c_42 : E1 0 6 = .inl (kA 4, 12, .inr (.inr (.inr (.inr fd_39)))) := q6_39
  have m_43 : (0, 6) ∈ RL := hmB 6 (by omega)
  obtain ⟨cf_44, pv_44, fc_44, hcs_44, hpv_44, q7_44, q8_44, hfc_44⟩ := id (hCh)
  have c_45 : E1 0 7 = .inr (3, [.ref (ad 0 5), .ref (ad 0 8), .int (nI (L1.length)), .int cf_44, pv_44]) := q7_44
  have m_46 : (0, 7) ∈ RL := hmB 7 (by omega)
  have c_47 : E1 0 8 = .inl (kA 4, 12, .inr (.inr (.inr (.inr fc_44)))) := q8_44
  have m_48 : (0, 8) ∈ RL := hmB 8 (by omega)
  obtain ⟨fl_49, hml_49, q9_49, hla_49⟩ := id (hLa)
  have c_50 : E1 0 9 = .inl (kA 5, 5, .inr (.inr (.inr (.inr fl_49)))) := q9_49
  have m_51 : (0, 9) ∈ RL := hmB 9 (by omega)
  have hTD1 : TDs g E1 nd := TDs_78 hF1 hTD
  have hTL1 : TLas g ad E1 nd ml := TLas_78 hF1 hTL
  obtain ⟨xfi_44, xpv_44, xfc_44, xGL_44⟩ := id hCX1
  rw [c_45] at xfi_44 xpv_44
  rw [c_47] at xfc_44
  have xfi_44 : cf_44 = fi := xfi_44
  have xpv_44 : pv_44 = lyv ad lq := xpv_44
  have xfc_44 : ∀ k, k < L1.length → fc_44 k = some (ad (1 + L1.getD k 0) 0) := xfc_44
  have xln_44 := GL_len xGL_44
  refine lv_iload_n hx hb xd_Ch_bindProvidersOf_2 rfl (lv_at hl 0 rfl) ?_
  refine lv_aload_n hx hb xd_Ch_bindProvidersOf_3 rfl (lv_at hl 2 rfl) ?_
  refine px_get (D := D) (ci := 3) (v := .ref (ad 0 5)) (C := xR_Ch) (T := xT_Ch) (N := 5) hx hb hT xi_Ch hown hK.1 hP m_46 c_45 rfl 0 (by decide) (hT _ k5n_5) (fun _ h9 => h9) rfl xd_Ch_bindProvidersOf_4 ?_
  refine px_get (D := D) (ci := 2) (v := .int (nI nd)) (C := xR_Sh) (T := xT_Sh) (N := 2) hx hb hT xi_Sh hown hK.1 hP m_41 c_40 rfl 1 (by decide) (hT _ k5n_6) (fun _ h9 => h9) rfl xd_Ch_bindProvidersOf_7 ?_
  refine xn_ge (a := i) (b := nd) (tgt := 83) hx hb xd_Ch_bindProvidersOf_10 (by decide) (by omega) (by omega) (fun hc52 => ?_) (fun hc52 => ?_)
  · exact W.vret hx hb hr (fun t ht hW => ⟨⟨E1, rfl, ⟨L1, hCI, hCX1, hF1, by rw [hB, bD_e (by omega)]⟩, by rw [ht]; exact hP, hD⟩, hS.F ht⟩) hS.2.2 xd_Ch_bindProvidersOf_83
  · refine lv_aload_n hx hb xd_Ch_bindProvidersOf_13 rfl (lv_at hl 2 rfl) ?_
    refine px_get (D := D) (ci := 3) (v := .ref (ad 0 5)) (C := xR_Ch) (T := xT_Ch) (N := 5) hx hb hT xi_Ch hown hK.1 hP m_46 c_45 rfl 0 (by decide) (hT _ k5n_5) (fun _ h9 => h9) rfl xd_Ch_bindProvidersOf_14 ?_
    refine px_get (D := D) (ci := 2) (v := .ref (ad 0 6)) (C := xR_Sh) (T := xT_Sh) (N := 2) hx hb hT xi_Sh hown hK.1 hP m_41 c_40 rfl 0 (by decide) (hT _ k5n_7) (fun _ h9 => h9) rfl xd_Ch_bindProvidersOf_17 ?_
    refine lv_iload_n hx hb xd_Ch_bindProvidersOf_20 rfl (lv_at hl 0 rfl) ?_
    refine px_aald (i := i) (x := (some (ad (1 + i) 0))) hx hb hK.1 hP m_43 c_42 4 rfl (hds_39 i (by omega)) (by omega) (by decide) xd_Ch_bindProvidersOf_21 ?_
    obtain ⟨hm_53, fd_53, nm_53, sd_53, k0_53, k1_53, k2_53, k3_53, f0_53, f1_53, f2_53, f3_53, fe_53, fo_53, tr_53, op_53, hk0_53, hk1_53, hk2_53, hk3_53, q0_53, q1_53, q2_53, q3_53, q4_53, q5_53, q6_53, q7_53, q8_53, q9_53, q10_53, q11_53, q12_53, hg_53⟩ := id (hDIs i (by omega))
    have c_54 : E1 (1 + i) 0 = .inr (7, [.int (nI i), .int fd_53, .int nm_53, .ref (ad (1 + i) 1), .ref (ad (1 + i) 9), .ref (ad (1 + i) 10), .ref (ad (1 + i) 2), .ref (ad (1 + i) 11), .ref (ad (1 + i) 12), .ref (ad (1 + i) 3), .ref (ad (1 + i) 4), .int sd_53]) := q0_53
    have m_55 : (1 + i, 0) ∈ RL := hm_53 0 (by omega)
    have c_56 : E1 (1 + i) 1 = .inr (8, [.ref (ad (1 + i) 5), .int (nI k0_53)]) := q1_53
    have m_57 : (1 + i, 1) ∈ RL := hm_53 1 (by omega)
    have c_58 : E1 (1 + i) 2 = .inr (8, [.ref (ad (1 + i) 6), .int (nI k1_53)]) := q2_53
    have m_59 : (1 + i, 2) ∈ RL := hm_53 2 (by omega)
    have c_60 : E1 (1 + i) 3 = .inr (8, [.ref (ad (1 + i) 7), .int (nI k2_53)]) := q3_53
    have m_61 : (1 + i, 3) ∈ RL := hm_53 3 (by omega)
    have c_62 : E1 (1 + i) 4 = .inr (8, [.ref (ad (1 + i) 8), .int (nI k3_53)]) := q4_53
    have m_63 : (1 + i, 4) ∈ RL := hm_53 4 (by omega)
    have c_64 : E1 (1 + i) 5 = .inl (kA 0, 6, .inl f0_53) := q5_53
    have m_65 : (1 + i, 5) ∈ RL := hm_53 5 (by omega)
    have c_66 : E1 (1 + i) 6 = .inl (kA 0, 5, .inl f1_53) := q6_53
    have m_67 : (1 + i, 6) ∈ RL := hm_53 6 (by omega)
    have c_68 : E1 (1 + i) 7 = .inl (kA 0, 3, .inl f2_53) := q7_53
    have m_69 : (1 + i, 7) ∈ RL := hm_53 7 (by omega)
    have c_70 : E1 (1 + i) 8 = .inl (kA 0, 3, .inl f3_53) := q8_53
    have m_71 : (1 + i, 8) ∈ RL := hm_53 8 (by omega)
    have c_72 : E1 (1 + i) 9 = .inl (kA 8, 6, .inr (.inr (.inr (.inr fe_53)))) := q9_53
    have m_73 : (1 + i, 9) ∈ RL := hm_53 9 (by omega)
    have c_74 : E1 (1 + i) 10 = .inl (kA 8, 6, .inr (.inr (.inr (.inr fo_53)))) := q10_53
    have m_75 : (1 + i, 10) ∈ RL := hm_53 10 (by omega)
    have c_76 : E1 (1 + i) 11 = .inl (kA 2, 5, .inl tr_53) := q11_53
    have m_77 : (1 + i, 11) ∈ RL := hm_53 11 (by omega)
    have c_78 : E1 (1 + i) 12 = .inl (kA 2, 5, .inl op_53) := q12_53
    have m_79 : (1 + i, 12) ∈ RL := hm_53 12 (by omega)
    have hg_53 : ∀ w9, w9 < k0_53 → fe_53 w9 = some (ad (1 + i) (20 + 3 * w9)) ∧ fo_53 w9 = some (ad (1 + i) (38 + 3 * w9)) ∧ GI kA (ad (1 + i)) (E1 (1 + i)) (fun o => (1 + i, o) ∈ RL) (20 + 3 * w9) (21 + 3 * w9) (22 + 3 * w9) ∧ GI kA (ad (1 + i)) (E1 (1 + i)) (fun o => (1 + i, o) ∈ RL) (38 + 3 * w9) (39 + 3 * w9) (40 + 3 * w9) := hg_53
    obtain ⟨hTT_53, tgr_53⟩ := TD_get hk0_53 hk1_53 hk2_53 hk3_53 c_54 c_56 c_58 c_60 c_62 c_64 c_66 c_68 c_70 c_76 c_78 (hTD1 i (by omega))
    obtain ⟨tfd_53, tnm_53, tsd_53, tk0_53, tf0_53, tk1_53, tf1_53, tk2_53, tk3_53⟩ := id hTT_53
    have ik0_53 : iN (g 5 i) = k0_53 := by rw [← tk0_53, iN_nI (by omega)]
    have ik1_53 : iN (g 12 i) = k1_53 := by rw [← tk1_53, iN_nI (by omega)]
    refine lv_astore_n hx hb xd_Ch_bindProvidersOf_22 rfl hl (Nat.le_of_ble_eq_true rfl) rfl (fun ls hl => ?_)
    have hl : lv_has ls 5 [(3, .ref (ad (1 + i) 0)), (2, .int (nI i)), (1, .int sv), (0, .ref (ad 0 7))] := hl
    refine lv_aload_n hx hb xd_Ch_bindProvidersOf_23 rfl (lv_at hl 3 rfl) ?_
    refine px_get (D := D) (ci := 3) (v := .int (nI (L1.length))) (C := xR_Ch) (T := xT_Ch) (N := 5) hx hb hT xi_Ch hown hK.1 hP m_46 c_45 rfl 2 (by decide) (hT _ k5n_8) (fun _ h9 => h9) rfl xd_Ch_bindProvidersOf_24 ?_
    refine lv_istore hx hb xd_Ch_bindProvidersOf_27 hl (Nat.le_of_ble_eq_true rfl) rfl (fun ls hl => ?_)
    have hl : lv_has ls 5 [(4, .int (nI (L1.length))), (3, .ref (ad (1 + i) 0)), (2, .int (nI i)), (1, .int sv), (0, .ref (ad 0 7))] := hl
    refine lv_aload_n hx hb xd_Ch_bindProvidersOf_29 rfl (lv_at hl 1 rfl) ?_
    refine px_get (D := D) (ci := 7) (v := .int fd_53) (C := xR_Ds) (T := xT_Ds) (N := 12) hx hb hT xi_Ds hown hK.1 hP m_55 c_54 rfl 1 (by decide) (hT _ k5n_9) (fun _ h9 => h9) rfl xd_Ch_bindProvidersOf_30 ?_
    refine lv_aload_n hx hb xd_Ch_bindProvidersOf_33 rfl (lv_at hl 4 rfl) ?_
    refine px_get (D := D) (ci := 3) (v := .int cf_44) (C := xR_Ch) (T := xT_Ch) (N := 5) hx hb hT xi_Ch hown hK.1 hP m_46 c_45 rfl 3 (by decide) (hT _ k5n_10) (fun _ h9 => h9) rfl xd_Ch_bindProvidersOf_34 ?_
    refine lv_icmp_ne (tgt := 77) hx hb xd_Ch_bindProvidersOf_37 (by decide) (fun hc80 => ?_) (fun hc80 => ?_)
    · refine lv_iinc (k := 2) (x := (nI i)) (v := (nI (i + 1))) hx hb xd_Ch_bindProvidersOf_77 hl rfl (xb_inc i 1) (Nat.le_of_ble_eq_true rfl) rfl (fun ls hl => ?_)
      have hl : lv_has ls 5 [(2, .int (nI (i + 1))), (4, .int (nI (L1.length))), (3, .ref (ad (1 + i) 0)), (1, .int sv), (0, .ref (ad 0 7))] := hl
      refine lv_goto (tgt := 2) hx hb xd_Ch_bindProvidersOf_80 (by decide) ?_
      exact ih26 (i + 1, E1, L1) _ _ _ (show nd - (i + 1) < nd - i by omega) (lv_sub hl [0, 3, 4] rfl) hP hD hS ⟨(show (i + 1) ≤ nd from by first | assumption | omega), (show bSv g nd fi lq sv L = bD (adG g nd fi lq) (g 4) (okB g fi sv) (nd - (i + 1)) (i + 1) L1 from by rw [hB, bD_s (by omega), bE_no (fun q => hc80 (tfd_53.trans (q.1.1.trans xfi_44.symm)))]), (show CI kA ad E1 RL ml nd len wn L1.length from hCI), (show CX ad E1 nd fi lq L1 from hCX1), (show F78 E E1 from hF1)⟩
    · refine lv_aload_n hx hb xd_Ch_bindProvidersOf_40 rfl (lv_at hl 1 rfl) ?_
      refine px_get (D := D) (ci := 7) (v := .ref (ad (1 + i) 4)) (C := xR_Ds) (T := xT_Ds) (N := 12) hx hb hT xi_Ds hown hK.1 hP m_55 c_54 rfl 10 (by decide) (hT _ k5n_11) (fun _ h9 => h9) rfl xd_Ch_bindProvidersOf_41 ?_
      refine lv_iload_n hx hb xd_Ch_bindProvidersOf_44 rfl (lv_at hl 3 rfl) ?_
      have hFc := px_free hD hS hA
      refine va_calli (va_runV (As := [.int sv]) (rest := []) ⟨hx, hb, hml, hown, hT⟩ (xc_Na_holds l D kA H.size ad E1 RL (1 + i) 4 8 3 k3_53 f3_53 sv m_63 c_62 m_71 c_70 (by first | assumption | omega) (by first | assumption | omega)) (cwV 1 hT (wT_V k5n_13 k5n_14 k5n_15 k5n_16 k5n_12) rfl rfl rfl (by decide +kernel) ⟨Nat.le_of_ble_eq_true rfl, Nat.le_of_ble_eq_true rfl⟩) (px_preV hK hP hD m_63 c_62 rfl) rfl rfl hl.1 rfl (lv_room (Nat.le_of_ble_eq_true rfl)) xd_Ch_bindProvidersOf_45 ⟨(Nat.le_of_ble_eq_true rfl), (Nat.le_of_ble_eq_true rfl)⟩) hS (fun q _ h => hFc q h) hFc (fun r81 u82 t H1 locs ht hvm hp83 hB hz1 hk1 hS => ?_)
      obtain ⟨hP1, hD1⟩ := hB
      rw [ht] at hP1
      have hD1 := hD1.weaken (fun _ _ _ h => hFc _ h)
      generalize H1 = H at hP1 hS ⊢
      have hP := hP1
      have hD := hD1
      have hP : va_P D xcl (rp ad E1 RL) H := hP
      have hD : va_D A (rp ad E1 RL) := hD
      rcases hp83 with ⟨rfl, z84, z85, z86⟩ | ⟨rfl, z87⟩
      · refine W.eq (g2 := F0 m 48 ls [.int 1]) rfl ?_
        refine lv_if_eq (tgt := 77) hx hb xd_Ch_bindProvidersOf_48 (by decide) (fun hc88 => absurd hc88 (by decide)) (fun _ => ?_)
        refine lv_aload_n hx hb xd_Ch_bindProvidersOf_51 rfl (lv_at hl 4 rfl) ?_
        refine lv_aload_n hx hb xd_Ch_bindProvidersOf_52 rfl (lv_at hl 1 rfl) ?_
        have hFc := px_free hD hS hA
        refine va_calli (va_runV (As := [.ref (ad (1 + i) 0)]) (rest := []) ⟨hx, hb, hml, hown, hT⟩ (xc_Ch_isChosenX l D kA H.size ad E1 RL g ml nd len wn fi lq L1 i (by first | assumption | omega) (by first | assumption | omega) (by first | assumption | omega)) (cwV 1 hT (wT_V k5n_18 k5n_19 k5n_20 k5n_4 k5n_17) rfl rfl rfl (by decide +kernel) ⟨Nat.le_of_ble_eq_true rfl, Nat.le_of_ble_eq_true rfl⟩) (px_preV hK hP hD m_46 c_45 rfl) rfl rfl hl.1 rfl (lv_room (Nat.le_of_ble_eq_true rfl)) xd_Ch_bindProvidersOf_53 ⟨(Nat.le_of_ble_eq_true rfl), (Nat.le_of_ble_eq_true rfl)⟩) hS (fun q _ h => hFc q h) hFc (fun r89 u90 t H1 locs ht hvm hp91 hB hz1 hk1 hS => ?_)
        obtain ⟨hP1, hD1⟩ := hB
        rw [ht] at hP1
        have hD1 := hD1.weaken (fun _ _ _ h => hFc _ h)
        generalize H1 = H at hP1 hS ⊢
        have hP := hP1
        have hD := hD1
        have hP : va_P D xcl (rp ad E1 RL) H := hP
        have hD : va_D A (rp ad E1 RL) := hD
        rcases hp91 with ⟨rfl, z92⟩ | ⟨rfl, z93⟩
        · refine W.eq (g2 := F0 m 56 ls [.int 1]) rfl ?_
          refine lv_if_ne (tgt := 77) hx hb xd_Ch_bindProvidersOf_56 (by decide) (fun _ => ?_) (fun hc94 => absurd hc94 (by decide))
          refine lv_iinc (k := 2) (x := (nI i)) (v := (nI (i + 1))) hx hb xd_Ch_bindProvidersOf_77 hl rfl (xb_inc i 1) (Nat.le_of_ble_eq_true rfl) rfl (fun ls hl => ?_)
          have hl : lv_has ls 5 [(2, .int (nI (i + 1))), (4, .int (nI (L1.length))), (3, .ref (ad (1 + i) 0)), (1, .int sv), (0, .ref (ad 0 7))] := hl
          refine lv_goto (tgt := 2) hx hb xd_Ch_bindProvidersOf_80 (by decide) ?_
          exact ih26 (i + 1, E1, L1) _ _ _ (show nd - (i + 1) < nd - i by omega) (lv_sub hl [0, 3, 4] rfl) hP hD hS ⟨(show (i + 1) ≤ nd from by first | assumption | omega), (show bSv g nd fi lq sv L = bD (adG g nd fi lq) (g 4) (okB g fi sv) (nd - (i + 1)) (i + 1) L1 from by rw [hB, bD_s (by omega), bE_no (fun q => q.2 z92)]), (show CI kA ad E1 RL ml nd len wn L1.length from hCI), (show CX ad E1 nd fi lq L1 from hCX1), (show F78 E E1 from hF1)⟩
        · refine W.eq (g2 := F0 m 56 ls [.int 0]) rfl ?_
          refine lv_if_ne (tgt := 77) hx hb xd_Ch_bindProvidersOf_56 (by decide) (fun hc95 => absurd (by decide) hc95) (fun _ => ?_)
          refine lv_aload_n hx hb xd_Ch_bindProvidersOf_59 rfl (lv_at hl 4 rfl) ?_
          refine lv_aload_n hx hb xd_Ch_bindProvidersOf_60 rfl (lv_at hl 1 rfl) ?_
          refine px_get (D := D) (ci := 7) (v := .int nm_53) (C := xR_Ds) (T := xT_Ds) (N := 12) hx hb hT xi_Ds hown hK.1 hP m_55 c_54 rfl 2 (by decide) (hT _ k5n_21) (fun _ h9 => h9) rfl xd_Ch_bindProvidersOf_61 ?_
          refine lv_iconst (v := 0) hx hb xd_Ch_bindProvidersOf_64 (by decide) ?_
          have hFc := px_free hD hS hA
          refine va_calli (va_runV (As := [.int nm_53, .int 0]) (rest := []) ⟨hx, hb, hml, hown, hT⟩ (xc_Ch_addNameX l D kA H.size ad E1 RL g ml nd len wn fi lq L1 nm_53 (by first | assumption | omega) hCX1 hTD1 hTL1 (by first | assumption | omega)) (cwV 2 hT (wT_V k5n_1 k5n_2 k5n_3 k5n_4 k5n_0) rfl rfl rfl (by decide +kernel) ⟨Nat.le_of_ble_eq_true rfl, Nat.le_of_ble_eq_true rfl⟩) (px_preV hK hP hD m_46 c_45 rfl) rfl rfl hl.1 rfl (lv_room (Nat.le_of_ble_eq_true rfl)) xd_Ch_bindProvidersOf_65 ⟨(Nat.le_of_ble_eq_true rfl), (Nat.le_of_ble_eq_true rfl)⟩) hS (fun q _ h => hFc q h) hFc (fun r96 u97 t H1 locs ht hvm hp98 hB hz1 hk1 hS => ?_)
          obtain ⟨hP1, hD1⟩ := hB
          rw [ht] at hP1
          have hD1 := hD1.weaken (fun _ _ _ h => hFc _ h)
          generalize H1 = H at hP1 hS ⊢
          have hP := hP1
          have hD := hD1
          obtain ⟨E99, rfl⟩ : ∃ z, z = u97 := ⟨_, rfl⟩
          have hP : va_P D xcl (rp ad E99 RL) H := hP
          have hD : va_D A (rp ad E99 RL) := hD
          obtain ⟨L2, hCI, hCX2, hF9, hres⟩ := hp98
          have hCI : CI kA ad E99 RL ml nd len wn L2.length := hCI
          have hF2 : F78 E E99 := F78_tr hF1 hF9
          obtain ⟨hmB, hDk, hLi, hSh, hCh, hLa, hDIs, hLIs⟩ := id hCI
          rw [tnm_53] at hres
          rcases hres with ⟨rfl, hok9⟩ | ⟨rfl, hok9⟩
          · have hok8 := hok9
            refine lv_if_ne (tgt := 77) hx hb xd_Ch_bindProvidersOf_68 (by decide) (fun _ => ?_) (fun hc100 => absurd hc100 (by decide))
            refine lv_iinc (k := 2) (x := (nI i)) (v := (nI (i + 1))) hx hb xd_Ch_bindProvidersOf_77 hl rfl (xb_inc i 1) (Nat.le_of_ble_eq_true rfl) rfl (fun ls hl => ?_)
            have hl : lv_has ls 5 [(2, .int (nI (i + 1))), (4, .int (nI (L1.length))), (3, .ref (ad (1 + i) 0)), (1, .int sv), (0, .ref (ad 0 7))] := hl
            refine lv_goto (tgt := 2) hx hb xd_Ch_bindProvidersOf_80 (by decide) ?_
            exact ih26 (i + 1, E99, L2) _ _ _ (show nd - (i + 1) < nd - i by omega) (lv_sub hl [0, 3, 4] rfl) hP hD hS ⟨(show (i + 1) ≤ nd from by first | assumption | omega), (show bSv g nd fi lq sv L = bD (adG g nd fi lq) (g 4) (okB g fi sv) (nd - (i + 1)) (i + 1) L2 from by rw [hB, bD_s (by omega), bE_t ⟨tfd_53.symm.trans (hc80.trans xfi_44), (gv_iff hk3_53 hsv tk3_53).mp ⟨z84, z85, z86⟩⟩ z93 hok9]), (show CI kA ad E99 RL ml nd len wn L2.length from hCI), (show CX ad E99 nd fi lq L2 from hCX2), (show F78 E E99 from hF2)⟩
          · have hok8 := hok9
            refine lv_if_ne (tgt := 77) hx hb xd_Ch_bindProvidersOf_68 (by decide) (fun hc101 => absurd (by decide) hc101) (fun _ => ?_)
            obtain ⟨hmB, hDk, hLi, hSh, hCh, hLa, hDIs, hLIs⟩ := id hCI
            obtain ⟨lf_102, q_102⟩ := id (hDk)
            have c_103 : E99 0 0 = .inr (0, [.ref (ad 0 1), .ref (ad 0 5), .ref (ad 0 7), .ref (ad 0 9), .int (nI ml), .int lf_102]) := q_102
            have m_104 : (0, 0) ∈ RL := hmB 0 (by omega)
            obtain ⟨tx_105, fb_105, fe_105, hl1_105, hw2_105, q1_105, q2_105, q3_105, q4_105, hws_105⟩ := id (hLi)
            have c_106 : E99 0 1 = .inr (1, [.ref (ad 0 2), .ref (ad 0 3), .ref (ad 0 4), .int (nI len), .int (nI wn)]) := q1_105
            have m_107 : (0, 1) ∈ RL := hmB 1 (by omega)
            have c_108 : E99 0 2 = .inl (kA 1, 40, .inl tx_105) := q2_105
            have m_109 : (0, 2) ∈ RL := hmB 2 (by omega)
            have c_110 : E99 0 3 = .inl (kA 0, 20, .inl fb_105) := q3_105
            have m_111 : (0, 3) ∈ RL := hmB 3 (by omega)
            have c_112 : E99 0 4 = .inl (kA 0, 20, .inl fe_105) := q4_105
            have m_113 : (0, 4) ∈ RL := hmB 4 (by omega)
            obtain ⟨fd_114, hnd_114, q5_114, q6_114, hds_114⟩ := id (hSh)
            have c_115 : E99 0 5 = .inr (2, [.ref (ad 0 6), .int (nI nd)]) := q5_114
            have m_116 : (0, 5) ∈ RL := hmB 5 (by omega)
            have c_117 : E99 0 6 = .inl (kA 4, 12, .inr (.inr (.inr (.inr fd_114)))) := q6_114
            have m_118 : (0, 6) ∈ RL := hmB 6 (by omega)
            obtain ⟨cf_119, pv_119, fc_119, hcs_119, hpv_119, q7_119, q8_119, hfc_119⟩ := id (hCh)
            have c_120 : E99 0 7 = .inr (3, [.ref (ad 0 5), .ref (ad 0 8), .int (nI (L2.length)), .int cf_119, pv_119]) := q7_119
            have m_121 : (0, 7) ∈ RL := hmB 7 (by omega)
            have c_122 : E99 0 8 = .inl (kA 4, 12, .inr (.inr (.inr (.inr fc_119)))) := q8_119
            have m_123 : (0, 8) ∈ RL := hmB 8 (by omega)
            obtain ⟨fl_124, hml_124, q9_124, hla_124⟩ := id (hLa)
            have c_125 : E99 0 9 = .inl (kA 5, 5, .inr (.inr (.inr (.inr fl_124)))) := q9_124
            have m_126 : (0, 9) ∈ RL := hmB 9 (by omega)
            obtain ⟨xfi_119, xpv_119, xfc_119, xGL_119⟩ := id hCX2
            rw [c_120] at xfi_119 xpv_119
            rw [c_122] at xfc_119
            have xfi_119 : cf_119 = fi := xfi_119
            have xpv_119 : pv_119 = lyv ad lq := xpv_119
            have xfc_119 : ∀ k, k < L2.length → fc_119 k = some (ad (1 + L2.getD k 0) 0) := xfc_119
            have xln_119 := GL_len xGL_119
            refine lv_aload_n hx hb xd_Ch_bindProvidersOf_71 rfl (lv_at hl 4 rfl) ?_
            refine lv_iload hx hb xd_Ch_bindProvidersOf_72 (lv_at hl 0 rfl) ?_
            refine px_put (D := D) (ci := 3) (v := .int (nI (L1.length))) (ty := .int) (C := xR_Ch) (T := xT_Ch) (N := 5) hx hb hT xi_Ch xt_Ch xt_Ch_ok xn_Ch hown hK.1 hP hD hS m_121 c_120 rfl 2 (by decide) (hT _ k5n_8) (fun _ h9 => h9) rfl (by decide +kernel) rfl rfl (Nat.le_of_ble_eq_true rfl) xd_Ch_bindProvidersOf_74 (fun H locs hP hD hS => ?_)
            have hP : va_P D xcl (rp ad (up2 E99 0 7 (.inr (3, [.ref (ad 0 5), .ref (ad 0 8), .int (nI (L1.length)), .int cf_119, pv_119]))) RL) H := hP
            have hD : va_D A (rp ad (up2 E99 0 7 (.inr (3, [.ref (ad 0 5), .ref (ad 0 8), .int (nI (L1.length)), .int cf_119, pv_119]))) RL) := hD
            generalize hE128 : up2 E99 0 7 (.inr (3, [.ref (ad 0 5), .ref (ad 0 8), .int (nI (L1.length)), .int cf_119, pv_119])) = E127 at hP hD
            have fE129 : ∀ b2 o2, ¬ (b2 = 0 ∧ o2 = 7) → E127 b2 o2 = E99 b2 o2 := fun b2 o2 h9 => by rw [← hE128]; exact up2_ne (by omega)
            have c_130 : E127 0 7 = .inr (3, [.ref (ad 0 5), .ref (ad 0 8), .int (nI (L1.length)), .int cf_119, pv_119]) := by rw [← hE128]; exact up2_eq
            have c_131 : E127 0 0 = .inr (0, [.ref (ad 0 1), .ref (ad 0 5), .ref (ad 0 7), .ref (ad 0 9), .int (nI ml), .int lf_102]) := (fE129 0 0 (by omega)).trans c_103
            have c_132 : E127 0 1 = .inr (1, [.ref (ad 0 2), .ref (ad 0 3), .ref (ad 0 4), .int (nI len), .int (nI wn)]) := (fE129 0 1 (by omega)).trans c_106
            have c_133 : E127 0 2 = .inl (kA 1, 40, .inl tx_105) := (fE129 0 2 (by omega)).trans c_108
            have c_134 : E127 0 3 = .inl (kA 0, 20, .inl fb_105) := (fE129 0 3 (by omega)).trans c_110
            have c_135 : E127 0 4 = .inl (kA 0, 20, .inl fe_105) := (fE129 0 4 (by omega)).trans c_112
            have c_136 : E127 0 5 = .inr (2, [.ref (ad 0 6), .int (nI nd)]) := (fE129 0 5 (by omega)).trans c_115
            have c_137 : E127 0 6 = .inl (kA 4, 12, .inr (.inr (.inr (.inr fd_114)))) := (fE129 0 6 (by omega)).trans c_117
            have c_138 : E127 0 8 = .inl (kA 4, 12, .inr (.inr (.inr (.inr fc_119)))) := (fE129 0 8 (by omega)).trans c_122
            have c_139 : E127 0 9 = .inl (kA 5, 5, .inr (.inr (.inr (.inr fl_124)))) := (fE129 0 9 (by omega)).trans c_125
            have hxp : ∃ T9, L2 = L1 ++ T9 := by
              obtain ⟨T9, hT9⟩ := aN_pre (ds := dsG g nd fi) (up := upG g lq) (rq := rqG g) (f := 12) (L := L1) (n := g 4 i)
              exact ⟨T9, (show L2 = _ from (congrArg Prod.snd hok9).symm.trans hT9)⟩
            obtain ⟨T9, hxT⟩ := hxp
            have hxle : L1.length ≤ L2.length := by rw [hxT, List.length_append]; omega
            have hCX2 : CX ad E127 nd fi lq L1 := ⟨by rw [c_130]; exact xfi_119, by rw [c_130]; exact xpv_119, by rw [c_138]; exact CX_cut hxT xfc_119, hCX1.2.2.2⟩
            have hF2 : F78 E E127 := F78_tr hF2 (fun b2 o2 h79 h89 => by show E127 b2 o2 = _; rw [fE129 b2 o2 (by omega)])
            have hCI : CI kA ad E127 RL ml nd len wn L1.length := ⟨hmB, ⟨lf_102, c_131⟩, ⟨tx_105, fb_105, fe_105, (by omega), (by omega), c_132, c_133, c_134, c_135, hws_105⟩, ⟨fd_114, (by omega), c_136, c_137, hds_114⟩, ⟨cf_119, pv_119, fc_119, (by omega), hpv_119, c_130, c_138, (FC_le hfc_119 (by omega))⟩, ⟨fl_124, (by omega), c_139, hla_124⟩, (DIs_same (fun d9 hd9 => fun2 fun o9 => by show E127 (1 + d9) o9 = _; rw [fE129 (1 + d9) o9 (by omega)]) (fun _ _ => rfl) (fun _ h9 => h9) hDIs), (LIs_same (Nat.le_refl _) (fun n9 hn9 => fun2 fun o9 => by show E127 (20 + n9) o9 = _; rw [fE129 (20 + n9) o9 (by omega)]) (fun _ _ => rfl) (fun _ _ => rfl) (fun _ h9 => h9) hLIs)⟩
            obtain ⟨hmB, hDk, hLi, hSh, hCh, hLa, hDIs, hLIs⟩ := id hCI
            refine lv_iinc (k := 2) (x := (nI i)) (v := (nI (i + 1))) hx hb xd_Ch_bindProvidersOf_77 hl rfl (xb_inc i 1) (Nat.le_of_ble_eq_true rfl) rfl (fun ls hl => ?_)
            have hl : lv_has ls 5 [(2, .int (nI (i + 1))), (4, .int (nI (L1.length))), (3, .ref (ad (1 + i) 0)), (1, .int sv), (0, .ref (ad 0 7))] := hl
            refine lv_goto (tgt := 2) hx hb xd_Ch_bindProvidersOf_80 (by decide) ?_
            exact ih26 (i + 1, E127, L1) _ _ _ (show nd - (i + 1) < nd - i by omega) (lv_sub hl [0, 3, 4] rfl) hP hD hS ⟨(show (i + 1) ≤ nd from by first | assumption | omega), (show bSv g nd fi lq sv L = bD (adG g nd fi lq) (g 4) (okB g fi sv) (nd - (i + 1)) (i + 1) L1 from by rw [hB, bD_s (by omega), bE_f hok9]), (show CI kA ad E127 RL ml nd len wn L1.length from hCI), (show CX ad E127 nd fi lq L1 from hCX2), (show F78 E E127 from hF2)⟩
      · refine W.eq (g2 := F0 m 48 ls [.int 0]) rfl ?_
        refine lv_if_eq (tgt := 77) hx hb xd_Ch_bindProvidersOf_48 (by decide) (fun _ => ?_) (fun hc140 => absurd (by decide) hc140)
        refine lv_iinc (k := 2) (x := (nI i)) (v := (nI (i + 1))) hx hb xd_Ch_bindProvidersOf_77 hl rfl (xb_inc i 1) (Nat.le_of_ble_eq_true rfl) rfl (fun ls hl => ?_)
        have hl : lv_has ls 5 [(2, .int (nI (i + 1))), (4, .int (nI (L1.length))), (3, .ref (ad (1 + i) 0)), (1, .int sv), (0, .ref (ad 0 7))] := hl
        refine lv_goto (tgt := 2) hx hb xd_Ch_bindProvidersOf_80 (by decide) ?_
        exact ih26 (i + 1, E1, L1) _ _ _ (show nd - (i + 1) < nd - i by omega) (lv_sub hl [0, 3, 4] rfl) hP hD hS ⟨(show (i + 1) ≤ nd from by first | assumption | omega), (show bSv g nd fi lq sv L = bD (adG g nd fi lq) (g 4) (okB g fi sv) (nd - (i + 1)) (i + 1) L1 from by rw [hB, bD_s (by omega), bE_no (fun q => by obtain ⟨k9, q1, q2⟩ := (gv_iff hk3_53 hsv tk3_53).mpr q.1.2; exact z87 k9 q1 q2)]), (show CI kA ad E1 RL ml nd len wn L1.length from hCI), (show CX ad E1 nd fi lq L1 from hCX1), (show F78 E E1 from hF1)⟩
