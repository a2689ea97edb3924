theorem k5n_0 : (Cond.code xy_Ch_addName xb_Ch_addName 5 (some .boolean)) ∈ wT := wT_t (List.mem_append_right _ (List.mem_append_right _ (List.mem_append_left _ (List.mem_of_getElem? (i := 80) rfl)))) rfl
theorem k5n_1 : (Cond.methodLink "LayerDesk$Chooser" 32 xy_Ch_addName) ∈ wT := wT_t (List.mem_append_right _ (List.mem_append_right _ (List.mem_append_left _ (List.mem_of_getElem? (i := 77) rfl)))) rfl
theorem k5n_2 : (Cond.instanceMethod xy_Ch_addName) ∈ wT := wT_t (List.mem_append_right _ (List.mem_append_right _ (List.mem_append_left _ (List.mem_of_getElem? (i := 79) rfl)))) rfl
theorem k5n_3 : (Cond.selects "LayerDesk$Chooser" xy_Ch_addName xy_Ch_addName) ∈ wT := wT_s (q := (xy_Ch_addName, 5)) (by decide +kernel) rfl
theorem k5n_4 : (Cond.initialized "LayerDesk$Chooser") ∈ wT := wT_t (List.mem_append_left _ (List.mem_of_getElem? (i := 4) rfl)) rfl
theorem k5n_5 : (Cond.fieldLink "LayerDesk$Chooser" 28 "LayerDesk$Chooser" "shelf" "LLayerDesk$Shelf;") ∈ wT := wT_t (List.mem_append_left _ (List.mem_of_getElem? (i := 81) rfl)) rfl
theorem k5n_6 : (Cond.fieldLink "LayerDesk$Chooser" 101 "LayerDesk$Shelf" "size" "I") ∈ wT := wT_t (List.mem_append_left _ (List.mem_of_getElem? (i := 68) rfl)) rfl
theorem k5n_7 : (Cond.fieldLink "LayerDesk$Chooser" 102 "LayerDesk$Shelf" "descriptors" "[LLayerDesk$Descriptor;") ∈ wT := wT_t (List.mem_append_left _ (List.mem_of_getElem? (i := 65) rfl)) rfl
theorem k5n_8 : (Cond.fieldLink "LayerDesk$Chooser" 17 "LayerDesk$Chooser" "size" "I") ∈ wT := wT_t (List.mem_append_left _ (List.mem_of_getElem? (i := 83) rfl)) rfl
theorem k5n_9 : (Cond.fieldLink "LayerDesk$Chooser" 105 "LayerDesk$Descriptor" "finder" "I") ∈ wT := wT_t (List.mem_append_right _ (List.mem_append_left _ (List.mem_of_getElem? (i := 53) rfl))) rfl
theorem k5n_10 : (Cond.fieldLink "LayerDesk$Chooser" 21 "LayerDesk$Chooser" "finder" "I") ∈ wT := wT_t (List.mem_append_left _ (List.mem_of_getElem? (i := 84) rfl)) rfl
theorem k5n_11 : (Cond.fieldLink "LayerDesk$Chooser" 106 "LayerDesk$Descriptor" "provided" "LLayerDesk$Names;") ∈ wT := wT_t (List.mem_append_right _ (List.mem_append_left _ (List.mem_of_getElem? (i := 80) rfl))) rfl
theorem k5n_12 : (Cond.code xy_Na_holds xb_Na_holds 2 (some .boolean)) ∈ wT := wT_t (List.mem_append_right _ (List.mem_append_left _ (List.mem_of_getElem? (i := 123) rfl))) rfl
theorem k5n_13 : (Cond.methodLink "LayerDesk$Chooser" 109 xy_Na_holds) ∈ wT := wT_t (List.mem_append_right _ (List.mem_append_right _ (List.mem_append_left _ (List.mem_of_getElem? (i := 126) rfl)))) rfl
theorem k5n_14 : (Cond.instanceMethod xy_Na_holds) ∈ wT := wT_t (List.mem_append_right _ (List.mem_append_left _ (List.mem_of_getElem? (i := 121) rfl))) rfl
theorem k5n_15 : (Cond.selects "LayerDesk$Names" xy_Na_holds xy_Na_holds) ∈ wT := wT_t (List.mem_append_right _ (List.mem_append_left _ (List.mem_of_getElem? (i := 122) rfl))) rfl
theorem k5n_16 : (Cond.initialized "LayerDesk$Names") ∈ wT := wT_t (List.mem_append_left _ (List.mem_of_getElem? (i := 11) rfl)) rfl
theorem k5n_17 : (Cond.code xy_Ch_isChosen xb_Ch_isChosen 3 (some .boolean)) ∈ wT := wT_t (List.mem_append_right _ (List.mem_append_right _ (List.mem_append_left _ (List.mem_of_getElem? (i := 89) rfl)))) rfl
theorem k5n_18 : (Cond.methodLink "LayerDesk$Chooser" 66 xy_Ch_isChosen) ∈ wT := wT_t (List.mem_append_right _ (List.mem_append_right _ (List.mem_append_left _ (List.mem_of_getElem? (i := 86) rfl)))) rfl
theorem k5n_19 : (Cond.instanceMethod xy_Ch_isChosen) ∈ wT := wT_t (List.mem_append_right _ (List.mem_append_right _ (List.mem_append_left _ (List.mem_of_getElem? (i := 88) rfl)))) rfl
theorem k5n_20 : (Cond.selects "LayerDesk$Chooser" xy_Ch_isChosen xy_Ch_isChosen) ∈ wT := wT_s (q := (xy_Ch_isChosen, 5)) (by decide +kernel) rfl
theorem k5n_21 : (Cond.fieldLink "LayerDesk$Chooser" 113 "LayerDesk$Descriptor" "name" "I") ∈ wT := wT_t (List.mem_append_right _ (List.mem_append_left _ (List.mem_of_getElem? (i := 58) rfl))) rfl
set_option maxHeartbeats 4000000 in
set_option maxRecDepth 100000 in
theorem xc_Ch_addRootX (l : Launch) (D : va_G) (kA : Nat → ClassId) (sz : Nat) (ad : Nat → Nat → Nat) (E : Nat → Nat → va_E) (RL : List (Nat × Nat)) (g : Nat → Nat → Int32) (ml : Nat) (nd : Nat) (len : Nat) (wn : Nat) (fi : Int32) (lq : Nat) (L : List Nat) (nm : Int32) (hCI : CI kA ad E RL ml nd len wn L.length) (hCX : CX ad E nd fi lq L) (hTD : TDs g E nd) (hTL : TLas g ad E nd ml) (hlqm : lq ≤ ml) : Met l xy_Ch_addRoot (.code xy_Ch_addRoot xb_Ch_addRoot 2 (some .boolean) :: wT) { frames := 19, cells := 0, slots := 0, locals := 1194 } (va_Pc [.ref (ad 0 7), .int nm] (xPre D kA sz (rp ad E RL))) (va_Qi (fun (r : Int32) (u : Nat → Nat → va_E) => ∃ L2, CI kA ad u RL ml nd len wn L2.length ∧ CX ad u nd fi lq L2 ∧ F78 E u ∧ ((r = 1 ∧ adG g nd fi lq L nm = (true, L2)) ∨ (r = 0 ∧ adG g nd fi lq L nm = (false, L2)))) (fun (u : Nat → Nat → va_E) t => va_P D xcl (rp ad u RL) t.heap ∧ va_D (va_A (rp ad E RL) sz) (rp ad u RL)) (va_A (rp ad E RL) sz)) 0 0 (va_A (rp ad E RL) sz) := by
  refine Met.ofW (cc := xb_Ch_addRoot) (maxL := 2) (ret := (some .boolean)) (by decide) rfl ?_
  intro p e s m args below meth c s₁ B hml hv
  obtain ⟨rfl, hsz, hP, hK, hD0⟩ := hv
  have hx := B.exec
  have hb := B.bytes
  have hr := B.returns
  have hT := x_hT B.pre
  have hown : s.vm.findClass xR_Ch = some m.cls := findClass_of_methodNamed B.named
  have hlocks := B.notSynchronized
  subst hsz
  have hD := hD0.self (sz := s.heap.size)
  generalize hAe : va_A (rp ad E RL) s.heap.size = A at hD ⊢
  have hA : ∀ q : Nat, s.heap.size ≤ q → A q := fun q h => by rw [← hAe]; exact Or.inr h
  have hS : va_S A s.heap s.heap [] := va_S.rf
  have hl := lv_entry ([.ref (ad 0 7), .int nm]) (n := 2) (Nat.le_of_ble_eq_true rfl)
  rw [lg_entry_eq]
  generalize (lg_sl ([.ref (ad 0 7), .int nm]) ++ List.replicate (2 - (lg_sl ([.ref (ad 0 7), .int nm])).length) Slot.unset).toArray = ls at hl ⊢
  have hl : lv_has ls 2 [(0, .ref (ad 0 7)), (1, .int nm)] := hl
  have hP : va_P D xcl (rp ad E RL) s.heap := hP
  obtain ⟨hmB, hDk, hLi, hSh, hCh, hLa, hDIs, hLIs⟩ := id hCI
  obtain ⟨cf_1, pv_1, fc_1, hcs_1, hpv_1, q7_1, q8_1, hfc_1⟩ := id (hCh)
  have c_2 : E 0 7 = .inr (3, [.ref (ad 0 5), .ref (ad 0 8), .int (nI (L.length)), .int cf_1, pv_1]) := q7_1
  have m_3 : (0, 7) ∈ RL := hmB 7 (by decide)
  have c_4 : E 0 8 = .inl (kA 4, 12, .inr (.inr (.inr (.inr fc_1)))) := q8_1
  have m_5 : (0, 8) ∈ RL := hmB 8 (by decide)
  obtain ⟨xfi_1, xpv_1, xfc_1, xGL_1⟩ := id hCX
  rw [c_2] at xfi_1 xpv_1
  rw [c_4] at xfc_1
  have xfi_1 : cf_1 = fi := xfi_1
  have xpv_1 : pv_1 = lyv ad lq := xpv_1
  have xfc_1 : ∀ k, k < L.length → fc_1 k = some (ad (1 + L.getD k 0) 0) := xfc_1
  have xln_1 := GL_len xGL_1
  refine lv_aload_n hx hb xd_Ch_addRoot_0 rfl (lv_at hl 0 rfl) ?_
  refine lv_iload_n hx hb xd_Ch_addRoot_1 rfl (lv_at hl 1 rfl) ?_
  refine lv_iconst (v := 0) hx hb xd_Ch_addRoot_2 (by decide) ?_
  have hFc := px_free hD hS hA
  refine va_calli (va_runV (As := [.int nm, .int 0]) (rest := []) ⟨hx, hb, hml, hown, hT⟩ (xc_Ch_addNameX l D kA s.heap.size ad E RL g ml nd len wn fi lq L nm (by first | assumption | omega) (by first | assumption | omega) (by first | assumption | omega) (by first | assumption | omega) (by first | assumption | omega)) (cwV 2 hT (wT_V k5n_1 k5n_2 k5n_3 k5n_4 k5n_0) rfl rfl rfl (by decide +kernel) ⟨Nat.le_of_ble_eq_true rfl, Nat.le_of_ble_eq_true rfl⟩) (px_preV hK hP hD m_3 c_2 rfl) rfl rfl hl.1 rfl (lv_room (Nat.le_of_ble_eq_true rfl)) xd_Ch_addRoot_3 ⟨(Nat.le_of_ble_eq_true rfl), (Nat.le_of_ble_eq_true rfl)⟩) hS (fun q _ h => hFc q h) hFc (fun r6 u7 t H1 locs ht hvm hp8 hB hz1 hk1 hS => ?_)
  obtain ⟨hP1, hD1⟩ := hB
  rw [ht] at hP1
  have hD1 := hD1.weaken (fun _ _ _ h => hFc _ h)
  generalize H1 = H at hP1 hS ⊢
  have hP := hP1
  have hD := hD1
  obtain ⟨E9, rfl⟩ : ∃ z, z = u7 := ⟨_, rfl⟩
  have hP : va_P D xcl (rp ad E9 RL) H := hP
  have hD : va_D A (rp ad E9 RL) := hD
  obtain ⟨L2, hCI, hCX2, hF9, hres⟩ := hp8
  have hCI : CI kA ad E9 RL ml nd len wn L2.length := hCI
  have hF2 : F78 E E9 := F78_tr F78_rf hF9
  obtain ⟨hmB, hDk, hLi, hSh, hCh, hLa, hDIs, hLIs⟩ := id hCI
  exact W.zret (v := r6) hx hb hr (by rcases hres with h | h <;> rw [h.1] <;> rfl) (fun t ht hW => ⟨⟨r6, E9, rfl, ⟨L2, hCI, hCX2, hF2, hres⟩, by rw [ht]; exact hP, hD⟩, hS.F ht⟩) hS.2.2 xd_Ch_addRoot_6
set_option maxHeartbeats 4000000 in
set_option maxRecDepth 100000 in
theorem xc_Ch_bindProvidersOfX (l : Launch) (D : va_G) (kA : Nat → ClassId) (sz : Nat) (ad : Nat → Nat → Nat) (E : Nat → Nat → va_E) (RL : List (Nat × Nat)) (g : Nat → Nat → Int32) (ml : Nat) (nd : Nat) (len : Nat) (wn : Nat) (fi : Int32) (lq : Nat) (L : List Nat) (sv : Int32) (hCI : CI kA ad E RL ml nd len wn L.length) (hCX : CX ad E nd fi lq L) (hTD : TDs g E nd) (hTL : TLas g ad E nd ml) (hlqm : lq ≤ ml) (hsv : 0 < sv) : Met l xy_Ch_bindProvidersOf (.code xy_Ch_bindProvidersOf xb_Ch_bindProvidersOf 5 none :: wT) { frames := 19, cells := 0, slots := 0, locals := 1194 } (va_Pc [.ref (ad 0 7), .int sv] (xPre D kA sz (rp ad E RL))) (va_Qv (fun (u : Nat → Nat → va_E) => ∃ L2, CI kA ad u RL ml nd len wn L2.length ∧ CX ad u nd fi lq L2 ∧ F78 E u ∧ bSv g nd fi lq sv L = L2) (fun (u : Nat → Nat → va_E) t => va_P D xcl (rp ad u RL) t.heap ∧ va_D (va_A (rp ad E RL) sz) (rp ad u RL)) (va_A (rp ad E RL) sz)) 0 0 (va_A (rp ad E RL) sz) := by
  refine Met.ofW (cc := xb_Ch_bindProvidersOf) (maxL := 5) (ret := none) (by decide) rfl ?_
  intro p e s m args below meth c s₁ B hml hv
  obtain ⟨rfl, hsz, hP, hK, hD0⟩ := hv
  have hx := B.exec
  have hb := B.bytes
  have hr := B.returns
  have hT := x_hT B.pre
  have hown : s.vm.findClass xR_Ch = some m.cls := findClass_of_methodNamed B.named
  have hlocks := B.notSynchronized
  subst hsz
  have hD := hD0.self (sz := s.heap.size)
  generalize hAe : va_A (rp ad E RL) s.heap.size = A at hD ⊢
  have hA : ∀ q : Nat, s.heap.size ≤ q → A q := fun q h => by rw [← hAe]; exact Or.inr h
  have hS : va_S A s.heap s.heap [] := va_S.rf
  have hl := lv_entry ([.ref (ad 0 7), .int sv]) (n := 5) (Nat.le_of_ble_eq_true rfl)
  rw [lg_entry_eq]
  generalize (lg_sl ([.ref (ad 0 7), .int sv]) ++ List.replicate (5 - (lg_sl ([.ref (ad 0 7), .int sv])).length) Slot.unset).toArray = ls at hl ⊢
  have hl : lv_has ls 5 [(0, .ref (ad 0 7)), (1, .int sv)] := hl
  have hP : va_P D xcl (rp ad E RL) s.heap := hP
  obtain ⟨hmB, hDk, hLi, hSh, hCh, hLa, hDIs, hLIs⟩ := id hCI
  obtain ⟨lf_1, q_1⟩ := id (hDk)
  have c_2 : E 0 0 = .inr (0, [.ref (ad 0 1), .ref (ad 0 5), .ref (ad 0 7), .ref (ad 0 9), .int (nI ml), .int lf_1]) := q_1
  have m_3 : (0, 0) ∈ RL := hmB 0 (by decide)
  obtain ⟨tx_4, fb_4, fe_4, hl1_4, hw2_4, q1_4, q2_4, q3_4, q4_4, hws_4⟩ := id (hLi)
  have c_5 : E 0 1 = .inr (1, [.ref (ad 0 2), .ref (ad 0 3), .ref (ad 0 4), .int (nI len), .int (nI wn)]) := q1_4
  have m_6 : (0, 1) ∈ RL := hmB 1 (by decide)
  have c_7 : E 0 2 = .inl (kA 1, 40, .inl tx_4) := q2_4
  have m_8 : (0, 2) ∈ RL := hmB 2 (by decide)
  have c_9 : E 0 3 = .inl (kA 0, 20, .inl fb_4) := q3_4
  have m_10 : (0, 3) ∈ RL := hmB 3 (by decide)
  have c_11 : E 0 4 = .inl (kA 0, 20, .inl fe_4) := q4_4
  have m_12 : (0, 4) ∈ RL := hmB 4 (by decide)
  obtain ⟨fd_13, hnd_13, q5_13, q6_13, hds_13⟩ := id (hSh)
  have c_14 : E 0 5 = .inr (2, [.ref (ad 0 6), .int (nI nd)]) := q5_13
  have m_15 : (0, 5) ∈ RL := hmB 5 (by decide)
  have c_16 : E 0 6 = .inl (kA 4, 12, .inr (.inr (.inr (.inr fd_13)))) := q6_13
  have m_17 : (0, 6) ∈ RL := hmB 6 (by decide)
  obtain ⟨cf_18, pv_18, fc_18, hcs_18, hpv_18, q7_18, q8_18, hfc_18⟩ := id (hCh)
  have c_19 : E 0 7 = .inr (3, [.ref (ad 0 5), .ref (ad 0 8), .int (nI (L.length)), .int cf_18, pv_18]) := q7_18
  have m_20 : (0, 7) ∈ RL := hmB 7 (by decide)
  have c_21 : E 0 8 = .inl (kA 4, 12, .inr (.inr (.inr (.inr fc_18)))) := q8_18
  have m_22 : (0, 8) ∈ RL := hmB 8 (by decide)
  obtain ⟨fl_23, hml_23, q9_23, hla_23⟩ := id (hLa)
  have c_24 : E 0 9 = .inl (kA 5, 5, .inr (.inr (.inr (.inr fl_23)))) := q9_23
  have m_25 : (0, 9) ∈ RL := hmB 9 (by decide)
  obtain ⟨xfi_18, xpv_18, xfc_18, xGL_18⟩ := id hCX
  rw [c_19] at xfi_18 xpv_18
  rw [c_21] at xfc_18
  have xfi_18 : cf_18 = fi := xfi_18
  have xpv_18 : pv_18 = lyv ad lq := xpv_18
  have xfc_18 : ∀ k, k < L.length → fc_18 k = some (ad (1 + L.getD k 0) 0) := xfc_18
  have xln_18 := GL_len xGL_18
  refine lv_iconst (v := 0) hx hb xd_Ch_bindProvidersOf_0 (by decide) ?_
  refine lv_istore_n hx hb xd_Ch_bindProvidersOf_1 rfl hl (Nat.le_of_ble_eq_true rfl) rfl (fun ls hl => ?_)
  have hl : lv_has ls 5 [(2, .int 0), (0, .ref (ad 0 7)), (1, .int sv)] := hl
  refine xlab (σ := Nat × (Nat → Nat → va_E) × List Nat) (ml := 5) 2 (fun (i, E1, L1) => [(2, .int (nI i)), (1, .int sv), (0, .ref (ad 0 7))]) (fun (i, E1, L1) => []) (fun (i, E1, L1) => rp ad E1 RL) (fun (i, E1, L1) => (i ≤ nd) ∧ (bSv g nd fi lq sv L = bD (adG g nd fi lq) (g 4) (okB g fi sv) (nd - i) i L1) ∧ (CI kA ad E1 RL ml nd len wn L1.length) ∧ (CX ad E1 nd fi lq L1) ∧ (F78 E E1)) (fun (i, E1, L1) => nd - i) ?_ (0, E, L) _ _ _ (lv_sub hl [0, 2, 1] rfl) hP hD hS ⟨(show 0 ≤ nd from by first | assumption | omega), (show bSv g nd fi lq sv L = bD (adG g nd fi lq) (g 4) (okB g fi sv) (nd - 0) 0 L from (show bSv g nd fi lq sv L = _ from by unfold bSv; rfl)), (show CI kA ad E RL ml nd len wn L.length from hCI), (show CX ad E nd fi lq L from hCX), (show F78 E E from F78_rf)⟩
  intro n9 ih26 a9 ls H locs hμ hl hP hD hS hI
  subst hμ
  obtain ⟨i, E1, L1⟩ := a9
  obtain ⟨hi, hB, hCI, hCX1, hF1⟩ := hI
  have hi : i ≤ nd := hi
  have hB : bSv g nd fi lq sv L = bD (adG g nd fi lq) (g 4) (okB g fi sv) (nd - i) i L1 := hB
  have hCI : CI kA ad E1 RL ml nd len wn L1.length := hCI
  have hCX1 : CX ad E1 nd fi lq L1 := hCX1
  have hF1 : F78 E E1 := hF1
  have hl : lv_has ls 5 [(2, .int (nI i)), (1, .int sv), (0, .ref (ad 0 7))] := hl
  have hP : va_P D xcl (rp ad E1 RL) H := hP
  have hD : va_D A (rp ad E1 RL) := hD
  obtain ⟨hmB, hDk, hLi, hSh, hCh, hLa, hDIs, hLIs⟩ := id hCI
  obtain ⟨lf_27, q_27⟩ := id (hDk)
  have c_28 : E1 0 0 = .inr (0, [.ref (ad 0 1), .ref (ad 0 5), .ref (ad 0 7), .ref (ad 0 9), .int (nI ml), .int lf_27]) := q_27
  have m_29 : (0, 0) ∈ RL := hmB 0 (by decide)
  obtain ⟨tx_30, fb_30, fe_30, hl1_30, hw2_30, q1_30, q2_30, q3_30, q4_30, hws_30⟩ := id (hLi)
  have c_31 : E1 0 1 = .inr (1, [.ref (ad 0 2), .ref (ad 0 3), .ref (ad 0 4), .int (nI len), .int (nI wn)]) := q1_30
  have m_32 : (0, 1) ∈ RL := hmB 1 (by decide)
  have c_33 : E1 0 2 = .inl (kA 1, 40, .inl tx_30) := q2_30
  have m_34 : (0, 2) ∈ RL := hmB 2 (by decide)
  have c_35 : E1 0 3 = .inl (kA 0, 20, .inl fb_30) := q3_30
  have m_36 : (0, 3) ∈ RL := hmB 3 (by decide)
  have c_37 : E1 0 4 = .inl (kA 0, 20, .inl fe_30) := q4_30
  have m_38 : (0, 4) ∈ RL := hmB 4 (by decide)
  obtain ⟨fd_39, hnd_39, q5_39, q6_39, hds_39⟩ := id (hSh)
  have c_40 : E1 0 5 = .inr (2, [.ref (ad 0 6), .int (nI nd)]) := q5_39
  have m_41 : (0, 5) ∈ RL := hmB 5 (by decide)
  have c_42 : E1 0 6 = .inl (kA 4, 12, .inr (.inr (.inr (.inr fd_39)))) := q6_39
  have m_43 : (0, 6) ∈ RL := hmB 6 (by decide)
  obtain ⟨cf_44, pv_44, fc_44, hcs_44, hpv_44, q7_44, q8_44, hfc_44⟩ := id (hCh)
  have c_45 : E1 0 7 = .inr (3, [.ref (ad 0 5), .ref (ad 0 8), .int (nI (L1.length)), .int cf_44, pv_44]) := q7_44
  have m_46 : (0, 7) ∈ RL := hmB 7 (by decide)
  have c_47 : E1 0 8 = .inl (kA 4, 12, .inr (.inr (.inr (.inr fc_44)))) := q8_44
  have m_48 : (0, 8) ∈ RL := hmB 8 (by decide)
  obtain ⟨fl_49, hml_49, q9_49, hla_49⟩ := id (hLa)
  have c_50 : E1 0 9 = .inl (kA 5, 5, .inr (.inr (.inr (.inr fl_49)))) := q9_49
  have m_51 : (0, 9) ∈ RL := hmB 9 (by decide)
  have hTD1 : TDs g E1 nd := TDs_78 hF1 hTD
  have hTL1 : TLas g ad E1 nd ml := TLas_78 hF1 hTL
  obtain ⟨xfi_44, xpv_44, xfc_44, xGL_44⟩ := id hCX1
  rw [c_45] at xfi_44 xpv_44
  rw [c_47] at xfc_44
  have xfi_44 : cf_44 = fi := xfi_44
  have xpv_44 : pv_44 = lyv ad lq := xpv_44
  have xfc_44 : ∀ k, k < L1.length → fc_44 k = some (ad (1 + L1.getD k 0) 0) := xfc_44
  have xln_44 := GL_len xGL_44
  refine lv_iload_n hx hb xd_Ch_bindProvidersOf_2 rfl (lv_at hl 0 rfl) ?_
  refine lv_aload_n hx hb xd_Ch_bindProvidersOf_3 rfl (lv_at hl 2 rfl) ?_
  refine px_get (D := D) (ci := 3) (v := .ref (ad 0 5)) (C := xR_Ch) (T := xT_Ch) (N := 5) hx hb hT xi_Ch hown hK.1 hP m_46 c_45 rfl 0 (by decide) (hT _ k5n_5) (fun _ h9 => h9) rfl xd_Ch_bindProvidersOf_4 ?_
  refine px_get (D := D) (ci := 2) (v := .int (nI nd)) (C := xR_Sh) (T := xT_Sh) (N := 2) hx hb hT xi_Sh hown hK.1 hP m_41 c_40 rfl 1 (by decide) (hT _ k5n_6) (fun _ h9 => h9) rfl xd_Ch_bindProvidersOf_7 ?_
  refine xn_ge (a := i) (b := nd) (tgt := 83) hx hb xd_Ch_bindProvidersOf_10 (by decide) (by omega) (by omega) (fun hc52 => ?_) (fun hc52 => ?_)
  · exact W.vret hx hb hr (fun t ht hW => ⟨⟨E1, rfl, ⟨L1, hCI, hCX1, hF1, by rw [hB, bD_e (by omega)]⟩, by rw [ht]; exact hP, hD⟩, hS.F ht⟩) hS.2.2 xd_Ch_bindProvidersOf_83
  · refine lv_aload_n hx hb xd_Ch_bindProvidersOf_13 rfl (lv_at hl 2 rfl) ?_
    refine px_get (D := D) (ci := 3) (v := .ref (ad 0 5)) (C := xR_Ch) (T := xT_Ch) (N := 5) hx hb hT xi_Ch hown hK.1 hP m_46 c_45 rfl 0 (by decide) (hT _ k5n_5) (fun _ h9 => h9) rfl xd_Ch_bindProvidersOf_14 ?_
    refine px_get (D := D) (ci := 2) (v := .ref (ad 0 6)) (C := xR_Sh) (T := xT_Sh) (N := 2) hx hb hT xi_Sh hown hK.1 hP m_41 c_40 rfl 0 (by decide) (hT _ k5n_7) (fun _ h9 => h9) rfl xd_Ch_bindProvidersOf_17 ?_
    refine lv_iload_n hx hb xd_Ch_bindProvidersOf_20 rfl (lv_at hl 0 rfl) ?_
    refine px_aald (i := i) (x := (some (ad (1 + i) 0))) hx hb hK.1 hP m_43 c_42 4 rfl (hds_39 i (by omega)) (by omega) (by decide) xd_Ch_bindProvidersOf_21 ?_
    obtain ⟨hm_53, fd_53, nm_53, sd_53, k0_53, k1_53, k2_53, k3_53, f0_53, f1_53, f2_53, f3_53, fe_53, fo_53, tr_53, op_53, hk0_53, hk1_53, hk2_53, hk3_53, q0_53, q1_53, q2_53, q3_53, q4_53, q5_53, q6_53, q7_53, q8_53, q9_53, q10_53, q11_53, q12_53, hg_53⟩ := id (hDIs i (by omega))
    have c_54 : E1 (1 + i) 0 = .inr (7, [.int (nI i), .int fd_53, .int nm_53, .ref (ad (1 + i) 1), .ref (ad (1 + i) 9), .ref (ad (1 + i) 10), .ref (ad (1 + i) 2), .ref (ad (1 + i) 11), .ref (ad (1 + i) 12), .ref (ad (1 + i) 3), .ref (ad (1 + i) 4), .int sd_53]) := q0_53
    have m_55 : (1 + i, 0) ∈ RL := hm_53 0 (by decide)
    have c_56 : E1 (1 + i) 1 = .inr (8, [.ref (ad (1 + i) 5), .int (nI k0_53)]) := q1_53
    have m_57 : (1 + i, 1) ∈ RL := hm_53 1 (by decide)
    have c_58 : E1 (1 + i) 2 = .inr (8, [.ref (ad (1 + i) 6), .int (nI k1_53)]) := q2_53
    have m_59 : (1 + i, 2) ∈ RL := hm_53 2 (by decide)
    have c_60 : E1 (1 + i) 3 = .inr (8, [.ref (ad (1 + i) 7), .int (nI k2_53)]) := q3_53
    have m_61 : (1 + i, 3) ∈ RL := hm_53 3 (by decide)
    have c_62 : E1 (1 + i) 4 = .inr (8, [.ref (ad (1 + i) 8), .int (nI k3_53)]) := q4_53
    have m_63 : (1 + i, 4) ∈ RL := hm_53 4 (by decide)
    have c_64 : E1 (1 + i) 5 = .inl (kA 0, 6, .inl f0_53) := q5_53
    have m_65 : (1 + i, 5) ∈ RL := hm_53 5 (by decide)
    have c_66 : E1 (1 + i) 6 = .inl (kA 0, 5, .inl f1_53) := q6_53
    have m_67 : (1 + i, 6) ∈ RL := hm_53 6 (by decide)
    have c_68 : E1 (1 + i) 7 = .inl (kA 0, 3, .inl f2_53) := q7_53
    have m_69 : (1 + i, 7) ∈ RL := hm_53 7 (by decide)
    have c_70 : E1 (1 + i) 8 = .inl (kA 0, 3, .inl f3_53) := q8_53
    have m_71 : (1 + i, 8) ∈ RL := hm_53 8 (by decide)
    have c_72 : E1 (1 + i) 9 = .inl (kA 8, 6, .inr (.inr (.inr (.inr fe_53)))) := q9_53
    have m_73 : (1 + i, 9) ∈ RL := hm_53 9 (by decide)
    have c_74 : E1 (1 + i) 10 = .inl (kA 8, 6, .inr (.inr (.inr (.inr fo_53)))) := q10_53
    have m_75 : (1 + i, 10) ∈ RL := hm_53 10 (by decide)
    have c_76 : E1 (1 + i) 11 = .inl (kA 2, 5, .inl tr_53) := q11_53
    have m_77 : (1 + i, 11) ∈ RL := hm_53 11 (by decide)
    have c_78 : E1 (1 + i) 12 = .inl (kA 2, 5, .inl op_53) := q12_53
    have m_79 : (1 + i, 12) ∈ RL := hm_53 12 (by decide)
    have hg_53 : ∀ w9, w9 < k0_53 → fe_53 w9 = some (ad (1 + i) (20 + 3 * w9)) ∧ fo_53 w9 = some (ad (1 + i) (38 + 3 * w9)) ∧ GI kA (ad (1 + i)) (E1 (1 + i)) (fun o => (1 + i, o) ∈ RL) (20 + 3 * w9) (21 + 3 * w9) (22 + 3 * w9) ∧ GI kA (ad (1 + i)) (E1 (1 + i)) (fun o => (1 + i, o) ∈ RL) (38 + 3 * w9) (39 + 3 * w9) (40 + 3 * w9) := hg_53
    obtain ⟨hTT_53, tgr_53⟩ := TD_get hk0_53 hk1_53 hk2_53 hk3_53 c_54 c_56 c_58 c_60 c_62 c_64 c_66 c_68 c_70 c_76 c_78 (hTD1 i (by omega))
    obtain ⟨tfd_53, tnm_53, tsd_53, tk0_53, tf0_53, tk1_53, tf1_53, tk2_53, tk3_53⟩ := id hTT_53
    have ik0_53 : iN (g 5 i) = k0_53 := by rw [← tk0_53, iN_nI (by omega)]
    have ik1_53 : iN (g 12 i) = k1_53 := by rw [← tk1_53, iN_nI (by omega)]
    refine lv_astore_n hx hb xd_Ch_bindProvidersOf_22 rfl hl (Nat.le_of_ble_eq_true rfl) rfl (fun ls hl => ?_)
    have hl : lv_has ls 5 [(3, .ref (ad (1 + i) 0)), (2, .int (nI i)), (1, .int sv), (0, .ref (ad 0 7))] := hl
    refine lv_aload_n hx hb xd_Ch_bindProvidersOf_23 rfl (lv_at hl 3 rfl) ?_
    refine px_get (D := D) (ci := 3) (v := .int (nI (L1.length))) (C := xR_Ch) (T := xT_Ch) (N := 5) hx hb hT xi_Ch hown hK.1 hP m_46 c_45 rfl 2 (by decide) (hT _ k5n_8) (fun _ h9 => h9) rfl xd_Ch_bindProvidersOf_24 ?_
    refine lv_istore hx hb xd_Ch_bindProvidersOf_27 hl (Nat.le_of_ble_eq_true rfl) rfl (fun ls hl => ?_)
    have hl : lv_has ls 5 [(4, .int (nI (L1.length))), (3, .ref (ad (1 + i) 0)), (2, .int (nI i)), (1, .int sv), (0, .ref (ad 0 7))] := hl
    refine lv_aload_n hx hb xd_Ch_bindProvidersOf_29 rfl (lv_at hl 1 rfl) ?_
    refine px_get (D := D) (ci := 7) (v := .int fd_53) (C := xR_Ds) (T := xT_Ds) (N := 12) hx hb hT xi_Ds hown hK.1 hP m_55 c_54 rfl 1 (by decide) (hT _ k5n_9) (fun _ h9 => h9) rfl xd_Ch_bindProvidersOf_30 ?_
    refine lv_aload_n hx hb xd_Ch_bindProvidersOf_33 rfl (lv_at hl 4 rfl) ?_
    refine px_get (D := D) (ci := 3) (v := .int cf_44) (C := xR_Ch) (T := xT_Ch) (N := 5) hx hb hT xi_Ch hown hK.1 hP m_46 c_45 rfl 3 (by decide) (hT _ k5n_10) (fun _ h9 => h9) rfl xd_Ch_bindProvidersOf_34 ?_
    refine lv_icmp_ne (tgt := 77) hx hb xd_Ch_bindProvidersOf_37 (by decide) (fun hc80 => ?_) (fun hc80 => ?_)
    · refine lv_iinc (k := 2) (x := (nI i)) (v := (nI (i + 1))) hx hb xd_Ch_bindProvidersOf_77 hl rfl (xb_inc i 1) (Nat.le_of_ble_eq_true rfl) rfl (fun ls hl => ?_)
      have hl : lv_has ls 5 [(2, .int (nI (i + 1))), (4, .int (nI (L1.length))), (3, .ref (ad (1 + i) 0)), (1, .int sv), (0, .ref (ad 0 7))] := hl
      refine lv_goto (tgt := 2) hx hb xd_Ch_bindProvidersOf_80 (by decide) ?_
      exact ih26 (i + 1, E1, L1) _ _ _ (show nd - (i + 1) < nd - i by omega) (lv_sub hl [0, 3, 4] rfl) hP hD hS ⟨(show (i + 1) ≤ nd from by first | assumption | omega), (show bSv g nd fi lq sv L = bD (adG g nd fi lq) (g 4) (okB g fi sv) (nd - (i + 1)) (i + 1) L1 from by rw [hB, bD_s (by omega), bE_no (fun q => hc80 (tfd_53.trans (q.1.1.trans xfi_44.symm)))]), (show CI kA ad E1 RL ml nd len wn L1.length from hCI), (show CX ad E1 nd fi lq L1 from hCX1), (show F78 E E1 from hF1)⟩
    · refine lv_aload_n hx hb xd_Ch_bindProvidersOf_40 rfl (lv_at hl 1 rfl) ?_
      refine px_get (D := D) (ci := 7) (v := .ref (ad (1 + i) 4)) (C := xR_Ds) (T := xT_Ds) (N := 12) hx hb hT xi_Ds hown hK.1 hP m_55 c_54 rfl 10 (by decide) (hT _ k5n_11) (fun _ h9 => h9) rfl xd_Ch_bindProvidersOf_41 ?_
      refine lv_iload_n hx hb xd_Ch_bindProvidersOf_44 rfl (lv_at hl 3 rfl) ?_
      have hFc := px_free hD hS hA
      refine va_calli (va_runV (As := [.int sv]) (rest := []) ⟨hx, hb, hml, hown, hT⟩ (xc_Na_holds l D kA H.size ad E1 RL (1 + i) 4 8 3 k3_53 f3_53 sv m_63 c_62 m_71 c_70 (by first | assumption | omega) (by first | assumption | omega)) (cwV 1 hT (wT_V k5n_13 k5n_14 k5n_15 k5n_16 k5n_12) rfl rfl rfl (by decide +kernel) ⟨Nat.le_of_ble_eq_true rfl, Nat.le_of_ble_eq_true rfl⟩) (px_preV hK hP hD m_63 c_62 rfl) rfl rfl hl.1 rfl (lv_room (Nat.le_of_ble_eq_true rfl)) xd_Ch_bindProvidersOf_45 ⟨(Nat.le_of_ble_eq_true rfl), (Nat.le_of_ble_eq_true rfl)⟩) hS (fun q _ h => hFc q h) hFc (fun r81 u82 t H1 locs ht hvm hp83 hB hz1 hk1 hS => ?_)
      obtain ⟨hP1, hD1⟩ := hB
      rw [ht] at hP1
      have hD1 := hD1.weaken (fun _ _ _ h => hFc _ h)
      generalize H1 = H at hP1 hS ⊢
      have hP := hP1
      have hD := hD1
      have hP : va_P D xcl (rp ad E1 RL) H := hP
      have hD : va_D A (rp ad E1 RL) := hD
      rcases hp83 with ⟨rfl, z84, z85, z86⟩ | ⟨rfl, z87⟩
      · refine W.eq (g2 := F0 m 48 ls [.int 1]) rfl ?_
        refine lv_if_eq (tgt := 77) hx hb xd_Ch_bindProvidersOf_48 (by decide) (fun hc88 => absurd hc88 (by decide)) (fun _ => ?_)
        refine lv_aload_n hx hb xd_Ch_bindProvidersOf_51 rfl (lv_at hl 4 rfl) ?_
        refine lv_aload_n hx hb xd_Ch_bindProvidersOf_52 rfl (lv_at hl 1 rfl) ?_
        have hFc := px_free hD hS hA
        refine va_calli (va_runV (As := [.ref (ad (1 + i) 0)]) (rest := []) ⟨hx, hb, hml, hown, hT⟩ (xc_Ch_isChosenX l D kA H.size ad E1 RL g ml nd len wn fi lq L1 i (by first | assumption | omega) (by first | assumption | omega) (by first | assumption | omega)) (cwV 1 hT (wT_V k5n_18 k5n_19 k5n_20 k5n_4 k5n_17) rfl rfl rfl (by decide +kernel) ⟨Nat.le_of_ble_eq_true rfl, Nat.le_of_ble_eq_true rfl⟩) (px_preV hK hP hD m_46 c_45 rfl) rfl rfl hl.1 rfl (lv_room (Nat.le_of_ble_eq_true rfl)) xd_Ch_bindProvidersOf_53 ⟨(Nat.le_of_ble_eq_true rfl), (Nat.le_of_ble_eq_true rfl)⟩) hS (fun q _ h => hFc q h) hFc (fun r89 u90 t H1 locs ht hvm hp91 hB hz1 hk1 hS => ?_)
        obtain ⟨hP1, hD1⟩ := hB
        rw [ht] at hP1
        have hD1 := hD1.weaken (fun _ _ _ h => hFc _ h)
        generalize H1 = H at hP1 hS ⊢
        have hP := hP1
        have hD := hD1
        have hP : va_P D xcl (rp ad E1 RL) H := hP
        have hD : va_D A (rp ad E1 RL) := hD
        rcases hp91 with ⟨rfl, z92⟩ | ⟨rfl, z93⟩
        · refine W.eq (g2 := F0 m 56 ls [.int 1]) rfl ?_
          refine lv_if_ne (tgt := 77) hx hb xd_Ch_bindProvidersOf_56 (by decide) (fun _ => ?_) (fun hc94 => absurd hc94 (by decide))
          refine lv_iinc (k := 2) (x := (nI i)) (v := (nI (i + 1))) hx hb xd_Ch_bindProvidersOf_77 hl rfl (xb_inc i 1) (Nat.le_of_ble_eq_true rfl) rfl (fun ls hl => ?_)
          have hl : lv_has ls 5 [(2, .int (nI (i + 1))), (4, .int (nI (L1.length))), (3, .ref (ad (1 + i) 0)), (1, .int sv), (0, .ref (ad 0 7))] := hl
          refine lv_goto (tgt := 2) hx hb xd_Ch_bindProvidersOf_80 (by decide) ?_
          exact ih26 (i + 1, E1, L1) _ _ _ (show nd - (i + 1) < nd - i by omega) (lv_sub hl [0, 3, 4] rfl) hP hD hS ⟨(show (i + 1) ≤ nd from by first | assumption | omega), (show bSv g nd fi lq sv L = bD (adG g nd fi lq) (g 4) (okB g fi sv) (nd - (i + 1)) (i + 1) L1 from by rw [hB, bD_s (by omega), bE_no (fun q => q.2 z92)]), (show CI kA ad E1 RL ml nd len wn L1.length from hCI), (show CX ad E1 nd fi lq L1 from hCX1), (show F78 E E1 from hF1)⟩
        · refine W.eq (g2 := F0 m 56 ls [.int 0]) rfl ?_
          refine lv_if_ne (tgt := 77) hx hb xd_Ch_bindProvidersOf_56 (by decide) (fun hc95 => absurd (by decide) hc95) (fun _ => ?_)
          refine lv_aload_n hx hb xd_Ch_bindProvidersOf_59 rfl (lv_at hl 4 rfl) ?_
          refine lv_aload_n hx hb xd_Ch_bindProvidersOf_60 rfl (lv_at hl 1 rfl) ?_
          refine px_get (D := D) (ci := 7) (v := .int nm_53) (C := xR_Ds) (T := xT_Ds) (N := 12) hx hb hT xi_Ds hown hK.1 hP m_55 c_54 rfl 2 (by decide) (hT _ k5n_21) (fun _ h9 => h9) rfl xd_Ch_bindProvidersOf_61 ?_
          refine lv_iconst (v := 0) hx hb xd_Ch_bindProvidersOf_64 (by decide) ?_
          have hFc := px_free hD hS hA
          refine va_calli (va_runV (As := [.int nm_53, .int 0]) (rest := []) ⟨hx, hb, hml, hown, hT⟩ (xc_Ch_addNameX l D kA H.size ad E1 RL g ml nd len wn fi lq L1 nm_53 (by first | assumption | omega) hCX1 hTD1 hTL1 (by first | assumption | omega)) (cwV 2 hT (wT_V k5n_1 k5n_2 k5n_3 k5n_4 k5n_0) rfl rfl rfl (by decide +kernel) ⟨Nat.le_of_ble_eq_true rfl, Nat.le_of_ble_eq_true rfl⟩) (px_preV hK hP hD m_46 c_45 rfl) rfl rfl hl.1 rfl (lv_room (Nat.le_of_ble_eq_true rfl)) xd_Ch_bindProvidersOf_65 ⟨(Nat.le_of_ble_eq_true rfl), (Nat.le_of_ble_eq_true rfl)⟩) hS (fun q _ h => hFc q h) hFc (fun r96 u97 t H1 locs ht hvm hp98 hB hz1 hk1 hS => ?_)
          obtain ⟨hP1, hD1⟩ := hB
          rw [ht] at hP1
          have hD1 := hD1.weaken (fun _ _ _ h => hFc _ h)
          generalize H1 = H at hP1 hS ⊢
          have hP := hP1
          have hD := hD1
          obtain ⟨E99, rfl⟩ : ∃ z, z = u97 := ⟨_, rfl⟩
          have hP : va_P D xcl (rp ad E99 RL) H := hP
          have hD : va_D A (rp ad E99 RL) := hD
          obtain ⟨L2, hCI, hCX2, hF9, hres⟩ := hp98
          have hCI : CI kA ad E99 RL ml nd len wn L2.length := hCI
          have hF2 : F78 E E99 := F78_tr hF1 hF9
          obtain ⟨hmB, hDk, hLi, hSh, hCh, hLa, hDIs, hLIs⟩ := id hCI
          rw [tnm_53] at hres
          rcases hres with ⟨rfl, hok9⟩ | ⟨rfl, hok9⟩
          · have hok8 := hok9
            refine lv_if_ne (tgt := 77) hx hb xd_Ch_bindProvidersOf_68 (by decide) (fun _ => ?_) (fun hc100 => absurd hc100 (by decide))
            refine lv_iinc (k := 2) (x := (nI i)) (v := (nI (i + 1))) hx hb xd_Ch_bindProvidersOf_77 hl rfl (xb_inc i 1) (Nat.le_of_ble_eq_true rfl) rfl (fun ls hl => ?_)
            have hl : lv_has ls 5 [(2, .int (nI (i + 1))), (4, .int (nI (L1.length))), (3, .ref (ad (1 + i) 0)), (1, .int sv), (0, .ref (ad 0 7))] := hl
            refine lv_goto (tgt := 2) hx hb xd_Ch_bindProvidersOf_80 (by decide) ?_
            exact ih26 (i + 1, E99, L2) _ _ _ (show nd - (i + 1) < nd - i by omega) (lv_sub hl [0, 3, 4] rfl) hP hD hS ⟨(show (i + 1) ≤ nd from by first | assumption | omega), (show bSv g nd fi lq sv L = bD (adG g nd fi lq) (g 4) (okB g fi sv) (nd - (i + 1)) (i + 1) L2 from by rw [hB, bD_s (by omega), bE_t ⟨tfd_53.symm.trans (hc80.trans xfi_44), (gv_iff hk3_53 hsv tk3_53).mp ⟨z84, z85, z86⟩⟩ z93 hok9]), (show CI kA ad E99 RL ml nd len wn L2.length from hCI), (show CX ad E99 nd fi lq L2 from hCX2), (show F78 E E99 from hF2)⟩
          · have hok8 := hok9
            refine lv_if_ne (tgt := 77) hx hb xd_Ch_bindProvidersOf_68 (by decide) (fun hc101 => absurd (by decide) hc101) (fun _ => ?_)
            obtain ⟨hmB, hDk, hLi, hSh, hCh, hLa, hDIs, hLIs⟩ := id hCI
            obtain ⟨lf_102, q_102⟩ := id (hDk)
            have c_103 : E99 0 0 = .inr (0, [.ref (ad 0 1), .ref (ad 0 5), .ref (ad 0 7), .ref (ad 0 9), .int (nI ml), .int lf_102]) := q_102
            have m_104 : (0, 0) ∈ RL := hmB 0 (by decide)
            obtain ⟨tx_105, fb_105, fe_105, hl1_105, hw2_105, q1_105, q2_105, q3_105, q4_105, hws_105⟩ := id (hLi)
            have c_106 : E99 0 1 = .inr (1, [.ref (ad 0 2), .ref (ad 0 3), .ref (ad 0 4), .int (nI len), .int (nI wn)]) := q1_105
            have m_107 : (0, 1) ∈ RL := hmB 1 (by decide)
            have c_108 : E99 0 2 = .inl (kA 1, 40, .inl tx_105) := q2_105
            have m_109 : (0, 2) ∈ RL := hmB 2 (by decide)
            have c_110 : E99 0 3 = .inl (kA 0, 20, .inl fb_105) := q3_105
            have m_111 : (0, 3) ∈ RL := hmB 3 (by decide)
            have c_112 : E99 0 4 = .inl (kA 0, 20, .inl fe_105) := q4_105
            have m_113 : (0, 4) ∈ RL := hmB 4 (by decide)
            obtain ⟨fd_114, hnd_114, q5_114, q6_114, hds_114⟩ := id (hSh)
            have c_115 : E99 0 5 = .inr (2, [.ref (ad 0 6), .int (nI nd)]) := q5_114
            have m_116 : (0, 5) ∈ RL := hmB 5 (by decide)
            have c_117 : E99 0 6 = .inl (kA 4, 12, .inr (.inr (.inr (.inr fd_114)))) := q6_114
            have m_118 : (0, 6) ∈ RL := hmB 6 (by decide)
            obtain ⟨cf_119, pv_119, fc_119, hcs_119, hpv_119, q7_119, q8_119, hfc_119⟩ := id (hCh)
            have c_120 : E99 0 7 = .inr (3, [.ref (ad 0 5), .ref (ad 0 8), .int (nI (L2.length)), .int cf_119, pv_119]) := q7_119
            have m_121 : (0, 7) ∈ RL := hmB 7 (by decide)
            have c_122 : E99 0 8 = .inl (kA 4, 12, .inr (.inr (.inr (.inr fc_119)))) := q8_119
            have m_123 : (0, 8) ∈ RL := hmB 8 (by decide)
            obtain ⟨fl_124, hml_124, q9_124, hla_124⟩ := id (hLa)
            have c_125 : E99 0 9 = .inl (kA 5, 5, .inr (.inr (.inr (.inr fl_124)))) := q9_124
            have m_126 : (0, 9) ∈ RL := hmB 9 (by decide)
            obtain ⟨xfi_119, xpv_119, xfc_119, xGL_119⟩ := id hCX2
            rw [c_120] at xfi_119 xpv_119
            rw [c_122] at xfc_119
            have xfi_119 : cf_119 = fi := xfi_119
            have xpv_119 : pv_119 = lyv ad lq := xpv_119
            have xfc_119 : ∀ k, k < L2.length → fc_119 k = some (ad (1 + L2.getD k 0) 0) := xfc_119
            have xln_119 := GL_len xGL_119
            refine lv_aload_n hx hb xd_Ch_bindProvidersOf_71 rfl (lv_at hl 4 rfl) ?_
            refine lv_iload hx hb xd_Ch_bindProvidersOf_72 (lv_at hl 0 rfl) ?_
            refine px_put (D := D) (ci := 3) (v := .int (nI (L1.length))) (ty := .int) (C := xR_Ch) (T := xT_Ch) (N := 5) hx hb hT xi_Ch xt_Ch xt_Ch_ok xn_Ch hown hK.1 hP hD hS m_121 c_120 rfl 2 (by decide) (hT _ k5n_8) (fun _ h9 => h9) rfl (by decide +kernel) rfl rfl (Nat.le_of_ble_eq_true rfl) xd_Ch_bindProvidersOf_74 (fun H locs hP hD hS => ?_)
            have hP : va_P D xcl (rp ad (up2 E99 0 7 (.inr (3, [.ref (ad 0 5), .ref (ad 0 8), .int (nI (L1.length)), .int cf_119, pv_119]))) RL) H := hP
            have hD : va_D A (rp ad (up2 E99 0 7 (.inr (3, [.ref (ad 0 5), .ref (ad 0 8), .int (nI (L1.length)), .int cf_119, pv_119]))) RL) := hD
            generalize hE128 : up2 E99 0 7 (.inr (3, [.ref (ad 0 5), .ref (ad 0 8), .int (nI (L1.length)), .int cf_119, pv_119])) = E127 at hP hD
            have fE129 : ∀ b2 o2, ¬ (b2 = 0 ∧ o2 = 7) → E127 b2 o2 = E99 b2 o2 := fun b2 o2 h9 => by rw [← hE128]; exact up2_ne (nr_or h9)
            have c_130 : E127 0 7 = .inr (3, [.ref (ad 0 5), .ref (ad 0 8), .int (nI (L1.length)), .int cf_119, pv_119]) := by rw [← hE128]; exact up2_eq
            have c_131 : E127 0 0 = .inr (0, [.ref (ad 0 1), .ref (ad 0 5), .ref (ad 0 7), .ref (ad 0 9), .int (nI ml), .int lf_102]) := (fE129 0 0 (fun q9 => absurd q9.2 (by decide))).trans c_103
            have c_132 : E127 0 1 = .inr (1, [.ref (ad 0 2), .ref (ad 0 3), .ref (ad 0 4), .int (nI len), .int (nI wn)]) := (fE129 0 1 (fun q9 => absurd q9.2 (by decide))).trans c_106
            have c_133 : E127 0 2 = .inl (kA 1, 40, .inl tx_105) := (fE129 0 2 (fun q9 => absurd q9.2 (by decide))).trans c_108
            have c_134 : E127 0 3 = .inl (kA 0, 20, .inl fb_105) := (fE129 0 3 (fun q9 => absurd q9.2 (by decide))).trans c_110
            have c_135 : E127 0 4 = .inl (kA 0, 20, .inl fe_105) := (fE129 0 4 (fun q9 => absurd q9.2 (by decide))).trans c_112
            have c_136 : E127 0 5 = .inr (2, [.ref (ad 0 6), .int (nI nd)]) := (fE129 0 5 (fun q9 => absurd q9.2 (by decide))).trans c_115
            have c_137 : E127 0 6 = .inl (kA 4, 12, .inr (.inr (.inr (.inr fd_114)))) := (fE129 0 6 (fun q9 => absurd q9.2 (by decide))).trans c_117
            have c_138 : E127 0 8 = .inl (kA 4, 12, .inr (.inr (.inr (.inr fc_119)))) := (fE129 0 8 (fun q9 => absurd q9.2 (by decide))).trans c_122
            have c_139 : E127 0 9 = .inl (kA 5, 5, .inr (.inr (.inr (.inr fl_124)))) := (fE129 0 9 (fun q9 => absurd q9.2 (by decide))).trans c_125
            have hxp : ∃ T9, L2 = L1 ++ T9 := by
              obtain ⟨T9, hT9⟩ := aN_pre (ds := dsG g nd fi) (up := upG g lq) (rq := rqG g) (f := 12) (L := L1) (n := g 4 i)
              exact ⟨T9, (show L2 = _ from (congrArg Prod.snd hok9).symm.trans hT9)⟩
            obtain ⟨T9, hxT⟩ := hxp
            have hxle : L1.length ≤ L2.length := by rw [hxT, List.length_append]; omega
            have hCX2 : CX ad E127 nd fi lq L1 := ⟨by rw [c_130]; exact xfi_119, by rw [c_130]; exact xpv_119, by rw [c_138]; exact CX_cut hxT xfc_119, hCX1.2.2.2⟩
            have hF2 : F78 E E127 := F78_tr hF2 (fun b2 o2 h79 h89 => by show E127 b2 o2 = _; rw [fE129 b2 o2 (by omega)])
            have hCI : CI kA ad E127 RL ml nd len wn L1.length := ⟨hmB, ⟨lf_102, c_131⟩, ⟨tx_105, fb_105, fe_105, (by omega), (by omega), c_132, c_133, c_134, c_135, hws_105⟩, ⟨fd_114, (by omega), c_136, c_137, hds_114⟩, ⟨cf_119, pv_119, fc_119, (by omega), hpv_119, c_130, c_138, (FC_le hfc_119 (by omega))⟩, ⟨fl_124, (by omega), c_139, hla_124⟩, (DIs_same (fun d9 hd9 => fun2 fun o9 => by show E127 (1 + d9) o9 = _; rw [fE129 (1 + d9) o9 (by omega)]) (fun _ _ => rfl) (fun _ h9 => h9) hDIs), (LIs_same (Nat.le_refl _) (fun n9 hn9 => fun2 fun o9 => by show E127 (20 + n9) o9 = _; rw [fE129 (20 + n9) o9 (by omega)]) (fun _ _ => rfl) (fun _ _ => rfl) (fun _ h9 => h9) hLIs)⟩
            obtain ⟨hmB, hDk, hLi, hSh, hCh, hLa, hDIs, hLIs⟩ := id hCI
            refine lv_iinc (k := 2) (x := (nI i)) (v := (nI (i + 1))) hx hb xd_Ch_bindProvidersOf_77 hl rfl (xb_inc i 1) (Nat.le_of_ble_eq_true rfl) rfl (fun ls hl => ?_)
            have hl : lv_has ls 5 [(2, .int (nI (i + 1))), (4, .int (nI (L1.length))), (3, .ref (ad (1 + i) 0)), (1, .int sv), (0, .ref (ad 0 7))] := hl
            refine lv_goto (tgt := 2) hx hb xd_Ch_bindProvidersOf_80 (by decide) ?_
            exact ih26 (i + 1, E127, L1) _ _ _ (show nd - (i + 1) < nd - i by omega) (lv_sub hl [0, 3, 4] rfl) hP hD hS ⟨(show (i + 1) ≤ nd from by first | assumption | omega), (show bSv g nd fi lq sv L = bD (adG g nd fi lq) (g 4) (okB g fi sv) (nd - (i + 1)) (i + 1) L1 from by rw [hB, bD_s (by omega), bE_f hok9]), (show CI kA ad E127 RL ml nd len wn L1.length from hCI), (show CX ad E127 nd fi lq L1 from hCX2), (show F78 E E127 from hF2)⟩
      · refine W.eq (g2 := F0 m 48 ls [.int 0]) rfl ?_
        refine lv_if_eq (tgt := 77) hx hb xd_Ch_bindProvidersOf_48 (by decide) (fun _ => ?_) (fun hc140 => absurd (by decide) hc140)
        refine lv_iinc (k := 2) (x := (nI i)) (v := (nI (i + 1))) hx hb xd_Ch_bindProvidersOf_77 hl rfl (xb_inc i 1) (Nat.le_of_ble_eq_true rfl) rfl (fun ls hl => ?_)
        have hl : lv_has ls 5 [(2, .int (nI (i + 1))), (4, .int (nI (L1.length))), (3, .ref (ad (1 + i) 0)), (1, .int sv), (0, .ref (ad 0 7))] := hl
        refine lv_goto (tgt := 2) hx hb xd_Ch_bindProvidersOf_80 (by decide) ?_
        exact ih26 (i + 1, E1, L1) _ _ _ (show nd - (i + 1) < nd - i by omega) (lv_sub hl [0, 3, 4] rfl) hP hD hS ⟨(show (i + 1) ≤ nd from by first | assumption | omega), (show bSv g nd fi lq sv L = bD (adG g nd fi lq) (g 4) (okB g fi sv) (nd - (i + 1)) (i + 1) L1 from by rw [hB, bD_s (by omega), bE_no (fun q => by obtain ⟨k9, q1, q2⟩ := (gv_iff hk3_53 hsv tk3_53).mpr q.1.2; exact z87 k9 q1 q2)]), (show CI kA ad E1 RL ml nd len wn L1.length from hCI), (show CX ad E1 nd fi lq L1 from hCX1), (show F78 E E1 from hF1)⟩
theorem k5o_0 : (Cond.fieldLink "LayerDesk$Chooser" 94 "LayerDesk$Descriptor" "used" "LLayerDesk$Names;") ∈ wT := wT_t (List.mem_append_right _ (List.mem_append_left _ (List.mem_of_getElem? (i := 76) rfl))) rfl
theorem k5o_1 : (Cond.fieldLink "LayerDesk$Chooser" 74 "LayerDesk$Names" "size" "I") ∈ wT := wT_t (List.mem_append_right _ (List.mem_append_left _ (List.mem_of_getElem? (i := 37) rfl))) rfl
theorem k5o_2 : (Cond.code xy_Na_at xb_Na_at 2 (some .int)) ∈ wT := wT_t (List.mem_append_right _ (List.mem_append_right _ (List.mem_append_left _ (List.mem_of_getElem? (i := 93) rfl)))) rfl
theorem k5o_3 : (Cond.methodLink "LayerDesk$Chooser" 81 xy_Na_at) ∈ wT := wT_t (List.mem_append_right _ (List.mem_append_right _ (List.mem_append_left _ (List.mem_of_getElem? (i := 90) rfl)))) rfl
theorem k5o_4 : (Cond.instanceMethod xy_Na_at) ∈ wT := wT_t (List.mem_append_right _ (List.mem_append_right _ (List.mem_append_left _ (List.mem_of_getElem? (i := 91) rfl)))) rfl
theorem k5o_5 : (Cond.selects "LayerDesk$Names" xy_Na_at xy_Na_at) ∈ wT := wT_t (List.mem_append_right _ (List.mem_append_right _ (List.mem_append_left _ (List.mem_of_getElem? (i := 92) rfl)))) rfl
theorem k5o_6 : (Cond.initialized "LayerDesk$Names") ∈ wT := wT_t (List.mem_append_left _ (List.mem_of_getElem? (i := 11) rfl)) rfl
theorem k5o_7 : (Cond.code xy_Ch_bindProvidersOf xb_Ch_bindProvidersOf 5 none) ∈ wT := wT_t (List.mem_append_right _ (List.mem_append_right _ (List.mem_append_left _ (List.mem_of_getElem? (i := 125) rfl)))) rfl
theorem k5o_8 : (Cond.methodLink "LayerDesk$Chooser" 97 xy_Ch_bindProvidersOf) ∈ wT := wT_t (List.mem_append_right _ (List.mem_append_right _ (List.mem_append_left _ (List.mem_of_getElem? (i := 122) rfl)))) rfl
theorem k5o_9 : (Cond.instanceMethod xy_Ch_bindProvidersOf) ∈ wT := wT_t (List.mem_append_right _ (List.mem_append_right _ (List.mem_append_left _ (List.mem_of_getElem? (i := 124) rfl)))) rfl
theorem k5o_10 : (Cond.selects "LayerDesk$Chooser" xy_Ch_bindProvidersOf xy_Ch_bindProvidersOf) ∈ wT := wT_s (q := (xy_Ch_bindProvidersOf, 5)) (by decide +kernel) rfl
theorem k5o_11 : (Cond.initialized "LayerDesk$Chooser") ∈ wT := wT_t (List.mem_append_left _ (List.mem_of_getElem? (i := 4) rfl)) rfl
set_option maxHeartbeats 4000000 in
set_option maxRecDepth 100000 in
theorem xc_Ch_bindUsesOfX (l : Launch) (D : va_G) (kA : Nat → ClassId) (sz : Nat) (ad : Nat → Nat → Nat) (E : Nat → Nat → va_E) (RL : List (Nat × Nat)) (g : Nat → Nat → Int32) (ml : Nat) (nd : Nat) (len : Nat) (wn : Nat) (fi : Int32) (lq : Nat) (L : List Nat) (d : Nat) (hCI : CI kA ad E RL ml nd len wn L.length) (hCX : CX ad E nd fi lq L) (hTD : TDs g E nd) (hTL : TLas g ad E nd ml) (hlqm : lq ≤ ml) (hd : d < nd) : Met l xy_Ch_bindUsesOf (.code xy_Ch_bindUsesOf xb_Ch_bindUsesOf 3 none :: wT) { frames := 20, cells := 0, slots := 0, locals := 1218 } (va_Pc [.ref (ad 0 7), .ref (ad (1 + d) 0)] (xPre D kA sz (rp ad E RL))) (va_Qv (fun (u : Nat → Nat → va_E) => ∃ L2, CI kA ad u RL ml nd len wn L2.length ∧ CX ad u nd fi lq L2 ∧ F78 E u ∧ bUg g nd fi lq d L = L2) (fun (u : Nat → Nat → va_E) t => va_P D xcl (rp ad u RL) t.heap ∧ va_D (va_A (rp ad E RL) sz) (rp ad u RL)) (va_A (rp ad E RL) sz)) 0 0 (va_A (rp ad E RL) sz) := by
  refine Met.ofW (cc := xb_Ch_bindUsesOf) (maxL := 3) (ret := none) (by decide) rfl ?_
  intro p e s m args below meth c s₁ B hml hv
  obtain ⟨rfl, hsz, hP, hK, hD0⟩ := hv
  have hx := B.exec
  have hb := B.bytes
  have hr := B.returns
  have hT := x_hT B.pre
  have hown : s.vm.findClass xR_Ch = some m.cls := findClass_of_methodNamed B.named
  have hlocks := B.notSynchronized
  subst hsz
  have hD := hD0.self (sz := s.heap.size)
  generalize hAe : va_A (rp ad E RL) s.heap.size = A at hD ⊢
  have hA : ∀ q : Nat, s.heap.size ≤ q → A q := fun q h => by rw [← hAe]; exact Or.inr h
  have hS : va_S A s.heap s.heap [] := va_S.rf
  have hl := lv_entry ([.ref (ad 0 7), .ref (ad (1 + d) 0)]) (n := 3) (Nat.le_of_ble_eq_true rfl)
  rw [lg_entry_eq]
  generalize (lg_sl ([.ref (ad 0 7), .ref (ad (1 + d) 0)]) ++ List.replicate (3 - (lg_sl ([.ref (ad 0 7), .ref (ad (1 + d) 0)])).length) Slot.unset).toArray = ls at hl ⊢
  have hl : lv_has ls 3 [(0, .ref (ad 0 7)), (1, .ref (ad (1 + d) 0))] := hl
  have hP : va_P D xcl (rp ad E RL) s.heap := hP
  obtain ⟨hmB, hDk, hLi, hSh, hCh, hLa, hDIs, hLIs⟩ := id hCI
  obtain ⟨lf_1, q_1⟩ := id (hDk)
  have c_2 : E 0 0 = .inr (0, [.ref (ad 0 1), .ref (ad 0 5), .ref (ad 0 7), .ref (ad 0 9), .int (nI ml), .int lf_1]) := q_1
  have m_3 : (0, 0) ∈ RL := hmB 0 (by decide)
  obtain ⟨tx_4, fb_4, fe_4, hl1_4, hw2_4, q1_4, q2_4, q3_4, q4_4, hws_4⟩ := id (hLi)
  have c_5 : E 0 1 = .inr (1, [.ref (ad 0 2), .ref (ad 0 3), .ref (ad 0 4), .int (nI len), .int (nI wn)]) := q1_4
  have m_6 : (0, 1) ∈ RL := hmB 1 (by decide)
  have c_7 : E 0 2 = .inl (kA 1, 40, .inl tx_4) := q2_4
  have m_8 : (0, 2) ∈ RL := hmB 2 (by decide)
  have c_9 : E 0 3 = .inl (kA 0, 20, .inl fb_4) := q3_4
  have m_10 : (0, 3) ∈ RL := hmB 3 (by decide)
  have c_11 : E 0 4 = .inl (kA 0, 20, .inl fe_4) := q4_4
  have m_12 : (0, 4) ∈ RL := hmB 4 (by decide)
  obtain ⟨fd_13, hnd_13, q5_13, q6_13, hds_13⟩ := id (hSh)
  have c_14 : E 0 5 = .inr (2, [.ref (ad 0 6), .int (nI nd)]) := q5_13
  have m_15 : (0, 5) ∈ RL := hmB 5 (by decide)
  have c_16 : E 0 6 = .inl (kA 4, 12, .inr (.inr (.inr (.inr fd_13)))) := q6_13
  have m_17 : (0, 6) ∈ RL := hmB 6 (by decide)
  obtain ⟨cf_18, pv_18, fc_18, hcs_18, hpv_18, q7_18, q8_18, hfc_18⟩ := id (hCh)
  have c_19 : E 0 7 = .inr (3, [.ref (ad 0 5), .ref (ad 0 8), .int (nI (L.length)), .int cf_18, pv_18]) := q7_18
  have m_20 : (0, 7) ∈ RL := hmB 7 (by decide)
  have c_21 : E 0 8 = .inl (kA 4, 12, .inr (.inr (.inr (.inr fc_18)))) := q8_18
  have m_22 : (0, 8) ∈ RL := hmB 8 (by decide)
  obtain ⟨fl_23, hml_23, q9_23, hla_23⟩ := id (hLa)
  have c_24 : E 0 9 = .inl (kA 5, 5, .inr (.inr (.inr (.inr fl_23)))) := q9_23
  have m_25 : (0, 9) ∈ RL := hmB 9 (by decide)
  obtain ⟨xfi_18, xpv_18, xfc_18, xGL_18⟩ := id hCX
  rw [c_19] at xfi_18 xpv_18
  rw [c_21] at xfc_18
  have xfi_18 : cf_18 = fi := xfi_18
  have xpv_18 : pv_18 = lyv ad lq := xpv_18
  have xfc_18 : ∀ k, k < L.length → fc_18 k = some (ad (1 + L.getD k 0) 0) := xfc_18
  have xln_18 := GL_len xGL_18
  refine lv_iconst (v := 0) hx hb xd_Ch_bindUsesOf_0 (by decide) ?_
  refine lv_istore_n hx hb xd_Ch_bindUsesOf_1 rfl hl (Nat.le_of_ble_eq_true rfl) rfl (fun ls hl => ?_)
  have hl : lv_has ls 3 [(2, .int 0), (0, .ref (ad 0 7)), (1, .ref (ad (1 + d) 0))] := hl
  refine xlab (σ := Nat × (Nat → Nat → va_E) × List Nat) (ml := 3) 2 (fun (i, E1, L1) => [(2, .int (nI i)), (1, .ref (ad (1 + d) 0)), (0, .ref (ad 0 7))]) (fun (i, E1, L1) => []) (fun (i, E1, L1) => rp ad E1 RL) (fun (i, E1, L1) => (i ≤ 3) ∧ (bUg g nd fi lq d L = bUs (bSv g nd fi lq) (g 14) (3 * d + 3 - (3 * d + i)) (3 * d + i) L1) ∧ (CI kA ad E1 RL ml nd len wn L1.length) ∧ (CX ad E1 nd fi lq L1) ∧ (F78 E E1)) (fun (i, E1, L1) => 3 - i) ?_ (0, E, L) _ _ _ (lv_sub hl [0, 2, 1] rfl) hP hD hS ⟨(show 0 ≤ 3 from by first | assumption | omega), (show bUg g nd fi lq d L = bUs (bSv g nd fi lq) (g 14) (3 * d + 3 - (3 * d + 0)) (3 * d + 0) L from (show bUg g nd fi lq d L = bUs (bSv g nd fi lq) (g 14) (3 * d + 3 - (3 * d + 0)) (3 * d + 0) L from by rw [show 3 * d + 3 - (3 * d + 0) = 3 by omega]; rfl)), (show CI kA ad E RL ml nd len wn L.length from hCI), (show CX ad E nd fi lq L from hCX), (show F78 E E from F78_rf)⟩
  intro n9 ih26 a9 ls H locs hμ hl hP hD hS hI
  subst hμ
  obtain ⟨i, E1, L1⟩ := a9
  obtain ⟨hi, hU, hCI, hCX1, hF1⟩ := hI
  have hi : i ≤ 3 := hi
  have hU : bUg g nd fi lq d L = bUs (bSv g nd fi lq) (g 14) (3 * d + 3 - (3 * d + i)) (3 * d + i) L1 := hU
  have hCI : CI kA ad E1 RL ml nd len wn L1.length := hCI
  have hCX1 : CX ad E1 nd fi lq L1 := hCX1
  have hF1 : F78 E E1 := hF1
  have hl : lv_has ls 3 [(2, .int (nI i)), (1, .ref (ad (1 + d) 0)), (0, .ref (ad 0 7))] := hl
  have hP : va_P D xcl (rp ad E1 RL) H := hP
  have hD : va_D A (rp ad E1 RL) := hD
  obtain ⟨hmB, hDk, hLi, hSh, hCh, hLa, hDIs, hLIs⟩ := id hCI
  obtain ⟨fd_27, hnd_27, q5_27, q6_27, hds_27⟩ := id (hSh)
  have c_28 : E1 0 5 = .inr (2, [.ref (ad 0 6), .int (nI nd)]) := q5_27
  have m_29 : (0, 5) ∈ RL := hmB 5 (by decide)
  have c_30 : E1 0 6 = .inl (kA 4, 12, .inr (.inr (.inr (.inr fd_27)))) := q6_27
  have m_31 : (0, 6) ∈ RL := hmB 6 (by decide)
  have hTD1 : TDs g E1 nd := TDs_78 hF1 hTD
  have hTL1 : TLas g ad E1 nd ml := TLas_78 hF1 hTL
  refine lv_iload_n hx hb xd_Ch_bindUsesOf_2 rfl (lv_at hl 0 rfl) ?_
  refine lv_aload_n hx hb xd_Ch_bindUsesOf_3 rfl (lv_at hl 1 rfl) ?_
  obtain ⟨hm_32, fd_32, nm_32, sd_32, k0_32, k1_32, k2_32, k3_32, f0_32, f1_32, f2_32, f3_32, fe_32, fo_32, tr_32, op_32, hk0_32, hk1_32, hk2_32, hk3_32, q0_32, q1_32, q2_32, q3_32, q4_32, q5_32, q6_32, q7_32, q8_32, q9_32, q10_32, q11_32, q12_32, hg_32⟩ := id (hDIs d (by omega))
  have c_33 : E1 (1 + d) 0 = .inr (7, [.int (nI d), .int fd_32, .int nm_32, .ref (ad (1 + d) 1), .ref (ad (1 + d) 9), .ref (ad (1 + d) 10), .ref (ad (1 + d) 2), .ref (ad (1 + d) 11), .ref (ad (1 + d) 12), .ref (ad (1 + d) 3), .ref (ad (1 + d) 4), .int sd_32]) := q0_32
  have m_34 : (1 + d, 0) ∈ RL := hm_32 0 (by decide)
  have c_35 : E1 (1 + d) 1 = .inr (8, [.ref (ad (1 + d) 5), .int (nI k0_32)]) := q1_32
  have m_36 : (1 + d, 1) ∈ RL := hm_32 1 (by decide)
  have c_37 : E1 (1 + d) 2 = .inr (8, [.ref (ad (1 + d) 6), .int (nI k1_32)]) := q2_32
  have m_38 : (1 + d, 2) ∈ RL := hm_32 2 (by decide)
  have c_39 : E1 (1 + d) 3 = .inr (8, [.ref (ad (1 + d) 7), .int (nI k2_32)]) := q3_32
  have m_40 : (1 + d, 3) ∈ RL := hm_32 3 (by decide)
  have c_41 : E1 (1 + d) 4 = .inr (8, [.ref (ad (1 + d) 8), .int (nI k3_32)]) := q4_32
  have m_42 : (1 + d, 4) ∈ RL := hm_32 4 (by decide)
  have c_43 : E1 (1 + d) 5 = .inl (kA 0, 6, .inl f0_32) := q5_32
  have m_44 : (1 + d, 5) ∈ RL := hm_32 5 (by decide)
  have c_45 : E1 (1 + d) 6 = .inl (kA 0, 5, .inl f1_32) := q6_32
  have m_46 : (1 + d, 6) ∈ RL := hm_32 6 (by decide)
  have c_47 : E1 (1 + d) 7 = .inl (kA 0, 3, .inl f2_32) := q7_32
  have m_48 : (1 + d, 7) ∈ RL := hm_32 7 (by decide)
  have c_49 : E1 (1 + d) 8 = .inl (kA 0, 3, .inl f3_32) := q8_32
  have m_50 : (1 + d, 8) ∈ RL := hm_32 8 (by decide)
  have c_51 : E1 (1 + d) 9 = .inl (kA 8, 6, .inr (.inr (.inr (.inr fe_32)))) := q9_32
  have m_52 : (1 + d, 9) ∈ RL := hm_32 9 (by decide)
  have c_53 : E1 (1 + d) 10 = .inl (kA 8, 6, .inr (.inr (.inr (.inr fo_32)))) := q10_32
  have m_54 : (1 + d, 10) ∈ RL := hm_32 10 (by decide)
  have c_55 : E1 (1 + d) 11 = .inl (kA 2, 5, .inl tr_32) := q11_32
  have m_56 : (1 + d, 11) ∈ RL := hm_32 11 (by decide)
  have c_57 : E1 (1 + d) 12 = .inl (kA 2, 5, .inl op_32) := q12_32
  have m_58 : (1 + d, 12) ∈ RL := hm_32 12 (by decide)
  have hg_32 : ∀ w9, w9 < k0_32 → fe_32 w9 = some (ad (1 + d) (20 + 3 * w9)) ∧ fo_32 w9 = some (ad (1 + d) (38 + 3 * w9)) ∧ GI kA (ad (1 + d)) (E1 (1 + d)) (fun o => (1 + d, o) ∈ RL) (20 + 3 * w9) (21 + 3 * w9) (22 + 3 * w9) ∧ GI kA (ad (1 + d)) (E1 (1 + d)) (fun o => (1 + d, o) ∈ RL) (38 + 3 * w9) (39 + 3 * w9) (40 + 3 * w9) := hg_32
  obtain ⟨hTT_32, tgr_32⟩ := TD_get hk0_32 hk1_32 hk2_32 hk3_32 c_33 c_35 c_37 c_39 c_41 c_43 c_45 c_47 c_49 c_55 c_57 (hTD1 d (by omega))
  obtain ⟨tfd_32, tnm_32, tsd_32, tk0_32, tf0_32, tk1_32, tf1_32, tk2_32, tk3_32⟩ := id hTT_32
  have ik0_32 : iN (g 5 d) = k0_32 := by rw [← tk0_32, iN_nI (by omega)]
  have ik1_32 : iN (g 12 d) = k1_32 := by rw [← tk1_32, iN_nI (by omega)]
  refine px_get (D := D) (ci := 7) (v := .ref (ad (1 + d) 3)) (C := xR_Ds) (T := xT_Ds) (N := 12) hx hb hT xi_Ds hown hK.1 hP m_34 c_33 rfl 9 (by decide) (hT _ k5o_0) (fun _ h9 => h9) rfl xd_Ch_bindUsesOf_4 ?_
  refine px_get (D := D) (ci := 8) (v := .int (nI k2_32)) (C := xR_Na) (T := xT_Na) (N := 2) hx hb hT xi_Na hown hK.1 hP m_40 c_39 rfl 1 (by decide) (hT _ k5o_1) (fun _ h9 => h9) rfl xd_Ch_bindUsesOf_7 ?_
  refine xn_ge (a := i) (b := k2_32) (tgt := 31) hx hb xd_Ch_bindUsesOf_10 (by decide) (by omega) (by omega) (fun hc59 => ?_) (fun hc59 => ?_)
  · exact W.vret hx hb hr (fun t ht hW => ⟨⟨E1, rfl, ⟨L1, hCI, hCX1, hF1, by rw [hU, bUs_z _ _ _ (fun j h1 h2 => by
        have q := (tk2_32 (j - 3 * d) (by omega)).2 (by omega)
        have q2 : g 14 j = 0 := by rw [← show 3 * d + (j - 3 * d) = j by omega]; exact q
        rw [q2]; decide)]⟩, by rw [ht]; exact hP, hD⟩, hS.F ht⟩) hS.2.2 xd_Ch_bindUsesOf_31
  · refine lv_aload_n hx hb xd_Ch_bindUsesOf_13 rfl (lv_at hl 2 rfl) ?_
    refine lv_aload_n hx hb xd_Ch_bindUsesOf_14 rfl (lv_at hl 1 rfl) ?_
    refine px_get (D := D) (ci := 7) (v := .ref (ad (1 + d) 3)) (C := xR_Ds) (T := xT_Ds) (N := 12) hx hb hT xi_Ds hown hK.1 hP m_34 c_33 rfl 9 (by decide) (hT _ k5o_0) (fun _ h9 => h9) rfl xd_Ch_bindUsesOf_15 ?_
    refine lv_iload_n hx hb xd_Ch_bindUsesOf_18 rfl (lv_at hl 0 rfl) ?_
    have hFc := px_free hD hS hA
    refine va_calli (va_runV (As := [.int (nI i)]) (rest := [.ref (ad 0 7)]) ⟨hx, hb, hml, hown, hT⟩ (xc_Na_at l D kA H.size ad E1 RL (1 + d) 3 7 3 k2_32 f2_32 i m_40 c_39 m_48 c_47 (by first | assumption | omega) (by first | assumption | omega) (by first | assumption | omega)) (cwV 1 hT (wT_V k5o_3 k5o_4 k5o_5 k5o_6 k5o_2) rfl rfl rfl (by decide +kernel) ⟨Nat.le_of_ble_eq_true rfl, Nat.le_of_ble_eq_true rfl⟩) (px_preV hK hP hD m_40 c_39 rfl) rfl rfl hl.1 rfl (lv_room (Nat.le_of_ble_eq_true rfl)) xd_Ch_bindUsesOf_19 ⟨(Nat.le_of_ble_eq_true rfl), (Nat.le_of_ble_eq_true rfl)⟩) hS (fun q _ h => hFc q h) hFc (fun r60 u61 t H1 locs ht hvm hp62 hB hz1 hk1 hS => ?_)
    obtain ⟨hP1, hD1⟩ := hB
    rw [ht] at hP1
    have hD1 := hD1.weaken (fun _ _ _ h => hFc _ h)
    generalize H1 = H at hP1 hS ⊢
    have hP := hP1
    have hD := hD1
    have hP : va_P D xcl (rp ad E1 RL) H := hP
    have hD : va_D A (rp ad E1 RL) := hD
    have hp62 : r60 = g 14 (3 * d + i) := by
      rcases hp62 with ⟨q, q2⟩ | ⟨q, _⟩
      · rw [q2]; exact ((tk2_32 i (by omega)).1 q).1
      · omega
    subst hp62
    have hP : va_P D xcl (rp ad E1 RL) H := hP
    have hD : va_D A (rp ad E1 RL) := hD
    have hFc := px_free hD hS hA
    obtain ⟨cf_63, pv_63, fc_63, hcs_63, hpv_63, q7_63, q8_63, hfc_63⟩ := id (hCh)
    have c_64 : E1 0 7 = .inr (3, [.ref (ad 0 5), .ref (ad 0 8), .int (nI (L1.length)), .int cf_63, pv_63]) := q7_63
    have m_65 : (0, 7) ∈ RL := hmB 7 (by decide)
    have c_66 : E1 0 8 = .inl (kA 4, 12, .inr (.inr (.inr (.inr fc_63)))) := q8_63
    have m_67 : (0, 8) ∈ RL := hmB 8 (by decide)
    refine va_callv (va_runV (As := [.int (g 14 (3 * d + i))]) (rest := []) ⟨hx, hb, hml, hown, hT⟩ (xc_Ch_bindProvidersOfX l D kA H.size ad E1 RL g ml nd len wn fi lq L1 (g 14 (3 * d + i)) (by first | assumption | omega) hCX1 hTD1 hTL1 (by first | assumption | omega) (((tk2_32 i (by omega)).1 (by omega)).2)) (cwV 1 hT (wT_V k5o_8 k5o_9 k5o_10 k5o_11 k5o_7) rfl rfl rfl (by decide +kernel) ⟨Nat.le_of_ble_eq_true rfl, Nat.le_of_ble_eq_true rfl⟩) (px_preV hK hP hD m_65 c_64 rfl) rfl rfl hl.1 rfl (lv_room (Nat.le_of_ble_eq_true rfl)) xd_Ch_bindUsesOf_22 ⟨(Nat.le_of_ble_eq_true rfl), (Nat.le_of_ble_eq_true rfl)⟩) hS (fun q _ h => hFc q h) hFc (fun u69 t H1 locs ht hvm hp70 hB hz1 hk1 hS => ?_)
    obtain ⟨hP1, hD1⟩ := hB
    rw [ht] at hP1
    have hD1 := hD1.weaken (fun _ _ _ h => hFc _ h)
    generalize H1 = H at hP1 hS ⊢
    have hP := hP1
    have hD := hD1
    obtain ⟨E71, rfl⟩ : ∃ z, z = u69 := ⟨_, rfl⟩
    have hP : va_P D xcl (rp ad E71 RL) H := hP
    have hD : va_D A (rp ad E71 RL) := hD
    obtain ⟨L2, hCI, hCX2, hF9, hsp9⟩ := hp70
    have hCI : CI kA ad E71 RL ml nd len wn L2.length := hCI
    have hF2 : F78 E E71 := F78_tr hF1 hF9
    obtain ⟨hmB, hDk, hLi, hSh, hCh, hLa, hDIs, hLIs⟩ := id hCI
    refine lv_iinc (k := 0) (x := (nI i)) (v := (nI (i + 1))) hx hb xd_Ch_bindUsesOf_25 hl rfl (xb_inc i 1) (Nat.le_of_ble_eq_true rfl) rfl (fun ls hl => ?_)
    have hl : lv_has ls 3 [(2, .int (nI (i + 1))), (1, .ref (ad (1 + d) 0)), (0, .ref (ad 0 7))] := hl
    refine lv_goto (tgt := 2) hx hb xd_Ch_bindUsesOf_28 (by decide) ?_
    exact ih26 (i + 1, E71, L2) _ _ _ (show 3 - (i + 1) < 3 - i by omega) (lv_sub hl [0, 1, 2] rfl) hP hD hS ⟨(show (i + 1) ≤ 3 from by first | assumption | omega), (show bUg g nd fi lq d L = bUs (bSv g nd fi lq) (g 14) (3 * d + 3 - (3 * d + (i + 1))) (3 * d + (i + 1)) L2 from by rw [hU, bUs_s (by omega), cif_pos ((tk2_32 i (by omega)).1 (by omega)).2, hsp9]; rfl), (show CI kA ad E71 RL ml nd len wn L2.length from hCI), (show CX ad E71 nd fi lq L2 from hCX2), (show F78 E E71 from hF2)⟩
theorem k5p_0 : (Cond.fieldLink "LayerDesk$Chooser" 17 "LayerDesk$Chooser" "size" "I") ∈ wT := wT_t (List.mem_append_left _ (List.mem_of_getElem? (i := 83) rfl)) rfl
theorem k5p_1 : (Cond.fieldLink "LayerDesk$Chooser" 24 "LayerDesk$Chooser" "parent" "LLayerDesk$Layer;") ∈ wT := wT_t (List.mem_append_left _ (List.mem_of_getElem? (i := 85) rfl)) rfl
theorem k5p_2 : (Cond.fieldLink "LayerDesk$Chooser" 44 "LayerDesk$Layer" "members" "[LLayerDesk$Member;") ∈ wT := wT_t (List.mem_append_right _ (List.mem_append_right _ (List.mem_append_left _ (List.mem_of_getElem? (i := 149) rfl)))) rfl
theorem k5p_3 : (Cond.fieldLink "LayerDesk$Chooser" 93 "LayerDesk$Layer" "parent" "LLayerDesk$Layer;") ∈ wT := wT_t (List.mem_append_right _ (List.mem_append_right _ (List.mem_append_left _ (List.mem_of_getElem? (i := 145) rfl)))) rfl
theorem k5p_4 : (Cond.fieldLink "LayerDesk$Chooser" 89 "LayerDesk$Member" "descriptor" "LLayerDesk$Descriptor;") ∈ wT := wT_t (List.mem_append_right _ (List.mem_append_right _ (List.mem_append_left _ (List.mem_of_getElem? (i := 184) rfl)))) rfl
theorem k5p_5 : (Cond.code xy_Ch_bindUsesOf xb_Ch_bindUsesOf 3 none) ∈ wT := wT_t (List.mem_append_right _ (List.mem_append_right _ (List.mem_append_left _ (List.mem_of_getElem? (i := 121) rfl)))) rfl
theorem k5p_6 : (Cond.methodLink "LayerDesk$Chooser" 85 xy_Ch_bindUsesOf) ∈ wT := wT_t (List.mem_append_right _ (List.mem_append_right _ (List.mem_append_left _ (List.mem_of_getElem? (i := 118) rfl)))) rfl
theorem k5p_7 : (Cond.instanceMethod xy_Ch_bindUsesOf) ∈ wT := wT_t (List.mem_append_right _ (List.mem_append_right _ (List.mem_append_left _ (List.mem_of_getElem? (i := 120) rfl)))) rfl
theorem k5p_8 : (Cond.selects "LayerDesk$Chooser" xy_Ch_bindUsesOf xy_Ch_bindUsesOf) ∈ wT := wT_s (q := (xy_Ch_bindUsesOf, 5)) (by decide +kernel) rfl
theorem k5p_9 : (Cond.initialized "LayerDesk$Chooser") ∈ wT := wT_t (List.mem_append_left _ (List.mem_of_getElem? (i := 4) rfl)) rfl
theorem k5p_10 : (Cond.fieldLink "LayerDesk$Chooser" 11 "LayerDesk$Chooser" "chosen" "[LLayerDesk$Descriptor;") ∈ wT := wT_t (List.mem_append_left _ (List.mem_of_getElem? (i := 82) rfl)) rfl
theorem k5p_11 : (Cond.code xy_Ch_bindOnce xb_Ch_bindOnce 3 none) ∈ wT := wT_t (List.mem_append_right _ (List.mem_append_right _ (List.mem_append_left _ (List.mem_of_getElem? (i := 117) rfl)))) rfl
theorem k5p_12 : (Cond.methodLink "LayerDesk$Chooser" 36 xy_Ch_bindOnce) ∈ wT := wT_t (List.mem_append_right _ (List.mem_append_right _ (List.mem_append_left _ (List.mem_of_getElem? (i := 114) rfl)))) rfl
theorem k5p_13 : (Cond.instanceMethod xy_Ch_bindOnce) ∈ wT := wT_t (List.mem_append_right _ (List.mem_append_right _ (List.mem_append_left _ (List.mem_of_getElem? (i := 116) rfl)))) rfl
theorem k5p_14 : (Cond.selects "LayerDesk$Chooser" xy_Ch_bindOnce xy_Ch_bindOnce) ∈ wT := wT_s (q := (xy_Ch_bindOnce, 5)) (by decide +kernel) rfl
set_option maxHeartbeats 4000000 in
set_option maxRecDepth 100000 in
theorem xc_Ch_bindOnceX (l : Launch) (D : va_G) (kA : Nat → ClassId) (sz : Nat) (ad : Nat → Nat → Nat) (E : Nat → Nat → va_E) (RL : List (Nat × Nat)) (g : Nat → Nat → Int32) (ml : Nat) (nd : Nat) (len : Nat) (wn : Nat) (fi : Int32) (lq : Nat) (L : List Nat) (hCI : CI kA ad E RL ml nd len wn L.length) (hCX : CX ad E nd fi lq L) (hTD : TDs g E nd) (hTL : TLas g ad E nd ml) (hlqm : lq ≤ ml) : Met l xy_Ch_bindOnce (.code xy_Ch_bindOnce xb_Ch_bindOnce 3 none :: wT) { frames := 21, cells := 0, slots := 0, locals := 1240 } (va_Pc [.ref (ad 0 7)] (xPre D kA sz (rp ad E RL))) (va_Qv (fun (u : Nat → Nat → va_E) => ∃ L2, CI kA ad u RL ml nd len wn L2.length ∧ CX ad u nd fi lq L2 ∧ F78 E u ∧ bO (bUg g nd fi lq) g lq L = L2) (fun (u : Nat → Nat → va_E) t => va_P D xcl (rp ad u RL) t.heap ∧ va_D (va_A (rp ad E RL) sz) (rp ad u RL)) (va_A (rp ad E RL) sz)) 0 0 (va_A (rp ad E RL) sz) := by
  refine Met.ofW (cc := xb_Ch_bindOnce) (maxL := 3) (ret := none) (by decide) rfl ?_
  intro p e s m args below meth c s₁ B hml hv
  obtain ⟨rfl, hsz, hP, hK, hD0⟩ := hv
  have hx := B.exec
  have hb := B.bytes
  have hr := B.returns
  have hT := x_hT B.pre
  have hown : s.vm.findClass xR_Ch = some m.cls := findClass_of_methodNamed B.named
  have hlocks := B.notSynchronized
  subst hsz
  have hD := hD0.self (sz := s.heap.size)
  generalize hAe : va_A (rp ad E RL) s.heap.size = A at hD ⊢
  have hA : ∀ q : Nat, s.heap.size ≤ q → A q := fun q h => by rw [← hAe]; exact Or.inr h
  have hS : va_S A s.heap s.heap [] := va_S.rf
  have hl := lv_entry ([.ref (ad 0 7)]) (n := 3) (Nat.le_of_ble_eq_true rfl)
  rw [lg_entry_eq]
  generalize (lg_sl ([.ref (ad 0 7)]) ++ List.replicate (3 - (lg_sl ([.ref (ad 0 7)])).length) Slot.unset).toArray = ls at hl ⊢
  have hl : lv_has ls 3 [(0, .ref (ad 0 7))] := hl
  have hP : va_P D xcl (rp ad E RL) s.heap := hP
  obtain ⟨hmB, hDk, hLi, hSh, hCh, hLa, hDIs, hLIs⟩ := id hCI
  obtain ⟨lf_1, q_1⟩ := id (hDk)
  have c_2 : E 0 0 = .inr (0, [.ref (ad 0 1), .ref (ad 0 5), .ref (ad 0 7), .ref (ad 0 9), .int (nI ml), .int lf_1]) := q_1
  have m_3 : (0, 0) ∈ RL := hmB 0 (by decide)
  obtain ⟨tx_4, fb_4, fe_4, hl1_4, hw2_4, q1_4, q2_4, q3_4, q4_4, hws_4⟩ := id (hLi)
  have c_5 : E 0 1 = .inr (1, [.ref (ad 0 2), .ref (ad 0 3), .ref (ad 0 4), .int (nI len), .int (nI wn)]) := q1_4
  have m_6 : (0, 1) ∈ RL := hmB 1 (by decide)
  have c_7 : E 0 2 = .inl (kA 1, 40, .inl tx_4) := q2_4
  have m_8 : (0, 2) ∈ RL := hmB 2 (by decide)
  have c_9 : E 0 3 = .inl (kA 0, 20, .inl fb_4) := q3_4
  have m_10 : (0, 3) ∈ RL := hmB 3 (by decide)
  have c_11 : E 0 4 = .inl (kA 0, 20, .inl fe_4) := q4_4
  have m_12 : (0, 4) ∈ RL := hmB 4 (by decide)
  obtain ⟨fd_13, hnd_13, q5_13, q6_13, hds_13⟩ := id (hSh)
  have c_14 : E 0 5 = .inr (2, [.ref (ad 0 6), .int (nI nd)]) := q5_13
  have m_15 : (0, 5) ∈ RL := hmB 5 (by decide)
  have c_16 : E 0 6 = .inl (kA 4, 12, .inr (.inr (.inr (.inr fd_13)))) := q6_13
  have m_17 : (0, 6) ∈ RL := hmB 6 (by decide)
  obtain ⟨cf_18, pv_18, fc_18, hcs_18, hpv_18, q7_18, q8_18, hfc_18⟩ := id (hCh)
  have c_19 : E 0 7 = .inr (3, [.ref (ad 0 5), .ref (ad 0 8), .int (nI (L.length)), .int cf_18, pv_18]) := q7_18
  have m_20 : (0, 7) ∈ RL := hmB 7 (by decide)
  have c_21 : E 0 8 = .inl (kA 4, 12, .inr (.inr (.inr (.inr fc_18)))) := q8_18
  have m_22 : (0, 8) ∈ RL := hmB 8 (by decide)
  obtain ⟨fl_23, hml_23, q9_23, hla_23⟩ := id (hLa)
  have c_24 : E 0 9 = .inl (kA 5, 5, .inr (.inr (.inr (.inr fl_23)))) := q9_23
  have m_25 : (0, 9) ∈ RL := hmB 9 (by decide)
  obtain ⟨xfi_18, xpv_18, xfc_18, xGL_18⟩ := id hCX
  rw [c_19] at xfi_18 xpv_18
  rw [c_21] at xfc_18
  have xfi_18 : cf_18 = fi := xfi_18
  have xpv_18 : pv_18 = lyv ad lq := xpv_18
  have xfc_18 : ∀ k, k < L.length → fc_18 k = some (ad (1 + L.getD k 0) 0) := xfc_18
  have xln_18 := GL_len xGL_18
  refine lv_iconst (v := 0) hx hb xd_Ch_bindOnce_0 (by decide) ?_
  refine lv_istore_n hx hb xd_Ch_bindOnce_1 rfl hl (Nat.le_of_ble_eq_true rfl) rfl (fun ls hl => ?_)
  have hl : lv_has ls 3 [(1, .int 0), (0, .ref (ad 0 7))] := hl
  refine xlab (σ := Nat × (Nat → Nat → va_E) × List Nat) (ml := 3) 2 (fun (i, E1, L1) => [(1, .int (nI i)), (0, .ref (ad 0 7))]) (fun (i, E1, L1) => []) (fun (i, E1, L1) => rp ad E1 RL) (fun (i, E1, L1) => (i ≤ 12) ∧ (bO (bUg g nd fi lq) g lq L = bAU (bUg g nd fi lq) g lq (bL (bUg g nd fi lq) (12 - i) i L1)) ∧ (CI kA ad E1 RL ml nd len wn L1.length) ∧ (CX ad E1 nd fi lq L1) ∧ (F78 E E1)) (fun (i, E1, L1) => 12 - i) ?_ (0, E, L) _ _ _ (lv_sub hl [0, 1] rfl) hP hD hS ⟨(show 0 ≤ 12 from by first | assumption | omega), (show bO (bUg g nd fi lq) g lq L = bAU (bUg g nd fi lq) g lq (bL (bUg g nd fi lq) (12 - 0) 0 L) from (show _ = _ from rfl)), (show CI kA ad E RL ml nd len wn L.length from hCI), (show CX ad E nd fi lq L from hCX), (show F78 E E from F78_rf)⟩
  intro n9 ih26 a9 ls H locs hμ hl hP hD hS hI
  subst hμ
  obtain ⟨i, E1, L1⟩ := a9
  obtain ⟨hi, hO, hCI, hCX1, hF1⟩ := hI
  have hi : i ≤ 12 := hi
  have hO : bO (bUg g nd fi lq) g lq L = bAU (bUg g nd fi lq) g lq (bL (bUg g nd fi lq) (12 - i) i L1) := hO
  have hCI : CI kA ad E1 RL ml nd len wn L1.length := hCI
  have hCX1 : CX ad E1 nd fi lq L1 := hCX1
  have hF1 : F78 E E1 := hF1
  have hl : lv_has ls 3 [(1, .int (nI i)), (0, .ref (ad 0 7))] := hl
  have hP : va_P D xcl (rp ad E1 RL) H := hP
  have hD : va_D A (rp ad E1 RL) := hD
  obtain ⟨hmB, hDk, hLi, hSh, hCh, hLa, hDIs, hLIs⟩ := id hCI
  obtain ⟨fd_27, hnd_27, q5_27, q6_27, hds_27⟩ := id (hSh)
  have c_28 : E1 0 5 = .inr (2, [.ref (ad 0 6), .int (nI nd)]) := q5_27
  have m_29 : (0, 5) ∈ RL := hmB 5 (by decide)
  have c_30 : E1 0 6 = .inl (kA 4, 12, .inr (.inr (.inr (.inr fd_27)))) := q6_27
  have m_31 : (0, 6) ∈ RL := hmB 6 (by decide)
  obtain ⟨cf_32, pv_32, fc_32, hcs_32, hpv_32, q7_32, q8_32, hfc_32⟩ := id (hCh)
  have c_33 : E1 0 7 = .inr (3, [.ref (ad 0 5), .ref (ad 0 8), .int (nI (L1.length)), .int cf_32, pv_32]) := q7_32
  have m_34 : (0, 7) ∈ RL := hmB 7 (by decide)
  have c_35 : E1 0 8 = .inl (kA 4, 12, .inr (.inr (.inr (.inr fc_32)))) := q8_32
  have m_36 : (0, 8) ∈ RL := hmB 8 (by decide)
  have hTD1 : TDs g E1 nd := TDs_78 hF1 hTD
  have hTL1 : TLas g ad E1 nd ml := TLas_78 hF1 hTL
  obtain ⟨xfi_32, xpv_32, xfc_32, xGL_32⟩ := id hCX1
  rw [c_33] at xfi_32 xpv_32
  rw [c_35] at xfc_32
  have xfi_32 : cf_32 = fi := xfi_32
  have xpv_32 : pv_32 = lyv ad lq := xpv_32
  have xfc_32 : ∀ k, k < L1.length → fc_32 k = some (ad (1 + L1.getD k 0) 0) := xfc_32
  have xln_32 := GL_len xGL_32
  refine lv_iload_n hx hb xd_Ch_bindOnce_2 rfl (lv_at hl 0 rfl) ?_
  refine lv_aload_n hx hb xd_Ch_bindOnce_3 rfl (lv_at hl 1 rfl) ?_
  refine px_get (D := D) (ci := 3) (v := .int (nI (L1.length))) (C := xR_Ch) (T := xT_Ch) (N := 5) hx hb hT xi_Ch hown hK.1 hP m_34 c_33 rfl 2 (by decide) (hT _ k5p_0) (fun _ h9 => h9) rfl xd_Ch_bindOnce_4 ?_
  refine xn_ge (a := i) (b := L1.length) (tgt := 32) hx hb xd_Ch_bindOnce_7 (by decide) (by omega) (by omega) (fun hc37 => ?_) (fun hc37 => ?_)
  · refine lv_aload_n hx hb xd_Ch_bindOnce_32 rfl (lv_at hl 1 rfl) ?_
    refine px_get (D := D) (ci := 3) (v := pv_32) (C := xR_Ch) (T := xT_Ch) (N := 5) hx hb hT xi_Ch hown hK.1 hP m_34 c_33 rfl 4 (by decide) (hT _ k5p_1) (fun _ h9 => h9) rfl xd_Ch_bindOnce_33 ?_
    rcases (show lq = 0 ∨ ∃ yq, lq = yq + 1 from by rcases Nat.eq_zero_or_pos lq with q | q; exact Or.inl q; exact Or.inr ⟨lq - 1, by omega⟩) with hyq | ⟨yq, hyq⟩
    · refine W.eq (g2 := F0 m 36 ls [.null]) (by rw [xpv_32, lyv_0 hyq]) ?_
      refine lv_astore_nN hx hb xd_Ch_bindOnce_36 rfl hl (Nat.le_of_ble_eq_true rfl) rfl (fun ls hl => ?_)
      have hl : lv_has ls 3 [(1, .null), (0, .ref (ad 0 7))] := hl
      refine xlab (σ := Nat × (Nat → Nat → va_E) × List Nat) (ml := 3) 37 (fun (y, E3, L3) => [(1, (lyv ad y)), (0, .ref (ad 0 7))]) (fun (y, E3, L3) => []) (fun (y, E3, L3) => rp ad E3 RL) (fun (y, E3, L3) => (y ≤ ml) ∧ (bO (bUg g nd fi lq) g lq L = bAU (bUg g nd fi lq) g y L3) ∧ (CI kA ad E3 RL ml nd len wn L3.length) ∧ (CX ad E3 nd fi lq L3) ∧ (F78 E E3)) (fun (y, E3, L3) => y) ?_ (0, E1, L1) _ _ _ (lv_sub hl [0, 1] rfl) hP hD hS ⟨(show 0 ≤ ml from by first | assumption | omega), (show bO (bUg g nd fi lq) g lq L = bAU (bUg g nd fi lq) g 0 L1 from by rw [hO, bL_e (by omega), hyq]), (show CI kA ad E1 RL ml nd len wn L1.length from hCI), (show CX ad E1 nd fi lq L1 from hCX1), (show F78 E E1 from hF1)⟩
      intro n9 ih38 a9 ls H locs hμ hl hP hD hS hI
      subst hμ
      obtain ⟨y, E3, L3⟩ := a9
      obtain ⟨hy, hO3, hCI, hCX3, hF3⟩ := hI
      have hy : y ≤ ml := hy
      have hO3 : bO (bUg g nd fi lq) g lq L = bAU (bUg g nd fi lq) g y L3 := hO3
      have hCI : CI kA ad E3 RL ml nd len wn L3.length := hCI
      have hCX3 : CX ad E3 nd fi lq L3 := hCX3
      have hF3 : F78 E E3 := hF3
      have hl : lv_has ls 3 [(1, (lyv ad y)), (0, .ref (ad 0 7))] := hl
      have hP : va_P D xcl (rp ad E3 RL) H := hP
      have hD : va_D A (rp ad E3 RL) := hD
      obtain ⟨hmB, hDk, hLi, hSh, hCh, hLa, hDIs, hLIs⟩ := id hCI
      obtain ⟨fd_39, hnd_39, q5_39, q6_39, hds_39⟩ := id (hSh)
      have c_40 : E3 0 5 = .inr (2, [.ref (ad 0 6), .int (nI nd)]) := q5_39
      have m_41 : (0, 5) ∈ RL := hmB 5 (by decide)
      have c_42 : E3 0 6 = .inl (kA 4, 12, .inr (.inr (.inr (.inr fd_39)))) := q6_39
      have m_43 : (0, 6) ∈ RL := hmB 6 (by decide)
      obtain ⟨fl_44, hml_44, q9_44, hla_44⟩ := id (hLa)
      have c_45 : E3 0 9 = .inl (kA 5, 5, .inr (.inr (.inr (.inr fl_44)))) := q9_44
      have m_46 : (0, 9) ∈ RL := hmB 9 (by decide)
      have hTD3 : TDs g E3 nd := TDs_78 hF3 hTD
      have hTL3 : TLas g ad E3 nd ml := TLas_78 hF3 hTL
      rcases y with _ | y
      · have hl : lv_has ls 3 [(1, .null), (0, .ref (ad 0 7))] := hl
        refine lv_aload_nN hx hb xd_Ch_bindOnce_37 rfl (lv_at hl 0 rfl) ?_
        refine lv_ifnullN (tgt := 79) hx hb xd_Ch_bindOnce_38 (by decide) ?_
        exact W.vret hx hb hr (fun t ht hW => ⟨⟨E3, rfl, ⟨L3, hCI, hCX3, hF3, by rw [hO3]; rfl⟩, by rw [ht]; exact hP, hD⟩, hS.F ht⟩) hS.2.2 xd_Ch_bindOnce_79
      · have hl : lv_has ls 3 [(1, .ref (ad (20 + y) 0)), (0, .ref (ad 0 7))] := hl
        refine lv_aload_n hx hb xd_Ch_bindOnce_37 rfl (lv_at hl 0 rfl) ?_
        refine lv_ifnull hx hb xd_Ch_bindOnce_38 ?_
        refine lv_iconst (v := 0) hx hb xd_Ch_bindOnce_41 (by decide) ?_
        refine lv_istore_n hx hb xd_Ch_bindOnce_42 rfl hl (Nat.le_of_ble_eq_true rfl) rfl (fun ls hl => ?_)
        have hl : lv_has ls 3 [(2, .int 0), (1, .ref (ad (20 + y) 0)), (0, .ref (ad 0 7))] := hl
        refine xlab (σ := Nat × (Nat → Nat → va_E) × List Nat) (ml := 3) 43 (fun (k, E4, L4) => [(2, .int (nI k)), (1, .ref (ad (20 + y) 0)), (0, .ref (ad 0 7))]) (fun (k, E4, L4) => []) (fun (k, E4, L4) => rp ad E4 RL) (fun (k, E4, L4) => (k ≤ 12) ∧ (bO (bUg g nd fi lq) g lq L = bAU (bUg g nd fi lq) g (prv g y) (bR (bUg g nd fi lq) (mdv g y) (mcv g y - k) k L4)) ∧ (CI kA ad E4 RL ml nd len wn L4.length) ∧ (CX ad E4 nd fi lq L4) ∧ (F78 E E4)) (fun (k, E4, L4) => 12 - k) ?_ (0, E3, L3) _ _ _ (lv_sub hl [0, 1, 2] rfl) hP hD hS ⟨(show 0 ≤ 12 from by first | assumption | omega), (show bO (bUg g nd fi lq) g lq L = bAU (bUg g nd fi lq) g (prv g y) (bR (bUg g nd fi lq) (mdv g y) (mcv g y - 0) 0 L3) from by rw [hO3, bAU_s (by omega) (fun x hx => prv_T (by omega) hTL x (by omega))]; rfl), (show CI kA ad E3 RL ml nd len wn L3.length from hCI), (show CX ad E3 nd fi lq L3 from hCX3), (show F78 E E3 from hF3)⟩
        intro n9 ih47 a9 ls H locs hμ hl hP hD hS hI
        subst hμ
        obtain ⟨k, E4, L4⟩ := a9
        obtain ⟨hk9, hO4, hCI, hCX4, hF4⟩ := hI
        have hk9 : k ≤ 12 := hk9
        have hO4 : bO (bUg g nd fi lq) g lq L = bAU (bUg g nd fi lq) g (prv g y) (bR (bUg g nd fi lq) (mdv g y) (mcv g y - k) k L4) := hO4
        have hCI : CI kA ad E4 RL ml nd len wn L4.length := hCI
        have hCX4 : CX ad E4 nd fi lq L4 := hCX4
        have hF4 : F78 E E4 := hF4
        have hl : lv_has ls 3 [(2, .int (nI k)), (1, .ref (ad (20 + y) 0)), (0, .ref (ad 0 7))] := hl
        have hP : va_P D xcl (rp ad E4 RL) H := hP
        have hD : va_D A (rp ad E4 RL) := hD
        obtain ⟨hmB, hDk, hLi, hSh, hCh, hLa, hDIs, hLIs⟩ := id hCI
        obtain ⟨fd_48, hnd_48, q5_48, q6_48, hds_48⟩ := id (hSh)
        have c_49 : E4 0 5 = .inr (2, [.ref (ad 0 6), .int (nI nd)]) := q5_48
        have m_50 : (0, 5) ∈ RL := hmB 5 (by decide)
        have c_51 : E4 0 6 = .inl (kA 4, 12, .inr (.inr (.inr (.inr fd_48)))) := q6_48
        have m_52 : (0, 6) ∈ RL := hmB 6 (by decide)
        obtain ⟨fl_53, hml_53, q9_53, hla_53⟩ := id (hLa)
        have c_54 : E4 0 9 = .inl (kA 5, 5, .inr (.inr (.inr (.inr fl_53)))) := q9_53
        have m_55 : (0, 9) ∈ RL := hmB 9 (by decide)
        have hTD4 : TDs g E4 nd := TDs_78 hF4 hTD
        have hTL4 : TLas g ad E4 nd ml := TLas_78 hF4 hTL
        refine lv_iload_n hx hb xd_Ch_bindOnce_43 rfl (lv_at hl 0 rfl) ?_
        refine lv_aload_n hx hb xd_Ch_bindOnce_44 rfl (lv_at hl 1 rfl) ?_
        obtain ⟨m0_56, m1_56, pv_56, op_56, mk_56, fm_56, hmk_56, hpv_56, q0_56, q1_56, hk_56⟩ := id (hLIs y (by omega))
        have c_57 : E4 (20 + y) 0 = .inr (5, [.int (nI y), pv_56, .ref (ad (20 + y) 1), .int op_56]) := q0_56
        have m_58 : (20 + y, 0) ∈ RL := m0_56
        have c_59 : E4 (20 + y) 1 = .inl (kA 6, mk_56, .inr (.inr (.inr (.inr fm_56)))) := q1_56
        have m_60 : (20 + y, 1) ∈ RL := m1_56
        obtain ⟨top_56, ⟨lq_56, hlq_56, h19_56, hpv2_56⟩, h20_56, tmd_56⟩ := TLa_get c_57 c_59 (hTL4 y (by omega))
        have c_61 : E4 (20 + y) 0 = .inr (5, [.int (nI y), (lyv ad lq_56), .ref (ad (20 + y) 1), .int op_56]) := by rw [← hpv2_56]; exact c_57
        refine px_get (D := D) (ci := 5) (v := .ref (ad (20 + y) 1)) (C := xR_Ly) (T := xT_Ly) (N := 4) hx hb hT xi_Ly hown hK.1 hP m_58 c_61 rfl 2 (by decide) (hT _ k5p_2) (fun _ h9 => h9) rfl xd_Ch_bindOnce_45 ?_
        refine px_alen hx hb hK.1 hP m_60 c_59 6 rfl xd_Ch_bindOnce_48 ?_
        refine W.eq (g2 := F0 m 49 ls [.int (nI mk_56), .int (nI k)]) rfl ?_
        refine xn_ge (a := k) (b := mk_56) (tgt := 71) hx hb xd_Ch_bindOnce_49 (by decide) (by omega) (by omega) (fun hc62 => ?_) (fun hc62 => ?_)
        · refine lv_aload_n hx hb xd_Ch_bindOnce_71 rfl (lv_at hl 1 rfl) ?_
          refine px_get (D := D) (ci := 5) (v := (lyv ad lq_56)) (C := xR_Ly) (T := xT_Ly) (N := 4) hx hb hT xi_Ly hown hK.1 hP m_58 c_61 rfl 1 (by decide) (hT _ k5p_3) (fun _ h9 => h9) rfl xd_Ch_bindOnce_72 ?_
          rcases (show lq_56 = 0 ∨ ∃ yq, lq_56 = yq + 1 from by rcases Nat.eq_zero_or_pos lq_56 with q | q; exact Or.inl q; exact Or.inr ⟨lq_56 - 1, by omega⟩) with hyq | ⟨yq, hyq⟩
          · refine W.eq (g2 := F0 m 75 ls [.null]) (by rw [lyv_0 hyq]) ?_
            refine lv_astore_nN hx hb xd_Ch_bindOnce_75 rfl hl (Nat.le_of_ble_eq_true rfl) rfl (fun ls hl => ?_)
            have hl : lv_has ls 3 [(1, .null), (2, .int (nI k)), (0, .ref (ad 0 7))] := hl
            refine lv_goto (tgt := 37) hx hb xd_Ch_bindOnce_76 (by decide) ?_
            exact ih38 (0, E4, L4) _ _ _ (show 0 < y + 1 by omega) (lv_sub hl [0, 2] rfl) hP hD hS ⟨(show 0 ≤ ml from by first | assumption | omega), (show bO (bUg g nd fi lq) g lq L = bAU (bUg g nd fi lq) g 0 L4 from by rw [hO4, bR_e (by unfold mcv; rw [h20_56, iN_nI (by omega)]; omega), prv_of h19_56 (by omega), hyq]), (show CI kA ad E4 RL ml nd len wn L4.length from hCI), (show CX ad E4 nd fi lq L4 from hCX4), (show F78 E E4 from hF4)⟩
          · refine W.eq (g2 := F0 m 75 ls [.ref (ad (20 + yq) 0)]) (by rw [lyv_s hyq]) ?_
            refine lv_astore_n hx hb xd_Ch_bindOnce_75 rfl hl (Nat.le_of_ble_eq_true rfl) rfl (fun ls hl => ?_)
            have hl : lv_has ls 3 [(1, .ref (ad (20 + yq) 0)), (2, .int (nI k)), (0, .ref (ad 0 7))] := hl
            refine lv_goto (tgt := 37) hx hb xd_Ch_bindOnce_76 (by decide) ?_
            exact ih38 (yq + 1, E4, L4) _ _ _ (show (yq + 1) < y + 1 by omega) (lv_sub hl [0, 2] rfl) hP hD hS ⟨(show (yq + 1) ≤ ml from by first | assumption | omega), (show bO (bUg g nd fi lq) g lq L = bAU (bUg g nd fi lq) g (yq + 1) L4 from by rw [hO4, bR_e (by unfold mcv; rw [h20_56, iN_nI (by omega)]; omega), prv_of h19_56 (by omega), hyq]), (show CI kA ad E4 RL ml nd len wn L4.length from hCI), (show CX ad E4 nd fi lq L4 from hCX4), (show F78 E E4 from hF4)⟩
        · refine lv_aload_n hx hb xd_Ch_bindOnce_52 rfl (lv_at hl 2 rfl) ?_
          refine lv_aload_n hx hb xd_Ch_bindOnce_53 rfl (lv_at hl 1 rfl) ?_
          refine px_get (D := D) (ci := 5) (v := .ref (ad (20 + y) 1)) (C := xR_Ly) (T := xT_Ly) (N := 4) hx hb hT xi_Ly hown hK.1 hP m_58 c_61 rfl 2 (by decide) (hT _ k5p_2) (fun _ h9 => h9) rfl xd_Ch_bindOnce_54 ?_
          refine lv_iload_n hx hb xd_Ch_bindOnce_57 rfl (lv_at hl 0 rfl) ?_
          refine px_aald (i := k) (x := (some (ad (20 + y) (10 + 10 * k)))) hx hb hK.1 hP m_60 c_59 6 rfl ((hk_56 k (by omega)).1) (by omega) (by omega) xd_Ch_bindOnce_58 ?_
          obtain ⟨hm_63, d_63, rs_63, fr_63, g2_63, g3_63, g4_63, hd_63, hrs_63, q0_63, q1_63, q2_63, q3_63, q4_63, q5_63, q6_63, q7_63⟩ := (hk_56 k (by omega)).2
          have c_64 : E4 (20 + y) (10 + 10 * k) = .inr (6, [.ref (ad (20 + y) 0), .ref (ad (1 + d_63) 0), .ref (ad (20 + y) (11 + 10 * k)), .ref (ad (20 + y) (12 + 10 * k)), .ref (ad (20 + y) (13 + 10 * k)), .ref (ad (20 + y) (14 + 10 * k))]) := q0_63
          have m_65 : (20 + y, 10 + 10 * k) ∈ RL := hm_63 0 (by decide)
          have c_66 : E4 (20 + y) (11 + 10 * k) = .inl (kA 6, rs_63, .inr (.inr (.inr (.inr fr_63)))) := q1_63
          have m_67 : (20 + y, 11 + 10 * k) ∈ RL := hm_63 1 (by decide)
          have c_68 : E4 (20 + y) (12 + 10 * k) = .inr (10, [.ref (ad (20 + y) (15 + 10 * k))]) := q2_63
          have m_69 : (20 + y, 12 + 10 * k) ∈ RL := hm_63 2 (by decide)
          have c_70 : E4 (20 + y) (13 + 10 * k) = .inr (10, [.ref (ad (20 + y) (16 + 10 * k))]) := q3_63
          have m_71 : (20 + y, 13 + 10 * k) ∈ RL := hm_63 3 (by decide)
          have c_72 : E4 (20 + y) (14 + 10 * k) = .inr (10, [.ref (ad (20 + y) (17 + 10 * k))]) := q4_63
          have m_73 : (20 + y, 14 + 10 * k) ∈ RL := hm_63 4 (by decide)
          have c_74 : E4 (20 + y) (15 + 10 * k) = .inl (kA 0, 6, .inl g2_63) := q5_63
          have m_75 : (20 + y, 15 + 10 * k) ∈ RL := hm_63 5 (by decide)
          have c_76 : E4 (20 + y) (16 + 10 * k) = .inl (kA 0, 6, .inl g3_63) := q6_63
          have m_77 : (20 + y, 16 + 10 * k) ∈ RL := hm_63 6 (by decide)
          have c_78 : E4 (20 + y) (17 + 10 * k) = .inl (kA 0, 6, .inl g4_63) := q7_63
          have m_79 : (20 + y, 17 + 10 * k) ∈ RL := hm_63 7 (by decide)
          have hdm_63 : mdv g y k = d_63 := by
            obtain ⟨dz, hdz, h21z, hvz⟩ := tmd_56 k (by omega)
            rw [c_64] at hvz
            have ez := (rp_inj hD ((hDIs d_63 hd_63).1 0 (by omega)) ((hDIs dz hdz).1 0 (by omega)) (Value.ref.inj hvz)).1
            unfold mdv
            rw [h21z, iN_nI (by omega)]; omega
          refine px_get (D := D) (ci := 6) (v := .ref (ad (1 + d_63) 0)) (C := xR_Me) (T := xT_Me) (N := 6) hx hb hT xi_Me hown hK.1 hP m_65 c_64 rfl 1 (by decide) (hT _ k5p_4) (fun _ h9 => h9) rfl xd_Ch_bindOnce_59 ?_
          have hFc := px_free hD hS hA
          obtain ⟨cf_80, pv_80, fc_80, hcs_80, hpv_80, q7_80, q8_80, hfc_80⟩ := id (hCh)
          have c_81 : E4 0 7 = .inr (3, [.ref (ad 0 5), .ref (ad 0 8), .int (nI (L4.length)), .int cf_80, pv_80]) := q7_80
          have m_82 : (0, 7) ∈ RL := hmB 7 (by decide)
          have c_83 : E4 0 8 = .inl (kA 4, 12, .inr (.inr (.inr (.inr fc_80)))) := q8_80
          have m_84 : (0, 8) ∈ RL := hmB 8 (by decide)
          refine va_callv (va_runV (As := [.ref (ad (1 + d_63) 0)]) (rest := []) ⟨hx, hb, hml, hown, hT⟩ (xc_Ch_bindUsesOfX l D kA H.size ad E4 RL g ml nd len wn fi lq L4 d_63 (by first | assumption | omega) hCX4 hTD4 hTL4 (by first | assumption | omega) (by first | assumption | omega)) (cwV 1 hT (wT_V k5p_6 k5p_7 k5p_8 k5p_9 k5p_5) rfl rfl rfl (by decide +kernel) ⟨Nat.le_of_ble_eq_true rfl, Nat.le_of_ble_eq_true rfl⟩) (px_preV hK hP hD m_82 c_81 rfl) rfl rfl hl.1 rfl (lv_room (Nat.le_of_ble_eq_true rfl)) xd_Ch_bindOnce_62 ⟨(Nat.le_of_ble_eq_true rfl), (Nat.le_of_ble_eq_true rfl)⟩) hS (fun q _ h => hFc q h) hFc (fun u86 t H1 locs ht hvm hp87 hB hz1 hk1 hS => ?_)
          obtain ⟨hP1, hD1⟩ := hB
          rw [ht] at hP1
          have hD1 := hD1.weaken (fun _ _ _ h => hFc _ h)
          generalize H1 = H at hP1 hS ⊢
          have hP := hP1
          have hD := hD1
          obtain ⟨E88, rfl⟩ : ∃ z, z = u86 := ⟨_, rfl⟩
          have hP : va_P D xcl (rp ad E88 RL) H := hP
          have hD : va_D A (rp ad E88 RL) := hD
          obtain ⟨L2, hCI, hCX2, hF9, hsp9⟩ := hp87
          have hCI : CI kA ad E88 RL ml nd len wn L2.length := hCI
          have hF2 : F78 E E88 := F78_tr hF4 hF9
          obtain ⟨hmB, hDk, hLi, hSh, hCh, hLa, hDIs, hLIs⟩ := id hCI
          refine lv_iinc (k := 0) (x := (nI k)) (v := (nI (k + 1))) hx hb xd_Ch_bindOnce_65 hl rfl (xb_inc k 1) (Nat.le_of_ble_eq_true rfl) rfl (fun ls hl => ?_)
          have hl : lv_has ls 3 [(2, .int (nI (k + 1))), (1, .ref (ad (20 + y) 0)), (0, .ref (ad 0 7))] := hl
          refine lv_goto (tgt := 43) hx hb xd_Ch_bindOnce_68 (by decide) ?_
          exact ih47 (k + 1, E88, L2) _ _ _ (show 12 - (k + 1) < 12 - k by omega) (lv_sub hl [0, 1, 2] rfl) hP hD hS ⟨(show (k + 1) ≤ 12 from by first | assumption | omega), (show bO (bUg g nd fi lq) g lq L = bAU (bUg g nd fi lq) g (prv g y) (bR (bUg g nd fi lq) (mdv g y) (mcv g y - (k + 1)) (k + 1) L2) from by rw [hO4, bR_s (by unfold mcv; rw [h20_56, iN_nI (by omega)]; omega), hdm_63, hsp9]), (show CI kA ad E88 RL ml nd len wn L2.length from hCI), (show CX ad E88 nd fi lq L2 from hCX2), (show F78 E E88 from hF2)⟩
    · refine W.eq (g2 := F0 m 36 ls [.ref (ad (20 + yq) 0)]) (by rw [xpv_32, lyv_s hyq]) ?_
      refine lv_astore_n hx hb xd_Ch_bindOnce_36 rfl hl (Nat.le_of_ble_eq_true rfl) rfl (fun ls hl => ?_)
      have hl : lv_has ls 3 [(1, .ref (ad (20 + yq) 0)), (0, .ref (ad 0 7))] := hl
      refine xlab (σ := Nat × (Nat → Nat → va_E) × List Nat) (ml := 3) 37 (fun (y, E3, L3) => [(1, (lyv ad y)), (0, .ref (ad 0 7))]) (fun (y, E3, L3) => []) (fun (y, E3, L3) => rp ad E3 RL) (fun (y, E3, L3) => (y ≤ ml) ∧ (bO (bUg g nd fi lq) g lq L = bAU (bUg g nd fi lq) g y L3) ∧ (CI kA ad E3 RL ml nd len wn L3.length) ∧ (CX ad E3 nd fi lq L3) ∧ (F78 E E3)) (fun (y, E3, L3) => y) ?_ (yq + 1, E1, L1) _ _ _ (lv_sub hl [0, 1] rfl) hP hD hS ⟨(show (yq + 1) ≤ ml from by first | assumption | omega), (show bO (bUg g nd fi lq) g lq L = bAU (bUg g nd fi lq) g (yq + 1) L1 from by rw [hO, bL_e (by omega), hyq]), (show CI kA ad E1 RL ml nd len wn L1.length from hCI), (show CX ad E1 nd fi lq L1 from hCX1), (show F78 E E1 from hF1)⟩
      intro n9 ih89 a9 ls H locs hμ hl hP hD hS hI
      subst hμ
      obtain ⟨y, E3, L3⟩ := a9
      obtain ⟨hy, hO3, hCI, hCX3, hF3⟩ := hI
      have hy : y ≤ ml := hy
      have hO3 : bO (bUg g nd fi lq) g lq L = bAU (bUg g nd fi lq) g y L3 := hO3
      have hCI : CI kA ad E3 RL ml nd len wn L3.length := hCI
      have hCX3 : CX ad E3 nd fi lq L3 := hCX3
      have hF3 : F78 E E3 := hF3
      have hl : lv_has ls 3 [(1, (lyv ad y)), (0, .ref (ad 0 7))] := hl
      have hP : va_P D xcl (rp ad E3 RL) H := hP
      have hD : va_D A (rp ad E3 RL) := hD
      obtain ⟨hmB, hDk, hLi, hSh, hCh, hLa, hDIs, hLIs⟩ := id hCI
      obtain ⟨fd_90, hnd_90, q5_90, q6_90, hds_90⟩ := id (hSh)
      have c_91 : E3 0 5 = .inr (2, [.ref (ad 0 6), .int (nI nd)]) := q5_90
      have m_92 : (0, 5) ∈ RL := hmB 5 (by decide)
      have c_93 : E3 0 6 = .inl (kA 4, 12, .inr (.inr (.inr (.inr fd_90)))) := q6_90
      have m_94 : (0, 6) ∈ RL := hmB 6 (by decide)
      obtain ⟨fl_95, hml_95, q9_95, hla_95⟩ := id (hLa)
      have c_96 : E3 0 9 = .inl (kA 5, 5, .inr (.inr (.inr (.inr fl_95)))) := q9_95
      have m_97 : (0, 9) ∈ RL := hmB 9 (by decide)
      have hTD3 : TDs g E3 nd := TDs_78 hF3 hTD
      have hTL3 : TLas g ad E3 nd ml := TLas_78 hF3 hTL
      rcases y with _ | y
      · have hl : lv_has ls 3 [(1, .null), (0, .ref (ad 0 7))] := hl
        refine lv_aload_nN hx hb xd_Ch_bindOnce_37 rfl (lv_at hl 0 rfl) ?_
        refine lv_ifnullN (tgt := 79) hx hb xd_Ch_bindOnce_38 (by decide) ?_
        exact W.vret hx hb hr (fun t ht hW => ⟨⟨E3, rfl, ⟨L3, hCI, hCX3, hF3, by rw [hO3]; rfl⟩, by rw [ht]; exact hP, hD⟩, hS.F ht⟩) hS.2.2 xd_Ch_bindOnce_79
      · have hl : lv_has ls 3 [(1, .ref (ad (20 + y) 0)), (0, .ref (ad 0 7))] := hl
        refine lv_aload_n hx hb xd_Ch_bindOnce_37 rfl (lv_at hl 0 rfl) ?_
        refine lv_ifnull hx hb xd_Ch_bindOnce_38 ?_
        refine lv_iconst (v := 0) hx hb xd_Ch_bindOnce_41 (by decide) ?_
        refine lv_istore_n hx hb xd_Ch_bindOnce_42 rfl hl (Nat.le_of_ble_eq_true rfl) rfl (fun ls hl => ?_)
        have hl : lv_has ls 3 [(2, .int 0), (1, .ref (ad (20 + y) 0)), (0, .ref (ad 0 7))] := hl
        refine xlab (σ := Nat × (Nat → Nat → va_E) × List Nat) (ml := 3) 43 (fun (k, E4, L4) => [(2, .int (nI k)), (1, .ref (ad (20 + y) 0)), (0, .ref (ad 0 7))]) (fun (k, E4, L4) => []) (fun (k, E4, L4) => rp ad E4 RL) (fun (k, E4, L4) => (k ≤ 12) ∧ (bO (bUg g nd fi lq) g lq L = bAU (bUg g nd fi lq) g (prv g y) (bR (bUg g nd fi lq) (mdv g y) (mcv g y - k) k L4)) ∧ (CI kA ad E4 RL ml nd len wn L4.length) ∧ (CX ad E4 nd fi lq L4) ∧ (F78 E E4)) (fun (k, E4, L4) => 12 - k) ?_ (0, E3, L3) _ _ _ (lv_sub hl [0, 1, 2] rfl) hP hD hS ⟨(show 0 ≤ 12 from by first | assumption | omega), (show bO (bUg g nd fi lq) g lq L = bAU (bUg g nd fi lq) g (prv g y) (bR (bUg g nd fi lq) (mdv g y) (mcv g y - 0) 0 L3) from by rw [hO3, bAU_s (by omega) (fun x hx => prv_T (by omega) hTL x (by omega))]; rfl), (show CI kA ad E3 RL ml nd len wn L3.length from hCI), (show CX ad E3 nd fi lq L3 from hCX3), (show F78 E E3 from hF3)⟩
        intro n9 ih98 a9 ls H locs hμ hl hP hD hS hI
        subst hμ
        obtain ⟨k, E4, L4⟩ := a9
        obtain ⟨hk9, hO4, hCI, hCX4, hF4⟩ := hI
        have hk9 : k ≤ 12 := hk9
        have hO4 : bO (bUg g nd fi lq) g lq L = bAU (bUg g nd fi lq) g (prv g y) (bR (bUg g nd fi lq) (mdv g y) (mcv g y - k) k L4) := hO4
        have hCI : CI kA ad E4 RL ml nd len wn L4.length := hCI
        have hCX4 : CX ad E4 nd fi lq L4 := hCX4
        have hF4 : F78 E E4 := hF4
        have hl : lv_has ls 3 [(2, .int (nI k)), (1, .ref (ad (20 + y) 0)), (0, .ref (ad 0 7))] := hl
        have hP : va_P D xcl (rp ad E4 RL) H := hP
        have hD : va_D A (rp ad E4 RL) := hD
        obtain ⟨hmB, hDk, hLi, hSh, hCh, hLa, hDIs, hLIs⟩ := id hCI
        obtain ⟨fd_99, hnd_99, q5_99, q6_99, hds_99⟩ := id (hSh)
        have c_100 : E4 0 5 = .inr (2, [.ref (ad 0 6), .int (nI nd)]) := q5_99
        have m_101 : (0, 5) ∈ RL := hmB 5 (by decide)
        have c_102 : E4 0 6 = .inl (kA 4, 12, .inr (.inr (.inr (.inr fd_99)))) := q6_99
        have m_103 : (0, 6) ∈ RL := hmB 6 (by decide)
        obtain ⟨fl_104, hml_104, q9_104, hla_104⟩ := id (hLa)
        have c_105 : E4 0 9 = .inl (kA 5, 5, .inr (.inr (.inr (.inr fl_104)))) := q9_104
        have m_106 : (0, 9) ∈ RL := hmB 9 (by decide)
        have hTD4 : TDs g E4 nd := TDs_78 hF4 hTD
        have hTL4 : TLas g ad E4 nd ml := TLas_78 hF4 hTL
        refine lv_iload_n hx hb xd_Ch_bindOnce_43 rfl (lv_at hl 0 rfl) ?_
        refine lv_aload_n hx hb xd_Ch_bindOnce_44 rfl (lv_at hl 1 rfl) ?_
        obtain ⟨m0_107, m1_107, pv_107, op_107, mk_107, fm_107, hmk_107, hpv_107, q0_107, q1_107, hk_107⟩ := id (hLIs y (by omega))
        have c_108 : E4 (20 + y) 0 = .inr (5, [.int (nI y), pv_107, .ref (ad (20 + y) 1), .int op_107]) := q0_107
        have m_109 : (20 + y, 0) ∈ RL := m0_107
        have c_110 : E4 (20 + y) 1 = .inl (kA 6, mk_107, .inr (.inr (.inr (.inr fm_107)))) := q1_107
        have m_111 : (20 + y, 1) ∈ RL := m1_107
        obtain ⟨top_107, ⟨lq_107, hlq_107, h19_107, hpv2_107⟩, h20_107, tmd_107⟩ := TLa_get c_108 c_110 (hTL4 y (by omega))
        have c_112 : E4 (20 + y) 0 = .inr (5, [.int (nI y), (lyv ad lq_107), .ref (ad (20 + y) 1), .int op_107]) := by rw [← hpv2_107]; exact c_108
        refine px_get (D := D) (ci := 5) (v := .ref (ad (20 + y) 1)) (C := xR_Ly) (T := xT_Ly) (N := 4) hx hb hT xi_Ly hown hK.1 hP m_109 c_112 rfl 2 (by decide) (hT _ k5p_2) (fun _ h9 => h9) rfl xd_Ch_bindOnce_45 ?_
        refine px_alen hx hb hK.1 hP m_111 c_110 6 rfl xd_Ch_bindOnce_48 ?_
        refine W.eq (g2 := F0 m 49 ls [.int (nI mk_107), .int (nI k)]) rfl ?_
        refine xn_ge (a := k) (b := mk_107) (tgt := 71) hx hb xd_Ch_bindOnce_49 (by decide) (by omega) (by omega) (fun hc113 => ?_) (fun hc113 => ?_)
        · refine lv_aload_n hx hb xd_Ch_bindOnce_71 rfl (lv_at hl 1 rfl) ?_
          refine px_get (D := D) (ci := 5) (v := (lyv ad lq_107)) (C := xR_Ly) (T := xT_Ly) (N := 4) hx hb hT xi_Ly hown hK.1 hP m_109 c_112 rfl 1 (by decide) (hT _ k5p_3) (fun _ h9 => h9) rfl xd_Ch_bindOnce_72 ?_
          rcases (show lq_107 = 0 ∨ ∃ yq, lq_107 = yq + 1 from by rcases Nat.eq_zero_or_pos lq_107 with q | q; exact Or.inl q; exact Or.inr ⟨lq_107 - 1, by omega⟩) with hyq | ⟨yq, hyq⟩
          · refine W.eq (g2 := F0 m 75 ls [.null]) (by rw [lyv_0 hyq]) ?_
            refine lv_astore_nN hx hb xd_Ch_bindOnce_75 rfl hl (Nat.le_of_ble_eq_true rfl) rfl (fun ls hl => ?_)
            have hl : lv_has ls 3 [(1, .null), (2, .int (nI k)), (0, .ref (ad 0 7))] := hl
            refine lv_goto (tgt := 37) hx hb xd_Ch_bindOnce_76 (by decide) ?_
            exact ih89 (0, E4, L4) _ _ _ (show 0 < y + 1 by omega) (lv_sub hl [0, 2] rfl) hP hD hS ⟨(show 0 ≤ ml from by first | assumption | omega), (show bO (bUg g nd fi lq) g lq L = bAU (bUg g nd fi lq) g 0 L4 from by rw [hO4, bR_e (by unfold mcv; rw [h20_107, iN_nI (by omega)]; omega), prv_of h19_107 (by omega), hyq]), (show CI kA ad E4 RL ml nd len wn L4.length from hCI), (show CX ad E4 nd fi lq L4 from hCX4), (show F78 E E4 from hF4)⟩
          · refine W.eq (g2 := F0 m 75 ls [.ref (ad (20 + yq) 0)]) (by rw [lyv_s hyq]) ?_
            refine lv_astore_n hx hb xd_Ch_bindOnce_75 rfl hl (Nat.le_of_ble_eq_true rfl) rfl (fun ls hl => ?_)
            have hl : lv_has ls 3 [(1, .ref (ad (20 + yq) 0)), (2, .int (nI k)), (0, .ref (ad 0 7))] := hl
            refine lv_goto (tgt := 37) hx hb xd_Ch_bindOnce_76 (by decide) ?_
            exact ih89 (yq + 1, E4, L4) _ _ _ (show (yq + 1) < y + 1 by omega) (lv_sub hl [0, 2] rfl) hP hD hS ⟨(show (yq + 1) ≤ ml from by first | assumption | omega), (show bO (bUg g nd fi lq) g lq L = bAU (bUg g nd fi lq) g (yq + 1) L4 from by rw [hO4, bR_e (by unfold mcv; rw [h20_107, iN_nI (by omega)]; omega), prv_of h19_107 (by omega), hyq]), (show CI kA ad E4 RL ml nd len wn L4.length from hCI), (show CX ad E4 nd fi lq L4 from hCX4), (show F78 E E4 from hF4)⟩
        · refine lv_aload_n hx hb xd_Ch_bindOnce_52 rfl (lv_at hl 2 rfl) ?_
          refine lv_aload_n hx hb xd_Ch_bindOnce_53 rfl (lv_at hl 1 rfl) ?_
          refine px_get (D := D) (ci := 5) (v := .ref (ad (20 + y) 1)) (C := xR_Ly) (T := xT_Ly) (N := 4) hx hb hT xi_Ly hown hK.1 hP m_109 c_112 rfl 2 (by decide) (hT _ k5p_2) (fun _ h9 => h9) rfl xd_Ch_bindOnce_54 ?_
          refine lv_iload_n hx hb xd_Ch_bindOnce_57 rfl (lv_at hl 0 rfl) ?_
          refine px_aald (i := k) (x := (some (ad (20 + y) (10 + 10 * k)))) hx hb hK.1 hP m_111 c_110 6 rfl ((hk_107 k (by omega)).1) (by omega) (by omega) xd_Ch_bindOnce_58 ?_
          obtain ⟨hm_114, d_114, rs_114, fr_114, g2_114, g3_114, g4_114, hd_114, hrs_114, q0_114, q1_114, q2_114, q3_114, q4_114, q5_114, q6_114, q7_114⟩ := (hk_107 k (by omega)).2
          have c_115 : E4 (20 + y) (10 + 10 * k) = .inr (6, [.ref (ad (20 + y) 0), .ref (ad (1 + d_114) 0), .ref (ad (20 + y) (11 + 10 * k)), .ref (ad (20 + y) (12 + 10 * k)), .ref (ad (20 + y) (13 + 10 * k)), .ref (ad (20 + y) (14 + 10 * k))]) := q0_114
          have m_116 : (20 + y, 10 + 10 * k) ∈ RL := hm_114 0 (by decide)
          have c_117 : E4 (20 + y) (11 + 10 * k) = .inl (kA 6, rs_114, .inr (.inr (.inr (.inr fr_114)))) := q1_114
          have m_118 : (20 + y, 11 + 10 * k) ∈ RL := hm_114 1 (by decide)
          have c_119 : E4 (20 + y) (12 + 10 * k) = .inr (10, [.ref (ad (20 + y) (15 + 10 * k))]) := q2_114
          have m_120 : (20 + y, 12 + 10 * k) ∈ RL := hm_114 2 (by decide)
          have c_121 : E4 (20 + y) (13 + 10 * k) = .inr (10, [.ref (ad (20 + y) (16 + 10 * k))]) := q3_114
          have m_122 : (20 + y, 13 + 10 * k) ∈ RL := hm_114 3 (by decide)
          have c_123 : E4 (20 + y) (14 + 10 * k) = .inr (10, [.ref (ad (20 + y) (17 + 10 * k))]) := q4_114
          have m_124 : (20 + y, 14 + 10 * k) ∈ RL := hm_114 4 (by decide)
          have c_125 : E4 (20 + y) (15 + 10 * k) = .inl (kA 0, 6, .inl g2_114) := q5_114
          have m_126 : (20 + y, 15 + 10 * k) ∈ RL := hm_114 5 (by decide)
          have c_127 : E4 (20 + y) (16 + 10 * k) = .inl (kA 0, 6, .inl g3_114) := q6_114
          have m_128 : (20 + y, 16 + 10 * k) ∈ RL := hm_114 6 (by decide)
          have c_129 : E4 (20 + y) (17 + 10 * k) = .inl (kA 0, 6, .inl g4_114) := q7_114
          have m_130 : (20 + y, 17 + 10 * k) ∈ RL := hm_114 7 (by decide)
          have hdm_114 : mdv g y k = d_114 := by
            obtain ⟨dz, hdz, h21z, hvz⟩ := tmd_107 k (by omega)
            rw [c_115] at hvz
            have ez := (rp_inj hD ((hDIs d_114 hd_114).1 0 (by omega)) ((hDIs dz hdz).1 0 (by omega)) (Value.ref.inj hvz)).1
            unfold mdv
            rw [h21z, iN_nI (by omega)]; omega
          refine px_get (D := D) (ci := 6) (v := .ref (ad (1 + d_114) 0)) (C := xR_Me) (T := xT_Me) (N := 6) hx hb hT xi_Me hown hK.1 hP m_116 c_115 rfl 1 (by decide) (hT _ k5p_4) (fun _ h9 => h9) rfl xd_Ch_bindOnce_59 ?_
          have hFc := px_free hD hS hA
          obtain ⟨cf_131, pv_131, fc_131, hcs_131, hpv_131, q7_131, q8_131, hfc_131⟩ := id (hCh)
          have c_132 : E4 0 7 = .inr (3, [.ref (ad 0 5), .ref (ad 0 8), .int (nI (L4.length)), .int cf_131, pv_131]) := q7_131
          have m_133 : (0, 7) ∈ RL := hmB 7 (by decide)
          have c_134 : E4 0 8 = .inl (kA 4, 12, .inr (.inr (.inr (.inr fc_131)))) := q8_131
          have m_135 : (0, 8) ∈ RL := hmB 8 (by decide)
          refine va_callv (va_runV (As := [.ref (ad (1 + d_114) 0)]) (rest := []) ⟨hx, hb, hml, hown, hT⟩ (xc_Ch_bindUsesOfX l D kA H.size ad E4 RL g ml nd len wn fi lq L4 d_114 (by first | assumption | omega) hCX4 hTD4 hTL4 (by first | assumption | omega) (by first | assumption | omega)) (cwV 1 hT (wT_V k5p_6 k5p_7 k5p_8 k5p_9 k5p_5) rfl rfl rfl (by decide +kernel) ⟨Nat.le_of_ble_eq_true rfl, Nat.le_of_ble_eq_true rfl⟩) (px_preV hK hP hD m_133 c_132 rfl) rfl rfl hl.1 rfl (lv_room (Nat.le_of_ble_eq_true rfl)) xd_Ch_bindOnce_62 ⟨(Nat.le_of_ble_eq_true rfl), (Nat.le_of_ble_eq_true rfl)⟩) hS (fun q _ h => hFc q h) hFc (fun u137 t H1 locs ht hvm hp138 hB hz1 hk1 hS => ?_)
          obtain ⟨hP1, hD1⟩ := hB
          rw [ht] at hP1
          have hD1 := hD1.weaken (fun _ _ _ h => hFc _ h)
          generalize H1 = H at hP1 hS ⊢
          have hP := hP1
          have hD := hD1
          obtain ⟨E139, rfl⟩ : ∃ z, z = u137 := ⟨_, rfl⟩
          have hP : va_P D xcl (rp ad E139 RL) H := hP
          have hD : va_D A (rp ad E139 RL) := hD
          obtain ⟨L2, hCI, hCX2, hF9, hsp9⟩ := hp138
          have hCI : CI kA ad E139 RL ml nd len wn L2.length := hCI
          have hF2 : F78 E E139 := F78_tr hF4 hF9
          obtain ⟨hmB, hDk, hLi, hSh, hCh, hLa, hDIs, hLIs⟩ := id hCI
          refine lv_iinc (k := 0) (x := (nI k)) (v := (nI (k + 1))) hx hb xd_Ch_bindOnce_65 hl rfl (xb_inc k 1) (Nat.le_of_ble_eq_true rfl) rfl (fun ls hl => ?_)
          have hl : lv_has ls 3 [(2, .int (nI (k + 1))), (1, .ref (ad (20 + y) 0)), (0, .ref (ad 0 7))] := hl
          refine lv_goto (tgt := 43) hx hb xd_Ch_bindOnce_68 (by decide) ?_
          exact ih98 (k + 1, E139, L2) _ _ _ (show 12 - (k + 1) < 12 - k by omega) (lv_sub hl [0, 1, 2] rfl) hP hD hS ⟨(show (k + 1) ≤ 12 from by first | assumption | omega), (show bO (bUg g nd fi lq) g lq L = bAU (bUg g nd fi lq) g (prv g y) (bR (bUg g nd fi lq) (mdv g y) (mcv g y - (k + 1)) (k + 1) L2) from by rw [hO4, bR_s (by unfold mcv; rw [h20_107, iN_nI (by omega)]; omega), hdm_114, hsp9]), (show CI kA ad E139 RL ml nd len wn L2.length from hCI), (show CX ad E139 nd fi lq L2 from hCX2), (show F78 E E139 from hF2)⟩
  · refine lv_iload_n hx hb xd_Ch_bindOnce_10 rfl (lv_at hl 0 rfl) ?_
    refine lv_bipush (v := 12) hx hb xd_Ch_bindOnce_11 (by decide) ?_
    refine xn_ge (a := i) (b := 12) (tgt := 32) hx hb xd_Ch_bindOnce_13 (by decide) (by omega) (by omega) (fun hc140 => ?_) (fun hc140 => ?_)
    · refine lv_aload_n hx hb xd_Ch_bindOnce_32 rfl (lv_at hl 1 rfl) ?_
      refine px_get (D := D) (ci := 3) (v := pv_32) (C := xR_Ch) (T := xT_Ch) (N := 5) hx hb hT xi_Ch hown hK.1 hP m_34 c_33 rfl 4 (by decide) (hT _ k5p_1) (fun _ h9 => h9) rfl xd_Ch_bindOnce_33 ?_
      rcases (show lq = 0 ∨ ∃ yq, lq = yq + 1 from by rcases Nat.eq_zero_or_pos lq with q | q; exact Or.inl q; exact Or.inr ⟨lq - 1, by omega⟩) with hyq | ⟨yq, hyq⟩
      · refine W.eq (g2 := F0 m 36 ls [.null]) (by rw [xpv_32, lyv_0 hyq]) ?_
        refine lv_astore_nN hx hb xd_Ch_bindOnce_36 rfl hl (Nat.le_of_ble_eq_true rfl) rfl (fun ls hl => ?_)
        have hl : lv_has ls 3 [(1, .null), (0, .ref (ad 0 7))] := hl
        refine xlab (σ := Nat × (Nat → Nat → va_E) × List Nat) (ml := 3) 37 (fun (y, E3, L3) => [(1, (lyv ad y)), (0, .ref (ad 0 7))]) (fun (y, E3, L3) => []) (fun (y, E3, L3) => rp ad E3 RL) (fun (y, E3, L3) => (y ≤ ml) ∧ (bO (bUg g nd fi lq) g lq L = bAU (bUg g nd fi lq) g y L3) ∧ (CI kA ad E3 RL ml nd len wn L3.length) ∧ (CX ad E3 nd fi lq L3) ∧ (F78 E E3)) (fun (y, E3, L3) => y) ?_ (0, E1, L1) _ _ _ (lv_sub hl [0, 1] rfl) hP hD hS ⟨(show 0 ≤ ml from by first | assumption | omega), (show bO (bUg g nd fi lq) g lq L = bAU (bUg g nd fi lq) g 0 L1 from by rw [hO, bL_e (by omega), hyq]), (show CI kA ad E1 RL ml nd len wn L1.length from hCI), (show CX ad E1 nd fi lq L1 from hCX1), (show F78 E E1 from hF1)⟩
        intro n9 ih141 a9 ls H locs hμ hl hP hD hS hI
        subst hμ
        obtain ⟨y, E3, L3⟩ := a9
        obtain ⟨hy, hO3, hCI, hCX3, hF3⟩ := hI
        have hy : y ≤ ml := hy
        have hO3 : bO (bUg g nd fi lq) g lq L = bAU (bUg g nd fi lq) g y L3 := hO3
        have hCI : CI kA ad E3 RL ml nd len wn L3.length := hCI
        have hCX3 : CX ad E3 nd fi lq L3 := hCX3
        have hF3 : F78 E E3 := hF3
        have hl : lv_has ls 3 [(1, (lyv ad y)), (0, .ref (ad 0 7))] := hl
        have hP : va_P D xcl (rp ad E3 RL) H := hP
        have hD : va_D A (rp ad E3 RL) := hD
        obtain ⟨hmB, hDk, hLi, hSh, hCh, hLa, hDIs, hLIs⟩ := id hCI
        obtain ⟨fd_142, hnd_142, q5_142, q6_142, hds_142⟩ := id (hSh)
        have c_143 : E3 0 5 = .inr (2, [.ref (ad 0 6), .int (nI nd)]) := q5_142
        have m_144 : (0, 5) ∈ RL := hmB 5 (by decide)
        have c_145 : E3 0 6 = .inl (kA 4, 12, .inr (.inr (.inr (.inr fd_142)))) := q6_142
        have m_146 : (0, 6) ∈ RL := hmB 6 (by decide)
        obtain ⟨fl_147, hml_147, q9_147, hla_147⟩ := id (hLa)
        have c_148 : E3 0 9 = .inl (kA 5, 5, .inr (.inr (.inr (.inr fl_147)))) := q9_147
        have m_149 : (0, 9) ∈ RL := hmB 9 (by decide)
        have hTD3 : TDs g E3 nd := TDs_78 hF3 hTD
        have hTL3 : TLas g ad E3 nd ml := TLas_78 hF3 hTL
        rcases y with _ | y
        · have hl : lv_has ls 3 [(1, .null), (0, .ref (ad 0 7))] := hl
          refine lv_aload_nN hx hb xd_Ch_bindOnce_37 rfl (lv_at hl 0 rfl) ?_
          refine lv_ifnullN (tgt := 79) hx hb xd_Ch_bindOnce_38 (by decide) ?_
          exact W.vret hx hb hr (fun t ht hW => ⟨⟨E3, rfl, ⟨L3, hCI, hCX3, hF3, by rw [hO3]; rfl⟩, by rw [ht]; exact hP, hD⟩, hS.F ht⟩) hS.2.2 xd_Ch_bindOnce_79
        · have hl : lv_has ls 3 [(1, .ref (ad (20 + y) 0)), (0, .ref (ad 0 7))] := hl
          refine lv_aload_n hx hb xd_Ch_bindOnce_37 rfl (lv_at hl 0 rfl) ?_
          refine lv_ifnull hx hb xd_Ch_bindOnce_38 ?_
          refine lv_iconst (v := 0) hx hb xd_Ch_bindOnce_41 (by decide) ?_
          refine lv_istore_n hx hb xd_Ch_bindOnce_42 rfl hl (Nat.le_of_ble_eq_true rfl) rfl (fun ls hl => ?_)
          have hl : lv_has ls 3 [(2, .int 0), (1, .ref (ad (20 + y) 0)), (0, .ref (ad 0 7))] := hl
          refine xlab (σ := Nat × (Nat → Nat → va_E) × List Nat) (ml := 3) 43 (fun (k, E4, L4) => [(2, .int (nI k)), (1, .ref (ad (20 + y) 0)), (0, .ref (ad 0 7))]) (fun (k, E4, L4) => []) (fun (k, E4, L4) => rp ad E4 RL) (fun (k, E4, L4) => (k ≤ 12) ∧ (bO (bUg g nd fi lq) g lq L = bAU (bUg g nd fi lq) g (prv g y) (bR (bUg g nd fi lq) (mdv g y) (mcv g y - k) k L4)) ∧ (CI kA ad E4 RL ml nd len wn L4.length) ∧ (CX ad E4 nd fi lq L4) ∧ (F78 E E4)) (fun (k, E4, L4) => 12 - k) ?_ (0, E3, L3) _ _ _ (lv_sub hl [0, 1, 2] rfl) hP hD hS ⟨(show 0 ≤ 12 from by first | assumption | omega), (show bO (bUg g nd fi lq) g lq L = bAU (bUg g nd fi lq) g (prv g y) (bR (bUg g nd fi lq) (mdv g y) (mcv g y - 0) 0 L3) from by rw [hO3, bAU_s (by omega) (fun x hx => prv_T (by omega) hTL x (by omega))]; rfl), (show CI kA ad E3 RL ml nd len wn L3.length from hCI), (show CX ad E3 nd fi lq L3 from hCX3), (show F78 E E3 from hF3)⟩
          intro n9 ih150 a9 ls H locs hμ hl hP hD hS hI
          subst hμ
          obtain ⟨k, E4, L4⟩ := a9
          obtain ⟨hk9, hO4, hCI, hCX4, hF4⟩ := hI
          have hk9 : k ≤ 12 := hk9
          have hO4 : bO (bUg g nd fi lq) g lq L = bAU (bUg g nd fi lq) g (prv g y) (bR (bUg g nd fi lq) (mdv g y) (mcv g y - k) k L4) := hO4
          have hCI : CI kA ad E4 RL ml nd len wn L4.length := hCI
          have hCX4 : CX ad E4 nd fi lq L4 := hCX4
          have hF4 : F78 E E4 := hF4
          have hl : lv_has ls 3 [(2, .int (nI k)), (1, .ref (ad (20 + y) 0)), (0, .ref (ad 0 7))] := hl
          have hP : va_P D xcl (rp ad E4 RL) H := hP
          have hD : va_D A (rp ad E4 RL) := hD
          obtain ⟨hmB, hDk, hLi, hSh, hCh, hLa, hDIs, hLIs⟩ := id hCI
          obtain ⟨fd_151, hnd_151, q5_151, q6_151, hds_151⟩ := id (hSh)
          have c_152 : E4 0 5 = .inr (2, [.ref (ad 0 6), .int (nI nd)]) := q5_151
          have m_153 : (0, 5) ∈ RL := hmB 5 (by decide)
          have c_154 : E4 0 6 = .inl (kA 4, 12, .inr (.inr (.inr (.inr fd_151)))) := q6_151
          have m_155 : (0, 6) ∈ RL := hmB 6 (by decide)
          obtain ⟨fl_156, hml_156, q9_156, hla_156⟩ := id (hLa)
          have c_157 : E4 0 9 = .inl (kA 5, 5, .inr (.inr (.inr (.inr fl_156)))) := q9_156
          have m_158 : (0, 9) ∈ RL := hmB 9 (by decide)
          have hTD4 : TDs g E4 nd := TDs_78 hF4 hTD
          have hTL4 : TLas g ad E4 nd ml := TLas_78 hF4 hTL
          refine lv_iload_n hx hb xd_Ch_bindOnce_43 rfl (lv_at hl 0 rfl) ?_
          refine lv_aload_n hx hb xd_Ch_bindOnce_44 rfl (lv_at hl 1 rfl) ?_
          obtain ⟨m0_159, m1_159, pv_159, op_159, mk_159, fm_159, hmk_159, hpv_159, q0_159, q1_159, hk_159⟩ := id (hLIs y (by omega))
          have c_160 : E4 (20 + y) 0 = .inr (5, [.int (nI y), pv_159, .ref (ad (20 + y) 1), .int op_159]) := q0_159
          have m_161 : (20 + y, 0) ∈ RL := m0_159
          have c_162 : E4 (20 + y) 1 = .inl (kA 6, mk_159, .inr (.inr (.inr (.inr fm_159)))) := q1_159
          have m_163 : (20 + y, 1) ∈ RL := m1_159
          obtain ⟨top_159, ⟨lq_159, hlq_159, h19_159, hpv2_159⟩, h20_159, tmd_159⟩ := TLa_get c_160 c_162 (hTL4 y (by omega))
          have c_164 : E4 (20 + y) 0 = .inr (5, [.int (nI y), (lyv ad lq_159), .ref (ad (20 + y) 1), .int op_159]) := by rw [← hpv2_159]; exact c_160
          refine px_get (D := D) (ci := 5) (v := .ref (ad (20 + y) 1)) (C := xR_Ly) (T := xT_Ly) (N := 4) hx hb hT xi_Ly hown hK.1 hP m_161 c_164 rfl 2 (by decide) (hT _ k5p_2) (fun _ h9 => h9) rfl xd_Ch_bindOnce_45 ?_
          refine px_alen hx hb hK.1 hP m_163 c_162 6 rfl xd_Ch_bindOnce_48 ?_
          refine W.eq (g2 := F0 m 49 ls [.int (nI mk_159), .int (nI k)]) rfl ?_
          refine xn_ge (a := k) (b := mk_159) (tgt := 71) hx hb xd_Ch_bindOnce_49 (by decide) (by omega) (by omega) (fun hc165 => ?_) (fun hc165 => ?_)
          · refine lv_aload_n hx hb xd_Ch_bindOnce_71 rfl (lv_at hl 1 rfl) ?_
            refine px_get (D := D) (ci := 5) (v := (lyv ad lq_159)) (C := xR_Ly) (T := xT_Ly) (N := 4) hx hb hT xi_Ly hown hK.1 hP m_161 c_164 rfl 1 (by decide) (hT _ k5p_3) (fun _ h9 => h9) rfl xd_Ch_bindOnce_72 ?_
            rcases (show lq_159 = 0 ∨ ∃ yq, lq_159 = yq + 1 from by rcases Nat.eq_zero_or_pos lq_159 with q | q; exact Or.inl q; exact Or.inr ⟨lq_159 - 1, by omega⟩) with hyq | ⟨yq, hyq⟩
            · refine W.eq (g2 := F0 m 75 ls [.null]) (by rw [lyv_0 hyq]) ?_
              refine lv_astore_nN hx hb xd_Ch_bindOnce_75 rfl hl (Nat.le_of_ble_eq_true rfl) rfl (fun ls hl => ?_)
              have hl : lv_has ls 3 [(1, .null), (2, .int (nI k)), (0, .ref (ad 0 7))] := hl
              refine lv_goto (tgt := 37) hx hb xd_Ch_bindOnce_76 (by decide) ?_
              exact ih141 (0, E4, L4) _ _ _ (show 0 < y + 1 by omega) (lv_sub hl [0, 2] rfl) hP hD hS ⟨(show 0 ≤ ml from by first | assumption | omega), (show bO (bUg g nd fi lq) g lq L = bAU (bUg g nd fi lq) g 0 L4 from by rw [hO4, bR_e (by unfold mcv; rw [h20_159, iN_nI (by omega)]; omega), prv_of h19_159 (by omega), hyq]), (show CI kA ad E4 RL ml nd len wn L4.length from hCI), (show CX ad E4 nd fi lq L4 from hCX4), (show F78 E E4 from hF4)⟩
            · refine W.eq (g2 := F0 m 75 ls [.ref (ad (20 + yq) 0)]) (by rw [lyv_s hyq]) ?_
              refine lv_astore_n hx hb xd_Ch_bindOnce_75 rfl hl (Nat.le_of_ble_eq_true rfl) rfl (fun ls hl => ?_)
              have hl : lv_has ls 3 [(1, .ref (ad (20 + yq) 0)), (2, .int (nI k)), (0, .ref (ad 0 7))] := hl
              refine lv_goto (tgt := 37) hx hb xd_Ch_bindOnce_76 (by decide) ?_
              exact ih141 (yq + 1, E4, L4) _ _ _ (show (yq + 1) < y + 1 by omega) (lv_sub hl [0, 2] rfl) hP hD hS ⟨(show (yq + 1) ≤ ml from by first | assumption | omega), (show bO (bUg g nd fi lq) g lq L = bAU (bUg g nd fi lq) g (yq + 1) L4 from by rw [hO4, bR_e (by unfold mcv; rw [h20_159, iN_nI (by omega)]; omega), prv_of h19_159 (by omega), hyq]), (show CI kA ad E4 RL ml nd len wn L4.length from hCI), (show CX ad E4 nd fi lq L4 from hCX4), (show F78 E E4 from hF4)⟩
          · refine lv_aload_n hx hb xd_Ch_bindOnce_52 rfl (lv_at hl 2 rfl) ?_
            refine lv_aload_n hx hb xd_Ch_bindOnce_53 rfl (lv_at hl 1 rfl) ?_
            refine px_get (D := D) (ci := 5) (v := .ref (ad (20 + y) 1)) (C := xR_Ly) (T := xT_Ly) (N := 4) hx hb hT xi_Ly hown hK.1 hP m_161 c_164 rfl 2 (by decide) (hT _ k5p_2) (fun _ h9 => h9) rfl xd_Ch_bindOnce_54 ?_
            refine lv_iload_n hx hb xd_Ch_bindOnce_57 rfl (lv_at hl 0 rfl) ?_
            refine px_aald (i := k) (x := (some (ad (20 + y) (10 + 10 * k)))) hx hb hK.1 hP m_163 c_162 6 rfl ((hk_159 k (by omega)).1) (by omega) (by omega) xd_Ch_bindOnce_58 ?_
            obtain ⟨hm_166, d_166, rs_166, fr_166, g2_166, g3_166, g4_166, hd_166, hrs_166, q0_166, q1_166, q2_166, q3_166, q4_166, q5_166, q6_166, q7_166⟩ := (hk_159 k (by omega)).2
            have c_167 : E4 (20 + y) (10 + 10 * k) = .inr (6, [.ref (ad (20 + y) 0), .ref (ad (1 + d_166) 0), .ref (ad (20 + y) (11 + 10 * k)), .ref (ad (20 + y) (12 + 10 * k)), .ref (ad (20 + y) (13 + 10 * k)), .ref (ad (20 + y) (14 + 10 * k))]) := q0_166
            have m_168 : (20 + y, 10 + 10 * k) ∈ RL := hm_166 0 (by decide)
            have c_169 : E4 (20 + y) (11 + 10 * k) = .inl (kA 6, rs_166, .inr (.inr (.inr (.inr fr_166)))) := q1_166
            have m_170 : (20 + y, 11 + 10 * k) ∈ RL := hm_166 1 (by decide)
            have c_171 : E4 (20 + y) (12 + 10 * k) = .inr (10, [.ref (ad (20 + y) (15 + 10 * k))]) := q2_166
            have m_172 : (20 + y, 12 + 10 * k) ∈ RL := hm_166 2 (by decide)
            have c_173 : E4 (20 + y) (13 + 10 * k) = .inr (10, [.ref (ad (20 + y) (16 + 10 * k))]) := q3_166
            have m_174 : (20 + y, 13 + 10 * k) ∈ RL := hm_166 3 (by decide)
            have c_175 : E4 (20 + y) (14 + 10 * k) = .inr (10, [.ref (ad (20 + y) (17 + 10 * k))]) := q4_166
            have m_176 : (20 + y, 14 + 10 * k) ∈ RL := hm_166 4 (by decide)
            have c_177 : E4 (20 + y) (15 + 10 * k) = .inl (kA 0, 6, .inl g2_166) := q5_166
            have m_178 : (20 + y, 15 + 10 * k) ∈ RL := hm_166 5 (by decide)
            have c_179 : E4 (20 + y) (16 + 10 * k) = .inl (kA 0, 6, .inl g3_166) := q6_166
            have m_180 : (20 + y, 16 + 10 * k) ∈ RL := hm_166 6 (by decide)
            have c_181 : E4 (20 + y) (17 + 10 * k) = .inl (kA 0, 6, .inl g4_166) := q7_166
            have m_182 : (20 + y, 17 + 10 * k) ∈ RL := hm_166 7 (by decide)
            have hdm_166 : mdv g y k = d_166 := by
              obtain ⟨dz, hdz, h21z, hvz⟩ := tmd_159 k (by omega)
              rw [c_167] at hvz
              have ez := (rp_inj hD ((hDIs d_166 hd_166).1 0 (by omega)) ((hDIs dz hdz).1 0 (by omega)) (Value.ref.inj hvz)).1
              unfold mdv
              rw [h21z, iN_nI (by omega)]; omega
            refine px_get (D := D) (ci := 6) (v := .ref (ad (1 + d_166) 0)) (C := xR_Me) (T := xT_Me) (N := 6) hx hb hT xi_Me hown hK.1 hP m_168 c_167 rfl 1 (by decide) (hT _ k5p_4) (fun _ h9 => h9) rfl xd_Ch_bindOnce_59 ?_
            have hFc := px_free hD hS hA
            obtain ⟨cf_183, pv_183, fc_183, hcs_183, hpv_183, q7_183, q8_183, hfc_183⟩ := id (hCh)
            have c_184 : E4 0 7 = .inr (3, [.ref (ad 0 5), .ref (ad 0 8), .int (nI (L4.length)), .int cf_183, pv_183]) := q7_183
            have m_185 : (0, 7) ∈ RL := hmB 7 (by decide)
            have c_186 : E4 0 8 = .inl (kA 4, 12, .inr (.inr (.inr (.inr fc_183)))) := q8_183
            have m_187 : (0, 8) ∈ RL := hmB 8 (by decide)
            refine va_callv (va_runV (As := [.ref (ad (1 + d_166) 0)]) (rest := []) ⟨hx, hb, hml, hown, hT⟩ (xc_Ch_bindUsesOfX l D kA H.size ad E4 RL g ml nd len wn fi lq L4 d_166 (by first | assumption | omega) hCX4 hTD4 hTL4 (by first | assumption | omega) (by first | assumption | omega)) (cwV 1 hT (wT_V k5p_6 k5p_7 k5p_8 k5p_9 k5p_5) rfl rfl rfl (by decide +kernel) ⟨Nat.le_of_ble_eq_true rfl, Nat.le_of_ble_eq_true rfl⟩) (px_preV hK hP hD m_185 c_184 rfl) rfl rfl hl.1 rfl (lv_room (Nat.le_of_ble_eq_true rfl)) xd_Ch_bindOnce_62 ⟨(Nat.le_of_ble_eq_true rfl), (Nat.le_of_ble_eq_true rfl)⟩) hS (fun q _ h => hFc q h) hFc (fun u189 t H1 locs ht hvm hp190 hB hz1 hk1 hS => ?_)
            obtain ⟨hP1, hD1⟩ := hB
            rw [ht] at hP1
            have hD1 := hD1.weaken (fun _ _ _ h => hFc _ h)
            generalize H1 = H at hP1 hS ⊢
            have hP := hP1
            have hD := hD1
            obtain ⟨E191, rfl⟩ : ∃ z, z = u189 := ⟨_, rfl⟩
            have hP : va_P D xcl (rp ad E191 RL) H := hP
            have hD : va_D A (rp ad E191 RL) := hD
            obtain ⟨L2, hCI, hCX2, hF9, hsp9⟩ := hp190
            have hCI : CI kA ad E191 RL ml nd len wn L2.length := hCI
            have hF2 : F78 E E191 := F78_tr hF4 hF9
            obtain ⟨hmB, hDk, hLi, hSh, hCh, hLa, hDIs, hLIs⟩ := id hCI
            refine lv_iinc (k := 0) (x := (nI k)) (v := (nI (k + 1))) hx hb xd_Ch_bindOnce_65 hl rfl (xb_inc k 1) (Nat.le_of_ble_eq_true rfl) rfl (fun ls hl => ?_)
            have hl : lv_has ls 3 [(2, .int (nI (k + 1))), (1, .ref (ad (20 + y) 0)), (0, .ref (ad 0 7))] := hl
            refine lv_goto (tgt := 43) hx hb xd_Ch_bindOnce_68 (by decide) ?_
            exact ih150 (k + 1, E191, L2) _ _ _ (show 12 - (k + 1) < 12 - k by omega) (lv_sub hl [0, 1, 2] rfl) hP hD hS ⟨(show (k + 1) ≤ 12 from by first | assumption | omega), (show bO (bUg g nd fi lq) g lq L = bAU (bUg g nd fi lq) g (prv g y) (bR (bUg g nd fi lq) (mdv g y) (mcv g y - (k + 1)) (k + 1) L2) from by rw [hO4, bR_s (by unfold mcv; rw [h20_159, iN_nI (by omega)]; omega), hdm_166, hsp9]), (show CI kA ad E191 RL ml nd len wn L2.length from hCI), (show CX ad E191 nd fi lq L2 from hCX2), (show F78 E E191 from hF2)⟩
      · refine W.eq (g2 := F0 m 36 ls [.ref (ad (20 + yq) 0)]) (by rw [xpv_32, lyv_s hyq]) ?_
        refine lv_astore_n hx hb xd_Ch_bindOnce_36 rfl hl (Nat.le_of_ble_eq_true rfl) rfl (fun ls hl => ?_)
        have hl : lv_has ls 3 [(1, .ref (ad (20 + yq) 0)), (0, .ref (ad 0 7))] := hl
        refine xlab (σ := Nat × (Nat → Nat → va_E) × List Nat) (ml := 3) 37 (fun (y, E3, L3) => [(1, (lyv ad y)), (0, .ref (ad 0 7))]) (fun (y, E3, L3) => []) (fun (y, E3, L3) => rp ad E3 RL) (fun (y, E3, L3) => (y ≤ ml) ∧ (bO (bUg g nd fi lq) g lq L = bAU (bUg g nd fi lq) g y L3) ∧ (CI kA ad E3 RL ml nd len wn L3.length) ∧ (CX ad E3 nd fi lq L3) ∧ (F78 E E3)) (fun (y, E3, L3) => y) ?_ (yq + 1, E1, L1) _ _ _ (lv_sub hl [0, 1] rfl) hP hD hS ⟨(show (yq + 1) ≤ ml from by first | assumption | omega), (show bO (bUg g nd fi lq) g lq L = bAU (bUg g nd fi lq) g (yq + 1) L1 from by rw [hO, bL_e (by omega), hyq]), (show CI kA ad E1 RL ml nd len wn L1.length from hCI), (show CX ad E1 nd fi lq L1 from hCX1), (show F78 E E1 from hF1)⟩
        intro n9 ih192 a9 ls H locs hμ hl hP hD hS hI
        subst hμ
        obtain ⟨y, E3, L3⟩ := a9
        obtain ⟨hy, hO3, hCI, hCX3, hF3⟩ := hI
        have hy : y ≤ ml := hy
        have hO3 : bO (bUg g nd fi lq) g lq L = bAU (bUg g nd fi lq) g y L3 := hO3
        have hCI : CI kA ad E3 RL ml nd len wn L3.length := hCI
        have hCX3 : CX ad E3 nd fi lq L3 := hCX3
        have hF3 : F78 E E3 := hF3
        have hl : lv_has ls 3 [(1, (lyv ad y)), (0, .ref (ad 0 7))] := hl
        have hP : va_P D xcl (rp ad E3 RL) H := hP
        have hD : va_D A (rp ad E3 RL) := hD
        obtain ⟨hmB, hDk, hLi, hSh, hCh, hLa, hDIs, hLIs⟩ := id hCI
        obtain ⟨fd_193, hnd_193, q5_193, q6_193, hds_193⟩ := id (hSh)
        have c_194 : E3 0 5 = .inr (2, [.ref (ad 0 6), .int (nI nd)]) := q5_193
        have m_195 : (0, 5) ∈ RL := hmB 5 (by decide)
        have c_196 : E3 0 6 = .inl (kA 4, 12, .inr (.inr (.inr (.inr fd_193)))) := q6_193
        have m_197 : (0, 6) ∈ RL := hmB 6 (by decide)
        obtain ⟨fl_198, hml_198, q9_198, hla_198⟩ := id (hLa)
        have c_199 : E3 0 9 = .inl (kA 5, 5, .inr (.inr (.inr (.inr fl_198)))) := q9_198
        have m_200 : (0, 9) ∈ RL := hmB 9 (by decide)
        have hTD3 : TDs g E3 nd := TDs_78 hF3 hTD
        have hTL3 : TLas g ad E3 nd ml := TLas_78 hF3 hTL
        rcases y with _ | y
        · have hl : lv_has ls 3 [(1, .null), (0, .ref (ad 0 7))] := hl
          refine lv_aload_nN hx hb xd_Ch_bindOnce_37 rfl (lv_at hl 0 rfl) ?_
          refine lv_ifnullN (tgt := 79) hx hb xd_Ch_bindOnce_38 (by decide) ?_
          exact W.vret hx hb hr (fun t ht hW => ⟨⟨E3, rfl, ⟨L3, hCI, hCX3, hF3, by rw [hO3]; rfl⟩, by rw [ht]; exact hP, hD⟩, hS.F ht⟩) hS.2.2 xd_Ch_bindOnce_79
        · have hl : lv_has ls 3 [(1, .ref (ad (20 + y) 0)), (0, .ref (ad 0 7))] := hl
          refine lv_aload_n hx hb xd_Ch_bindOnce_37 rfl (lv_at hl 0 rfl) ?_
          refine lv_ifnull hx hb xd_Ch_bindOnce_38 ?_
          refine lv_iconst (v := 0) hx hb xd_Ch_bindOnce_41 (by decide) ?_
          refine lv_istore_n hx hb xd_Ch_bindOnce_42 rfl hl (Nat.le_of_ble_eq_true rfl) rfl (fun ls hl => ?_)
          have hl : lv_has ls 3 [(2, .int 0), (1, .ref (ad (20 + y) 0)), (0, .ref (ad 0 7))] := hl
          refine xlab (σ := Nat × (Nat → Nat → va_E) × List Nat) (ml := 3) 43 (fun (k, E4, L4) => [(2, .int (nI k)), (1, .ref (ad (20 + y) 0)), (0, .ref (ad 0 7))]) (fun (k, E4, L4) => []) (fun (k, E4, L4) => rp ad E4 RL) (fun (k, E4, L4) => (k ≤ 12) ∧ (bO (bUg g nd fi lq) g lq L = bAU (bUg g nd fi lq) g (prv g y) (bR (bUg g nd fi lq) (mdv g y) (mcv g y - k) k L4)) ∧ (CI kA ad E4 RL ml nd len wn L4.length) ∧ (CX ad E4 nd fi lq L4) ∧ (F78 E E4)) (fun (k, E4, L4) => 12 - k) ?_ (0, E3, L3) _ _ _ (lv_sub hl [0, 1, 2] rfl) hP hD hS ⟨(show 0 ≤ 12 from by first | assumption | omega), (show bO (bUg g nd fi lq) g lq L = bAU (bUg g nd fi lq) g (prv g y) (bR (bUg g nd fi lq) (mdv g y) (mcv g y - 0) 0 L3) from by rw [hO3, bAU_s (by omega) (fun x hx => prv_T (by omega) hTL x (by omega))]; rfl), (show CI kA ad E3 RL ml nd len wn L3.length from hCI), (show CX ad E3 nd fi lq L3 from hCX3), (show F78 E E3 from hF3)⟩
          intro n9 ih201 a9 ls H locs hμ hl hP hD hS hI
          subst hμ
          obtain ⟨k, E4, L4⟩ := a9
          obtain ⟨hk9, hO4, hCI, hCX4, hF4⟩ := hI
          have hk9 : k ≤ 12 := hk9
          have hO4 : bO (bUg g nd fi lq) g lq L = bAU (bUg g nd fi lq) g (prv g y) (bR (bUg g nd fi lq) (mdv g y) (mcv g y - k) k L4) := hO4
          have hCI : CI kA ad E4 RL ml nd len wn L4.length := hCI
          have hCX4 : CX ad E4 nd fi lq L4 := hCX4
          have hF4 : F78 E E4 := hF4
          have hl : lv_has ls 3 [(2, .int (nI k)), (1, .ref (ad (20 + y) 0)), (0, .ref (ad 0 7))] := hl
          have hP : va_P D xcl (rp ad E4 RL) H := hP
          have hD : va_D A (rp ad E4 RL) := hD
          obtain ⟨hmB, hDk, hLi, hSh, hCh, hLa, hDIs, hLIs⟩ := id hCI
          obtain ⟨fd_202, hnd_202, q5_202, q6_202, hds_202⟩ := id (hSh)
          have c_203 : E4 0 5 = .inr (2, [.ref (ad 0 6), .int (nI nd)]) := q5_202
          have m_204 : (0, 5) ∈ RL := hmB 5 (by decide)
          have c_205 : E4 0 6 = .inl (kA 4, 12, .inr (.inr (.inr (.inr fd_202)))) := q6_202
          have m_206 : (0, 6) ∈ RL := hmB 6 (by decide)
          obtain ⟨fl_207, hml_207, q9_207, hla_207⟩ := id (hLa)
          have c_208 : E4 0 9 = .inl (kA 5, 5, .inr (.inr (.inr (.inr fl_207)))) := q9_207
          have m_209 : (0, 9) ∈ RL := hmB 9 (by decide)
          have hTD4 : TDs g E4 nd := TDs_78 hF4 hTD
          have hTL4 : TLas g ad E4 nd ml := TLas_78 hF4 hTL
          refine lv_iload_n hx hb xd_Ch_bindOnce_43 rfl (lv_at hl 0 rfl) ?_
          refine lv_aload_n hx hb xd_Ch_bindOnce_44 rfl (lv_at hl 1 rfl) ?_
          obtain ⟨m0_210, m1_210, pv_210, op_210, mk_210, fm_210, hmk_210, hpv_210, q0_210, q1_210, hk_210⟩ := id (hLIs y (by omega))
          have c_211 : E4 (20 + y) 0 = .inr (5, [.int (nI y), pv_210, .ref (ad (20 + y) 1), .int op_210]) := q0_210
          have m_212 : (20 + y, 0) ∈ RL := m0_210
          have c_213 : E4 (20 + y) 1 = .inl (kA 6, mk_210, .inr (.inr (.inr (.inr fm_210)))) := q1_210
          have m_214 : (20 + y, 1) ∈ RL := m1_210
          obtain ⟨top_210, ⟨lq_210, hlq_210, h19_210, hpv2_210⟩, h20_210, tmd_210⟩ := TLa_get c_211 c_213 (hTL4 y (by omega))
          have c_215 : E4 (20 + y) 0 = .inr (5, [.int (nI y), (lyv ad lq_210), .ref (ad (20 + y) 1), .int op_210]) := by rw [← hpv2_210]; exact c_211
          refine px_get (D := D) (ci := 5) (v := .ref (ad (20 + y) 1)) (C := xR_Ly) (T := xT_Ly) (N := 4) hx hb hT xi_Ly hown hK.1 hP m_212 c_215 rfl 2 (by decide) (hT _ k5p_2) (fun _ h9 => h9) rfl xd_Ch_bindOnce_45 ?_
          refine px_alen hx hb hK.1 hP m_214 c_213 6 rfl xd_Ch_bindOnce_48 ?_
          refine W.eq (g2 := F0 m 49 ls [.int (nI mk_210), .int (nI k)]) rfl ?_
          refine xn_ge (a := k) (b := mk_210) (tgt := 71) hx hb xd_Ch_bindOnce_49 (by decide) (by omega) (by omega) (fun hc216 => ?_) (fun hc216 => ?_)
          · refine lv_aload_n hx hb xd_Ch_bindOnce_71 rfl (lv_at hl 1 rfl) ?_
            refine px_get (D := D) (ci := 5) (v := (lyv ad lq_210)) (C := xR_Ly) (T := xT_Ly) (N := 4) hx hb hT xi_Ly hown hK.1 hP m_212 c_215 rfl 1 (by decide) (hT _ k5p_3) (fun _ h9 => h9) rfl xd_Ch_bindOnce_72 ?_
            rcases (show lq_210 = 0 ∨ ∃ yq, lq_210 = yq + 1 from by rcases Nat.eq_zero_or_pos lq_210 with q | q; exact Or.inl q; exact Or.inr ⟨lq_210 - 1, by omega⟩) with hyq | ⟨yq, hyq⟩
            · refine W.eq (g2 := F0 m 75 ls [.null]) (by rw [lyv_0 hyq]) ?_
              refine lv_astore_nN hx hb xd_Ch_bindOnce_75 rfl hl (Nat.le_of_ble_eq_true rfl) rfl (fun ls hl => ?_)
              have hl : lv_has ls 3 [(1, .null), (2, .int (nI k)), (0, .ref (ad 0 7))] := hl
              refine lv_goto (tgt := 37) hx hb xd_Ch_bindOnce_76 (by decide) ?_
              exact ih192 (0, E4, L4) _ _ _ (show 0 < y + 1 by omega) (lv_sub hl [0, 2] rfl) hP hD hS ⟨(show 0 ≤ ml from by first | assumption | omega), (show bO (bUg g nd fi lq) g lq L = bAU (bUg g nd fi lq) g 0 L4 from by rw [hO4, bR_e (by unfold mcv; rw [h20_210, iN_nI (by omega)]; omega), prv_of h19_210 (by omega), hyq]), (show CI kA ad E4 RL ml nd len wn L4.length from hCI), (show CX ad E4 nd fi lq L4 from hCX4), (show F78 E E4 from hF4)⟩
            · refine W.eq (g2 := F0 m 75 ls [.ref (ad (20 + yq) 0)]) (by rw [lyv_s hyq]) ?_
              refine lv_astore_n hx hb xd_Ch_bindOnce_75 rfl hl (Nat.le_of_ble_eq_true rfl) rfl (fun ls hl => ?_)
              have hl : lv_has ls 3 [(1, .ref (ad (20 + yq) 0)), (2, .int (nI k)), (0, .ref (ad 0 7))] := hl
              refine lv_goto (tgt := 37) hx hb xd_Ch_bindOnce_76 (by decide) ?_
              exact ih192 (yq + 1, E4, L4) _ _ _ (show (yq + 1) < y + 1 by omega) (lv_sub hl [0, 2] rfl) hP hD hS ⟨(show (yq + 1) ≤ ml from by first | assumption | omega), (show bO (bUg g nd fi lq) g lq L = bAU (bUg g nd fi lq) g (yq + 1) L4 from by rw [hO4, bR_e (by unfold mcv; rw [h20_210, iN_nI (by omega)]; omega), prv_of h19_210 (by omega), hyq]), (show CI kA ad E4 RL ml nd len wn L4.length from hCI), (show CX ad E4 nd fi lq L4 from hCX4), (show F78 E E4 from hF4)⟩
          · refine lv_aload_n hx hb xd_Ch_bindOnce_52 rfl (lv_at hl 2 rfl) ?_
            refine lv_aload_n hx hb xd_Ch_bindOnce_53 rfl (lv_at hl 1 rfl) ?_
            refine px_get (D := D) (ci := 5) (v := .ref (ad (20 + y) 1)) (C := xR_Ly) (T := xT_Ly) (N := 4) hx hb hT xi_Ly hown hK.1 hP m_212 c_215 rfl 2 (by decide) (hT _ k5p_2) (fun _ h9 => h9) rfl xd_Ch_bindOnce_54 ?_
            refine lv_iload_n hx hb xd_Ch_bindOnce_57 rfl (lv_at hl 0 rfl) ?_
            refine px_aald (i := k) (x := (some (ad (20 + y) (10 + 10 * k)))) hx hb hK.1 hP m_214 c_213 6 rfl ((hk_210 k (by omega)).1) (by omega) (by omega) xd_Ch_bindOnce_58 ?_
            obtain ⟨hm_217, d_217, rs_217, fr_217, g2_217, g3_217, g4_217, hd_217, hrs_217, q0_217, q1_217, q2_217, q3_217, q4_217, q5_217, q6_217, q7_217⟩ := (hk_210 k (by omega)).2
            have c_218 : E4 (20 + y) (10 + 10 * k) = .inr (6, [.ref (ad (20 + y) 0), .ref (ad (1 + d_217) 0), .ref (ad (20 + y) (11 + 10 * k)), .ref (ad (20 + y) (12 + 10 * k)), .ref (ad (20 + y) (13 + 10 * k)), .ref (ad (20 + y) (14 + 10 * k))]) := q0_217
            have m_219 : (20 + y, 10 + 10 * k) ∈ RL := hm_217 0 (by decide)
            have c_220 : E4 (20 + y) (11 + 10 * k) = .inl (kA 6, rs_217, .inr (.inr (.inr (.inr fr_217)))) := q1_217
            have m_221 : (20 + y, 11 + 10 * k) ∈ RL := hm_217 1 (by decide)
            have c_222 : E4 (20 + y) (12 + 10 * k) = .inr (10, [.ref (ad (20 + y) (15 + 10 * k))]) := q2_217
            have m_223 : (20 + y, 12 + 10 * k) ∈ RL := hm_217 2 (by decide)
            have c_224 : E4 (20 + y) (13 + 10 * k) = .inr (10, [.ref (ad (20 + y) (16 + 10 * k))]) := q3_217
            have m_225 : (20 + y, 13 + 10 * k) ∈ RL := hm_217 3 (by decide)
            have c_226 : E4 (20 + y) (14 + 10 * k) = .inr (10, [.ref (ad (20 + y) (17 + 10 * k))]) := q4_217
            have m_227 : (20 + y, 14 + 10 * k) ∈ RL := hm_217 4 (by decide)
            have c_228 : E4 (20 + y) (15 + 10 * k) = .inl (kA 0, 6, .inl g2_217) := q5_217
            have m_229 : (20 + y, 15 + 10 * k) ∈ RL := hm_217 5 (by decide)
            have c_230 : E4 (20 + y) (16 + 10 * k) = .inl (kA 0, 6, .inl g3_217) := q6_217
            have m_231 : (20 + y, 16 + 10 * k) ∈ RL := hm_217 6 (by decide)
            have c_232 : E4 (20 + y) (17 + 10 * k) = .inl (kA 0, 6, .inl g4_217) := q7_217
            have m_233 : (20 + y, 17 + 10 * k) ∈ RL := hm_217 7 (by decide)
            have hdm_217 : mdv g y k = d_217 := by
              obtain ⟨dz, hdz, h21z, hvz⟩ := tmd_210 k (by omega)
              rw [c_218] at hvz
              have ez := (rp_inj hD ((hDIs d_217 hd_217).1 0 (by omega)) ((hDIs dz hdz).1 0 (by omega)) (Value.ref.inj hvz)).1
              unfold mdv
              rw [h21z, iN_nI (by omega)]; omega
            refine px_get (D := D) (ci := 6) (v := .ref (ad (1 + d_217) 0)) (C := xR_Me) (T := xT_Me) (N := 6) hx hb hT xi_Me hown hK.1 hP m_219 c_218 rfl 1 (by decide) (hT _ k5p_4) (fun _ h9 => h9) rfl xd_Ch_bindOnce_59 ?_
            have hFc := px_free hD hS hA
            obtain ⟨cf_234, pv_234, fc_234, hcs_234, hpv_234, q7_234, q8_234, hfc_234⟩ := id (hCh)
            have c_235 : E4 0 7 = .inr (3, [.ref (ad 0 5), .ref (ad 0 8), .int (nI (L4.length)), .int cf_234, pv_234]) := q7_234
            have m_236 : (0, 7) ∈ RL := hmB 7 (by decide)
            have c_237 : E4 0 8 = .inl (kA 4, 12, .inr (.inr (.inr (.inr fc_234)))) := q8_234
            have m_238 : (0, 8) ∈ RL := hmB 8 (by decide)
            refine va_callv (va_runV (As := [.ref (ad (1 + d_217) 0)]) (rest := []) ⟨hx, hb, hml, hown, hT⟩ (xc_Ch_bindUsesOfX l D kA H.size ad E4 RL g ml nd len wn fi lq L4 d_217 (by first | assumption | omega) hCX4 hTD4 hTL4 (by first | assumption | omega) (by first | assumption | omega)) (cwV 1 hT (wT_V k5p_6 k5p_7 k5p_8 k5p_9 k5p_5) rfl rfl rfl (by decide +kernel) ⟨Nat.le_of_ble_eq_true rfl, Nat.le_of_ble_eq_true rfl⟩) (px_preV hK hP hD m_236 c_235 rfl) rfl rfl hl.1 rfl (lv_room (Nat.le_of_ble_eq_true rfl)) xd_Ch_bindOnce_62 ⟨(Nat.le_of_ble_eq_true rfl), (Nat.le_of_ble_eq_true rfl)⟩) hS (fun q _ h => hFc q h) hFc (fun u240 t H1 locs ht hvm hp241 hB hz1 hk1 hS => ?_)
            obtain ⟨hP1, hD1⟩ := hB
            rw [ht] at hP1
            have hD1 := hD1.weaken (fun _ _ _ h => hFc _ h)
            generalize H1 = H at hP1 hS ⊢
            have hP := hP1
            have hD := hD1
            obtain ⟨E242, rfl⟩ : ∃ z, z = u240 := ⟨_, rfl⟩
            have hP : va_P D xcl (rp ad E242 RL) H := hP
            have hD : va_D A (rp ad E242 RL) := hD
            obtain ⟨L2, hCI, hCX2, hF9, hsp9⟩ := hp241
            have hCI : CI kA ad E242 RL ml nd len wn L2.length := hCI
            have hF2 : F78 E E242 := F78_tr hF4 hF9
            obtain ⟨hmB, hDk, hLi, hSh, hCh, hLa, hDIs, hLIs⟩ := id hCI
            refine lv_iinc (k := 0) (x := (nI k)) (v := (nI (k + 1))) hx hb xd_Ch_bindOnce_65 hl rfl (xb_inc k 1) (Nat.le_of_ble_eq_true rfl) rfl (fun ls hl => ?_)
            have hl : lv_has ls 3 [(2, .int (nI (k + 1))), (1, .ref (ad (20 + y) 0)), (0, .ref (ad 0 7))] := hl
            refine lv_goto (tgt := 43) hx hb xd_Ch_bindOnce_68 (by decide) ?_
            exact ih201 (k + 1, E242, L2) _ _ _ (show 12 - (k + 1) < 12 - k by omega) (lv_sub hl [0, 1, 2] rfl) hP hD hS ⟨(show (k + 1) ≤ 12 from by first | assumption | omega), (show bO (bUg g nd fi lq) g lq L = bAU (bUg g nd fi lq) g (prv g y) (bR (bUg g nd fi lq) (mdv g y) (mcv g y - (k + 1)) (k + 1) L2) from by rw [hO4, bR_s (by unfold mcv; rw [h20_210, iN_nI (by omega)]; omega), hdm_217, hsp9]), (show CI kA ad E242 RL ml nd len wn L2.length from hCI), (show CX ad E242 nd fi lq L2 from hCX2), (show F78 E E242 from hF2)⟩
    · refine lv_aload_n hx hb xd_Ch_bindOnce_16 rfl (lv_at hl 1 rfl) ?_
      refine lv_aload_n hx hb xd_Ch_bindOnce_17 rfl (lv_at hl 1 rfl) ?_
      refine px_get (D := D) (ci := 3) (v := .ref (ad 0 8)) (C := xR_Ch) (T := xT_Ch) (N := 5) hx hb hT xi_Ch hown hK.1 hP m_34 c_33 rfl 1 (by decide) (hT _ k5p_10) (fun _ h9 => h9) rfl xd_Ch_bindOnce_18 ?_
      refine lv_iload_n hx hb xd_Ch_bindOnce_21 rfl (lv_at hl 0 rfl) ?_
      refine px_aald (i := i) (x := (some (ad (1 + L1.getD i 0) 0))) hx hb hK.1 hP m_36 c_35 4 rfl (xfc_32 i (by omega)) (by omega) (by decide) xd_Ch_bindOnce_22 ?_
      have hFc := px_free hD hS hA
      refine va_callv (va_runV (As := [.ref (ad (1 + L1.getD i 0) 0)]) (rest := []) ⟨hx, hb, hml, hown, hT⟩ (xc_Ch_bindUsesOfX l D kA H.size ad E1 RL g ml nd len wn fi lq L1 (L1.getD i 0) (by first | assumption | omega) hCX1 hTD1 hTL1 (by first | assumption | omega) (hCX1.2.2.2.1 _ (getD_mem (by omega)))) (cwV 1 hT (wT_V k5p_6 k5p_7 k5p_8 k5p_9 k5p_5) rfl rfl rfl (by decide +kernel) ⟨Nat.le_of_ble_eq_true rfl, Nat.le_of_ble_eq_true rfl⟩) (px_preV hK hP hD m_34 c_33 rfl) rfl rfl hl.1 rfl (lv_room (Nat.le_of_ble_eq_true rfl)) xd_Ch_bindOnce_23 ⟨(Nat.le_of_ble_eq_true rfl), (Nat.le_of_ble_eq_true rfl)⟩) hS (fun q _ h => hFc q h) hFc (fun u244 t H1 locs ht hvm hp245 hB hz1 hk1 hS => ?_)
      obtain ⟨hP1, hD1⟩ := hB
      rw [ht] at hP1
      have hD1 := hD1.weaken (fun _ _ _ h => hFc _ h)
      generalize H1 = H at hP1 hS ⊢
      have hP := hP1
      have hD := hD1
      obtain ⟨E246, rfl⟩ : ∃ z, z = u244 := ⟨_, rfl⟩
      have hP : va_P D xcl (rp ad E246 RL) H := hP
      have hD : va_D A (rp ad E246 RL) := hD
      obtain ⟨L2, hCI, hCX2, hF9, hsp9⟩ := hp245
      have hCI : CI kA ad E246 RL ml nd len wn L2.length := hCI
      have hF2 : F78 E E246 := F78_tr hF1 hF9
      obtain ⟨hmB, hDk, hLi, hSh, hCh, hLa, hDIs, hLIs⟩ := id hCI
      refine lv_iinc (k := 0) (x := (nI i)) (v := (nI (i + 1))) hx hb xd_Ch_bindOnce_26 hl rfl (xb_inc i 1) (Nat.le_of_ble_eq_true rfl) rfl (fun ls hl => ?_)
      have hl : lv_has ls 3 [(1, .int (nI (i + 1))), (0, .ref (ad 0 7))] := hl
      refine lv_goto (tgt := 2) hx hb xd_Ch_bindOnce_29 (by decide) ?_
      exact ih26 (i + 1, E246, L2) _ _ _ (show 12 - (i + 1) < 12 - i by omega) (lv_sub hl [0, 1] rfl) hP hD hS ⟨(show (i + 1) ≤ 12 from by first | assumption | omega), (show bO (bUg g nd fi lq) g lq L = bAU (bUg g nd fi lq) g lq (bL (bUg g nd fi lq) (12 - (i + 1)) (i + 1) L2) from by rw [hO, bL_s (by omega) (by omega), hsp9]), (show CI kA ad E246 RL ml nd len wn L2.length from hCI), (show CX ad E246 nd fi lq L2 from hCX2), (show F78 E E246 from hF2)⟩
set_option maxHeartbeats 4000000 in
set_option maxRecDepth 100000 in
theorem xc_Ch_bindX (l : Launch) (D : va_G) (kA : Nat → ClassId) (sz : Nat) (ad : Nat → Nat → Nat) (E : Nat → Nat → va_E) (RL : List (Nat × Nat)) (g : Nat → Nat → Int32) (ml : Nat) (nd : Nat) (len : Nat) (wn : Nat) (fi : Int32) (lq : Nat) (L : List Nat) (hCI : CI kA ad E RL ml nd len wn L.length) (hCX : CX ad E nd fi lq L) (hTD : TDs g E nd) (hTL : TLas g ad E nd ml) (hlqm : lq ≤ ml) : Met l xy_Ch_bind (.code xy_Ch_bind xb_Ch_bind 3 none :: wT) { frames := 22, cells := 0, slots := 0, locals := 1262 } (va_Pc [.ref (ad 0 7)] (xPre D kA sz (rp ad E RL))) (va_Qv (fun (u : Nat → Nat → va_E) => ∃ L2, CI kA ad u RL ml nd len wn L2.length ∧ CX ad u nd fi lq L2 ∧ F78 E u ∧ bIt (bUg g nd fi lq) g lq 13 L = L2) (fun (u : Nat → Nat → va_E) t => va_P D xcl (rp ad u RL) t.heap ∧ va_D (va_A (rp ad E RL) sz) (rp ad u RL)) (va_A (rp ad E RL) sz)) 0 0 (va_A (rp ad E RL) sz) := by
  refine Met.ofW (cc := xb_Ch_bind) (maxL := 3) (ret := none) (by decide) rfl ?_
  intro p e s m args below meth c s₁ B hml hv
  obtain ⟨rfl, hsz, hP, hK, hD0⟩ := hv
  have hx := B.exec
  have hb := B.bytes
  have hr := B.returns
  have hT := x_hT B.pre
  have hown : s.vm.findClass xR_Ch = some m.cls := findClass_of_methodNamed B.named
  have hlocks := B.notSynchronized
  subst hsz
  have hD := hD0.self (sz := s.heap.size)
  generalize hAe : va_A (rp ad E RL) s.heap.size = A at hD ⊢
  have hA : ∀ q : Nat, s.heap.size ≤ q → A q := fun q h => by rw [← hAe]; exact Or.inr h
  have hS : va_S A s.heap s.heap [] := va_S.rf
  have hl := lv_entry ([.ref (ad 0 7)]) (n := 3) (Nat.le_of_ble_eq_true rfl)
  rw [lg_entry_eq]
  generalize (lg_sl ([.ref (ad 0 7)]) ++ List.replicate (3 - (lg_sl ([.ref (ad 0 7)])).length) Slot.unset).toArray = ls at hl ⊢
  have hl : lv_has ls 3 [(0, .ref (ad 0 7))] := hl
  have hP : va_P D xcl (rp ad E RL) s.heap := hP
  obtain ⟨hmB, hDk, hLi, hSh, hCh, hLa, hDIs, hLIs⟩ := id hCI
  obtain ⟨lf_1, q_1⟩ := id (hDk)
  have c_2 : E 0 0 = .inr (0, [.ref (ad 0 1), .ref (ad 0 5), .ref (ad 0 7), .ref (ad 0 9), .int (nI ml), .int lf_1]) := q_1
  have m_3 : (0, 0) ∈ RL := hmB 0 (by decide)
  obtain ⟨tx_4, fb_4, fe_4, hl1_4, hw2_4, q1_4, q2_4, q3_4, q4_4, hws_4⟩ := id (hLi)
  have c_5 : E 0 1 = .inr (1, [.ref (ad 0 2), .ref (ad 0 3), .ref (ad 0 4), .int (nI len), .int (nI wn)]) := q1_4
  have m_6 : (0, 1) ∈ RL := hmB 1 (by decide)
  have c_7 : E 0 2 = .inl (kA 1, 40, .inl tx_4) := q2_4
  have m_8 : (0, 2) ∈ RL := hmB 2 (by decide)
  have c_9 : E 0 3 = .inl (kA 0, 20, .inl fb_4) := q3_4
  have m_10 : (0, 3) ∈ RL := hmB 3 (by decide)
  have c_11 : E 0 4 = .inl (kA 0, 20, .inl fe_4) := q4_4
  have m_12 : (0, 4) ∈ RL := hmB 4 (by decide)
  obtain ⟨fd_13, hnd_13, q5_13, q6_13, hds_13⟩ := id (hSh)
  have c_14 : E 0 5 = .inr (2, [.ref (ad 0 6), .int (nI nd)]) := q5_13
  have m_15 : (0, 5) ∈ RL := hmB 5 (by decide)
  have c_16 : E 0 6 = .inl (kA 4, 12, .inr (.inr (.inr (.inr fd_13)))) := q6_13
  have m_17 : (0, 6) ∈ RL := hmB 6 (by decide)
  obtain ⟨cf_18, pv_18, fc_18, hcs_18, hpv_18, q7_18, q8_18, hfc_18⟩ := id (hCh)
  have c_19 : E 0 7 = .inr (3, [.ref (ad 0 5), .ref (ad 0 8), .int (nI (L.length)), .int cf_18, pv_18]) := q7_18
  have m_20 : (0, 7) ∈ RL := hmB 7 (by decide)
  have c_21 : E 0 8 = .inl (kA 4, 12, .inr (.inr (.inr (.inr fc_18)))) := q8_18
  have m_22 : (0, 8) ∈ RL := hmB 8 (by decide)
  obtain ⟨fl_23, hml_23, q9_23, hla_23⟩ := id (hLa)
  have c_24 : E 0 9 = .inl (kA 5, 5, .inr (.inr (.inr (.inr fl_23)))) := q9_23
  have m_25 : (0, 9) ∈ RL := hmB 9 (by decide)
  obtain ⟨xfi_18, xpv_18, xfc_18, xGL_18⟩ := id hCX
  rw [c_19] at xfi_18 xpv_18
  rw [c_21] at xfc_18
  have xfi_18 : cf_18 = fi := xfi_18
  have xpv_18 : pv_18 = lyv ad lq := xpv_18
  have xfc_18 : ∀ k, k < L.length → fc_18 k = some (ad (1 + L.getD k 0) 0) := xfc_18
  have xln_18 := GL_len xGL_18
  refine lv_iconst (v := 0) hx hb xd_Ch_bind_0 (by decide) ?_
  refine lv_istore_n hx hb xd_Ch_bind_1 rfl hl (Nat.le_of_ble_eq_true rfl) rfl (fun ls hl => ?_)
  have hl : lv_has ls 3 [(1, .int 0), (0, .ref (ad 0 7))] := hl
  refine xlab (σ := Nat × (Nat → Nat → va_E) × List Nat) (ml := 3) 2 (fun (i, E1, L1) => [(1, .int (nI i)), (0, .ref (ad 0 7))]) (fun (i, E1, L1) => []) (fun (i, E1, L1) => rp ad E1 RL) (fun (i, E1, L1) => (i ≤ 13) ∧ (bIt (bUg g nd fi lq) g lq 13 L = bIt (bUg g nd fi lq) g lq (13 - i) L1) ∧ (CI kA ad E1 RL ml nd len wn L1.length) ∧ (CX ad E1 nd fi lq L1) ∧ (F78 E E1)) (fun (i, E1, L1) => 13 - i) ?_ (0, E, L) _ _ _ (lv_sub hl [0, 1] rfl) hP hD hS ⟨(show 0 ≤ 13 from by first | assumption | omega), (show bIt (bUg g nd fi lq) g lq 13 L = bIt (bUg g nd fi lq) g lq (13 - 0) L from rfl), (show CI kA ad E RL ml nd len wn L.length from hCI), (show CX ad E nd fi lq L from hCX), (show F78 E E from F78_rf)⟩
  intro n9 ih26 a9 ls H locs hμ hl hP hD hS hI
  subst hμ
  obtain ⟨i, E1, L1⟩ := a9
  obtain ⟨hi, hI9, hCI, hCX1, hF1⟩ := hI
  have hi : i ≤ 13 := hi
  have hI9 : bIt (bUg g nd fi lq) g lq 13 L = bIt (bUg g nd fi lq) g lq (13 - i) L1 := hI9
  have hCI : CI kA ad E1 RL ml nd len wn L1.length := hCI
  have hCX1 : CX ad E1 nd fi lq L1 := hCX1
  have hF1 : F78 E E1 := hF1
  have hl : lv_has ls 3 [(1, .int (nI i)), (0, .ref (ad 0 7))] := hl
  have hP : va_P D xcl (rp ad E1 RL) H := hP
  have hD : va_D A (rp ad E1 RL) := hD
  obtain ⟨hmB, hDk, hLi, hSh, hCh, hLa, hDIs, hLIs⟩ := id hCI
  obtain ⟨cf_27, pv_27, fc_27, hcs_27, hpv_27, q7_27, q8_27, hfc_27⟩ := id (hCh)
  have c_28 : E1 0 7 = .inr (3, [.ref (ad 0 5), .ref (ad 0 8), .int (nI (L1.length)), .int cf_27, pv_27]) := q7_27
  have m_29 : (0, 7) ∈ RL := hmB 7 (by decide)
  have c_30 : E1 0 8 = .inl (kA 4, 12, .inr (.inr (.inr (.inr fc_27)))) := q8_27
  have m_31 : (0, 8) ∈ RL := hmB 8 (by decide)
  have hTD1 : TDs g E1 nd := TDs_78 hF1 hTD
  have hTL1 : TLas g ad E1 nd ml := TLas_78 hF1 hTL
  obtain ⟨xfi_27, xpv_27, xfc_27, xGL_27⟩ := id hCX1
  rw [c_28] at xfi_27 xpv_27
  rw [c_30] at xfc_27
  have xfi_27 : cf_27 = fi := xfi_27
  have xpv_27 : pv_27 = lyv ad lq := xpv_27
  have xfc_27 : ∀ k, k < L1.length → fc_27 k = some (ad (1 + L1.getD k 0) 0) := xfc_27
  have xln_27 := GL_len xGL_27
  refine lv_iload_n hx hb xd_Ch_bind_2 rfl (lv_at hl 0 rfl) ?_
  refine lv_bipush (v := 12) hx hb xd_Ch_bind_3 (by decide) ?_
  refine xn_gt (a := i) (b := 12) (tgt := 32) hx hb xd_Ch_bind_5 (by decide) (by omega) (by omega) (fun hc32 => ?_) (fun hc32 => ?_)
  · exact W.vret hx hb hr (fun t ht hW => ⟨⟨E1, rfl, ⟨L1, hCI, hCX1, hF1, by rw [hI9, show 13 - i = 0 by omega]; rfl⟩, by rw [ht]; exact hP, hD⟩, hS.F ht⟩) hS.2.2 xd_Ch_bind_32
  · refine lv_aload_n hx hb xd_Ch_bind_8 rfl (lv_at hl 1 rfl) ?_
    refine px_get (D := D) (ci := 3) (v := .int (nI (L1.length))) (C := xR_Ch) (T := xT_Ch) (N := 5) hx hb hT xi_Ch hown hK.1 hP m_29 c_28 rfl 2 (by decide) (hT _ k5p_0) (fun _ h9 => h9) rfl xd_Ch_bind_9 ?_
    refine lv_istore_n hx hb xd_Ch_bind_12 rfl hl (Nat.le_of_ble_eq_true rfl) rfl (fun ls hl => ?_)
    have hl : lv_has ls 3 [(2, .int (nI (L1.length))), (1, .int (nI i)), (0, .ref (ad 0 7))] := hl
    refine lv_aload_n hx hb xd_Ch_bind_13 rfl (lv_at hl 2 rfl) ?_
    have hFc := px_free hD hS hA
    refine va_callv (va_runV (As := []) (rest := []) ⟨hx, hb, hml, hown, hT⟩ (xc_Ch_bindOnceX l D kA H.size ad E1 RL g ml nd len wn fi lq L1 (by first | assumption | omega) hCX1 hTD1 hTL1 (by first | assumption | omega)) (cwV 0 hT (wT_V k5p_12 k5p_13 k5p_14 k5p_9 k5p_11) rfl rfl rfl (by decide +kernel) ⟨Nat.le_of_ble_eq_true rfl, Nat.le_of_ble_eq_true rfl⟩) (px_preV hK hP hD m_29 c_28 rfl) rfl rfl hl.1 rfl (lv_room (Nat.le_of_ble_eq_true rfl)) xd_Ch_bind_14 ⟨(Nat.le_of_ble_eq_true rfl), (Nat.le_of_ble_eq_true rfl)⟩) hS (fun q _ h => hFc q h) hFc (fun u34 t H1 locs ht hvm hp35 hB hz1 hk1 hS => ?_)
    obtain ⟨hP1, hD1⟩ := hB
    rw [ht] at hP1
    have hD1 := hD1.weaken (fun _ _ _ h => hFc _ h)
    generalize H1 = H at hP1 hS ⊢
    have hP := hP1
    have hD := hD1
    obtain ⟨E36, rfl⟩ : ∃ z, z = u34 := ⟨_, rfl⟩
    have hP : va_P D xcl (rp ad E36 RL) H := hP
    have hD : va_D A (rp ad E36 RL) := hD
    obtain ⟨L2, hCI, hCX2, hF9, hsp9⟩ := hp35
    have hCI : CI kA ad E36 RL ml nd len wn L2.length := hCI
    have hF2 : F78 E E36 := F78_tr hF1 hF9
    obtain ⟨hmB, hDk, hLi, hSh, hCh, hLa, hDIs, hLIs⟩ := id hCI
    obtain ⟨cf_37, pv_37, fc_37, hcs_37, hpv_37, q7_37, q8_37, hfc_37⟩ := id (hCh)
    have c_38 : E36 0 7 = .inr (3, [.ref (ad 0 5), .ref (ad 0 8), .int (nI (L2.length)), .int cf_37, pv_37]) := q7_37
    have m_39 : (0, 7) ∈ RL := hmB 7 (by decide)
    have c_40 : E36 0 8 = .inl (kA 4, 12, .inr (.inr (.inr (.inr fc_37)))) := q8_37
    have m_41 : (0, 8) ∈ RL := hmB 8 (by decide)
    refine lv_aload_n hx hb xd_Ch_bind_17 rfl (lv_at hl 2 rfl) ?_
    refine px_get (D := D) (ci := 3) (v := .int (nI (L2.length))) (C := xR_Ch) (T := xT_Ch) (N := 5) hx hb hT xi_Ch hown hK.1 hP m_39 c_38 rfl 2 (by decide) (hT _ k5p_0) (fun _ h9 => h9) rfl xd_Ch_bind_18 ?_
    refine lv_iload_n hx hb xd_Ch_bind_21 rfl (lv_at hl 0 rfl) ?_
    refine xn_ne (a := L2.length) (b := L1.length) (tgt := 26) hx hb xd_Ch_bind_22 (by decide) (by omega) (by omega) (fun hc42 => ?_) (fun hc42 => ?_)
    · refine lv_iinc (k := 1) (x := (nI i)) (v := (nI (i + 1))) hx hb xd_Ch_bind_26 hl rfl (xb_inc i 1) (Nat.le_of_ble_eq_true rfl) rfl (fun ls hl => ?_)
      have hl : lv_has ls 3 [(1, .int (nI (i + 1))), (2, .int (nI (L1.length))), (0, .ref (ad 0 7))] := hl
      refine lv_goto (tgt := 2) hx hb xd_Ch_bind_29 (by decide) ?_
      exact ih26 (i + 1, E36, L2) _ _ _ (show 13 - (i + 1) < 13 - i by omega) (lv_sub hl [0, 2] rfl) hP hD hS ⟨(show (i + 1) ≤ 13 from by first | assumption | omega), (show bIt (bUg g nd fi lq) g lq 13 L = bIt (bUg g nd fi lq) g lq (13 - (i + 1)) L2 from by rw [hI9, bIt_s (by omega), hsp9, show 13 - i - 1 = 13 - (i + 1) by omega]), (show CI kA ad E36 RL ml nd len wn L2.length from hCI), (show CX ad E36 nd fi lq L2 from hCX2), (show F78 E E36 from hF2)⟩
    · exact W.vret hx hb hr (fun t ht hW => ⟨⟨E36, rfl, ⟨L2, hCI, hCX2, hF2, by
        have e9 : L2 = L1 := ext_len (by rw [← hsp9]; exact bO_ext (fun d L => bUg_ext)) (by omega)
        rw [hI9, e9]; exact bIt_fix (hsp9.trans e9) _⟩, by rw [ht]; exact hP, hD⟩, hS.F ht⟩) hS.2.2 xd_Ch_bind_25
theorem LW_78 {g : gT} {E E' : Nat → Nat → va_E} {lt : Nat} {wl : List (Nat × Nat)} (h : F78 E E') (hl : LW g E lt wl) : LW g E' lt wl := by
  unfold LW
  rw [h 0 2 (by omega) (by omega), h 0 3 (by omega) (by omega), h 0 4 (by omega) (by omega)]
  exact hl
theorem k5q_0 : (Cond.fieldLink "LayerDesk" 10 "LayerDesk" "written" "LLayerDesk$Line;") ∈ wT := wT_t (List.mem_append_left _ (List.mem_of_getElem? (i := 99) rfl)) rfl
theorem k5q_1 : (Cond.fieldLink "LayerDesk" 198 "LayerDesk$Line" "words" "I") ∈ wT := wT_t (List.mem_append_left _ (List.mem_of_getElem? (i := 42) rfl)) rfl
theorem k5q_2 : (Cond.code xy_Li_nameAt xb_Li_nameAt 4 (some .int)) ∈ wT := wT_t (List.mem_append_right _ (List.mem_append_left _ (List.mem_of_getElem? (i := 17) rfl))) rfl
theorem k5q_3 : (Cond.methodLink "LayerDesk" 201 xy_Li_nameAt) ∈ wT := wT_t (List.mem_append_right _ (List.mem_append_right _ (List.mem_append_left _ (List.mem_of_getElem? (i := 60) rfl)))) rfl
theorem k5q_4 : (Cond.instanceMethod xy_Li_nameAt) ∈ wT := wT_t (List.mem_append_right _ (List.mem_append_left _ (List.mem_of_getElem? (i := 15) rfl))) rfl
theorem k5q_5 : (Cond.selects "LayerDesk$Line" xy_Li_nameAt xy_Li_nameAt) ∈ wT := wT_t (List.mem_append_right _ (List.mem_append_left _ (List.mem_of_getElem? (i := 16) rfl))) rfl
theorem k5q_6 : (Cond.initialized "LayerDesk$Line") ∈ wT := wT_t (List.mem_append_left _ (List.mem_of_getElem? (i := 2) rfl)) rfl
theorem k5q_7 : (Cond.fieldLink "LayerDesk" 28 "LayerDesk" "chooser" "LLayerDesk$Chooser;") ∈ wT := wT_t (List.mem_append_left _ (List.mem_of_getElem? (i := 101) rfl)) rfl
theorem k5q_8 : (Cond.code xy_Ch_addRoot xb_Ch_addRoot 2 (some .boolean)) ∈ wT := wT_t (List.mem_append_right _ (List.mem_append_right _ (List.mem_append_left _ (List.mem_of_getElem? (i := 76) rfl)))) rfl
theorem k5q_9 : (Cond.methodLink "LayerDesk" 205 xy_Ch_addRoot) ∈ wT := wT_t (List.mem_append_right _ (List.mem_append_right _ (List.mem_append_left _ (List.mem_of_getElem? (i := 73) rfl)))) rfl
theorem k5q_10 : (Cond.instanceMethod xy_Ch_addRoot) ∈ wT := wT_t (List.mem_append_right _ (List.mem_append_right _ (List.mem_append_left _ (List.mem_of_getElem? (i := 74) rfl)))) rfl
theorem k5q_11 : (Cond.selects "LayerDesk$Chooser" xy_Ch_addRoot xy_Ch_addRoot) ∈ wT := wT_t (List.mem_append_right _ (List.mem_append_right _ (List.mem_append_left _ (List.mem_of_getElem? (i := 75) rfl)))) rfl
theorem k5q_12 : (Cond.initialized "LayerDesk$Chooser") ∈ wT := wT_t (List.mem_append_left _ (List.mem_of_getElem? (i := 4) rfl)) rfl
set_option maxHeartbeats 4000000 in
set_option maxRecDepth 100000 in
theorem xc_De_rootsAreNamesX (l : Launch) (D : va_G) (kA : Nat → ClassId) (sz : Nat) (ad : Nat → Nat → Nat) (E : Nat → Nat → va_E) (RL : List (Nat × Nat)) (g : Nat → Nat → Int32) (ml : Nat) (nd : Nat) (len : Nat) (lt : Nat) (wl : List (Nat × Nat)) (cs : Nat) (hCI : CI kA ad E RL ml nd len wl.length cs) (hLW : LW g E lt wl) : Met l xy_De_rootsAreNames (.code xy_De_rootsAreNames xb_De_rootsAreNames 2 (some .boolean) :: wT) { frames := 1, cells := 0, slots := 0, locals := 23 } (va_Pc [.ref (ad 0 0)] (xPre D kA sz (rp ad E RL))) (va_Qi (fun (r : Int32) (u : Unit) => (r = 1 ∧ ((1 ≤ wl.length ∧ wl.length ≤ 3) ∧ ∀ w, w < wl.length → ¬ wN (g 0) wl w = 0)) ∨ (r = 0 ∧ ¬ ((1 ≤ wl.length ∧ wl.length ≤ 3) ∧ ∀ w, w < wl.length → ¬ wN (g 0) wl w = 0))) (fun (u : Unit) t => va_P D xcl (rp ad E RL) t.heap ∧ va_D (va_A (rp ad E RL) sz) (rp ad E RL)) (va_A (rp ad E RL) sz)) 0 0 (va_A (rp ad E RL) sz) := by
  refine Met.ofW (cc := xb_De_rootsAreNames) (maxL := 2) (ret := (some .boolean)) (by decide) rfl ?_
  intro p e s m args below meth c s₁ B hml hv
  obtain ⟨rfl, hsz, hP, hK, hD0⟩ := hv
  have hx := B.exec
  have hb := B.bytes
  have hr := B.returns
  have hT := x_hT B.pre
  have hown : s.vm.findClass xR_De = some m.cls := findClass_of_methodNamed B.named
  have hlocks := B.notSynchronized
  subst hsz
  have hD := hD0.self (sz := s.heap.size)
  generalize hAe : va_A (rp ad E RL) s.heap.size = A at hD ⊢
  have hA : ∀ q : Nat, s.heap.size ≤ q → A q := fun q h => by rw [← hAe]; exact Or.inr h
  have hS : va_S A s.heap s.heap [] := va_S.rf
  have hl := lv_entry ([.ref (ad 0 0)]) (n := 2) (Nat.le_of_ble_eq_true rfl)
  rw [lg_entry_eq]
  generalize (lg_sl ([.ref (ad 0 0)]) ++ List.replicate (2 - (lg_sl ([.ref (ad 0 0)])).length) Slot.unset).toArray = ls at hl ⊢
  have hl : lv_has ls 2 [(0, .ref (ad 0 0))] := hl
  have hP : va_P D xcl (rp ad E RL) s.heap := hP
  obtain ⟨hmB, hDk, hLi, hSh, hCh, hLa, hDIs, hLIs⟩ := id hCI
  obtain ⟨hWL, hlt40, hLwd, hLtx⟩ := id hLW
  obtain ⟨lf_1, q_1⟩ := id (hDk)
  have c_2 : E 0 0 = .inr (0, [.ref (ad 0 1), .ref (ad 0 5), .ref (ad 0 7), .ref (ad 0 9), .int (nI ml), .int lf_1]) := q_1
  have m_3 : (0, 0) ∈ RL := hmB 0 (by decide)
  obtain ⟨tx_4, fb_4, fe_4, hl1_4, hw2_4, q1_4, q2_4, q3_4, q4_4, hws_4⟩ := id (hLi)
  have c_5 : E 0 1 = .inr (1, [.ref (ad 0 2), .ref (ad 0 3), .ref (ad 0 4), .int (nI len), .int (nI (wl.length))]) := q1_4
  have m_6 : (0, 1) ∈ RL := hmB 1 (by decide)
  have c_7 : E 0 2 = .inl (kA 1, 40, .inl tx_4) := q2_4
  have m_8 : (0, 2) ∈ RL := hmB 2 (by decide)
  have c_9 : E 0 3 = .inl (kA 0, 20, .inl fb_4) := q3_4
  have m_10 : (0, 3) ∈ RL := hmB 3 (by decide)
  have c_11 : E 0 4 = .inl (kA 0, 20, .inl fe_4) := q4_4
  have m_12 : (0, 4) ∈ RL := hmB 4 (by decide)
  refine lv_aload_n hx hb xd_De_rootsAreNames_0 rfl (lv_at hl 0 rfl) ?_
  refine px_get (D := D) (ci := 0) (v := .ref (ad 0 1)) (C := xR_De) (T := xT_De) (N := 6) hx hb hT xi_De hown hK.1 hP m_3 c_2 rfl 0 (by decide) (hT _ k5q_0) (fun _ h9 => h9) rfl xd_De_rootsAreNames_1 ?_
  refine px_get (D := D) (ci := 1) (v := .int (nI (wl.length))) (C := xR_Li) (T := xT_Li) (N := 5) hx hb hT xi_Li hown hK.1 hP m_6 c_5 rfl 4 (by decide) (hT _ k5q_1) (fun _ h9 => h9) rfl xd_De_rootsAreNames_4 ?_
  refine lv_iconst (v := 1) hx hb xd_De_rootsAreNames_7 (by decide) ?_
  refine xn_lt (a := wl.length) (b := 1) (tgt := 22) hx hb xd_De_rootsAreNames_8 (by decide) (by omega) (by omega) (fun hc13 => ?_) (fun hc13 => ?_)
  · refine lv_iconst (v := 0) hx hb xd_De_rootsAreNames_22 (by decide) ?_
    exact W.zret (v := 0) hx hb hr rfl (fun t ht hW => ⟨⟨0, (), rfl, Or.inr ⟨rfl, fun q => absurd q.1 (by omega)⟩, by rw [ht]; exact hP, hD⟩, hS.F ht⟩) hS.2.2 xd_De_rootsAreNames_23
  · refine lv_aload_n hx hb xd_De_rootsAreNames_11 rfl (lv_at hl 0 rfl) ?_
    refine px_get (D := D) (ci := 0) (v := .ref (ad 0 1)) (C := xR_De) (T := xT_De) (N := 6) hx hb hT xi_De hown hK.1 hP m_3 c_2 rfl 0 (by decide) (hT _ k5q_0) (fun _ h9 => h9) rfl xd_De_rootsAreNames_12 ?_
    refine px_get (D := D) (ci := 1) (v := .int (nI (wl.length))) (C := xR_Li) (T := xT_Li) (N := 5) hx hb hT xi_Li hown hK.1 hP m_6 c_5 rfl 4 (by decide) (hT _ k5q_1) (fun _ h9 => h9) rfl xd_De_rootsAreNames_15 ?_
    refine lv_iconst (v := 3) hx hb xd_De_rootsAreNames_18 (by decide) ?_
    refine xn_le (a := wl.length) (b := 3) (tgt := 24) hx hb xd_De_rootsAreNames_19 (by decide) (by omega) (by omega) (fun hc14 => ?_) (fun hc14 => ?_)
    · refine lv_iconst (v := 0) hx hb xd_De_rootsAreNames_24 (by decide) ?_
      refine lv_istore_n hx hb xd_De_rootsAreNames_25 rfl hl (Nat.le_of_ble_eq_true rfl) rfl (fun ls hl => ?_)
      have hl : lv_has ls 2 [(1, .int 0), (0, .ref (ad 0 0))] := hl
      refine xlab (σ := Nat) (ml := 2) 26 (fun (i : Nat) => [(1, .int (nI i)), (0, .ref (ad 0 0))]) (fun (i : Nat) => []) (fun (i : Nat) => rp ad E RL) (fun (i : Nat) => (i ≤ wl.length) ∧ (∀ w, w < i → ¬ wN (g 0) wl w = 0)) (fun (i : Nat) => wl.length - i) ?_ 0 _ _ _ (lv_sub hl [0, 1] rfl) hP hD hS ⟨(show 0 ≤ wl.length from by first | assumption | omega), (show ∀ w, w < 0 → ¬ wN (g 0) wl w = 0 from fun w hw => absurd hw (by omega))⟩
      intro n9 ih15 a9 ls H locs hμ hl hP hD hS hI
      subst hμ
      obtain ⟨i, rfl⟩ : ∃ z, z = a9 := ⟨_, rfl⟩
      obtain ⟨hi, hnz⟩ := hI
      have hi : i ≤ wl.length := hi
      have hnz : ∀ w, w < i → ¬ wN (g 0) wl w = 0 := hnz
      have hl : lv_has ls 2 [(1, .int (nI i)), (0, .ref (ad 0 0))] := hl
      have hP : va_P D xcl (rp ad E RL) H := hP
      have hD : va_D A (rp ad E RL) := hD
      refine lv_iload_n hx hb xd_De_rootsAreNames_26 rfl (lv_at hl 0 rfl) ?_
      refine lv_aload_n hx hb xd_De_rootsAreNames_27 rfl (lv_at hl 1 rfl) ?_
      refine px_get (D := D) (ci := 0) (v := .ref (ad 0 1)) (C := xR_De) (T := xT_De) (N := 6) hx hb hT xi_De hown hK.1 hP m_3 c_2 rfl 0 (by decide) (hT _ k5q_0) (fun _ h9 => h9) rfl xd_De_rootsAreNames_28 ?_
      refine px_get (D := D) (ci := 1) (v := .int (nI (wl.length))) (C := xR_Li) (T := xT_Li) (N := 5) hx hb hT xi_Li hown hK.1 hP m_6 c_5 rfl 4 (by decide) (hT _ k5q_1) (fun _ h9 => h9) rfl xd_De_rootsAreNames_31 ?_
      refine xn_ge (a := i) (b := wl.length) (tgt := 56) hx hb xd_De_rootsAreNames_34 (by decide) (by omega) (by omega) (fun hc16 => ?_) (fun hc16 => ?_)
      · refine lv_iconst (v := 1) hx hb xd_De_rootsAreNames_56 (by decide) ?_
        exact W.zret (v := 1) hx hb hr rfl (fun t ht hW => ⟨⟨1, (), rfl, Or.inl ⟨rfl, ⟨by omega, by omega⟩, fun w hw => hnz w (by omega)⟩, by rw [ht]; exact hP, hD⟩, hS.F ht⟩) hS.2.2 xd_De_rootsAreNames_57
      · refine lv_aload_n hx hb xd_De_rootsAreNames_37 rfl (lv_at hl 1 rfl) ?_
        refine px_get (D := D) (ci := 0) (v := .ref (ad 0 1)) (C := xR_De) (T := xT_De) (N := 6) hx hb hT xi_De hown hK.1 hP m_3 c_2 rfl 0 (by decide) (hT _ k5q_0) (fun _ h9 => h9) rfl xd_De_rootsAreNames_38 ?_
        refine lv_iload_n hx hb xd_De_rootsAreNames_41 rfl (lv_at hl 0 rfl) ?_
        have hFc := px_free hD hS hA
        refine va_calli (va_runV (As := [.int (nI i)]) (rest := []) ⟨hx, hb, hml, hown, hT⟩ (xc_Li_nameAtX l D kA H.size ad E RL g ml nd len lt wl cs i (by first | assumption | omega) (by first | assumption | omega) (by first | assumption | omega)) (cwV 1 hT (wT_V k5q_3 k5q_4 k5q_5 k5q_6 k5q_2) rfl rfl rfl (by decide +kernel) ⟨Nat.le_of_ble_eq_true rfl, Nat.le_of_ble_eq_true rfl⟩) (px_preV hK hP hD m_6 c_5 rfl) rfl rfl hl.1 rfl (lv_room (Nat.le_of_ble_eq_true rfl)) xd_De_rootsAreNames_42 ⟨(Nat.le_of_ble_eq_true rfl), (Nat.le_of_ble_eq_true rfl)⟩) hS (fun q _ h => hFc q h) hFc (fun r17 u18 t H1 locs ht hvm hp19 hB hz1 hk1 hS => ?_)
        obtain ⟨hP1, hD1⟩ := hB
        rw [ht] at hP1
        have hD1 := hD1.weaken (fun _ _ _ h => hFc _ h)
        generalize H1 = H at hP1 hS ⊢
        have hP := hP1
        have hD := hD1
        have hP : va_P D xcl (rp ad E RL) H := hP
        have hD : va_D A (rp ad E RL) := hD
        have hp19 : r17 = wN (g 0) wl i := hp19
        subst hp19
        have hP : va_P D xcl (rp ad E RL) H := hP
        have hD : va_D A (rp ad E RL) := hD
        refine lv_if_ne (tgt := 50) hx hb xd_De_rootsAreNames_45 (by decide) (fun hc20 => ?_) (fun hc20 => ?_)
        · refine lv_iinc (k := 0) (x := (nI i)) (v := (nI (i + 1))) hx hb xd_De_rootsAreNames_50 hl rfl (xb_inc i 1) (Nat.le_of_ble_eq_true rfl) rfl (fun ls hl => ?_)
          have hl : lv_has ls 2 [(1, .int (nI (i + 1))), (0, .ref (ad 0 0))] := hl
          refine lv_goto (tgt := 26) hx hb xd_De_rootsAreNames_53 (by decide) ?_
          exact ih15 (i + 1) _ _ _ (show wl.length - (i + 1) < wl.length - i by omega) (lv_sub hl [0, 1] rfl) hP hD hS ⟨(show (i + 1) ≤ wl.length from by first | assumption | omega), (show ∀ w, w < (i + 1) → ¬ wN (g 0) wl w = 0 from fun w hw => by
        rcases Nat.lt_or_ge w i with z | z
        · exact hnz w z
        · rw [show w = i by omega]; exact hc20)⟩
        · refine lv_iconst (v := 0) hx hb xd_De_rootsAreNames_48 (by decide) ?_
          exact W.zret (v := 0) hx hb hr rfl (fun t ht hW => ⟨⟨0, (), rfl, Or.inr ⟨rfl, fun q => q.2 i (by omega) hc20⟩, by rw [ht]; exact hP, hD⟩, hS.F ht⟩) hS.2.2 xd_De_rootsAreNames_49
    · refine lv_iconst (v := 0) hx hb xd_De_rootsAreNames_22 (by decide) ?_
      exact W.zret (v := 0) hx hb hr rfl (fun t ht hW => ⟨⟨0, (), rfl, Or.inr ⟨rfl, fun q => absurd q.1 (by omega)⟩, by rw [ht]; exact hP, hD⟩, hS.F ht⟩) hS.2.2 xd_De_rootsAreNames_23
set_option maxHeartbeats 4000000 in
set_option maxRecDepth 100000 in
theorem xc_De_addRootsX (l : Launch) (D : va_G) (kA : Nat → ClassId) (sz : Nat) (ad : Nat → Nat → Nat) (E : Nat → Nat → va_E) (RL : List (Nat × Nat)) (g : Nat → Nat → Int32) (ml : Nat) (nd : Nat) (len : Nat) (lt : Nat) (wl : List (Nat × Nat)) (fi : Int32) (lq : Nat) (L : List Nat) (hCI : CI kA ad E RL ml nd len wl.length L.length) (hCX : CX ad E nd fi lq L) (hTD : TDs g E nd) (hTL : TLas g ad E nd ml) (hlqm : lq ≤ ml) (hLW : LW g E lt wl) : Met l xy_De_addRoots (.code xy_De_addRoots xb_De_addRoots 2 (some .boolean) :: wT) { frames := 20, cells := 0, slots := 0, locals := 1215 } (va_Pc [.ref (ad 0 0)] (xPre D kA sz (rp ad E RL))) (va_Qi (fun (r : Int32) (u : Nat → Nat → va_E) => ∃ L2, CI kA ad u RL ml nd len wl.length L2.length ∧ CX ad u nd fi lq L2 ∧ F78 E u ∧ ((r = 1 ∧ aF (adG g nd fi lq) L (nmL (g 0) wl wl.length 0) = (true, L2)) ∨ (r = 0 ∧ aF (adG g nd fi lq) L (nmL (g 0) wl wl.length 0) = (false, L2)))) (fun (u : Nat → Nat → va_E) t => va_P D xcl (rp ad u RL) t.heap ∧ va_D (va_A (rp ad E RL) sz) (rp ad u RL)) (va_A (rp ad E RL) sz)) 0 0 (va_A (rp ad E RL) sz) := by
  refine Met.ofW (cc := xb_De_addRoots) (maxL := 2) (ret := (some .boolean)) (by decide) rfl ?_
  intro p e s m args below meth c s₁ B hml hv
  obtain ⟨rfl, hsz, hP, hK, hD0⟩ := hv
  have hx := B.exec
  have hb := B.bytes
  have hr := B.returns
  have hT := x_hT B.pre
  have hown : s.vm.findClass xR_De = some m.cls := findClass_of_methodNamed B.named
  have hlocks := B.notSynchronized
  subst hsz
  have hD := hD0.self (sz := s.heap.size)
  generalize hAe : va_A (rp ad E RL) s.heap.size = A at hD ⊢
  have hA : ∀ q : Nat, s.heap.size ≤ q → A q := fun q h => by rw [← hAe]; exact Or.inr h
  have hS : va_S A s.heap s.heap [] := va_S.rf
  have hl := lv_entry ([.ref (ad 0 0)]) (n := 2) (Nat.le_of_ble_eq_true rfl)
  rw [lg_entry_eq]
  generalize (lg_sl ([.ref (ad 0 0)]) ++ List.replicate (2 - (lg_sl ([.ref (ad 0 0)])).length) Slot.unset).toArray = ls at hl ⊢
  have hl : lv_has ls 2 [(0, .ref (ad 0 0))] := hl
  have hP : va_P D xcl (rp ad E RL) s.heap := hP
  obtain ⟨hmB, hDk, hLi, hSh, hCh, hLa, hDIs, hLIs⟩ := id hCI
  have hwl20 := hLW.1.1
  refine lv_iconst (v := 0) hx hb xd_De_addRoots_0 (by decide) ?_
  refine lv_istore_n hx hb xd_De_addRoots_1 rfl hl (Nat.le_of_ble_eq_true rfl) rfl (fun ls hl => ?_)
  have hl : lv_has ls 2 [(1, .int 0), (0, .ref (ad 0 0))] := hl
  refine xlab (σ := Nat × (Nat → Nat → va_E) × List Nat) (ml := 2) 2 (fun (i, E1, L1) => [(1, .int (nI i)), (0, .ref (ad 0 0))]) (fun (i, E1, L1) => []) (fun (i, E1, L1) => rp ad E1 RL) (fun (i, E1, L1) => (i ≤ wl.length) ∧ (CI kA ad E1 RL ml nd len wl.length L1.length) ∧ (CX ad E1 nd fi lq L1) ∧ (F78 E E1) ∧ (aF (adG g nd fi lq) L (nmL (g 0) wl wl.length 0) = aF (adG g nd fi lq) L1 (nmL (g 0) wl (wl.length - i) i))) (fun (i, E1, L1) => wl.length - i) ?_ (0, E, L) _ _ _ (lv_sub hl [0, 1] rfl) hP hD hS ⟨(show 0 ≤ wl.length from by first | assumption | omega), (show CI kA ad E RL ml nd len wl.length L.length from hCI), (show CX ad E nd fi lq L from hCX), (show F78 E E from F78_rf), (show aF (adG g nd fi lq) L (nmL (g 0) wl wl.length 0) = aF (adG g nd fi lq) L (nmL (g 0) wl (wl.length - 0) 0) from rfl)⟩
  intro n9 ih1 a9 ls H locs hμ hl hP hD hS hI
  subst hμ
  obtain ⟨i, E1, L1⟩ := a9
  obtain ⟨hi, hCI, hCX1, hF1, hN⟩ := hI
  have hi : i ≤ wl.length := hi
  have hCI : CI kA ad E1 RL ml nd len wl.length L1.length := hCI
  have hCX1 : CX ad E1 nd fi lq L1 := hCX1
  have hF1 : F78 E E1 := hF1
  have hN : aF (adG g nd fi lq) L (nmL (g 0) wl wl.length 0) = aF (adG g nd fi lq) L1 (nmL (g 0) wl (wl.length - i) i) := hN
  have hl : lv_has ls 2 [(1, .int (nI i)), (0, .ref (ad 0 0))] := hl
  have hP : va_P D xcl (rp ad E1 RL) H := hP
  have hD : va_D A (rp ad E1 RL) := hD
  obtain ⟨hmB, hDk, hLi, hSh, hCh, hLa, hDIs, hLIs⟩ := id hCI
  obtain ⟨lf_2, q_2⟩ := id (hDk)
  have c_3 : E1 0 0 = .inr (0, [.ref (ad 0 1), .ref (ad 0 5), .ref (ad 0 7), .ref (ad 0 9), .int (nI ml), .int lf_2]) := q_2
  have m_4 : (0, 0) ∈ RL := hmB 0 (by decide)
  obtain ⟨tx_5, fb_5, fe_5, hl1_5, hw2_5, q1_5, q2_5, q3_5, q4_5, hws_5⟩ := id (hLi)
  have c_6 : E1 0 1 = .inr (1, [.ref (ad 0 2), .ref (ad 0 3), .ref (ad 0 4), .int (nI len), .int (nI (wl.length))]) := q1_5
  have m_7 : (0, 1) ∈ RL := hmB 1 (by decide)
  have c_8 : E1 0 2 = .inl (kA 1, 40, .inl tx_5) := q2_5
  have m_9 : (0, 2) ∈ RL := hmB 2 (by decide)
  have c_10 : E1 0 3 = .inl (kA 0, 20, .inl fb_5) := q3_5
  have m_11 : (0, 3) ∈ RL := hmB 3 (by decide)
  have c_12 : E1 0 4 = .inl (kA 0, 20, .inl fe_5) := q4_5
  have m_13 : (0, 4) ∈ RL := hmB 4 (by decide)
  obtain ⟨cf_14, pv_14, fc_14, hcs_14, hpv_14, q7_14, q8_14, hfc_14⟩ := id (hCh)
  have c_15 : E1 0 7 = .inr (3, [.ref (ad 0 5), .ref (ad 0 8), .int (nI (L1.length)), .int cf_14, pv_14]) := q7_14
  have m_16 : (0, 7) ∈ RL := hmB 7 (by decide)
  have c_17 : E1 0 8 = .inl (kA 4, 12, .inr (.inr (.inr (.inr fc_14)))) := q8_14
  have m_18 : (0, 8) ∈ RL := hmB 8 (by decide)
  have hTD1 : TDs g E1 nd := TDs_78 hF1 hTD
  have hTL1 : TLas g ad E1 nd ml := TLas_78 hF1 hTL
  have hLW1 : LW g E1 lt wl := LW_78 hF1 hLW
  refine lv_iload_n hx hb xd_De_addRoots_2 rfl (lv_at hl 0 rfl) ?_
  refine lv_aload_n hx hb xd_De_addRoots_3 rfl (lv_at hl 1 rfl) ?_
  refine px_get (D := D) (ci := 0) (v := .ref (ad 0 1)) (C := xR_De) (T := xT_De) (N := 6) hx hb hT xi_De hown hK.1 hP m_4 c_3 rfl 0 (by decide) (hT _ k5q_0) (fun _ h9 => h9) rfl xd_De_addRoots_4 ?_
  refine px_get (D := D) (ci := 1) (v := .int (nI (wl.length))) (C := xR_Li) (T := xT_Li) (N := 5) hx hb hT xi_Li hown hK.1 hP m_7 c_6 rfl 4 (by decide) (hT _ k5q_1) (fun _ h9 => h9) rfl xd_De_addRoots_7 ?_
  refine xn_ge (a := i) (b := wl.length) (tgt := 39) hx hb xd_De_addRoots_10 (by decide) (by omega) (by omega) (fun hc19 => ?_) (fun hc19 => ?_)
  · refine lv_iconst (v := 1) hx hb xd_De_addRoots_39 (by decide) ?_
    exact W.zret (v := 1) hx hb hr rfl (fun t ht hW => ⟨⟨1, E1, rfl, ⟨L1, hCI, hCX1, hF1, Or.inl ⟨rfl, by rw [hN, show wl.length - i = 0 by omega]; rfl⟩⟩, by rw [ht]; exact hP, hD⟩, hS.F ht⟩) hS.2.2 xd_De_addRoots_40
  · refine lv_aload_n hx hb xd_De_addRoots_13 rfl (lv_at hl 1 rfl) ?_
    refine px_get (D := D) (ci := 0) (v := .ref (ad 0 7)) (C := xR_De) (T := xT_De) (N := 6) hx hb hT xi_De hown hK.1 hP m_4 c_3 rfl 2 (by decide) (hT _ k5q_7) (fun _ h9 => h9) rfl xd_De_addRoots_14 ?_
    refine lv_aload_n hx hb xd_De_addRoots_17 rfl (lv_at hl 1 rfl) ?_
    refine px_get (D := D) (ci := 0) (v := .ref (ad 0 1)) (C := xR_De) (T := xT_De) (N := 6) hx hb hT xi_De hown hK.1 hP m_4 c_3 rfl 0 (by decide) (hT _ k5q_0) (fun _ h9 => h9) rfl xd_De_addRoots_18 ?_
    refine lv_iload_n hx hb xd_De_addRoots_21 rfl (lv_at hl 0 rfl) ?_
    have hFc := px_free hD hS hA
    refine va_calli (va_runV (As := [.int (nI i)]) (rest := [.ref (ad 0 7)]) ⟨hx, hb, hml, hown, hT⟩ (xc_Li_nameAtX l D kA H.size ad E1 RL g ml nd len lt wl L1.length i (by first | assumption | omega) hLW1 (by first | assumption | omega)) (cwV 1 hT (wT_V k5q_3 k5q_4 k5q_5 k5q_6 k5q_2) rfl rfl rfl (by decide +kernel) ⟨Nat.le_of_ble_eq_true rfl, Nat.le_of_ble_eq_true rfl⟩) (px_preV hK hP hD m_7 c_6 rfl) rfl rfl hl.1 rfl (lv_room (Nat.le_of_ble_eq_true rfl)) xd_De_addRoots_22 ⟨(Nat.le_of_ble_eq_true rfl), (Nat.le_of_ble_eq_true rfl)⟩) hS (fun q _ h => hFc q h) hFc (fun r20 u21 t H1 locs ht hvm hp22 hB hz1 hk1 hS => ?_)
    obtain ⟨hP1, hD1⟩ := hB
    rw [ht] at hP1
    have hD1 := hD1.weaken (fun _ _ _ h => hFc _ h)
    generalize H1 = H at hP1 hS ⊢
    have hP := hP1
    have hD := hD1
    have hP : va_P D xcl (rp ad E1 RL) H := hP
    have hD : va_D A (rp ad E1 RL) := hD
    have hp22 : r20 = wN (g 0) wl i := hp22
    subst hp22
    have hP : va_P D xcl (rp ad E1 RL) H := hP
    have hD : va_D A (rp ad E1 RL) := hD
    have hFc := px_free hD hS hA
    refine va_calli (va_runV (As := [.int (wN (g 0) wl i)]) (rest := []) ⟨hx, hb, hml, hown, hT⟩ (xc_Ch_addRootX l D kA H.size ad E1 RL g ml nd len wl.length fi lq L1 (wN (g 0) wl i) (by first | assumption | omega) hCX1 hTD1 hTL1 (by first | assumption | omega)) (cwV 1 hT (wT_V k5q_9 k5q_10 k5q_11 k5q_12 k5q_8) rfl rfl rfl (by decide +kernel) ⟨Nat.le_of_ble_eq_true rfl, Nat.le_of_ble_eq_true rfl⟩) (px_preV hK hP hD m_16 c_15 rfl) rfl rfl hl.1 rfl (lv_room (Nat.le_of_ble_eq_true rfl)) xd_De_addRoots_25 ⟨(Nat.le_of_ble_eq_true rfl), (Nat.le_of_ble_eq_true rfl)⟩) hS (fun q _ h => hFc q h) hFc (fun r23 u24 t H1 locs ht hvm hp25 hB hz1 hk1 hS => ?_)
    obtain ⟨hP1, hD1⟩ := hB
    rw [ht] at hP1
    have hD1 := hD1.weaken (fun _ _ _ h => hFc _ h)
    generalize H1 = H at hP1 hS ⊢
    have hP := hP1
    have hD := hD1
    obtain ⟨E26, rfl⟩ : ∃ z, z = u24 := ⟨_, rfl⟩
    have hP : va_P D xcl (rp ad E26 RL) H := hP
    have hD : va_D A (rp ad E26 RL) := hD
    obtain ⟨L2, hCI, hCX2, hF9, hres⟩ := hp25
    have hCI : CI kA ad E26 RL ml nd len wl.length L2.length := hCI
    have hF2 : F78 E E26 := F78_tr hF1 hF9
    obtain ⟨hmB, hDk, hLi, hSh, hCh, hLa, hDIs, hLIs⟩ := id hCI
    rcases hres with ⟨rfl, hok9⟩ | ⟨rfl, hok9⟩
    · have hok8 := hok9
      refine lv_if_ne (tgt := 33) hx hb xd_De_addRoots_28 (by decide) (fun _ => ?_) (fun hc27 => absurd hc27 (by decide))
      refine lv_iinc (k := 0) (x := (nI i)) (v := (nI (i + 1))) hx hb xd_De_addRoots_33 hl rfl (xb_inc i 1) (Nat.le_of_ble_eq_true rfl) rfl (fun ls hl => ?_)
      have hl : lv_has ls 2 [(1, .int (nI (i + 1))), (0, .ref (ad 0 0))] := hl
      refine lv_goto (tgt := 2) hx hb xd_De_addRoots_36 (by decide) ?_
      exact ih1 (i + 1, E26, L2) _ _ _ (show wl.length - (i + 1) < wl.length - i by omega) (lv_sub hl [0, 1] rfl) hP hD hS ⟨(show (i + 1) ≤ wl.length from by first | assumption | omega), (show CI kA ad E26 RL ml nd len wl.length L2.length from hCI), (show CX ad E26 nd fi lq L2 from hCX2), (show F78 E E26 from hF2), (show aF (adG g nd fi lq) L (nmL (g 0) wl wl.length 0) = aF (adG g nd fi lq) L2 (nmL (g 0) wl (wl.length - (i + 1)) (i + 1)) from by rw [hN, nmL_s (by omega), aF_t hok9])⟩
    · have hok8 := hok9
      refine lv_if_ne (tgt := 33) hx hb xd_De_addRoots_28 (by decide) (fun hc28 => absurd (by decide) hc28) (fun _ => ?_)
      refine lv_iconst (v := 0) hx hb xd_De_addRoots_31 (by decide) ?_
      exact W.zret (v := 0) hx hb hr rfl (fun t ht hW => ⟨⟨0, E26, rfl, ⟨L2, hCI, hCX2, hF2, Or.inr ⟨rfl, by rw [hN, nmL_s (by omega), aF_f hok9]⟩⟩, by rw [ht]; exact hP, hD⟩, hS.F ht⟩) hS.2.2 xd_De_addRoots_32
def bt (x : Int32) (i : Nat) : Bool := x.toBitVec.getLsbD i
theorem b_ext {x y : Int32} (h : ∀ i, i < 32 → bt x i = bt y i) : x = y := Int32.toBitVec_inj.mp (BitVec.eq_of_getLsbD_eq (fun i hi => h i hi))
theorem b_or (x y : Int32) (i : Nat) : bt (x ||| y) i = (bt x i || bt y i) := by unfold bt; rw [Int32.toBitVec_or, BitVec.getLsbD_or]
theorem b_and (x y : Int32) (i : Nat) : bt (x &&& y) i = (bt x i && bt y i) := by unfold bt; rw [Int32.toBitVec_and, BitVec.getLsbD_and]
theorem b_xor (x y : Int32) (i : Nat) : bt (x ^^^ y) i = (bt x i ^^ bt y i) := by unfold bt; rw [Int32.toBitVec_xor, BitVec.getLsbD_xor]
theorem b_m1 : ∀ i, i < 32 → bt (-1) i = true := by decide +kernel
theorem b_0 (i : Nat) : bt 0 i = false := BitVec.getLsbD_zero
theorem s_l : ∀ n, n < 32 → ((nI n &&& 31).toBitVec.smod 32).toNat = n := by decide +kernel
theorem b_shl (n : Nat) (hn : n < 32) (x : Int32) {i : Nat} (hi : i < 32) : bt (x <<< (nI n &&& 31)) i = (decide (n ≤ i) && bt x (i - n)) := by
  unfold bt
  rw [Int32.toBitVec_shiftLeft]
  show (x.toBitVec <<< ((nI n &&& 31).toBitVec.smod 32).toNat).getLsbD i = _
  rw [s_l n hn, BitVec.getLsbD_shiftLeft]
  rcases Nat.lt_or_ge i n with h | h
  · simp [h, Nat.not_le.mpr h]
  · simp [hi, h, Nat.not_lt.mpr h]
theorem b_sshr (n : Nat) (hn : n < 32) (x : Int32) {i : Nat} (hi : i < 32) : bt (x >>> (nI n &&& 31)) i = if n + i < 32 then bt x (n + i) else bt x 31 := by
  unfold bt
  rw [Int32.toBitVec_shiftRight]
  show (x.toBitVec.sshiftRight ((nI n &&& 31).toBitVec.smod 32).toNat).getLsbD i = _
  rw [s_l n hn, BitVec.getLsbD_sshiftRight, BitVec.msb_eq_getLsbD_last]
  simp [hi]
def BS (f : Nat → Int32) (t : Nat) : Prop := bt (f (t / 12)) (t % 12) = true
theorem b_1 : ∀ i, i < 32 → bt 1 i = decide (i = 0) := by decide +kernel
theorem b_and1 {y : Int32} : ¬ (y &&& 1) = 0 ↔ bt y 0 = true := by
  constructor
  · intro h
    cases hb : bt y 0 with
    | true => rfl
    | false =>
      refine absurd (b_ext (fun i hi => ?_)) h
      rw [b_and, b_1 i hi, b_0]
      by_cases e : i = 0
      · rw [e, hb]; rfl
      · simp [e]
  · intro h q
    have h2 : bt (y &&& 1) 0 = bt 0 0 := by rw [q]
    rw [b_and, h, b_0] at h2
    exact absurd h2 (by decide)
theorem BS_marks {f : Nat → Int32} {n d : Nat} (hd : d < 12) : ¬ ((f n >>> (nI d &&& 31)) &&& 1) = 0 ↔ BS f (12 * n + d) := by
  rw [b_and1, b_sshr d (by omega) _ (by omega), if_pos (by omega), Nat.add_zero]
  unfold BS
  rw [show (12 * n + d) / 12 = n by omega, show (12 * n + d) % 12 = d by omega]
theorem b_bit {d b : Nat} (hd : d < 12) (hb : b < 12) : bt (1 <<< (nI d &&& 31)) b = decide (b = d) := by
  rw [b_shl d (by omega) 1 (by omega)]
  by_cases e : d ≤ b
  · rw [b_1 (b - d) (by omega)]
    by_cases e2 : b = d
    · simp [e2]
    · simp [e, e2, show ¬ b - d = 0 by omega]
  · simp [e, show ¬ b = d by omega]
theorem BS_mark {f : Nat → Int32} {n d t : Nat} (hd : d < 12) : BS (upd f n (f n ||| (1 <<< (nI d &&& 31)))) t ↔ (BS f t ∨ t = 12 * n + d) := by
  unfold BS
  by_cases e : t / 12 = n
  · rw [e, pk_us, b_or, b_bit hd (by omega)]
    by_cases e2 : t % 12 = d
    · rw [e2]
      exact ⟨fun _ => Or.inr (by omega), fun _ => by simp⟩
    · simp [e2, show ¬ t = 12 * n + d by omega]
  · rw [pk_un e]
    simp [show ¬ t = 12 * n + d by omega]
theorem BS_unmark {f : Nat → Int32} {n d t : Nat} (hd : d < 12) : BS (upd f n (f n &&& ((1 <<< (nI d &&& 31)) ^^^ (-1)))) t ↔ (BS f t ∧ t ≠ 12 * n + d) := by
  unfold BS
  by_cases e : t / 12 = n
  · rw [e, pk_us, b_and, b_xor, b_bit hd (by omega), b_m1 _ (by omega)]
    by_cases e2 : t % 12 = d
    · rw [e2]
      exact ⟨fun h => by simp at h, fun h => absurd (by omega) h.2⟩
    · simp [e2, show ¬ t = 12 * n + d by omega]
  · rw [pk_un e]
    simp [show ¬ t = 12 * n + d by omega]
theorem BS_join {f f2 f3 : Nat → Int32} {t : Nat} (ht : t < 72) (h : ∀ r, r < 6 → f2 r = f r ||| f3 r) : BS f2 t ↔ (BS f t ∨ BS f3 t) := by
  unfold BS
  rw [h (t / 12) (by omega), b_or]
  simp
theorem BS_0 {t : Nat} : ¬ BS (fun _ => 0) t := by
  unfold BS
  rw [b_0]; decide
def PW (F : Nat → Nat → Prop) (nf : Nat → Nat) : Nat → Nat → Nat → Prop
  | 0, a, t => F a t
  | v + 1, a, t => PW F nf v a t ∨ (PW F nf v a (nf v) ∧ PW F nf v v t)
def IP (F : Nat → Nat → Prop) (nf : Nat → Nat) : Nat → List Nat → Nat → Prop
  | a, [], t => F a t
  | a, b :: l, t => F a (nf b) ∧ IP F nf b l t
theorem PW_in {F : Nat → Nat → Prop} {nf : Nat → Nat} : ∀ (v : Nat) (n : Nat) (a : Nat) (l : List Nat) (t : Nat), l.length ≤ n → (∀ x ∈ l, x < v) → IP F nf a l t → PW F nf v a t
  | 0, _, a, [], t, _, _, h => h
  | 0, _, a, b :: l, t, _, hl, _ => absurd (hl b (List.mem_cons_self)) (Nat.not_lt_zero _)
  | v + 1, n, a, l, t, hn, hl, h => by
    induction n generalizing a l with
    | zero =>
      have e : l = [] := List.eq_nil_of_length_eq_zero (by omega)
      subst e
      exact Or.inl (PW_in v 0 a [] t (by simp) (fun x hx => absurd hx List.not_mem_nil) h)
    | succ n ih =>
      by_cases hv : v ∈ l
      · obtain ⟨l1, l2, e, hv1⟩ : ∃ l1 l2, l = l1 ++ v :: l2 ∧ v ∉ l1 := by
          clear ih h hn hl
          induction l with
          | nil => exact absurd hv List.not_mem_nil
          | cons c l ihl =>
            by_cases hc : v = c
            · exact ⟨[], l, by rw [hc]; rfl, List.not_mem_nil⟩
            · obtain ⟨l1, l2, e, h9⟩ := ihl ((List.mem_cons.mp hv).resolve_left hc)
              exact ⟨c :: l1, l2, by rw [e]; rfl, fun q => (List.mem_cons.mp q).elim hc h9⟩
        have hsp : ∀ (l1 : List Nat) (a : Nat), IP F nf a (l1 ++ v :: l2) t → IP F nf a l1 (nf v) ∧ IP F nf v l2 t := by
          intro l1
          induction l1 with
          | nil => intro a h; exact h
          | cons c l1 ihl => intro a h; exact ⟨⟨h.1, (ihl c h.2).1⟩, (ihl c h.2).2⟩
        rw [e] at h hl hn
        rw [List.length_append, List.length_cons] at hn
        obtain ⟨q1, q2⟩ := hsp l1 a h
        have p1 : PW F nf v a (nf v) := PW_in v l1.length a l1 (nf v) (Nat.le_refl _) (fun x hx => by
          have z := hl x (List.mem_append_left _ hx)
          have z2 : x ≠ v := fun w => hv1 (by rw [← w]; exact hx)
          omega) q1
        have p2 := ih v l2 (by omega) (fun x hx => hl x (List.mem_append_right _ (List.mem_cons_of_mem _ hx))) q2
        have p3 : PW F nf v v t := p2.elim id (fun w => w.2)
        exact Or.inr ⟨p1, p3⟩
      · exact Or.inl (PW_in v (n + 1) a l t hn (fun x hx => by
          have z := hl x hx
          have z2 : x ≠ v := fun w => hv (by rw [← w]; exact hx)
          omega) h)
def RN (F : Nat → Nat → Prop) (nf : Nat → Nat) (mk x t : Nat) : Prop := ∃ b, b < mk ∧ x = nf b ∧ F b t
theorem PW_tc {F : Nat → Nat → Prop} {nf : Nat → Nat} {mk : Nat} : ∀ (v : Nat), v ≤ mk → ∀ a t, a < mk → PW F nf v a t → tc (RN F nf mk) (nf a) t
  | 0, _, a, t, ha, h => tc_1 ⟨a, ha, rfl, h⟩
  | v + 1, hv, a, t, ha, h => by
    rcases h with h | ⟨h1, h2⟩
    · exact PW_tc v (by omega) a t ha h
    · exact tc_tr (PW_tc v (by omega) a _ ha h1) (PW_tc v (by omega) v t (by omega) h2)
theorem IP_app {F : Nat → Nat → Prop} {nf : Nat → Nat} {b t : Nat} (hF : F b t) : ∀ (l : List Nat) (a : Nat), IP F nf a l (nf b) → IP F nf a (l ++ [b]) t
  | [], a, h => ⟨h, hF⟩
  | c :: l, a, h => ⟨h.1, IP_app hF l c h.2⟩
theorem tc_IP {F : Nat → Nat → Prop} {nf : Nat → Nat} {mk : Nat} (hinj : ∀ a b, a < mk → b < mk → nf a = nf b → a = b) : ∀ (k a t : Nat), a < mk → pth (RN F nf mk) k (nf a) t → ∃ l, (∀ x ∈ l, x < mk) ∧ IP F nf a l t
  | 0, a, t, ha, ⟨b, hb, e, hF⟩ => by
    have := hinj a b ha hb e
    subst this
    exact ⟨[], fun x hx => absurd hx List.not_mem_nil, hF⟩
  | k + 1, a, t, ha, ⟨c, hc, b, hb, e, hF⟩ => by
    rw [e] at hc
    obtain ⟨l, h1, h2⟩ := tc_IP hinj k a _ ha hc
    refine ⟨l ++ [b], fun x hx => ?_, IP_app hF l a h2⟩
    rcases List.mem_append.mp hx with q | q
    · exact h1 x q
    · rw [List.mem_singleton] at q; omega
theorem PW_iff {F : Nat → Nat → Prop} {nf : Nat → Nat} {mk a t : Nat} (hinj : ∀ a b, a < mk → b < mk → nf a = nf b → a = b) (ha : a < mk) : PW F nf mk a t ↔ tc (RN F nf mk) (nf a) t := by
  constructor
  · exact PW_tc mk (Nat.le_refl _) a t ha
  · intro ⟨k, h⟩
    obtain ⟨l, h1, h2⟩ := tc_IP hinj k a t ha h
    exact PW_in mk l.length a l t (Nat.le_refl _) h1 h2
theorem k5r_0 : (Cond.fieldLink "LayerDesk$Reach" 11 "LayerDesk$Reach" "rows" "[I") ∈ wT := wT_t (List.mem_append_right _ (List.mem_append_right _ (List.mem_append_left _ (List.mem_of_getElem? (i := 174) rfl)))) rfl
set_option maxHeartbeats 4000000 in
set_option maxRecDepth 100000 in
theorem xc_Re_joinX (l : Launch) (D : va_G) (kA : Nat → ClassId) (sz : Nat) (ad : Nat → Nat → Nat) (E : Nat → Nat → va_E) (RL : List (Nat × Nat)) (b : Nat) (o : Nat) (oa : Nat) (f : Nat → Int32) (b3 : Nat) (o3 : Nat) (oa3 : Nat) (f3 : Nat → Int32) (ym0 : (b, o) ∈ RL) (yc0 : E b o = .inr (10, [.ref (ad b oa)])) (ym1 : (b, oa) ∈ RL) (yc1 : E b oa = .inl (kA 0, 6, .inl f)) (ym2 : (b3, o3) ∈ RL) (yc2 : E b3 o3 = .inr (10, [.ref (ad b3 oa3)])) (ym3 : (b3, oa3) ∈ RL) (yc3 : E b3 oa3 = .inl (kA 0, 6, .inl f3)) (hoa : o ≠ oa) (hap : ¬ (b3 = b ∧ o3 = oa) ∧ ¬ (b3 = b ∧ oa3 = oa)) : Met l xy_Re_join (.code xy_Re_join xb_Re_join 3 none :: wT) { frames := 0, cells := 0, slots := 0, locals := 0 } (va_Pc [.ref (ad b o), .ref (ad b3 o3)] (xPre D kA sz (rp ad E RL))) (va_Qv (fun (u : Nat → Nat → va_E) => ∃ f2 : Nat → Int32, (∀ r, r < 6 → f2 r = f r ||| f3 r) ∧ (u b oa = .inl (kA 0, 6, .inl f2)) ∧ ((∀ b2 o2, ¬ (b2 = b ∧ o2 = oa) → u b2 o2 = E b2 o2))) (fun (u : Nat → Nat → va_E) t => va_P D xcl (rp ad u RL) t.heap ∧ va_D (va_A (rp ad E RL) sz) (rp ad u RL)) (va_A (rp ad E RL) sz)) 0 0 (va_A (rp ad E RL) sz) := by
  refine Met.ofW (cc := xb_Re_join) (maxL := 3) (ret := none) (by decide) rfl ?_
  intro p e s m args below meth c s₁ B hml hv
  obtain ⟨rfl, hsz, hP, hK, hD0⟩ := hv
  have hx := B.exec
  have hb := B.bytes
  have hr := B.returns
  have hT := x_hT B.pre
  have hown : s.vm.findClass xR_Re = some m.cls := findClass_of_methodNamed B.named
  have hlocks := B.notSynchronized
  subst hsz
  have hD := hD0.self (sz := s.heap.size)
  generalize hAe : va_A (rp ad E RL) s.heap.size = A at hD ⊢
  have hA : ∀ q : Nat, s.heap.size ≤ q → A q := fun q h => by rw [← hAe]; exact Or.inr h
  have hS : va_S A s.heap s.heap [] := va_S.rf
  have hl := lv_entry ([.ref (ad b o), .ref (ad b3 o3)]) (n := 3) (Nat.le_of_ble_eq_true rfl)
  rw [lg_entry_eq]
  generalize (lg_sl ([.ref (ad b o), .ref (ad b3 o3)]) ++ List.replicate (3 - (lg_sl ([.ref (ad b o), .ref (ad b3 o3)])).length) Slot.unset).toArray = ls at hl ⊢
  have hl : lv_has ls 3 [(0, .ref (ad b o)), (1, .ref (ad b3 o3))] := hl
  have hP : va_P D xcl (rp ad E RL) s.heap := hP
  refine lv_iconst (v := 0) hx hb xd_Re_join_0 (by decide) ?_
  refine lv_istore_n hx hb xd_Re_join_1 rfl hl (Nat.le_of_ble_eq_true rfl) rfl (fun ls hl => ?_)
  have hl : lv_has ls 3 [(2, .int 0), (0, .ref (ad b o)), (1, .ref (ad b3 o3))] := hl
  refine xlab (σ := Nat × (Nat → Nat → va_E) × (Nat → Int32)) (ml := 3) 2 (fun (i, E1, f1) => [(2, .int (nI i)), (0, .ref (ad b o)), (1, .ref (ad b3 o3))]) (fun (i, E1, f1) => []) (fun (i, E1, f1) => rp ad E1 RL) (fun (i, E1, f1) => (i ≤ 6) ∧ (E1 b oa = .inl (kA 0, 6, .inl f1)) ∧ (∀ b2 o2, ¬ (b2 = b ∧ o2 = oa) → E1 b2 o2 = E b2 o2) ∧ (∀ r, r < i → f1 r = f r ||| f3 r) ∧ (∀ r, i ≤ r → f1 r = f r)) (fun (i, E1, f1) => 6 - i) ?_ (0, E, f) _ _ _ (lv_sub hl [0, 1, 2] rfl) hP hD hS ⟨(show 0 ≤ 6 from by first | assumption | omega), (show E b oa = .inl (kA 0, 6, .inl f) from yc1), (show ∀ b2 o2, ¬ (b2 = b ∧ o2 = oa) → E b2 o2 = E b2 o2 from fun b2 o2 _ => rfl), (show ∀ r, r < 0 → f r = f r ||| f3 r from fun r hr => absurd hr (by omega)), (show ∀ r, 0 ≤ r → f r = f r from fun r _ => rfl)⟩
  intro n9 ih1 a9 ls H locs hμ hl hP hD hS hI
  subst hμ
  obtain ⟨i, E1, f1⟩ := a9
  obtain ⟨hi, hc9, hfr, hj1, hj2⟩ := hI
  have hi : i ≤ 6 := hi
  have hc9 : E1 b oa = .inl (kA 0, 6, .inl f1) := hc9
  have hfr : ∀ b2 o2, ¬ (b2 = b ∧ o2 = oa) → E1 b2 o2 = E b2 o2 := hfr
  have hj1 : ∀ r, r < i → f1 r = f r ||| f3 r := hj1
  have hj2 : ∀ r, i ≤ r → f1 r = f r := hj2
  have hl : lv_has ls 3 [(2, .int (nI i)), (0, .ref (ad b o)), (1, .ref (ad b3 o3))] := hl
  have hP : va_P D xcl (rp ad E1 RL) H := hP
  have hD : va_D A (rp ad E1 RL) := hD
  have c_2 : E1 b o = .inr (10, [.ref (ad b oa)]) := (hfr b o (by omega)).trans yc0
  have c_3 : E1 b3 o3 = .inr (10, [.ref (ad b3 oa3)]) := (hfr b3 o3 (by omega)).trans yc2
  have c_4 : E1 b3 oa3 = .inl (kA 0, 6, .inl f3) := (hfr b3 oa3 (by omega)).trans yc3
  refine lv_iload_n hx hb xd_Re_join_2 rfl (lv_at hl 0 rfl) ?_
  refine lv_bipush (v := 6) hx hb xd_Re_join_3 (by decide) ?_
  refine xn_ge (a := i) (b := 6) (tgt := 29) hx hb xd_Re_join_5 (by decide) (by omega) (by omega) (fun hc5 => ?_) (fun hc5 => ?_)
  · exact W.vret hx hb hr (fun t ht hW => ⟨⟨E1, rfl, ⟨f1, (fun r hr => hj1 r (by omega)), hc9, (fun b2 o2 h09 => by show E1 b2 o2 = _; rw [hfr b2 o2 (by omega)])⟩, by rw [ht]; exact hP, hD⟩, hS.F ht⟩) hS.2.2 xd_Re_join_29
  · refine lv_aload_n hx hb xd_Re_join_8 rfl (lv_at hl 1 rfl) ?_
    refine px_get (D := D) (ci := 10) (v := .ref (ad b oa)) (C := xR_Re) (T := xT_Re) (N := 1) hx hb hT xi_Re hown hK.1 hP ym0 c_2 rfl 0 (by decide) (hT _ k5r_0) (fun _ h9 => h9) rfl xd_Re_join_9 ?_
    refine lv_iload_n hx hb xd_Re_join_12 rfl (lv_at hl 0 rfl) ?_
    refine lv_dup2_11 hx hb xd_Re_join_13 rfl rfl ?_
    refine px_iald (i := i) hx hb hK.1 hP ym1 hc9 0 rfl (by omega) (by decide) xd_Re_join_14 ?_
    refine lv_aload_n hx hb xd_Re_join_15 rfl (lv_at hl 2 rfl) ?_
    refine px_get (D := D) (ci := 10) (v := .ref (ad b3 oa3)) (C := xR_Re) (T := xT_Re) (N := 1) hx hb hT xi_Re hown hK.1 hP ym2 c_3 rfl 0 (by decide) (hT _ k5r_0) (fun _ h9 => h9) rfl xd_Re_join_16 ?_
    refine lv_iload_n hx hb xd_Re_join_19 rfl (lv_at hl 0 rfl) ?_
    refine px_iald (i := i) hx hb hK.1 hP ym3 c_4 0 rfl (by omega) (by decide) xd_Re_join_20 ?_
    refine lv_ior hx hb xd_Re_join_21 ?_
    refine px_iast (i := i) hx hb hK.1 hP hD hS ym1 hc9 0 rfl (by omega) (by decide) xd_Re_join_22 (fun H locs hP hD hS => ?_)
    have hP : va_P D xcl (rp ad (up2 E1 b oa (.inl (kA 0, 6, .inl (upd f1 i ((f1 i) ||| (f3 i)))))) RL) H := hP
    have hD : va_D A (rp ad (up2 E1 b oa (.inl (kA 0, 6, .inl (upd f1 i ((f1 i) ||| (f3 i)))))) RL) := hD
    generalize hE7 : up2 E1 b oa (.inl (kA 0, 6, .inl (upd f1 i ((f1 i) ||| (f3 i))))) = E6 at hP hD
    have fE8 : ∀ b2 o2, ¬ (b2 = b ∧ o2 = oa) → E6 b2 o2 = E1 b2 o2 := fun b2 o2 h9 => by rw [← hE7]; exact up2_ne (nr_or h9)
    have c_9 : E6 b oa = .inl (kA 0, 6, .inl (upd f1 i ((f1 i) ||| (f3 i)))) := by rw [← hE7]; exact up2_eq
    have c_10 : E6 b o = .inr (10, [.ref (ad b oa)]) := (fE8 b o (by omega)).trans c_2
    have c_11 : E6 b3 o3 = .inr (10, [.ref (ad b3 oa3)]) := (fE8 b3 o3 (by omega)).trans c_3
    have c_12 : E6 b3 oa3 = .inl (kA 0, 6, .inl f3) := (fE8 b3 oa3 (by omega)).trans c_4
    refine lv_iinc (k := 0) (x := (nI i)) (v := (nI (i + 1))) hx hb xd_Re_join_23 hl rfl (xb_inc i 1) (Nat.le_of_ble_eq_true rfl) rfl (fun ls hl => ?_)
    have hl : lv_has ls 3 [(2, .int (nI (i + 1))), (0, .ref (ad b o)), (1, .ref (ad b3 o3))] := hl
    refine lv_goto (tgt := 2) hx hb xd_Re_join_26 (by decide) ?_
    exact ih1 (i + 1, E6, (upd f1 i ((f1 i) ||| (f3 i)))) _ _ _ (show 6 - (i + 1) < 6 - i by omega) (lv_sub hl [0, 1, 2] rfl) hP hD hS ⟨(show (i + 1) ≤ 6 from by first | assumption | omega), (show E6 b oa = .inl (kA 0, 6, .inl (upd f1 i ((f1 i) ||| (f3 i)))) from c_9), (show ∀ b2 o2, ¬ (b2 = b ∧ o2 = oa) → E6 b2 o2 = E b2 o2 from fun b2 o2 h9 => by rw [fE8 b2 o2 (by omega), hfr b2 o2 (by omega)]), (show ∀ r, r < (i + 1) → (upd f1 i ((f1 i) ||| (f3 i))) r = f r ||| f3 r from fun r hr => by
        by_cases q : r = i
        · rw [q, pk_us, hj2 i (Nat.le_refl _)]
        · rw [pk_un q]; exact hj1 r (by omega)), (show ∀ r, (i + 1) ≤ r → (upd f1 i ((f1 i) ||| (f3 i))) r = f r from fun r hr => by rw [pk_un (by omega)]; exact hj2 r (by omega))⟩
set_option maxHeartbeats 4000000 in
set_option maxRecDepth 100000 in
theorem xc_Re_joinSX (l : Launch) (D : va_G) (kA : Nat → ClassId) (sz : Nat) (ad : Nat → Nat → Nat) (E : Nat → Nat → va_E) (RL : List (Nat × Nat)) (b : Nat) (o : Nat) (oa : Nat) (f : Nat → Int32) (ym0 : (b, o) ∈ RL) (yc0 : E b o = .inr (10, [.ref (ad b oa)])) (ym1 : (b, oa) ∈ RL) (yc1 : E b oa = .inl (kA 0, 6, .inl f)) (hoa : o ≠ oa) : Met l xy_Re_join (.code xy_Re_join xb_Re_join 3 none :: wT) { frames := 0, cells := 0, slots := 0, locals := 0 } (va_Pc [.ref (ad b o), .ref (ad b o)] (xPre D kA sz (rp ad E RL))) (va_Qv (fun (u : Nat → Nat → va_E) => ∃ f2 : Nat → Int32, (∀ r, r < 6 → f2 r = f r ||| f r) ∧ (u b oa = .inl (kA 0, 6, .inl f2)) ∧ ((∀ b2 o2, ¬ (b2 = b ∧ o2 = oa) → u b2 o2 = E b2 o2))) (fun (u : Nat → Nat → va_E) t => va_P D xcl (rp ad u RL) t.heap ∧ va_D (va_A (rp ad E RL) sz) (rp ad u RL)) (va_A (rp ad E RL) sz)) 0 0 (va_A (rp ad E RL) sz) := by
  refine Met.ofW (cc := xb_Re_join) (maxL := 3) (ret := none) (by decide) rfl ?_
  intro p e s m args below meth c s₁ B hml hv
  obtain ⟨rfl, hsz, hP, hK, hD0⟩ := hv
  have hx := B.exec
  have hb := B.bytes
  have hr := B.returns
  have hT := x_hT B.pre
  have hown : s.vm.findClass xR_Re = some m.cls := findClass_of_methodNamed B.named
  have hlocks := B.notSynchronized
  subst hsz
  have hD := hD0.self (sz := s.heap.size)
  generalize hAe : va_A (rp ad E RL) s.heap.size = A at hD ⊢
  have hA : ∀ q : Nat, s.heap.size ≤ q → A q := fun q h => by rw [← hAe]; exact Or.inr h
  have hS : va_S A s.heap s.heap [] := va_S.rf
  have hl := lv_entry ([.ref (ad b o), .ref (ad b o)]) (n := 3) (Nat.le_of_ble_eq_true rfl)
  rw [lg_entry_eq]
  generalize (lg_sl ([.ref (ad b o), .ref (ad b o)]) ++ List.replicate (3 - (lg_sl ([.ref (ad b o), .ref (ad b o)])).length) Slot.unset).toArray = ls at hl ⊢
  have hl : lv_has ls 3 [(0, .ref (ad b o)), (1, .ref (ad b o))] := hl
  have hP : va_P D xcl (rp ad E RL) s.heap := hP
  refine lv_iconst (v := 0) hx hb xd_Re_join_0 (by decide) ?_
  refine lv_istore_n hx hb xd_Re_join_1 rfl hl (Nat.le_of_ble_eq_true rfl) rfl (fun ls hl => ?_)
  have hl : lv_has ls 3 [(2, .int 0), (0, .ref (ad b o)), (1, .ref (ad b o))] := hl
  refine xlab (σ := Nat × (Nat → Nat → va_E) × (Nat → Int32)) (ml := 3) 2 (fun (i, E1, f1) => [(2, .int (nI i)), (0, .ref (ad b o)), (1, .ref (ad b o))]) (fun (i, E1, f1) => []) (fun (i, E1, f1) => rp ad E1 RL) (fun (i, E1, f1) => (i ≤ 6) ∧ (E1 b oa = .inl (kA 0, 6, .inl f1)) ∧ (∀ b2 o2, ¬ (b2 = b ∧ o2 = oa) → E1 b2 o2 = E b2 o2) ∧ (∀ r, r < i → f1 r = f r ||| f r) ∧ (∀ r, i ≤ r → f1 r = f r)) (fun (i, E1, f1) => 6 - i) ?_ (0, E, f) _ _ _ (lv_sub hl [0, 1, 2] rfl) hP hD hS ⟨(show 0 ≤ 6 from by first | assumption | omega), (show E b oa = .inl (kA 0, 6, .inl f) from yc1), (show ∀ b2 o2, ¬ (b2 = b ∧ o2 = oa) → E b2 o2 = E b2 o2 from fun b2 o2 _ => rfl), (show ∀ r, r < 0 → f r = f r ||| f r from fun r hr => absurd hr (by omega)), (show ∀ r, 0 ≤ r → f r = f r from fun r _ => rfl)⟩
  intro n9 ih1 a9 ls H locs hμ hl hP hD hS hI
  subst hμ
  obtain ⟨i, E1, f1⟩ := a9
  obtain ⟨hi, hc9, hfr, hj1, hj2⟩ := hI
  have hi : i ≤ 6 := hi
  have hc9 : E1 b oa = .inl (kA 0, 6, .inl f1) := hc9
  have hfr : ∀ b2 o2, ¬ (b2 = b ∧ o2 = oa) → E1 b2 o2 = E b2 o2 := hfr
  have hj1 : ∀ r, r < i → f1 r = f r ||| f r := hj1
  have hj2 : ∀ r, i ≤ r → f1 r = f r := hj2
  have hl : lv_has ls 3 [(2, .int (nI i)), (0, .ref (ad b o)), (1, .ref (ad b o))] := hl
  have hP : va_P D xcl (rp ad E1 RL) H := hP
  have hD : va_D A (rp ad E1 RL) := hD
  have c_2 : E1 b o = .inr (10, [.ref (ad b oa)]) := (hfr b o (by omega)).trans yc0
  refine lv_iload_n hx hb xd_Re_join_2 rfl (lv_at hl 0 rfl) ?_
  refine lv_bipush (v := 6) hx hb xd_Re_join_3 (by decide) ?_
  refine xn_ge (a := i) (b := 6) (tgt := 29) hx hb xd_Re_join_5 (by decide) (by omega) (by omega) (fun hc3 => ?_) (fun hc3 => ?_)
  · exact W.vret hx hb hr (fun t ht hW => ⟨⟨E1, rfl, ⟨f1, (fun r hr => hj1 r (by omega)), hc9, (fun b2 o2 h09 => by show E1 b2 o2 = _; rw [hfr b2 o2 (by omega)])⟩, by rw [ht]; exact hP, hD⟩, hS.F ht⟩) hS.2.2 xd_Re_join_29
  · refine lv_aload_n hx hb xd_Re_join_8 rfl (lv_at hl 1 rfl) ?_
    refine px_get (D := D) (ci := 10) (v := .ref (ad b oa)) (C := xR_Re) (T := xT_Re) (N := 1) hx hb hT xi_Re hown hK.1 hP ym0 c_2 rfl 0 (by decide) (hT _ k5r_0) (fun _ h9 => h9) rfl xd_Re_join_9 ?_
    refine lv_iload_n hx hb xd_Re_join_12 rfl (lv_at hl 0 rfl) ?_
    refine lv_dup2_11 hx hb xd_Re_join_13 rfl rfl ?_
    refine px_iald (i := i) hx hb hK.1 hP ym1 hc9 0 rfl (by omega) (by decide) xd_Re_join_14 ?_
    refine lv_aload_n hx hb xd_Re_join_15 rfl (lv_at hl 2 rfl) ?_
    refine px_get (D := D) (ci := 10) (v := .ref (ad b oa)) (C := xR_Re) (T := xT_Re) (N := 1) hx hb hT xi_Re hown hK.1 hP ym0 c_2 rfl 0 (by decide) (hT _ k5r_0) (fun _ h9 => h9) rfl xd_Re_join_16 ?_
    refine lv_iload_n hx hb xd_Re_join_19 rfl (lv_at hl 0 rfl) ?_
    refine px_iald (i := i) hx hb hK.1 hP ym1 hc9 0 rfl (by omega) (by decide) xd_Re_join_20 ?_
    refine lv_ior hx hb xd_Re_join_21 ?_
    refine px_iast (i := i) hx hb hK.1 hP hD hS ym1 hc9 0 rfl (by omega) (by decide) xd_Re_join_22 (fun H locs hP hD hS => ?_)
    have hP : va_P D xcl (rp ad (up2 E1 b oa (.inl (kA 0, 6, .inl (upd f1 i ((f1 i) ||| (f1 i)))))) RL) H := hP
    have hD : va_D A (rp ad (up2 E1 b oa (.inl (kA 0, 6, .inl (upd f1 i ((f1 i) ||| (f1 i)))))) RL) := hD
    generalize hE5 : up2 E1 b oa (.inl (kA 0, 6, .inl (upd f1 i ((f1 i) ||| (f1 i))))) = E4 at hP hD
    have fE6 : ∀ b2 o2, ¬ (b2 = b ∧ o2 = oa) → E4 b2 o2 = E1 b2 o2 := fun b2 o2 h9 => by rw [← hE5]; exact up2_ne (nr_or h9)
    have c_7 : E4 b oa = .inl (kA 0, 6, .inl (upd f1 i ((f1 i) ||| (f1 i)))) := by rw [← hE5]; exact up2_eq
    have c_8 : E4 b o = .inr (10, [.ref (ad b oa)]) := (fE6 b o (by omega)).trans c_2
    refine lv_iinc (k := 0) (x := (nI i)) (v := (nI (i + 1))) hx hb xd_Re_join_23 hl rfl (xb_inc i 1) (Nat.le_of_ble_eq_true rfl) rfl (fun ls hl => ?_)
    have hl : lv_has ls 3 [(2, .int (nI (i + 1))), (0, .ref (ad b o)), (1, .ref (ad b o))] := hl
    refine lv_goto (tgt := 2) hx hb xd_Re_join_26 (by decide) ?_
    exact ih1 (i + 1, E4, (upd f1 i ((f1 i) ||| (f1 i)))) _ _ _ (show 6 - (i + 1) < 6 - i by omega) (lv_sub hl [0, 1, 2] rfl) hP hD hS ⟨(show (i + 1) ≤ 6 from by first | assumption | omega), (show E4 b oa = .inl (kA 0, 6, .inl (upd f1 i ((f1 i) ||| (f1 i)))) from c_7), (show ∀ b2 o2, ¬ (b2 = b ∧ o2 = oa) → E4 b2 o2 = E b2 o2 from fun b2 o2 h9 => by rw [fE6 b2 o2 (by omega), hfr b2 o2 (by omega)]), (show ∀ r, r < (i + 1) → (upd f1 i ((f1 i) ||| (f1 i))) r = f r ||| f r from fun r hr => by
        by_cases q : r = i
        · rw [q, pk_us, hj2 i (Nat.le_refl _)]
        · rw [pk_un q]; exact hj1 r (by omega)), (show ∀ r, (i + 1) ≤ r → (upd f1 i ((f1 i) ||| (f1 i))) r = f r from fun r hr => by rw [pk_un (by omega)]; exact hj2 r (by omega))⟩
def LSp (g : gT) (n d k t : Nat) : Prop := ∃ i, i < k ∧ g 17 (5 * d + i) = 0 ∧ ∃ la e, lkG g (n + 1) (g 13 (5 * d + i)) = some (la, e) ∧ t = 12 * la + e
def CSp (g : gT) (n d k t : Nat) : Prop := ∃ i, i < k ∧ ¬ g 16 (5 * d + i) = 0 ∧ ∃ la e, lkG g (n + 1) (g 13 (5 * d + i)) = some (la, e) ∧ (t = 12 * la + e ∨ (¬ la = n ∧ tc (pst g) (12 * la + e) t))
theorem LSp_y {g : gT} {n d i t la e : Nat} (h : g 17 (5 * d + i) = 0) (hl : lkG g (n + 1) (g 13 (5 * d + i)) = some (la, e)) : LSp g n d (i + 1) t ↔ (LSp g n d i t ∨ t = 12 * la + e) := by
  constructor
  · intro ⟨j, h1, h2, la2, e2, h3, h4⟩
    rcases Nat.lt_or_ge j i with q | q
    · exact Or.inl ⟨j, q, h2, la2, e2, h3, h4⟩
    · rw [show j = i by omega, hl] at h3
      have q1 := congrArg Prod.fst (Option.some.inj h3)
      have q2 := congrArg Prod.snd (Option.some.inj h3)
      simp only at q1 q2
      exact Or.inr (by omega)
  · rintro (⟨j, h1, h2⟩ | q)
    · exact ⟨j, by omega, h2⟩
    · exact ⟨i, by omega, h, la, e, hl, q⟩
theorem LSp_n {g : gT} {n d i t : Nat} (h : ¬ g 17 (5 * d + i) = 0 ∨ lkG g (n + 1) (g 13 (5 * d + i)) = none) : LSp g n d (i + 1) t ↔ LSp g n d i t := by
  constructor
  · intro ⟨j, h1, h2, la2, e2, h3, h4⟩
    rcases Nat.lt_or_ge j i with q | q
    · exact ⟨j, q, h2, la2, e2, h3, h4⟩
    · rw [show j = i by omega] at h2 h3
      rcases h with z | z
      · exact absurd h2 z
      · rw [z] at h3; cases h3
  · intro ⟨j, h1, h2⟩
    exact ⟨j, by omega, h2⟩
theorem CSp_y {g : gT} {n d i t la e : Nat} (h : ¬ g 16 (5 * d + i) = 0) (hl : lkG g (n + 1) (g 13 (5 * d + i)) = some (la, e)) : CSp g n d (i + 1) t ↔ (CSp g n d i t ∨ (t = 12 * la + e ∨ (¬ la = n ∧ tc (pst g) (12 * la + e) t))) := by
  constructor
  · intro ⟨j, h1, h2, la2, e2, h3, h4⟩
    rcases Nat.lt_or_ge j i with q | q
    · exact Or.inl ⟨j, q, h2, la2, e2, h3, h4⟩
    · rw [show j = i by omega, hl] at h3
      have q1 := congrArg Prod.fst (Option.some.inj h3)
      have q2 := congrArg Prod.snd (Option.some.inj h3)
      simp only at q1 q2
      subst q1
      subst q2
      exact Or.inr h4
  · rintro (⟨j, h1, h2⟩ | q)
    · exact ⟨j, by omega, h2⟩
    · exact ⟨i, by omega, h, la, e, hl, q⟩
theorem CSp_n {g : gT} {n d i t : Nat} (h : g 16 (5 * d + i) = 0 ∨ lkG g (n + 1) (g 13 (5 * d + i)) = none) : CSp g n d (i + 1) t ↔ CSp g n d i t := by
  constructor
  · intro ⟨j, h1, h2, la2, e2, h3, h4⟩
    rcases Nat.lt_or_ge j i with q | q
    · exact ⟨j, q, h2, la2, e2, h3, h4⟩
    · rw [show j = i by omega] at h2 h3
      rcases h with z | z
      · exact absurd z h2
      · rw [z] at h3; cases h3
  · intro ⟨j, h1, h2⟩
    exact ⟨j, by omega, h2⟩
theorem LSp_0 {g : gT} {n d t : Nat} : ¬ LSp g n d 0 t := fun ⟨j, h, _⟩ => by omega
theorem CSp_0 {g : gT} {n d t : Nat} : ¬ CSp g n d 0 t := fun ⟨j, h, _⟩ => by omega
def CBs (g : gT) (E : Nat → Nat → va_E) (n : Nat) : Prop := ∀ la, la < n → ∀ k, k < iN (g 20 la) → ∀ t, t < 72 → (BS (eA (E (20 + la) (16 + 10 * k))) t ↔ tc (pst g) (12 * la + mdv g la k) t)
theorem CBs_same {g : gT} {E E' : Nat → Nat → va_E} {n : Nat} (h : ∀ la o, la < n → E' (20 + la) o = E (20 + la) o) (hc : CBs g E n) : CBs g E' n := fun la hl k hk t ht => by rw [h la _ hl]; exact hc la hl k hk t ht
theorem TLas_ro {g : gT} {ad : Nat → Nat → Nat} {E E' : Nat → Nat → va_E} {nd nL : Nat} (h : ∀ n o, n < nL → (o = 0 ∨ o = 1 ∨ ∃ k, o = 10 + 10 * k) → E' (20 + n) o = E (20 + n) o) (ht : TLas g ad E nd nL) : TLas g ad E' nd nL := fun n hn => by
  unfold TLa
  rw [h n 0 hn (Or.inl rfl), h n 1 hn (Or.inr (Or.inl rfl))]
  obtain ⟨q1, q2, q3, q4⟩ := ht n hn
  exact ⟨q1, q2, q3, fun k hk => by rw [h n (10 + 10 * k) hn (Or.inr (Or.inr ⟨k, rfl⟩))]; exact q4 k hk⟩
def RQX (g : gT) (kA : Nat → ClassId) (ad : Nat → Nat → Nat) (E : Nat → Nat → va_E) (RL : List (Nat × Nat)) (nd n d m : Nat) (fr : Nat → Option Nat) : Prop := ∀ j, j < m → (fr j = none ∧ lkG g (n + 1) (g 13 (5 * d + j)) = none) ∨ ∃ x9 k9, x9 ≤ n ∧ fr j = some (ad (20 + x9) (10 + 10 * k9)) ∧ MEI kA ad E RL nd x9 k9 ∧ k9 < iN (g 20 x9) ∧ lkG g (n + 1) (g 13 (5 * d + j)) = some (x9, mdv g x9 k9)
theorem RQX_RU {g : gT} {kA : Nat → ClassId} {ad : Nat → Nat → Nat} {E E' : Nat → Nat → va_E} {RL : List (Nat × Nat)} {nd n d m : Nat} {fr : Nat → Option Nat} (hR : RU kA E E') (h : RQX g kA ad E RL nd n d m fr) : RQX g kA ad E' RL nd n d m fr := fun j hj => by
  rcases h j hj with q | ⟨x, k, q1, q2, q3, q4⟩
  · exact Or.inl q
  · exact Or.inr ⟨x, k, q1, q2, MEI_RU hR q3, q4⟩
theorem RQX_addN {g : gT} {kA : Nat → ClassId} {ad : Nat → Nat → Nat} {E : Nat → Nat → va_E} {RL : List (Nat × Nat)} {nd n d m : Nat} {fr : Nat → Option Nat} (hl : lkG g (n + 1) (g 13 (5 * d + m)) = none) (h : RQX g kA ad E RL nd n d m fr) : RQX g kA ad E RL nd n d (m + 1) (va_up fr m none) := fun j hj => by
  by_cases q : j = m
  · rw [q]; exact Or.inl ⟨vu_eq, hl⟩
  · rw [vu_ne q]; exact h j (by omega)
theorem RQX_add {g : gT} {kA : Nat → ClassId} {ad : Nat → Nat → Nat} {E : Nat → Nat → va_E} {RL : List (Nat × Nat)} {nd n d m x k : Nat} {fr : Nat → Option Nat} (hx : x ≤ n) (hM : MEI kA ad E RL nd x k) (hk : k < iN (g 20 x)) (hl : lkG g (n + 1) (g 13 (5 * d + m)) = some (x, mdv g x k)) (h : RQX g kA ad E RL nd n d m fr) : RQX g kA ad E RL nd n d (m + 1) (va_up fr m (some (ad (20 + x) (10 + 10 * k)))) := fun j hj => by
  by_cases q : j = m
  · rw [q]; exact Or.inr ⟨x, k, hx, vu_eq, hM, hk, hl⟩
  · rw [vu_ne q]; exact h j (by omega)
