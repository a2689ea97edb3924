theorem k5g_0 : (Cond.code xy_Li_nameAt xb_Li_nameAt 4 (some .int)) ∈ wT := wT_t (List.mem_append_right _ (List.mem_append_left _ (List.mem_of_getElem? (i := 17) rfl))) rfl
theorem k5g_1 : (Cond.methodLink "LayerDesk$Shelf" 70 xy_Li_nameAt) ∈ wT := wT_t (List.mem_append_right _ (List.mem_append_left _ (List.mem_of_getElem? (i := 14) rfl))) rfl
theorem k5g_2 : (Cond.instanceMethod xy_Li_nameAt) ∈ wT := wT_t (List.mem_append_right _ (List.mem_append_left _ (List.mem_of_getElem? (i := 15) rfl))) rfl
theorem k5g_3 : (Cond.selects "LayerDesk$Line" xy_Li_nameAt xy_Li_nameAt) ∈ wT := wT_t (List.mem_append_right _ (List.mem_append_left _ (List.mem_of_getElem? (i := 16) rfl))) rfl
theorem k5g_4 : (Cond.initialized "LayerDesk$Line") ∈ wT := wT_t (List.mem_append_left _ (List.mem_of_getElem? (i := 2) rfl)) rfl
theorem k5g_5 : (Cond.fieldLink "LayerDesk$Shelf" 27 "LayerDesk$Line" "words" "I") ∈ wT := wT_t (List.mem_append_left _ (List.mem_of_getElem? (i := 41) rfl)) rfl
theorem k5g_6 : (Cond.code xy_Sh_latest xb_Sh_latest 1 (some (.object "LayerDesk$Descriptor"))) ∈ wT := wT_t (List.mem_append_right _ (List.mem_append_left _ (List.mem_of_getElem? (i := 119) rfl))) rfl
theorem k5g_7 : (Cond.methodLink "LayerDesk$Shelf" 81 xy_Sh_latest) ∈ wT := wT_t (List.mem_append_right _ (List.mem_append_left _ (List.mem_of_getElem? (i := 116) rfl))) rfl
theorem k5g_8 : (Cond.instanceMethod xy_Sh_latest) ∈ wT := wT_t (List.mem_append_right _ (List.mem_append_left _ (List.mem_of_getElem? (i := 118) rfl))) rfl
theorem k5g_9 : (Cond.selects "LayerDesk$Shelf" xy_Sh_latest xy_Sh_latest) ∈ wT := wT_s (q := (xy_Sh_latest, 2)) (by decide +kernel) rfl
theorem k5g_10 : (Cond.initialized "LayerDesk$Shelf") ∈ wT := wT_t (List.mem_append_left _ (List.mem_of_getElem? (i := 3) rfl)) rfl
theorem k5g_11 : (Cond.code xy_Li_wordIs xb_Li_wordIs 4 (some .boolean)) ∈ wT := wT_t (List.mem_append_left _ (List.mem_of_getElem? (i := 199) rfl)) rfl
theorem k5g_12 : (Cond.methodLink "LayerDesk$Shelf" 34 xy_Li_wordIs) ∈ wT := wT_t (List.mem_append_left _ (List.mem_of_getElem? (i := 196) rfl)) rfl
theorem k5g_13 : (Cond.instanceMethod xy_Li_wordIs) ∈ wT := wT_t (List.mem_append_left _ (List.mem_of_getElem? (i := 197) rfl)) rfl
theorem k5g_14 : (Cond.selects "LayerDesk$Line" xy_Li_wordIs xy_Li_wordIs) ∈ wT := wT_t (List.mem_append_left _ (List.mem_of_getElem? (i := 198) rfl)) rfl
theorem k5g_15 : (Cond.fieldLink "LayerDesk$Shelf" 135 "LayerDesk$Descriptor" "used" "LLayerDesk$Names;") ∈ wT := wT_t (List.mem_append_right _ (List.mem_append_left _ (List.mem_of_getElem? (i := 77) rfl))) rfl
theorem k5g_16 : (Cond.code xy_Na_holds xb_Na_holds 2 (some .boolean)) ∈ wT := wT_t (List.mem_append_right _ (List.mem_append_left _ (List.mem_of_getElem? (i := 123) rfl))) rfl
theorem k5g_17 : (Cond.methodLink "LayerDesk$Shelf" 89 xy_Na_holds) ∈ wT := wT_t (List.mem_append_right _ (List.mem_append_left _ (List.mem_of_getElem? (i := 120) rfl))) rfl
theorem k5g_18 : (Cond.instanceMethod xy_Na_holds) ∈ wT := wT_t (List.mem_append_right _ (List.mem_append_left _ (List.mem_of_getElem? (i := 121) rfl))) rfl
theorem k5g_19 : (Cond.selects "LayerDesk$Names" xy_Na_holds xy_Na_holds) ∈ wT := wT_t (List.mem_append_right _ (List.mem_append_left _ (List.mem_of_getElem? (i := 122) rfl))) rfl
theorem k5g_20 : (Cond.initialized "LayerDesk$Names") ∈ wT := wT_t (List.mem_append_left _ (List.mem_of_getElem? (i := 11) rfl)) rfl
theorem k5g_21 : (Cond.fieldLink "LayerDesk$Shelf" 95 "LayerDesk$Descriptor" "settled" "Z") ∈ wT := wT_t (List.mem_append_right _ (List.mem_append_left _ (List.mem_of_getElem? (i := 83) rfl))) rfl
theorem k5g_22 : (Cond.code xy_Na_isFull xb_Na_isFull 1 (some .boolean)) ∈ wT := wT_t (List.mem_append_right _ (List.mem_append_left _ (List.mem_of_getElem? (i := 131) rfl))) rfl
theorem k5g_23 : (Cond.methodLink "LayerDesk$Shelf" 99 xy_Na_isFull) ∈ wT := wT_t (List.mem_append_right _ (List.mem_append_left _ (List.mem_of_getElem? (i := 128) rfl))) rfl
theorem k5g_24 : (Cond.instanceMethod xy_Na_isFull) ∈ wT := wT_t (List.mem_append_right _ (List.mem_append_left _ (List.mem_of_getElem? (i := 129) rfl))) rfl
theorem k5g_25 : (Cond.selects "LayerDesk$Names" xy_Na_isFull xy_Na_isFull) ∈ wT := wT_t (List.mem_append_right _ (List.mem_append_left _ (List.mem_of_getElem? (i := 130) rfl))) rfl
theorem k5g_26 : (Cond.code xy_Na_append xb_Na_append 2 none) ∈ wT := wT_t (List.mem_append_right _ (List.mem_append_left _ (List.mem_of_getElem? (i := 154) rfl))) rfl
theorem k5g_27 : (Cond.methodLink "LayerDesk$Shelf" 141 xy_Na_append) ∈ wT := wT_t (List.mem_append_right _ (List.mem_append_left _ (List.mem_of_getElem? (i := 204) rfl))) rfl
theorem k5g_28 : (Cond.instanceMethod xy_Na_append) ∈ wT := wT_t (List.mem_append_right _ (List.mem_append_left _ (List.mem_of_getElem? (i := 152) rfl))) rfl
theorem k5g_29 : (Cond.selects "LayerDesk$Names" xy_Na_append xy_Na_append) ∈ wT := wT_t (List.mem_append_right _ (List.mem_append_left _ (List.mem_of_getElem? (i := 153) rfl))) rfl
theorem k5g_30 : (Cond.fieldLink "LayerDesk$Shelf" 138 "LayerDesk$Descriptor" "provided" "LLayerDesk$Names;") ∈ wT := wT_t (List.mem_append_right _ (List.mem_append_left _ (List.mem_of_getElem? (i := 81) rfl))) rfl
set_option maxHeartbeats 4000000 in
set_option maxRecDepth 100000 in
theorem xc_Sh_acceptServiceX (l : Launch) (D : va_G) (kA : Nat → ClassId) (sz : Nat) (ad : Nat → Nat → Nat) (E : Nat → Nat → va_E) (RL : List (Nat × Nat)) (Z : zT) (g : Nat → Nat → Int32) (ml : Nat) (nd : Nat) (len : Nat) (lt : Nat) (wl : List (Nat × Nat)) (cs : Nat) (hCI : CI kA ad E RL ml nd len wl.length cs) (hLW : LW g E lt wl) (hTD : TDs g E nd) (hZI : ZI g nd) : Met l xy_Sh_acceptService (.code xy_Sh_acceptService xb_Sh_acceptService 5 (some .int) :: wT) { frames := 5, cells := 0, slots := 0, locals := 108 } (va_Pc [.ref (ad 0 5), .ref (ad 0 1)] (xPreZ D kA sz (rp ad E RL) Z)) (va_Qi (fun (r : Int32) (u : (Nat → Nat → Nat) × (Nat → Nat → va_E) × List (Nat × Nat)) => CI kA u.1 u.2.1 u.2.2 ml nd len wl.length cs ∧ TDs (cif (wS (g 0) wl 0 zUs) (lS 14 (g 0) wl nd g) (lS 15 (g 0) wl nd g)) u.2.1 nd ∧ u.1 0 0 = ad 0 0 ∧ FRL ml nd ad u.1 E u.2.1) (fun (u : (Nat → Nat → Nat) × (Nat → Nat → va_E) × List (Nat × Nat)) t => va_P D xcl (rp u.1 u.2.1 u.2.2) t.heap ∧ va_D (va_A (rp ad E RL) sz) (rp u.1 u.2.1 u.2.2)) (va_A (rp ad E RL) sz)) 0 0 (va_A (rp ad E RL) sz) := by
  refine Met.ofW (cc := xb_Sh_acceptService) (maxL := 5) (ret := (some .int)) (by decide) rfl ?_
  intro p e s m args below meth c s₁ B hml hv
  obtain ⟨rfl, ⟨hsz, hP, hK, hD0⟩, hZ⟩ := hv
  have hx := B.exec
  have hb := B.bytes
  have hr := B.returns
  have hT := x_hT B.pre
  have hown : s.vm.findClass xR_Sh = some m.cls := findClass_of_methodNamed B.named
  have hlocks := B.notSynchronized
  subst hsz
  have hD := hD0.self (sz := s.heap.size)
  generalize hAe : va_A (rp ad E RL) s.heap.size = A at hD hZ ⊢
  have hA : ∀ q : Nat, s.heap.size ≤ q → A q := fun q h => by rw [← hAe]; exact Or.inr h
  have hS : va_S A s.heap s.heap [] := va_S.rf
  have hl := lv_entry ([.ref (ad 0 5), .ref (ad 0 1)]) (n := 5) (Nat.le_of_ble_eq_true rfl)
  rw [lg_entry_eq]
  generalize (lg_sl ([.ref (ad 0 5), .ref (ad 0 1)]) ++ List.replicate (5 - (lg_sl ([.ref (ad 0 5), .ref (ad 0 1)])).length) Slot.unset).toArray = ls at hl ⊢
  have hl : lv_has ls 5 [(0, .ref (ad 0 5)), (1, .ref (ad 0 1))] := hl
  have hP : va_P D xcl (rp ad E RL) s.heap := hP
  obtain ⟨hmB, hDk, hLi, hSh, hCh, hLa, hDIs, hLIs⟩ := id hCI
  obtain ⟨hWL, hlt40, hLwd, hLtx⟩ := id hLW
  obtain ⟨lf_1, q_1⟩ := id (hDk)
  have c_2 : E 0 0 = .inr (0, [.ref (ad 0 1), .ref (ad 0 5), .ref (ad 0 7), .ref (ad 0 9), .int (nI ml), .int lf_1]) := q_1
  have m_3 : (0, 0) ∈ RL := hmB 0 (by omega)
  obtain ⟨tx_4, fb_4, fe_4, hl1_4, hw2_4, q1_4, q2_4, q3_4, q4_4, hws_4⟩ := id (hLi)
  have c_5 : E 0 1 = .inr (1, [.ref (ad 0 2), .ref (ad 0 3), .ref (ad 0 4), .int (nI len), .int (nI (wl.length))]) := q1_4
  have m_6 : (0, 1) ∈ RL := hmB 1 (by omega)
  have c_7 : E 0 2 = .inl (kA 1, 40, .inl tx_4) := q2_4
  have m_8 : (0, 2) ∈ RL := hmB 2 (by omega)
  have c_9 : E 0 3 = .inl (kA 0, 20, .inl fb_4) := q3_4
  have m_10 : (0, 3) ∈ RL := hmB 3 (by omega)
  have c_11 : E 0 4 = .inl (kA 0, 20, .inl fe_4) := q4_4
  have m_12 : (0, 4) ∈ RL := hmB 4 (by omega)
  obtain ⟨fd_13, hnd_13, q5_13, q6_13, hds_13⟩ := id (hSh)
  have c_14 : E 0 5 = .inr (2, [.ref (ad 0 6), .int (nI nd)]) := q5_13
  have m_15 : (0, 5) ∈ RL := hmB 5 (by omega)
  have c_16 : E 0 6 = .inl (kA 4, 12, .inr (.inr (.inr (.inr fd_13)))) := q6_13
  have m_17 : (0, 6) ∈ RL := hmB 6 (by omega)
  obtain ⟨cf_18, pv_18, fc_18, hcs_18, hpv_18, q7_18, q8_18, hfc_18⟩ := id (hCh)
  have c_19 : E 0 7 = .inr (3, [.ref (ad 0 5), .ref (ad 0 8), .int (nI cs), .int cf_18, pv_18]) := q7_18
  have m_20 : (0, 7) ∈ RL := hmB 7 (by omega)
  have c_21 : E 0 8 = .inl (kA 4, 12, .inr (.inr (.inr (.inr fc_18)))) := q8_18
  have m_22 : (0, 8) ∈ RL := hmB 8 (by omega)
  obtain ⟨fl_23, hml_23, q9_23, hla_23⟩ := id (hLa)
  have c_24 : E 0 9 = .inl (kA 5, 5, .inr (.inr (.inr (.inr fl_23)))) := q9_23
  have m_25 : (0, 9) ∈ RL := hmB 9 (by omega)
  obtain ⟨zw0, zw1, zw2, zw3, zw4, zw5, zw6, zw7, zw8, zw9, zw10, zw11⟩ := zW_all
  refine lv_aload_n hx hb xd_Sh_acceptService_0 rfl (lv_at hl 1 rfl) ?_
  refine lv_iconst (v := 1) hx hb xd_Sh_acceptService_1 (by decide) ?_
  have hFc := px_free hD hS hA
  refine va_calli (va_runV (As := [.int 1]) (rest := []) ⟨hx, hb, hml, hown, hT⟩ (xc_Li_nameAtX l D kA s.heap.size ad E RL g ml nd len lt wl cs 1 (by first | assumption | omega) (by first | assumption | omega) (by first | assumption | omega)) (cwV 1 hT (wT_V k5g_1 k5g_2 k5g_3 k5g_4 k5g_0) rfl rfl rfl (by decide +kernel) ⟨Nat.le_of_ble_eq_true rfl, Nat.le_of_ble_eq_true rfl⟩) (px_preV hK hP hD m_6 c_5 rfl) rfl rfl hl.1 rfl (lv_room (Nat.le_of_ble_eq_true rfl)) xd_Sh_acceptService_2 ⟨(Nat.le_of_ble_eq_true rfl), (Nat.le_of_ble_eq_true rfl)⟩) hS (fun q _ h => hFc q h) hFc (fun r26 u27 t H1 locs ht hvm hp28 hB hz1 hk1 hS => ?_)
  obtain ⟨hP1, hD1⟩ := hB
  rw [ht] at hP1
  have hD1 := hD1.weaken (fun _ _ _ h => hFc _ h)
  generalize H1 = H at hP1 hS ⊢
  have hP := hP1
  have hD := hD1
  have hP : va_P D xcl (rp ad E RL) H := hP
  have hD : va_D A (rp ad E RL) := hD
  have hp28 : r26 = wN (g 0) wl 1 := hp28
  subst hp28
  have hP : va_P D xcl (rp ad E RL) H := hP
  have hD : va_D A (rp ad E RL) := hD
  refine lv_istore_n hx hb xd_Sh_acceptService_5 rfl hl (Nat.le_of_ble_eq_true rfl) rfl (fun ls hl => ?_)
  have hl : lv_has ls 5 [(2, .int (wN (g 0) wl 1)), (0, .ref (ad 0 5)), (1, .ref (ad 0 1))] := hl
  refine lv_aload_n hx hb xd_Sh_acceptService_6 rfl (lv_at hl 2 rfl) ?_
  refine px_get (D := D) (ci := 1) (v := .int (nI (wl.length))) (C := xR_Li) (T := xT_Li) (N := 5) hx hb hT xi_Li hown hK.1 hP m_6 c_5 rfl 4 (by decide) (hT _ k5g_5) (fun _ h9 => h9) rfl xd_Sh_acceptService_7 ?_
  refine lv_iconst (v := 2) hx hb xd_Sh_acceptService_10 (by decide) ?_
  refine xn_ne (a := wl.length) (b := 2) (tgt := 18) hx hb xd_Sh_acceptService_11 (by decide) (by omega) (by omega) (fun hc29 => ?_) (fun hc29 => ?_)
  · refine lv_iconst (v := (-1)) hx hb xd_Sh_acceptService_18 (by decide) ?_
    refine W.widen (k := 0) (n := 0) (Nat.le_of_ble_eq_true rfl) (Nat.le_of_ble_eq_true rfl) ?_
    exact W.iret (v := (-1)) hx hb hr (fun t ht hW => ⟨⟨(-1), (ad, E, RL), rfl, ⟨hCI, by rw [cif_eq (lS_no1 (a := 14) (fun q => absurd q.1 (by omega))).symm (lS_no1 (a := 15) (fun q => absurd q.1 (by omega))).symm]; exact hTD, rfl, FRL_rf⟩, by rw [ht]; exact hP, hD⟩, hS.F ht⟩) hS.2.2 xd_Sh_acceptService_19
  · refine lv_iload_n hx hb xd_Sh_acceptService_14 rfl (lv_at hl 0 rfl) ?_
    refine lv_if_ne (tgt := 20) hx hb xd_Sh_acceptService_15 (by decide) (fun hc30 => ?_) (fun hc30 => ?_)
    · refine lv_aload_n hx hb xd_Sh_acceptService_20 rfl (lv_at hl 1 rfl) ?_
      have hFc := px_free hD hS hA
      refine va_callq (va_runV (As := []) (rest := []) ⟨hx, hb, hml, hown, hT⟩ (xc_Sh_latestX l D kA H.size ad E RL ml nd len wl.length cs (by first | assumption | omega)) (cwV 0 hT (wT_V k5g_7 k5g_8 k5g_9 k5g_10 k5g_6) rfl rfl rfl (by decide +kernel) ⟨Nat.le_of_ble_eq_true rfl, Nat.le_of_ble_eq_true rfl⟩) (px_preV hK hP hD m_15 c_14 rfl) rfl rfl hl.1 rfl (lv_room (Nat.le_of_ble_eq_true rfl)) xd_Sh_acceptService_21 ⟨(Nat.le_of_ble_eq_true rfl), (Nat.le_of_ble_eq_true rfl)⟩) hS (fun q _ h => hFc q h) hFc (fun r31 u32 t H1 locs ht hvm hp33 hB hz1 hk1 hS => ?_)
      obtain ⟨hP1, hD1⟩ := hB
      rw [ht] at hP1
      have hD1 := hD1.weaken (fun _ _ _ h => hFc _ h)
      generalize H1 = H at hP1 hS ⊢
      have hP := hP1
      have hD := hD1
      have hP : va_P D xcl (rp ad E RL) H := hP
      have hD : va_D A (rp ad E RL) := hD
      rcases hp33 with ⟨rfl, z34⟩ | ⟨z35, rfl⟩
      · refine W.eq (g2 := F0 m 24 ls [.null]) rfl ?_
        refine lv_astore_nN hx hb xd_Sh_acceptService_24 rfl hl (Nat.le_of_ble_eq_true rfl) rfl (fun ls hl => ?_)
        have hl : lv_has ls 5 [(3, .null), (2, .int (wN (g 0) wl 1)), (0, .ref (ad 0 5)), (1, .ref (ad 0 1))] := hl
        refine lv_aload_nN hx hb xd_Sh_acceptService_25 rfl (lv_at hl 0 rfl) ?_
        refine lv_ifnonnullN hx hb xd_Sh_acceptService_26 ?_
        refine lv_bipush (v := (-2)) hx hb xd_Sh_acceptService_29 (by decide) ?_
        refine W.widen (k := 0) (n := 0) (Nat.le_of_ble_eq_true rfl) (Nat.le_of_ble_eq_true rfl) ?_
        exact W.iret (v := (-2)) hx hb hr (fun t ht hW => ⟨⟨(-2), (ad, E, RL), rfl, ⟨hCI, by rw [cif_eq (lS_no1 (a := 14) (fun q => absurd q.2.2.1 (by omega))).symm (lS_no1 (a := 15) (fun q => absurd q.2.2.1 (by omega))).symm]; exact hTD, rfl, FRL_rf⟩, by rw [ht]; exact hP, hD⟩, hS.F ht⟩) hS.2.2 xd_Sh_acceptService_31
      · refine W.eq (g2 := F0 m 24 ls [.ref (ad (1 + (nd - 1)) 0)]) rfl ?_
        refine lv_astore_n hx hb xd_Sh_acceptService_24 rfl hl (Nat.le_of_ble_eq_true rfl) rfl (fun ls hl => ?_)
        have hl : lv_has ls 5 [(3, .ref (ad (1 + (nd - 1)) 0)), (2, .int (wN (g 0) wl 1)), (0, .ref (ad 0 5)), (1, .ref (ad 0 1))] := hl
        refine lv_aload_n hx hb xd_Sh_acceptService_25 rfl (lv_at hl 0 rfl) ?_
        refine lv_ifnonnull (tgt := 32) hx hb xd_Sh_acceptService_26 (by decide) ?_
        refine lv_aload_n hx hb xd_Sh_acceptService_32 rfl (lv_at hl 3 rfl) ?_
        refine lv_iconst (v := 0) hx hb xd_Sh_acceptService_33 (by decide) ?_
        refine va_ldcS (q := Z.1 5) hx hb hown hZ.2.2.2.1.2.2.2.2.2.1 xd_Sh_acceptService_34 ?_
        have hFc := px_free hD hS hA
        refine va_calli (va_runV (As := [.int 0, .ref (Z.1 5)]) (rest := []) ⟨hx, hb, hml, hown, hT⟩ (xc_Li_wordIsX l D kA H.size ad E RL Z g ml nd len lt wl cs 0 5 (by first | assumption | omega) (by first | assumption | omega) (by first | assumption | omega) (by first | assumption | omega)) (cwV 2 hT (wT_V k5g_12 k5g_13 k5g_14 k5g_4 k5g_11) rfl rfl rfl (by decide +kernel) ⟨Nat.le_of_ble_eq_true rfl, Nat.le_of_ble_eq_true rfl⟩) (px_preVZ hK hP hD m_6 c_5 rfl hFc (hZ.kept hS)) rfl rfl hl.1 rfl (lv_room (Nat.le_of_ble_eq_true rfl)) xd_Sh_acceptService_36 ⟨(Nat.le_of_ble_eq_true rfl), (Nat.le_of_ble_eq_true rfl)⟩) hS (fun q _ h => hFc q h) hFc (fun r36 u37 t H1 locs ht hvm hp38 hB hz1 hk1 hS => ?_)
        obtain ⟨hP1, hD1⟩ := hB
        rw [ht] at hP1
        have hD1 := hD1.weaken (fun _ _ _ h => hFc _ h)
        generalize H1 = H at hP1 hS ⊢
        have hP := hP1
        have hD := hD1
        have hP : va_P D xcl (rp ad E RL) H := hP
        have hD : va_D A (rp ad E RL) := hD
        rcases hp38 with ⟨rfl, z39⟩ | ⟨rfl, z40⟩
        · have hw5 : wS (g 0) wl 0 zUs := by have q := z39; rw [zw5] at q; exact q
          refine W.eq (g2 := F0 m 39 ls [.int 1]) rfl ?_
          refine lv_if_eq (tgt := 49) hx hb xd_Sh_acceptService_39 (by decide) (fun hc41 => absurd hc41 (by decide)) (fun _ => ?_)
          refine lv_aload_n hx hb xd_Sh_acceptService_42 rfl (lv_at hl 0 rfl) ?_
          obtain ⟨hm_42, fd_42, nm_42, sd_42, k0_42, k1_42, k2_42, k3_42, f0_42, f1_42, f2_42, f3_42, fe_42, fo_42, tr_42, op_42, hk0_42, hk1_42, hk2_42, hk3_42, q0_42, q1_42, q2_42, q3_42, q4_42, q5_42, q6_42, q7_42, q8_42, q9_42, q10_42, q11_42, q12_42, hg_42⟩ := id (hDIs (nd - 1) (by omega))
          have c_43 : E (1 + (nd - 1)) 0 = .inr (7, [.int (nI ((nd - 1))), .int fd_42, .int nm_42, .ref (ad (1 + (nd - 1)) 1), .ref (ad (1 + (nd - 1)) 9), .ref (ad (1 + (nd - 1)) 10), .ref (ad (1 + (nd - 1)) 2), .ref (ad (1 + (nd - 1)) 11), .ref (ad (1 + (nd - 1)) 12), .ref (ad (1 + (nd - 1)) 3), .ref (ad (1 + (nd - 1)) 4), .int sd_42]) := q0_42
          have m_44 : (1 + (nd - 1), 0) ∈ RL := hm_42 0 (by omega)
          have c_45 : E (1 + (nd - 1)) 1 = .inr (8, [.ref (ad (1 + (nd - 1)) 5), .int (nI k0_42)]) := q1_42
          have m_46 : (1 + (nd - 1), 1) ∈ RL := hm_42 1 (by omega)
          have c_47 : E (1 + (nd - 1)) 2 = .inr (8, [.ref (ad (1 + (nd - 1)) 6), .int (nI k1_42)]) := q2_42
          have m_48 : (1 + (nd - 1), 2) ∈ RL := hm_42 2 (by omega)
          have c_49 : E (1 + (nd - 1)) 3 = .inr (8, [.ref (ad (1 + (nd - 1)) 7), .int (nI k2_42)]) := q3_42
          have m_50 : (1 + (nd - 1), 3) ∈ RL := hm_42 3 (by omega)
          have c_51 : E (1 + (nd - 1)) 4 = .inr (8, [.ref (ad (1 + (nd - 1)) 8), .int (nI k3_42)]) := q4_42
          have m_52 : (1 + (nd - 1), 4) ∈ RL := hm_42 4 (by omega)
          have c_53 : E (1 + (nd - 1)) 5 = .inl (kA 0, 6, .inl f0_42) := q5_42
          have m_54 : (1 + (nd - 1), 5) ∈ RL := hm_42 5 (by omega)
          have c_55 : E (1 + (nd - 1)) 6 = .inl (kA 0, 5, .inl f1_42) := q6_42
          have m_56 : (1 + (nd - 1), 6) ∈ RL := hm_42 6 (by omega)
          have c_57 : E (1 + (nd - 1)) 7 = .inl (kA 0, 3, .inl f2_42) := q7_42
          have m_58 : (1 + (nd - 1), 7) ∈ RL := hm_42 7 (by omega)
          have c_59 : E (1 + (nd - 1)) 8 = .inl (kA 0, 3, .inl f3_42) := q8_42
          have m_60 : (1 + (nd - 1), 8) ∈ RL := hm_42 8 (by omega)
          have c_61 : E (1 + (nd - 1)) 9 = .inl (kA 8, 6, .inr (.inr (.inr (.inr fe_42)))) := q9_42
          have m_62 : (1 + (nd - 1), 9) ∈ RL := hm_42 9 (by omega)
          have c_63 : E (1 + (nd - 1)) 10 = .inl (kA 8, 6, .inr (.inr (.inr (.inr fo_42)))) := q10_42
          have m_64 : (1 + (nd - 1), 10) ∈ RL := hm_42 10 (by omega)
          have c_65 : E (1 + (nd - 1)) 11 = .inl (kA 2, 5, .inl tr_42) := q11_42
          have m_66 : (1 + (nd - 1), 11) ∈ RL := hm_42 11 (by omega)
          have c_67 : E (1 + (nd - 1)) 12 = .inl (kA 2, 5, .inl op_42) := q12_42
          have m_68 : (1 + (nd - 1), 12) ∈ RL := hm_42 12 (by omega)
          have hg_42 : ∀ w9, w9 < k0_42 → fe_42 w9 = some (ad (1 + (nd - 1)) (20 + 3 * w9)) ∧ fo_42 w9 = some (ad (1 + (nd - 1)) (38 + 3 * w9)) ∧ GI kA (ad (1 + (nd - 1))) (E (1 + (nd - 1))) (fun o => (1 + (nd - 1), o) ∈ RL) (20 + 3 * w9) (21 + 3 * w9) (22 + 3 * w9) ∧ GI kA (ad (1 + (nd - 1))) (E (1 + (nd - 1))) (fun o => (1 + (nd - 1), o) ∈ RL) (38 + 3 * w9) (39 + 3 * w9) (40 + 3 * w9) := hg_42
          obtain ⟨hTT_42, tgr_42⟩ := TD_get hk0_42 hk1_42 hk2_42 hk3_42 c_43 c_45 c_47 c_49 c_51 c_53 c_55 c_57 c_59 c_65 c_67 (hTD (nd - 1) (by omega))
          obtain ⟨tfd_42, tnm_42, tsd_42, tk0_42, tf0_42, tk1_42, tf1_42, tk2_42, tk3_42⟩ := id hTT_42
          have ik0_42 : iN (g 5 (nd - 1)) = k0_42 := by rw [← tk0_42, iN_nI (by omega)]
          have ik1_42 : iN (g 12 (nd - 1)) = k1_42 := by rw [← tk1_42, iN_nI (by omega)]
          refine px_get (D := D) (ci := 7) (v := .ref (ad (1 + (nd - 1)) 3)) (C := xR_Ds) (T := xT_Ds) (N := 12) hx hb hT xi_Ds hown hK.1 hP m_44 c_43 rfl 9 (by decide) (hT _ k5g_15) (fun _ h9 => h9) rfl xd_Sh_acceptService_43 ?_
          refine lv_goto (tgt := 53) hx hb xd_Sh_acceptService_46 (by decide) ?_
          refine lv_astore hx hb xd_Sh_acceptService_53 hl (Nat.le_of_ble_eq_true rfl) rfl (fun ls hl => ?_)
          have hl : lv_has ls 5 [(4, .ref (ad (1 + (nd - 1)) 3)), (3, .ref (ad (1 + (nd - 1)) 0)), (2, .int (wN (g 0) wl 1)), (0, .ref (ad 0 5)), (1, .ref (ad 0 1))] := hl
          refine lv_aload hx hb xd_Sh_acceptService_55 (lv_at hl 0 rfl) ?_
          refine lv_iload_n hx hb xd_Sh_acceptService_57 rfl (lv_at hl 2 rfl) ?_
          have hFc := px_free hD hS hA
          refine va_calli (va_runV (As := [.int (wN (g 0) wl 1)]) (rest := []) ⟨hx, hb, hml, hown, hT⟩ (xc_Na_holds l D kA H.size ad E RL (1 + (nd - 1)) 3 7 3 k2_42 f2_42 (wN (g 0) wl 1) m_50 c_49 m_58 c_57 (by first | assumption | omega) (by first | assumption | omega)) (cwV 1 hT (wT_V k5g_17 k5g_18 k5g_19 k5g_20 k5g_16) rfl rfl rfl (by decide +kernel) ⟨Nat.le_of_ble_eq_true rfl, Nat.le_of_ble_eq_true rfl⟩) (px_preV hK hP hD m_50 c_49 rfl) rfl rfl hl.1 rfl (lv_room (Nat.le_of_ble_eq_true rfl)) xd_Sh_acceptService_58 ⟨(Nat.le_of_ble_eq_true rfl), (Nat.le_of_ble_eq_true rfl)⟩) hS (fun q _ h => hFc q h) hFc (fun r69 u70 t H1 locs ht hvm hp71 hB hz1 hk1 hS => ?_)
          obtain ⟨hP1, hD1⟩ := hB
          rw [ht] at hP1
          have hD1 := hD1.weaken (fun _ _ _ h => hFc _ h)
          generalize H1 = H at hP1 hS ⊢
          have hP := hP1
          have hD := hD1
          have hP : va_P D xcl (rp ad E RL) H := hP
          have hD : va_D A (rp ad E RL) := hD
          rcases hp71 with ⟨rfl, z72, z73, z74⟩ | ⟨rfl, z75⟩
          · refine W.eq (g2 := F0 m 61 ls [.int 1]) rfl ?_
            refine lv_if_eq (tgt := 66) hx hb xd_Sh_acceptService_61 (by decide) (fun hc76 => absurd hc76 (by decide)) (fun _ => ?_)
            refine lv_iconst (v := (-1)) hx hb xd_Sh_acceptService_64 (by decide) ?_
            refine W.widen (k := 0) (n := 0) (Nat.le_of_ble_eq_true rfl) (Nat.le_of_ble_eq_true rfl) ?_
            exact W.iret (v := (-1)) hx hb hr (fun t ht hW => ⟨⟨(-1), (ad, E, RL), rfl, ⟨hCI, by rw [cif_pos hw5, ← lS_no1 (fun q => q.2.2.2.1 z72 (by omega) (((tk2_42 z72 (by omega)).1 z73).1.symm.trans z74))]; exact hTD, rfl, FRL_rf⟩, by rw [ht]; exact hP, hD⟩, hS.F ht⟩) hS.2.2 xd_Sh_acceptService_65
          · refine W.eq (g2 := F0 m 61 ls [.int 0]) rfl ?_
            refine lv_if_eq (tgt := 66) hx hb xd_Sh_acceptService_61 (by decide) (fun _ => ?_) (fun hc77 => absurd (by decide) hc77)
            refine lv_aload_n hx hb xd_Sh_acceptService_66 rfl (lv_at hl 1 rfl) ?_
            refine px_get (D := D) (ci := 7) (v := .int sd_42) (C := xR_Ds) (T := xT_Ds) (N := 12) hx hb hT xi_Ds hown hK.1 hP m_44 c_43 rfl 11 (by decide) (hT _ k5g_21) (fun _ h9 => h9) rfl xd_Sh_acceptService_67 ?_
            refine lv_if_ne (tgt := 81) hx hb xd_Sh_acceptService_70 (by decide) (fun hc78 => ?_) (fun hc78 => ?_)
            · refine lv_bipush (v := (-2)) hx hb xd_Sh_acceptService_81 (by decide) ?_
              refine W.widen (k := 0) (n := 0) (Nat.le_of_ble_eq_true rfl) (Nat.le_of_ble_eq_true rfl) ?_
              exact W.iret (v := (-2)) hx hb hr (fun t ht hW => ⟨⟨(-2), (ad, E, RL), rfl, ⟨hCI, by rw [cif_pos hw5, ← lS_no1 (fun q => hc78 (by rw [tsd_42]; exact q.2.2.2.2))]; exact hTD, rfl, FRL_rf⟩, by rw [ht]; exact hP, hD⟩, hS.F ht⟩) hS.2.2 xd_Sh_acceptService_83
            · refine lv_aload hx hb xd_Sh_acceptService_73 (lv_at hl 0 rfl) ?_
              have hFc := px_free hD hS hA
              refine va_calli (va_runV (As := []) (rest := []) ⟨hx, hb, hml, hown, hT⟩ (xc_Na_isFull l D kA H.size ad E RL (1 + (nd - 1)) 3 7 3 k2_42 f2_42 m_50 c_49 m_58 c_57 (by first | assumption | omega) (by first | assumption | omega)) (cwV 0 hT (wT_V k5g_23 k5g_24 k5g_25 k5g_20 k5g_22) rfl rfl rfl (by decide +kernel) ⟨Nat.le_of_ble_eq_true rfl, Nat.le_of_ble_eq_true rfl⟩) (px_preV hK hP hD m_50 c_49 rfl) rfl rfl hl.1 rfl (lv_room (Nat.le_of_ble_eq_true rfl)) xd_Sh_acceptService_75 ⟨(Nat.le_of_ble_eq_true rfl), (Nat.le_of_ble_eq_true rfl)⟩) hS (fun q _ h => hFc q h) hFc (fun r79 u80 t H1 locs ht hvm hp81 hB hz1 hk1 hS => ?_)
              obtain ⟨hP1, hD1⟩ := hB
              rw [ht] at hP1
              have hD1 := hD1.weaken (fun _ _ _ h => hFc _ h)
              generalize H1 = H at hP1 hS ⊢
              have hP := hP1
              have hD := hD1
              have hP : va_P D xcl (rp ad E RL) H := hP
              have hD : va_D A (rp ad E RL) := hD
              rcases hp81 with ⟨rfl, z82⟩ | ⟨rfl, z83⟩
              · refine W.eq (g2 := F0 m 78 ls [.int 1]) rfl ?_
                refine lv_if_eq (tgt := 84) hx hb xd_Sh_acceptService_78 (by decide) (fun hc84 => absurd hc84 (by decide)) (fun _ => ?_)
                refine lv_bipush (v := (-2)) hx hb xd_Sh_acceptService_81 (by decide) ?_
                refine W.widen (k := 0) (n := 0) (Nat.le_of_ble_eq_true rfl) (Nat.le_of_ble_eq_true rfl) ?_
                exact W.iret (v := (-2)) hx hb hr (fun t ht hW => ⟨⟨(-2), (ad, E, RL), rfl, ⟨hCI, by rw [cif_pos hw5, ← lS_no2 (NT_sn z82 tk2_42)]; exact hTD, rfl, FRL_rf⟩, by rw [ht]; exact hP, hD⟩, hS.F ht⟩) hS.2.2 xd_Sh_acceptService_83
              · refine W.eq (g2 := F0 m 78 ls [.int 0]) rfl ?_
                refine lv_if_eq (tgt := 84) hx hb xd_Sh_acceptService_78 (by decide) (fun _ => ?_) (fun hc85 => absurd (by decide) hc85)
                refine lv_aload hx hb xd_Sh_acceptService_84 (lv_at hl 0 rfl) ?_
                refine lv_iload_n hx hb xd_Sh_acceptService_86 rfl (lv_at hl 2 rfl) ?_
                have hFc := px_free hD hS hA
                refine va_callv (va_runV (As := [.int (wN (g 0) wl 1)]) (rest := []) ⟨hx, hb, hml, hown, hT⟩ (xc_Na_append l D kA H.size ad E RL (1 + (nd - 1)) 3 7 3 k2_42 f2_42 (wN (g 0) wl 1) m_50 c_49 m_58 c_57 (by first | assumption | omega) (by first | assumption | omega) (by first | assumption | omega)) (cwV 1 hT (wT_V k5g_27 k5g_28 k5g_29 k5g_20 k5g_26) rfl rfl rfl (by decide +kernel) ⟨Nat.le_of_ble_eq_true rfl, Nat.le_of_ble_eq_true rfl⟩) (px_preV hK hP hD m_50 c_49 rfl) rfl rfl hl.1 rfl (lv_room (Nat.le_of_ble_eq_true rfl)) xd_Sh_acceptService_87 ⟨(Nat.le_of_ble_eq_true rfl), (Nat.le_of_ble_eq_true rfl)⟩) hS (fun q _ h => hFc q h) hFc (fun u87 t H1 locs ht hvm hp88 hB hz1 hk1 hS => ?_)
                obtain ⟨hP1, hD1⟩ := hB
                rw [ht] at hP1
                have hD1 := hD1.weaken (fun _ _ _ h => hFc _ h)
                generalize H1 = H at hP1 hS ⊢
                have hP := hP1
                have hD := hD1
                obtain ⟨E89, rfl⟩ : ∃ z, z = u87 := ⟨_, rfl⟩
                obtain ⟨w90, w91, hp95, p_92, p_93, p_94⟩ := hp88
                have p_92 : E89 (1 + (nd - 1)) 3 = .inr (8, [.ref (ad (1 + (nd - 1)) 7), .int (nI w90)]) := p_92
                have p_93 : E89 (1 + (nd - 1)) 7 = .inl (kA 0, 3, .inl w91) := p_93
                have p_94 : (∀ b2 o2, ¬ (b2 = (1 + (nd - 1)) ∧ o2 = 3) → ¬ (b2 = (1 + (nd - 1)) ∧ o2 = 7) → E89 b2 o2 = E b2 o2) := p_94
                have c_96 : E89 0 0 = .inr (0, [.ref (ad 0 1), .ref (ad 0 5), .ref (ad 0 7), .ref (ad 0 9), .int (nI ml), .int lf_1]) := (p_94 0 0 (by omega) (by omega)).trans c_2
                have c_97 : E89 0 1 = .inr (1, [.ref (ad 0 2), .ref (ad 0 3), .ref (ad 0 4), .int (nI len), .int (nI (wl.length))]) := (p_94 0 1 (by omega) (by omega)).trans c_5
                have c_98 : E89 0 2 = .inl (kA 1, 40, .inl tx_4) := (p_94 0 2 (by omega) (by omega)).trans c_7
                have c_99 : E89 0 3 = .inl (kA 0, 20, .inl fb_4) := (p_94 0 3 (by omega) (by omega)).trans c_9
                have c_100 : E89 0 4 = .inl (kA 0, 20, .inl fe_4) := (p_94 0 4 (by omega) (by omega)).trans c_11
                have c_101 : E89 0 5 = .inr (2, [.ref (ad 0 6), .int (nI nd)]) := (p_94 0 5 (by omega) (by omega)).trans c_14
                have c_102 : E89 0 6 = .inl (kA 4, 12, .inr (.inr (.inr (.inr fd_13)))) := (p_94 0 6 (by omega) (by omega)).trans c_16
                have c_103 : E89 0 7 = .inr (3, [.ref (ad 0 5), .ref (ad 0 8), .int (nI cs), .int cf_18, pv_18]) := (p_94 0 7 (by omega) (by omega)).trans c_19
                have c_104 : E89 0 8 = .inl (kA 4, 12, .inr (.inr (.inr (.inr fc_18)))) := (p_94 0 8 (by omega) (by omega)).trans c_21
                have c_105 : E89 0 9 = .inl (kA 5, 5, .inr (.inr (.inr (.inr fl_23)))) := (p_94 0 9 (by omega) (by omega)).trans c_24
                have c_106 : E89 (1 + (nd - 1)) 0 = .inr (7, [.int (nI ((nd - 1))), .int fd_42, .int nm_42, .ref (ad (1 + (nd - 1)) 1), .ref (ad (1 + (nd - 1)) 9), .ref (ad (1 + (nd - 1)) 10), .ref (ad (1 + (nd - 1)) 2), .ref (ad (1 + (nd - 1)) 11), .ref (ad (1 + (nd - 1)) 12), .ref (ad (1 + (nd - 1)) 3), .ref (ad (1 + (nd - 1)) 4), .int sd_42]) := (p_94 (1 + (nd - 1)) 0 (by omega) (by omega)).trans c_43
                have c_107 : E89 (1 + (nd - 1)) 1 = .inr (8, [.ref (ad (1 + (nd - 1)) 5), .int (nI k0_42)]) := (p_94 (1 + (nd - 1)) 1 (by omega) (by omega)).trans c_45
                have c_108 : E89 (1 + (nd - 1)) 2 = .inr (8, [.ref (ad (1 + (nd - 1)) 6), .int (nI k1_42)]) := (p_94 (1 + (nd - 1)) 2 (by omega) (by omega)).trans c_47
                have c_109 : E89 (1 + (nd - 1)) 4 = .inr (8, [.ref (ad (1 + (nd - 1)) 8), .int (nI k3_42)]) := (p_94 (1 + (nd - 1)) 4 (by omega) (by omega)).trans c_51
                have c_110 : E89 (1 + (nd - 1)) 5 = .inl (kA 0, 6, .inl f0_42) := (p_94 (1 + (nd - 1)) 5 (by omega) (by omega)).trans c_53
                have c_111 : E89 (1 + (nd - 1)) 6 = .inl (kA 0, 5, .inl f1_42) := (p_94 (1 + (nd - 1)) 6 (by omega) (by omega)).trans c_55
                have c_112 : E89 (1 + (nd - 1)) 8 = .inl (kA 0, 3, .inl f3_42) := (p_94 (1 + (nd - 1)) 8 (by omega) (by omega)).trans c_59
                have c_113 : E89 (1 + (nd - 1)) 9 = .inl (kA 8, 6, .inr (.inr (.inr (.inr fe_42)))) := (p_94 (1 + (nd - 1)) 9 (by omega) (by omega)).trans c_61
                have c_114 : E89 (1 + (nd - 1)) 10 = .inl (kA 8, 6, .inr (.inr (.inr (.inr fo_42)))) := (p_94 (1 + (nd - 1)) 10 (by omega) (by omega)).trans c_63
                have c_115 : E89 (1 + (nd - 1)) 11 = .inl (kA 2, 5, .inl tr_42) := (p_94 (1 + (nd - 1)) 11 (by omega) (by omega)).trans c_65
                have c_116 : E89 (1 + (nd - 1)) 12 = .inl (kA 2, 5, .inl op_42) := (p_94 (1 + (nd - 1)) 12 (by omega) (by omega)).trans c_67
                have hP : va_P D xcl (rp ad E89 RL) H := hP
                have hD : va_D A (rp ad E89 RL) := hD
                have hap : w90 = k2_42 + 1 ∧ w91 = upd f2_42 k2_42 (wN (g 0) wl 1) := by
                  rcases hp95.2 with ⟨_, q1, q2⟩ | ⟨q, _⟩
                  · exact ⟨q1, q2⟩
                  · omega
                obtain ⟨hap1, hap2⟩ := hap
                have hTD9 := (show TD (va_up g 14 (upd (g 14) (3 * (nd - 1) + k2_42) (wN (g 0) wl 1))) (E89 (1 + (nd - 1))) (nd - 1) from TD_mk (by omega) (by omega) (by omega) (by omega) c_106 c_107 c_108 p_92 c_109 c_110 c_111 p_93 c_112 c_115 c_116 (by rw [hap1, hap2]; exact TT_S2 (by omega) (wN_pos.mp hc30) hTT_42) (fun i9 hi9 => by
          have q := tgr_42 i9 hi9
          rw [← (show E89 (1 + (nd - 1)) (20 + 3 * i9) = E (1 + (nd - 1)) (20 + 3 * i9) from by show E89 (1 + (nd - 1)) (20 + 3 * i9) = _; rw [p_94 (1 + (nd - 1)) (20 + 3 * i9) (by omega) (by omega)]), ← (show E89 (1 + (nd - 1)) (21 + 3 * i9) = E (1 + (nd - 1)) (21 + 3 * i9) from by show E89 (1 + (nd - 1)) (21 + 3 * i9) = _; rw [p_94 (1 + (nd - 1)) (21 + 3 * i9) (by omega) (by omega)]), ← (show E89 (1 + (nd - 1)) (22 + 3 * i9) = E (1 + (nd - 1)) (22 + 3 * i9) from by show E89 (1 + (nd - 1)) (22 + 3 * i9) = _; rw [p_94 (1 + (nd - 1)) (22 + 3 * i9) (by omega) (by omega)]), ← (show E89 (1 + (nd - 1)) (38 + 3 * i9) = E (1 + (nd - 1)) (38 + 3 * i9) from by show E89 (1 + (nd - 1)) (38 + 3 * i9) = _; rw [p_94 (1 + (nd - 1)) (38 + 3 * i9) (by omega) (by omega)]), ← (show E89 (1 + (nd - 1)) (39 + 3 * i9) = E (1 + (nd - 1)) (39 + 3 * i9) from by show E89 (1 + (nd - 1)) (39 + 3 * i9) = _; rw [p_94 (1 + (nd - 1)) (39 + 3 * i9) (by omega) (by omega)]), ← (show E89 (1 + (nd - 1)) (40 + 3 * i9) = E (1 + (nd - 1)) (40 + 3 * i9) from by show E89 (1 + (nd - 1)) (40 + 3 * i9) = _; rw [p_94 (1 + (nd - 1)) (40 + 3 * i9) (by omega) (by omega)])] at q
          exact q))
                have hTD2 : TDs (va_up g 14 (upd (g 14) (3 * (nd - 1) + k2_42) (wN (g 0) wl 1))) E89 nd := TDs_upd (x := nd - 1) hDIs (fun d9 hd9 hx9 => fun2 fun o9 => by show E89 (1 + d9) o9 = _; rw [p_94 (1 + d9) o9 (by omega) (by omega)]) (fun d9 hd9 hx9 => AG_S (by omega) (by omega) hx9) hTD9 hTD
                have hFRL : FRL ml nd ad ad E E89 := ⟨fun n9 hn9 => ⟨fun2 fun o9 => by show E89 (20 + n9) o9 = _; rw [p_94 (20 + n9) o9 (by omega) (by omega)], fun2 fun o9 => rfl⟩, fun d9 hd9 => rfl, by show E89 0 0 = _; rw [p_94 0 0 (by omega) (by omega)]⟩
                have hCI : CI kA ad E89 RL ml nd len wl.length cs := ⟨hmB, ⟨lf_1, c_96⟩, ⟨tx_4, fb_4, fe_4, (by omega), (by omega), c_97, c_98, c_99, c_100, hws_4⟩, ⟨fd_13, (by omega), c_101, c_102, hds_13⟩, ⟨cf_18, pv_18, fc_18, (by omega), hpv_18, c_103, c_104, hfc_18⟩, ⟨fl_23, (by omega), c_105, hla_23⟩, (DIs_set (x := nd - 1) (fun d9 hd9 hx9 => fun2 fun o9 => by show E89 (1 + d9) o9 = _; rw [p_94 (1 + d9) o9 (by omega) (by omega)]) (fun _ _ _ => rfl) (fun _ h => h) ⟨hm_42, fd_42, nm_42, sd_42, k0_42, k1_42, w90, k3_42, f0_42, f1_42, w91, f3_42, fe_42, fo_42, tr_42, op_42, (by omega), (by omega), (by omega), (by omega), c_106, c_107, c_108, p_92, c_109, c_110, c_111, p_93, c_112, c_113, c_114, c_115, c_116, (fun i9 hi9 => ⟨(hg_42 i9 (by omega)).1, (hg_42 i9 (by omega)).2.1, (GI_at (by show E89 (1 + (nd - 1)) (20 + 3 * i9) = _; rw [p_94 (1 + (nd - 1)) (20 + 3 * i9) (by omega) (by omega)]) (by show E89 (1 + (nd - 1)) (21 + 3 * i9) = _; rw [p_94 (1 + (nd - 1)) (21 + 3 * i9) (by omega) (by omega)]) (by show E89 (1 + (nd - 1)) (22 + 3 * i9) = _; rw [p_94 (1 + (nd - 1)) (22 + 3 * i9) (by omega) (by omega)]) (rfl) (rfl) (fun _ h9 => h9) (hg_42 i9 (by omega)).2.2.1), (GI_at (by show E89 (1 + (nd - 1)) (38 + 3 * i9) = _; rw [p_94 (1 + (nd - 1)) (38 + 3 * i9) (by omega) (by omega)]) (by show E89 (1 + (nd - 1)) (39 + 3 * i9) = _; rw [p_94 (1 + (nd - 1)) (39 + 3 * i9) (by omega) (by omega)]) (by show E89 (1 + (nd - 1)) (40 + 3 * i9) = _; rw [p_94 (1 + (nd - 1)) (40 + 3 * i9) (by omega) (by omega)]) (rfl) (rfl) (fun _ h9 => h9) (hg_42 i9 (by omega)).2.2.2)⟩)⟩ hDIs), (LIs_same (Nat.le_refl _) (fun n9 hn9 => fun2 fun o9 => by show E89 (20 + n9) o9 = _; rw [p_94 (20 + n9) o9 (by omega) (by omega)]) (fun _ _ => rfl) (fun _ _ => rfl) (fun _ h9 => h9) hLIs)⟩
                obtain ⟨hmB, hDk, hLi, hSh, hCh, hLa, hDIs, hLIs⟩ := id hCI
                refine lv_iconst (v := 2) hx hb xd_Sh_acceptService_90 (by decide) ?_
                refine W.widen (k := 0) (n := 0) (Nat.le_of_ble_eq_true rfl) (Nat.le_of_ble_eq_true rfl) ?_
                exact W.iret (v := 2) hx hb hr (fun t ht hW => ⟨⟨2, (ad, E89, RL), rfl, (by
        rw [cif_pos hw5, lS_y (NT_sv z83 tk2_42) ⟨by omega, hc30, by omega, fun k9 hk9 q => by
          rcases Nat.lt_or_ge k9 k2_42 with z | z
          · exact z75 k9 z (((tk2_42 k9 hk9).1 z).1.trans q)
          · exact hc30 (q.symm.trans ((tk2_42 k9 hk9).2 z)), by rw [← tsd_42]; exact hc78⟩]
        exact ⟨hCI, hTD2, rfl, hFRL⟩), by rw [ht]; exact hP, hD⟩, hS.F ht⟩) hS.2.2 xd_Sh_acceptService_91
        · have hw5 : ¬ wS (g 0) wl 0 zUs := by have q := z40; rw [zw5] at q; exact q
          refine W.eq (g2 := F0 m 39 ls [.int 0]) rfl ?_
          refine lv_if_eq (tgt := 49) hx hb xd_Sh_acceptService_39 (by decide) (fun _ => ?_) (fun hc117 => absurd (by decide) hc117)
          refine lv_aload_n hx hb xd_Sh_acceptService_49 rfl (lv_at hl 0 rfl) ?_
          obtain ⟨hm_118, fd_118, nm_118, sd_118, k0_118, k1_118, k2_118, k3_118, f0_118, f1_118, f2_118, f3_118, fe_118, fo_118, tr_118, op_118, hk0_118, hk1_118, hk2_118, hk3_118, q0_118, q1_118, q2_118, q3_118, q4_118, q5_118, q6_118, q7_118, q8_118, q9_118, q10_118, q11_118, q12_118, hg_118⟩ := id (hDIs (nd - 1) (by omega))
          have c_119 : E (1 + (nd - 1)) 0 = .inr (7, [.int (nI ((nd - 1))), .int fd_118, .int nm_118, .ref (ad (1 + (nd - 1)) 1), .ref (ad (1 + (nd - 1)) 9), .ref (ad (1 + (nd - 1)) 10), .ref (ad (1 + (nd - 1)) 2), .ref (ad (1 + (nd - 1)) 11), .ref (ad (1 + (nd - 1)) 12), .ref (ad (1 + (nd - 1)) 3), .ref (ad (1 + (nd - 1)) 4), .int sd_118]) := q0_118
          have m_120 : (1 + (nd - 1), 0) ∈ RL := hm_118 0 (by omega)
          have c_121 : E (1 + (nd - 1)) 1 = .inr (8, [.ref (ad (1 + (nd - 1)) 5), .int (nI k0_118)]) := q1_118
          have m_122 : (1 + (nd - 1), 1) ∈ RL := hm_118 1 (by omega)
          have c_123 : E (1 + (nd - 1)) 2 = .inr (8, [.ref (ad (1 + (nd - 1)) 6), .int (nI k1_118)]) := q2_118
          have m_124 : (1 + (nd - 1), 2) ∈ RL := hm_118 2 (by omega)
          have c_125 : E (1 + (nd - 1)) 3 = .inr (8, [.ref (ad (1 + (nd - 1)) 7), .int (nI k2_118)]) := q3_118
          have m_126 : (1 + (nd - 1), 3) ∈ RL := hm_118 3 (by omega)
          have c_127 : E (1 + (nd - 1)) 4 = .inr (8, [.ref (ad (1 + (nd - 1)) 8), .int (nI k3_118)]) := q4_118
          have m_128 : (1 + (nd - 1), 4) ∈ RL := hm_118 4 (by omega)
          have c_129 : E (1 + (nd - 1)) 5 = .inl (kA 0, 6, .inl f0_118) := q5_118
          have m_130 : (1 + (nd - 1), 5) ∈ RL := hm_118 5 (by omega)
          have c_131 : E (1 + (nd - 1)) 6 = .inl (kA 0, 5, .inl f1_118) := q6_118
          have m_132 : (1 + (nd - 1), 6) ∈ RL := hm_118 6 (by omega)
          have c_133 : E (1 + (nd - 1)) 7 = .inl (kA 0, 3, .inl f2_118) := q7_118
          have m_134 : (1 + (nd - 1), 7) ∈ RL := hm_118 7 (by omega)
          have c_135 : E (1 + (nd - 1)) 8 = .inl (kA 0, 3, .inl f3_118) := q8_118
          have m_136 : (1 + (nd - 1), 8) ∈ RL := hm_118 8 (by omega)
          have c_137 : E (1 + (nd - 1)) 9 = .inl (kA 8, 6, .inr (.inr (.inr (.inr fe_118)))) := q9_118
          have m_138 : (1 + (nd - 1), 9) ∈ RL := hm_118 9 (by omega)
          have c_139 : E (1 + (nd - 1)) 10 = .inl (kA 8, 6, .inr (.inr (.inr (.inr fo_118)))) := q10_118
          have m_140 : (1 + (nd - 1), 10) ∈ RL := hm_118 10 (by omega)
          have c_141 : E (1 + (nd - 1)) 11 = .inl (kA 2, 5, .inl tr_118) := q11_118
          have m_142 : (1 + (nd - 1), 11) ∈ RL := hm_118 11 (by omega)
          have c_143 : E (1 + (nd - 1)) 12 = .inl (kA 2, 5, .inl op_118) := q12_118
          have m_144 : (1 + (nd - 1), 12) ∈ RL := hm_118 12 (by omega)
          have hg_118 : ∀ w9, w9 < k0_118 → fe_118 w9 = some (ad (1 + (nd - 1)) (20 + 3 * w9)) ∧ fo_118 w9 = some (ad (1 + (nd - 1)) (38 + 3 * w9)) ∧ GI kA (ad (1 + (nd - 1))) (E (1 + (nd - 1))) (fun o => (1 + (nd - 1), o) ∈ RL) (20 + 3 * w9) (21 + 3 * w9) (22 + 3 * w9) ∧ GI kA (ad (1 + (nd - 1))) (E (1 + (nd - 1))) (fun o => (1 + (nd - 1), o) ∈ RL) (38 + 3 * w9) (39 + 3 * w9) (40 + 3 * w9) := hg_118
          obtain ⟨hTT_118, tgr_118⟩ := TD_get hk0_118 hk1_118 hk2_118 hk3_118 c_119 c_121 c_123 c_125 c_127 c_129 c_131 c_133 c_135 c_141 c_143 (hTD (nd - 1) (by omega))
          obtain ⟨tfd_118, tnm_118, tsd_118, tk0_118, tf0_118, tk1_118, tf1_118, tk2_118, tk3_118⟩ := id hTT_118
          have ik0_118 : iN (g 5 (nd - 1)) = k0_118 := by rw [← tk0_118, iN_nI (by omega)]
          have ik1_118 : iN (g 12 (nd - 1)) = k1_118 := by rw [← tk1_118, iN_nI (by omega)]
          refine px_get (D := D) (ci := 7) (v := .ref (ad (1 + (nd - 1)) 4)) (C := xR_Ds) (T := xT_Ds) (N := 12) hx hb hT xi_Ds hown hK.1 hP m_120 c_119 rfl 10 (by decide) (hT _ k5g_30) (fun _ h9 => h9) rfl xd_Sh_acceptService_50 ?_
          refine lv_astore hx hb xd_Sh_acceptService_53 hl (Nat.le_of_ble_eq_true rfl) rfl (fun ls hl => ?_)
          have hl : lv_has ls 5 [(4, .ref (ad (1 + (nd - 1)) 4)), (3, .ref (ad (1 + (nd - 1)) 0)), (2, .int (wN (g 0) wl 1)), (0, .ref (ad 0 5)), (1, .ref (ad 0 1))] := hl
          refine lv_aload hx hb xd_Sh_acceptService_55 (lv_at hl 0 rfl) ?_
          refine lv_iload_n hx hb xd_Sh_acceptService_57 rfl (lv_at hl 2 rfl) ?_
          have hFc := px_free hD hS hA
          refine va_calli (va_runV (As := [.int (wN (g 0) wl 1)]) (rest := []) ⟨hx, hb, hml, hown, hT⟩ (xc_Na_holds l D kA H.size ad E RL (1 + (nd - 1)) 4 8 3 k3_118 f3_118 (wN (g 0) wl 1) m_128 c_127 m_136 c_135 (by first | assumption | omega) (by first | assumption | omega)) (cwV 1 hT (wT_V k5g_17 k5g_18 k5g_19 k5g_20 k5g_16) rfl rfl rfl (by decide +kernel) ⟨Nat.le_of_ble_eq_true rfl, Nat.le_of_ble_eq_true rfl⟩) (px_preV hK hP hD m_128 c_127 rfl) rfl rfl hl.1 rfl (lv_room (Nat.le_of_ble_eq_true rfl)) xd_Sh_acceptService_58 ⟨(Nat.le_of_ble_eq_true rfl), (Nat.le_of_ble_eq_true rfl)⟩) hS (fun q _ h => hFc q h) hFc (fun r145 u146 t H1 locs ht hvm hp147 hB hz1 hk1 hS => ?_)
          obtain ⟨hP1, hD1⟩ := hB
          rw [ht] at hP1
          have hD1 := hD1.weaken (fun _ _ _ h => hFc _ h)
          generalize H1 = H at hP1 hS ⊢
          have hP := hP1
          have hD := hD1
          have hP : va_P D xcl (rp ad E RL) H := hP
          have hD : va_D A (rp ad E RL) := hD
          rcases hp147 with ⟨rfl, z148, z149, z150⟩ | ⟨rfl, z151⟩
          · refine W.eq (g2 := F0 m 61 ls [.int 1]) rfl ?_
            refine lv_if_eq (tgt := 66) hx hb xd_Sh_acceptService_61 (by decide) (fun hc152 => absurd hc152 (by decide)) (fun _ => ?_)
            refine lv_iconst (v := (-1)) hx hb xd_Sh_acceptService_64 (by decide) ?_
            refine W.widen (k := 0) (n := 0) (Nat.le_of_ble_eq_true rfl) (Nat.le_of_ble_eq_true rfl) ?_
            exact W.iret (v := (-1)) hx hb hr (fun t ht hW => ⟨⟨(-1), (ad, E, RL), rfl, ⟨hCI, by rw [cif_neg hw5, ← lS_no1 (fun q => q.2.2.2.1 z148 (by omega) (((tk3_118 z148 (by omega)).1 z149).1.symm.trans z150))]; exact hTD, rfl, FRL_rf⟩, by rw [ht]; exact hP, hD⟩, hS.F ht⟩) hS.2.2 xd_Sh_acceptService_65
          · refine W.eq (g2 := F0 m 61 ls [.int 0]) rfl ?_
            refine lv_if_eq (tgt := 66) hx hb xd_Sh_acceptService_61 (by decide) (fun _ => ?_) (fun hc153 => absurd (by decide) hc153)
            refine lv_aload_n hx hb xd_Sh_acceptService_66 rfl (lv_at hl 1 rfl) ?_
            refine px_get (D := D) (ci := 7) (v := .int sd_118) (C := xR_Ds) (T := xT_Ds) (N := 12) hx hb hT xi_Ds hown hK.1 hP m_120 c_119 rfl 11 (by decide) (hT _ k5g_21) (fun _ h9 => h9) rfl xd_Sh_acceptService_67 ?_
            refine lv_if_ne (tgt := 81) hx hb xd_Sh_acceptService_70 (by decide) (fun hc154 => ?_) (fun hc154 => ?_)
            · refine lv_bipush (v := (-2)) hx hb xd_Sh_acceptService_81 (by decide) ?_
              refine W.widen (k := 0) (n := 0) (Nat.le_of_ble_eq_true rfl) (Nat.le_of_ble_eq_true rfl) ?_
              exact W.iret (v := (-2)) hx hb hr (fun t ht hW => ⟨⟨(-2), (ad, E, RL), rfl, ⟨hCI, by rw [cif_neg hw5, ← lS_no1 (fun q => hc154 (by rw [tsd_118]; exact q.2.2.2.2))]; exact hTD, rfl, FRL_rf⟩, by rw [ht]; exact hP, hD⟩, hS.F ht⟩) hS.2.2 xd_Sh_acceptService_83
            · refine lv_aload hx hb xd_Sh_acceptService_73 (lv_at hl 0 rfl) ?_
              have hFc := px_free hD hS hA
              refine va_calli (va_runV (As := []) (rest := []) ⟨hx, hb, hml, hown, hT⟩ (xc_Na_isFull l D kA H.size ad E RL (1 + (nd - 1)) 4 8 3 k3_118 f3_118 m_128 c_127 m_136 c_135 (by first | assumption | omega) (by first | assumption | omega)) (cwV 0 hT (wT_V k5g_23 k5g_24 k5g_25 k5g_20 k5g_22) rfl rfl rfl (by decide +kernel) ⟨Nat.le_of_ble_eq_true rfl, Nat.le_of_ble_eq_true rfl⟩) (px_preV hK hP hD m_128 c_127 rfl) rfl rfl hl.1 rfl (lv_room (Nat.le_of_ble_eq_true rfl)) xd_Sh_acceptService_75 ⟨(Nat.le_of_ble_eq_true rfl), (Nat.le_of_ble_eq_true rfl)⟩) hS (fun q _ h => hFc q h) hFc (fun r155 u156 t H1 locs ht hvm hp157 hB hz1 hk1 hS => ?_)
              obtain ⟨hP1, hD1⟩ := hB
              rw [ht] at hP1
              have hD1 := hD1.weaken (fun _ _ _ h => hFc _ h)
              generalize H1 = H at hP1 hS ⊢
              have hP := hP1
              have hD := hD1
              have hP : va_P D xcl (rp ad E RL) H := hP
              have hD : va_D A (rp ad E RL) := hD
              rcases hp157 with ⟨rfl, z158⟩ | ⟨rfl, z159⟩
              · refine W.eq (g2 := F0 m 78 ls [.int 1]) rfl ?_
                refine lv_if_eq (tgt := 84) hx hb xd_Sh_acceptService_78 (by decide) (fun hc160 => absurd hc160 (by decide)) (fun _ => ?_)
                refine lv_bipush (v := (-2)) hx hb xd_Sh_acceptService_81 (by decide) ?_
                refine W.widen (k := 0) (n := 0) (Nat.le_of_ble_eq_true rfl) (Nat.le_of_ble_eq_true rfl) ?_
                exact W.iret (v := (-2)) hx hb hr (fun t ht hW => ⟨⟨(-2), (ad, E, RL), rfl, ⟨hCI, by rw [cif_neg hw5, ← lS_no2 (NT_sn z158 tk3_118)]; exact hTD, rfl, FRL_rf⟩, by rw [ht]; exact hP, hD⟩, hS.F ht⟩) hS.2.2 xd_Sh_acceptService_83
              · refine W.eq (g2 := F0 m 78 ls [.int 0]) rfl ?_
                refine lv_if_eq (tgt := 84) hx hb xd_Sh_acceptService_78 (by decide) (fun _ => ?_) (fun hc161 => absurd (by decide) hc161)
                refine lv_aload hx hb xd_Sh_acceptService_84 (lv_at hl 0 rfl) ?_
                refine lv_iload_n hx hb xd_Sh_acceptService_86 rfl (lv_at hl 2 rfl) ?_
                have hFc := px_free hD hS hA
                refine va_callv (va_runV (As := [.int (wN (g 0) wl 1)]) (rest := []) ⟨hx, hb, hml, hown, hT⟩ (xc_Na_append l D kA H.size ad E RL (1 + (nd - 1)) 4 8 3 k3_118 f3_118 (wN (g 0) wl 1) m_128 c_127 m_136 c_135 (by first | assumption | omega) (by first | assumption | omega) (by first | assumption | omega)) (cwV 1 hT (wT_V k5g_27 k5g_28 k5g_29 k5g_20 k5g_26) rfl rfl rfl (by decide +kernel) ⟨Nat.le_of_ble_eq_true rfl, Nat.le_of_ble_eq_true rfl⟩) (px_preV hK hP hD m_128 c_127 rfl) rfl rfl hl.1 rfl (lv_room (Nat.le_of_ble_eq_true rfl)) xd_Sh_acceptService_87 ⟨(Nat.le_of_ble_eq_true rfl), (Nat.le_of_ble_eq_true rfl)⟩) hS (fun q _ h => hFc q h) hFc (fun u163 t H1 locs ht hvm hp164 hB hz1 hk1 hS => ?_)
                obtain ⟨hP1, hD1⟩ := hB
                rw [ht] at hP1
                have hD1 := hD1.weaken (fun _ _ _ h => hFc _ h)
                generalize H1 = H at hP1 hS ⊢
                have hP := hP1
                have hD := hD1
                obtain ⟨E165, rfl⟩ : ∃ z, z = u163 := ⟨_, rfl⟩
                obtain ⟨w166, w167, hp171, p_168, p_169, p_170⟩ := hp164
                have p_168 : E165 (1 + (nd - 1)) 4 = .inr (8, [.ref (ad (1 + (nd - 1)) 8), .int (nI w166)]) := p_168
                have p_169 : E165 (1 + (nd - 1)) 8 = .inl (kA 0, 3, .inl w167) := p_169
                have p_170 : (∀ b2 o2, ¬ (b2 = (1 + (nd - 1)) ∧ o2 = 4) → ¬ (b2 = (1 + (nd - 1)) ∧ o2 = 8) → E165 b2 o2 = E b2 o2) := p_170
                have c_172 : E165 0 0 = .inr (0, [.ref (ad 0 1), .ref (ad 0 5), .ref (ad 0 7), .ref (ad 0 9), .int (nI ml), .int lf_1]) := (p_170 0 0 (by omega) (by omega)).trans c_2
                have c_173 : E165 0 1 = .inr (1, [.ref (ad 0 2), .ref (ad 0 3), .ref (ad 0 4), .int (nI len), .int (nI (wl.length))]) := (p_170 0 1 (by omega) (by omega)).trans c_5
                have c_174 : E165 0 2 = .inl (kA 1, 40, .inl tx_4) := (p_170 0 2 (by omega) (by omega)).trans c_7
                have c_175 : E165 0 3 = .inl (kA 0, 20, .inl fb_4) := (p_170 0 3 (by omega) (by omega)).trans c_9
                have c_176 : E165 0 4 = .inl (kA 0, 20, .inl fe_4) := (p_170 0 4 (by omega) (by omega)).trans c_11
                have c_177 : E165 0 5 = .inr (2, [.ref (ad 0 6), .int (nI nd)]) := (p_170 0 5 (by omega) (by omega)).trans c_14
                have c_178 : E165 0 6 = .inl (kA 4, 12, .inr (.inr (.inr (.inr fd_13)))) := (p_170 0 6 (by omega) (by omega)).trans c_16
                have c_179 : E165 0 7 = .inr (3, [.ref (ad 0 5), .ref (ad 0 8), .int (nI cs), .int cf_18, pv_18]) := (p_170 0 7 (by omega) (by omega)).trans c_19
                have c_180 : E165 0 8 = .inl (kA 4, 12, .inr (.inr (.inr (.inr fc_18)))) := (p_170 0 8 (by omega) (by omega)).trans c_21
                have c_181 : E165 0 9 = .inl (kA 5, 5, .inr (.inr (.inr (.inr fl_23)))) := (p_170 0 9 (by omega) (by omega)).trans c_24
                have c_182 : E165 (1 + (nd - 1)) 0 = .inr (7, [.int (nI ((nd - 1))), .int fd_118, .int nm_118, .ref (ad (1 + (nd - 1)) 1), .ref (ad (1 + (nd - 1)) 9), .ref (ad (1 + (nd - 1)) 10), .ref (ad (1 + (nd - 1)) 2), .ref (ad (1 + (nd - 1)) 11), .ref (ad (1 + (nd - 1)) 12), .ref (ad (1 + (nd - 1)) 3), .ref (ad (1 + (nd - 1)) 4), .int sd_118]) := (p_170 (1 + (nd - 1)) 0 (by omega) (by omega)).trans c_119
                have c_183 : E165 (1 + (nd - 1)) 1 = .inr (8, [.ref (ad (1 + (nd - 1)) 5), .int (nI k0_118)]) := (p_170 (1 + (nd - 1)) 1 (by omega) (by omega)).trans c_121
                have c_184 : E165 (1 + (nd - 1)) 2 = .inr (8, [.ref (ad (1 + (nd - 1)) 6), .int (nI k1_118)]) := (p_170 (1 + (nd - 1)) 2 (by omega) (by omega)).trans c_123
                have c_185 : E165 (1 + (nd - 1)) 3 = .inr (8, [.ref (ad (1 + (nd - 1)) 7), .int (nI k2_118)]) := (p_170 (1 + (nd - 1)) 3 (by omega) (by omega)).trans c_125
                have c_186 : E165 (1 + (nd - 1)) 5 = .inl (kA 0, 6, .inl f0_118) := (p_170 (1 + (nd - 1)) 5 (by omega) (by omega)).trans c_129
                have c_187 : E165 (1 + (nd - 1)) 6 = .inl (kA 0, 5, .inl f1_118) := (p_170 (1 + (nd - 1)) 6 (by omega) (by omega)).trans c_131
                have c_188 : E165 (1 + (nd - 1)) 7 = .inl (kA 0, 3, .inl f2_118) := (p_170 (1 + (nd - 1)) 7 (by omega) (by omega)).trans c_133
                have c_189 : E165 (1 + (nd - 1)) 9 = .inl (kA 8, 6, .inr (.inr (.inr (.inr fe_118)))) := (p_170 (1 + (nd - 1)) 9 (by omega) (by omega)).trans c_137
                have c_190 : E165 (1 + (nd - 1)) 10 = .inl (kA 8, 6, .inr (.inr (.inr (.inr fo_118)))) := (p_170 (1 + (nd - 1)) 10 (by omega) (by omega)).trans c_139
                have c_191 : E165 (1 + (nd - 1)) 11 = .inl (kA 2, 5, .inl tr_118) := (p_170 (1 + (nd - 1)) 11 (by omega) (by omega)).trans c_141
                have c_192 : E165 (1 + (nd - 1)) 12 = .inl (kA 2, 5, .inl op_118) := (p_170 (1 + (nd - 1)) 12 (by omega) (by omega)).trans c_143
                have hP : va_P D xcl (rp ad E165 RL) H := hP
                have hD : va_D A (rp ad E165 RL) := hD
                have hap : w166 = k3_118 + 1 ∧ w167 = upd f3_118 k3_118 (wN (g 0) wl 1) := by
                  rcases hp171.2 with ⟨_, q1, q2⟩ | ⟨q, _⟩
                  · exact ⟨q1, q2⟩
                  · omega
                obtain ⟨hap1, hap2⟩ := hap
                have hTD9 := (show TD (va_up g 15 (upd (g 15) (3 * (nd - 1) + k3_118) (wN (g 0) wl 1))) (E165 (1 + (nd - 1))) (nd - 1) from TD_mk (by omega) (by omega) (by omega) (by omega) c_182 c_183 c_184 c_185 p_168 c_186 c_187 c_188 p_169 c_191 c_192 (by rw [hap1, hap2]; exact TT_S3 (by omega) (wN_pos.mp hc30) hTT_118) (fun i9 hi9 => by
          have q := tgr_118 i9 hi9
          rw [← (show E165 (1 + (nd - 1)) (20 + 3 * i9) = E (1 + (nd - 1)) (20 + 3 * i9) from by show E165 (1 + (nd - 1)) (20 + 3 * i9) = _; rw [p_170 (1 + (nd - 1)) (20 + 3 * i9) (by omega) (by omega)]), ← (show E165 (1 + (nd - 1)) (21 + 3 * i9) = E (1 + (nd - 1)) (21 + 3 * i9) from by show E165 (1 + (nd - 1)) (21 + 3 * i9) = _; rw [p_170 (1 + (nd - 1)) (21 + 3 * i9) (by omega) (by omega)]), ← (show E165 (1 + (nd - 1)) (22 + 3 * i9) = E (1 + (nd - 1)) (22 + 3 * i9) from by show E165 (1 + (nd - 1)) (22 + 3 * i9) = _; rw [p_170 (1 + (nd - 1)) (22 + 3 * i9) (by omega) (by omega)]), ← (show E165 (1 + (nd - 1)) (38 + 3 * i9) = E (1 + (nd - 1)) (38 + 3 * i9) from by show E165 (1 + (nd - 1)) (38 + 3 * i9) = _; rw [p_170 (1 + (nd - 1)) (38 + 3 * i9) (by omega) (by omega)]), ← (show E165 (1 + (nd - 1)) (39 + 3 * i9) = E (1 + (nd - 1)) (39 + 3 * i9) from by show E165 (1 + (nd - 1)) (39 + 3 * i9) = _; rw [p_170 (1 + (nd - 1)) (39 + 3 * i9) (by omega) (by omega)]), ← (show E165 (1 + (nd - 1)) (40 + 3 * i9) = E (1 + (nd - 1)) (40 + 3 * i9) from by show E165 (1 + (nd - 1)) (40 + 3 * i9) = _; rw [p_170 (1 + (nd - 1)) (40 + 3 * i9) (by omega) (by omega)])] at q
          exact q))
                have hTD2 : TDs (va_up g 15 (upd (g 15) (3 * (nd - 1) + k3_118) (wN (g 0) wl 1))) E165 nd := TDs_upd (x := nd - 1) hDIs (fun d9 hd9 hx9 => fun2 fun o9 => by show E165 (1 + d9) o9 = _; rw [p_170 (1 + d9) o9 (by omega) (by omega)]) (fun d9 hd9 hx9 => AG_S (by omega) (by omega) hx9) hTD9 hTD
                have hFRL : FRL ml nd ad ad E E165 := ⟨fun n9 hn9 => ⟨fun2 fun o9 => by show E165 (20 + n9) o9 = _; rw [p_170 (20 + n9) o9 (by omega) (by omega)], fun2 fun o9 => rfl⟩, fun d9 hd9 => rfl, by show E165 0 0 = _; rw [p_170 0 0 (by omega) (by omega)]⟩
                have hCI : CI kA ad E165 RL ml nd len wl.length cs := ⟨hmB, ⟨lf_1, c_172⟩, ⟨tx_4, fb_4, fe_4, (by omega), (by omega), c_173, c_174, c_175, c_176, hws_4⟩, ⟨fd_13, (by omega), c_177, c_178, hds_13⟩, ⟨cf_18, pv_18, fc_18, (by omega), hpv_18, c_179, c_180, hfc_18⟩, ⟨fl_23, (by omega), c_181, hla_23⟩, (DIs_set (x := nd - 1) (fun d9 hd9 hx9 => fun2 fun o9 => by show E165 (1 + d9) o9 = _; rw [p_170 (1 + d9) o9 (by omega) (by omega)]) (fun _ _ _ => rfl) (fun _ h => h) ⟨hm_118, fd_118, nm_118, sd_118, k0_118, k1_118, k2_118, w166, f0_118, f1_118, f2_118, w167, fe_118, fo_118, tr_118, op_118, (by omega), (by omega), (by omega), (by omega), c_182, c_183, c_184, c_185, p_168, c_186, c_187, c_188, p_169, c_189, c_190, c_191, c_192, (fun i9 hi9 => ⟨(hg_118 i9 (by omega)).1, (hg_118 i9 (by omega)).2.1, (GI_at (by show E165 (1 + (nd - 1)) (20 + 3 * i9) = _; rw [p_170 (1 + (nd - 1)) (20 + 3 * i9) (by omega) (by omega)]) (by show E165 (1 + (nd - 1)) (21 + 3 * i9) = _; rw [p_170 (1 + (nd - 1)) (21 + 3 * i9) (by omega) (by omega)]) (by show E165 (1 + (nd - 1)) (22 + 3 * i9) = _; rw [p_170 (1 + (nd - 1)) (22 + 3 * i9) (by omega) (by omega)]) (rfl) (rfl) (fun _ h9 => h9) (hg_118 i9 (by omega)).2.2.1), (GI_at (by show E165 (1 + (nd - 1)) (38 + 3 * i9) = _; rw [p_170 (1 + (nd - 1)) (38 + 3 * i9) (by omega) (by omega)]) (by show E165 (1 + (nd - 1)) (39 + 3 * i9) = _; rw [p_170 (1 + (nd - 1)) (39 + 3 * i9) (by omega) (by omega)]) (by show E165 (1 + (nd - 1)) (40 + 3 * i9) = _; rw [p_170 (1 + (nd - 1)) (40 + 3 * i9) (by omega) (by omega)]) (rfl) (rfl) (fun _ h9 => h9) (hg_118 i9 (by omega)).2.2.2)⟩)⟩ hDIs), (LIs_same (Nat.le_refl _) (fun n9 hn9 => fun2 fun o9 => by show E165 (20 + n9) o9 = _; rw [p_170 (20 + n9) o9 (by omega) (by omega)]) (fun _ _ => rfl) (fun _ _ => rfl) (fun _ h9 => h9) hLIs)⟩
                obtain ⟨hmB, hDk, hLi, hSh, hCh, hLa, hDIs, hLIs⟩ := id hCI
                refine lv_iconst (v := 2) hx hb xd_Sh_acceptService_90 (by decide) ?_
                refine W.widen (k := 0) (n := 0) (Nat.le_of_ble_eq_true rfl) (Nat.le_of_ble_eq_true rfl) ?_
                exact W.iret (v := 2) hx hb hr (fun t ht hW => ⟨⟨2, (ad, E165, RL), rfl, (by
        rw [cif_neg hw5, lS_y (NT_sv z159 tk3_118) ⟨by omega, hc30, by omega, fun k9 hk9 q => by
          rcases Nat.lt_or_ge k9 k3_118 with z | z
          · exact z151 k9 z (((tk3_118 k9 hk9).1 z).1.trans q)
          · exact hc30 (q.symm.trans ((tk3_118 k9 hk9).2 z)), by rw [← tsd_118]; exact hc154⟩]
        exact ⟨hCI, hTD2, rfl, hFRL⟩), by rw [ht]; exact hP, hD⟩, hS.F ht⟩) hS.2.2 xd_Sh_acceptService_91
    · refine lv_iconst (v := (-1)) hx hb xd_Sh_acceptService_18 (by decide) ?_
      refine W.widen (k := 0) (n := 0) (Nat.le_of_ble_eq_true rfl) (Nat.le_of_ble_eq_true rfl) ?_
      exact W.iret (v := (-1)) hx hb hr (fun t ht hW => ⟨⟨(-1), (ad, E, RL), rfl, ⟨hCI, by rw [cif_eq (lS_no1 (a := 14) (fun q => q.2.1 hc30)).symm (lS_no1 (a := 15) (fun q => q.2.1 hc30)).symm]; exact hTD, rfl, FRL_rf⟩, by rw [ht]; exact hP, hD⟩, hS.F ht⟩) hS.2.2 xd_Sh_acceptService_19
