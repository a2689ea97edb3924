theorem k5g_0 : (Cond.code xy_Li_nameAt xb_Li_nameAt 4 (some .int)) ∈ wT := wT_t (List.mem_append_right _ (List.mem_append_left _ (List.mem_of_getElem? (i := 17) rfl))) rfl
theorem k5g_1 : (Cond.methodLink "LayerDesk$Shelf" 70 xy_Li_nameAt) ∈ wT := wT_t (List.mem_append_right _ (List.mem_append_left _ (List.mem_of_getElem? (i := 14) rfl))) rfl
theorem k5g_2 : (Cond.instanceMethod xy_Li_nameAt) ∈ wT := wT_t (List.mem_append_right _ (List.mem_append_left _ (List.mem_of_getElem? (i := 15) rfl))) rfl
theorem k5g_3 : (Cond.selects "LayerDesk$Line" xy_Li_nameAt xy_Li_nameAt) ∈ wT := wT_t (List.mem_append_right _ (List.mem_append_left _ (List.mem_of_getElem? (i := 16) rfl))) rfl
theorem k5g_4 : (Cond.initialized "LayerDesk$Line") ∈ wT := wT_t (List.mem_append_left _ (List.mem_of_getElem? (i := 2) rfl)) rfl
theorem k5g_5 : (Cond.fieldLink "LayerDesk$Shelf" 27 "LayerDesk$Line" "words" "I") ∈ wT := wT_t (List.mem_append_left _ (List.mem_of_getElem? (i := 41) rfl)) rfl
theorem k5g_6 : (Cond.code xy_Sh_latest xb_Sh_latest 1 (some (.object "LayerDesk$Descriptor"))) ∈ wT := wT_t (List.mem_append_right _ (List.mem_append_left _ (List.mem_of_getElem? (i := 119) rfl))) rfl
theorem k5g_7 : (Cond.methodLink "LayerDesk$Shelf" 81 xy_Sh_latest) ∈ wT := wT_t (List.mem_append_right _ (List.mem_append_left _ (List.mem_of_getElem? (i := 116) rfl))) rfl
theorem k5g_8 : (Cond.instanceMethod xy_Sh_latest) ∈ wT := wT_t (List.mem_append_right _ (List.mem_append_left _ (List.mem_of_getElem? (i := 118) rfl))) rfl
theorem k5g_9 : (Cond.selects "LayerDesk$Shelf" xy_Sh_latest xy_Sh_latest) ∈ wT := wT_s (q := (xy_Sh_latest, 2)) (by decide +kernel) rfl
theorem k5g_10 : (Cond.initialized "LayerDesk$Shelf") ∈ wT := wT_t (List.mem_append_left _ (List.mem_of_getElem? (i := 3) rfl)) rfl
theorem k5g_11 : (Cond.code xy_Li_wordIs xb_Li_wordIs 4 (some .boolean)) ∈ wT := wT_t (List.mem_append_left _ (List.mem_of_getElem? (i := 199) rfl)) rfl
theorem k5g_12 : (Cond.methodLink "LayerDesk$Shelf" 34 xy_Li_wordIs) ∈ wT := wT_t (List.mem_append_left _ (List.mem_of_getElem? (i := 196) rfl)) rfl
theorem k5g_13 : (Cond.instanceMethod xy_Li_wordIs) ∈ wT := wT_t (List.mem_append_left _ (List.mem_of_getElem? (i := 197) rfl)) rfl
theorem k5g_14 : (Cond.selects "LayerDesk$Line" xy_Li_wordIs xy_Li_wordIs) ∈ wT := wT_t (List.mem_append_left _ (List.mem_of_getElem? (i := 198) rfl)) rfl
theorem k5g_15 : (Cond.fieldLink "LayerDesk$Shelf" 135 "LayerDesk$Descriptor" "used" "LLayerDesk$Names;") ∈ wT := wT_t (List.mem_append_right _ (List.mem_append_left _ (List.mem_of_getElem? (i := 77) rfl))) rfl
theorem k5g_16 : (Cond.code xy_Na_holds xb_Na_holds 2 (some .boolean)) ∈ wT := wT_t (List.mem_append_right _ (List.mem_append_left _ (List.mem_of_getElem? (i := 123) rfl))) rfl
theorem k5g_17 : (Cond.methodLink "LayerDesk$Shelf" 89 xy_Na_holds) ∈ wT := wT_t (List.mem_append_right _ (List.mem_append_left _ (List.mem_of_getElem? (i := 120) rfl))) rfl
theorem k5g_18 : (Cond.instanceMethod xy_Na_holds) ∈ wT := wT_t (List.mem_append_right _ (List.mem_append_left _ (List.mem_of_getElem? (i := 121) rfl))) rfl
theorem k5g_19 : (Cond.selects "LayerDesk$Names" xy_Na_holds xy_Na_holds) ∈ wT := wT_t (List.mem_append_right _ (List.mem_append_left _ (List.mem_of_getElem? (i := 122) rfl))) rfl
theorem k5g_20 : (Cond.initialized "LayerDesk$Names") ∈ wT := wT_t (List.mem_append_left _ (List.mem_of_getElem? (i := 11) rfl)) rfl
theorem k5g_21 : (Cond.fieldLink "LayerDesk$Shelf" 95 "LayerDesk$Descriptor" "settled" "Z") ∈ wT := wT_t (List.mem_append_right _ (List.mem_append_left _ (List.mem_of_getElem? (i := 83) rfl))) rfl
theorem k5g_22 : (Cond.code xy_Na_isFull xb_Na_isFull 1 (some .boolean)) ∈ wT := wT_t (List.mem_append_right _ (List.mem_append_left _ (List.mem_of_getElem? (i := 131) rfl))) rfl
theorem k5g_23 : (Cond.methodLink "LayerDesk$Shelf" 99 xy_Na_isFull) ∈ wT := wT_t (List.mem_append_right _ (List.mem_append_left _ (List.mem_of_getElem? (i := 128) rfl))) rfl
theorem k5g_24 : (Cond.instanceMethod xy_Na_isFull) ∈ wT := wT_t (List.mem_append_right _ (List.mem_append_left _ (List.mem_of_getElem? (i := 129) rfl))) rfl
theorem k5g_25 : (Cond.selects "LayerDesk$Names" xy_Na_isFull xy_Na_isFull) ∈ wT := wT_t (List.mem_append_right _ (List.mem_append_left _ (List.mem_of_getElem? (i := 130) rfl))) rfl
theorem k5g_26 : (Cond.code xy_Na_append xb_Na_append 2 none) ∈ wT := wT_t (List.mem_append_right _ (List.mem_append_left _ (List.mem_of_getElem? (i := 154) rfl))) rfl
theorem k5g_27 : (Cond.methodLink "LayerDesk$Shelf" 141 xy_Na_append) ∈ wT := wT_t (List.mem_append_right _ (List.mem_append_left _ (List.mem_of_getElem? (i := 204) rfl))) rfl
theorem k5g_28 : (Cond.instanceMethod xy_Na_append) ∈ wT := wT_t (List.mem_append_right _ (List.mem_append_left _ (List.mem_of_getElem? (i := 152) rfl))) rfl
theorem k5g_29 : (Cond.selects "LayerDesk$Names" xy_Na_append xy_Na_append) ∈ wT := wT_t (List.mem_append_right _ (List.mem_append_left _ (List.mem_of_getElem? (i := 153) rfl))) rfl
theorem k5g_30 : (Cond.fieldLink "LayerDesk$Shelf" 138 "LayerDesk$Descriptor" "provided" "LLayerDesk$Names;") ∈ wT := wT_t (List.mem_append_right _ (List.mem_append_left _ (List.mem_of_getElem? (i := 81) rfl))) rfl
set_option maxHeartbeats 4000000 in
set_option maxRecDepth 100000 in
theorem xc_Sh_acceptServiceX (l : Launch) (D : va_G) (kA : Nat → ClassId) (sz : Nat) (ad : Nat → Nat → Nat) (E : Nat → Nat → va_E) (RL : List (Nat × Nat)) (Z : zT) (g : Nat → Nat → Int32) (ml : Nat) (nd : Nat) (len : Nat) (lt : Nat) (wl : List (Nat × Nat)) (cs : Nat) (hCI : CI kA ad E RL ml nd len wl.length cs) (hLW : LW g E lt wl) (hTD : TDs g E nd) (hZI : ZI g nd) : Met l xy_Sh_acceptService (.code xy_Sh_acceptService xb_Sh_acceptService 5 (some .int) :: wT) { frames := 5, cells := 0, slots := 0, locals := 108 } (va_Pc [.ref (ad 0 5), .ref (ad 0 1)] (xPreZ D kA sz (rp ad E RL) Z)) (va_Qi (fun (r : Int32) (u : (Nat → Nat → Nat) × (Nat → Nat → va_E) × List (Nat × Nat)) => CI kA u.1 u.2.1 u.2.2 ml nd len wl.length cs ∧ TDs (cif (wS (g 0) wl 0 zUs) (lS 14 (g 0) wl nd g) (lS 15 (g 0) wl nd g)) u.2.1 nd ∧ u.1 0 0 = ad 0 0 ∧ FRL ml nd ad u.1 E u.2.1) (fun (u : (Nat → Nat → Nat) × (Nat → Nat → va_E) × List (Nat × Nat)) t => va_P D xcl (rp u.1 u.2.1 u.2.2) t.heap ∧ va_D (va_A (rp ad E RL) sz) (rp u.1 u.2.1 u.2.2)) (va_A (rp ad E RL) sz)) 0 0 (va_A (rp ad E RL) sz) := by
  refine Met.ofW (cc := xb_Sh_acceptService) (maxL := 5) (ret := (some .int)) (by decide) rfl ?_
  intro p e s m args below meth c s₁ B hml hv
  obtain ⟨rfl, ⟨hsz, hP, hK, hD0⟩, hZ⟩ := hv
  have hx := B.exec
  have hb := B.bytes
  have hr := B.returns
  have hT := x_hT B.pre
  have hown : s.vm.findClass xR_Sh = some m.cls := findClass_of_methodNamed B.named
  have hlocks := B.notSynchronized
  subst hsz
  have hD := hD0.self (sz := s.heap.size)
  generalize hAe : va_A (rp ad E RL) s.heap.size = A at hD hZ ⊢
  have hA : ∀ q : Nat, s.heap.size ≤ q → A q := fun q h => by rw [← hAe]; exact Or.inr h
  have hS : va_S A s.heap s.heap [] := va_S.rf
  have hl := lv_entry ([.ref (ad 0 5), .ref (ad 0 1)]) (n := 5) (Nat.le_of_ble_eq_true rfl)
  rw [lg_entry_eq]
  generalize (lg_sl ([.ref (ad 0 5), .ref (ad 0 1)]) ++ List.replicate (5 - (lg_sl ([.ref (ad 0 5), .ref (ad 0 1)])).length) Slot.unset).toArray = ls at hl ⊢
  have hl : lv_has ls 5 [(0, .ref (ad 0 5)), (1, .ref (ad 0 1))] := hl
  have hP : va_P D xcl (rp ad E RL) s.heap := hP
  obtain ⟨hmB, hDk, hLi, hSh, hCh, hLa, hDIs, hLIs⟩ := id hCI
  obtain ⟨hWL, hlt40, hLwd, hLtx⟩ := id hLW
  obtain ⟨lf_1, q_1⟩ := id (hDk)
  have c_2 : E 0 0 = .inr (0, [.ref (ad 0 1), .ref (ad 0 5), .ref (ad 0 7), .ref (ad 0 9), .int (nI ml), .int lf_1]) := q_1
  have m_3 : (0, 0) ∈ RL := hmB 0 (by decide)
  obtain ⟨tx_4, fb_4, fe_4, hl1_4, hw2_4, q1_4, q2_4, q3_4, q4_4, hws_4⟩ := id (hLi)
  have c_5 : E 0 1 = .inr (1, [.ref (ad 0 2), .ref (ad 0 3), .ref (ad 0 4), .int (nI len), .int (nI (wl.length))]) := q1_4
  have m_6 : (0, 1) ∈ RL := hmB 1 (by decide)
  have c_7 : E 0 2 = .inl (kA 1, 40, .inl tx_4) := q2_4
  have m_8 : (0, 2) ∈ RL := hmB 2 (by decide)
  have c_9 : E 0 3 = .inl (kA 0, 20, .inl fb_4) := q3_4
  have m_10 : (0, 3) ∈ RL := hmB 3 (by decide)
  have c_11 : E 0 4 = .inl (kA 0, 20, .inl fe_4) := q4_4
  have m_12 : (0, 4) ∈ RL := hmB 4 (by decide)
  obtain ⟨fd_13, hnd_13, q5_13, q6_13, hds_13⟩ := id (hSh)
  have c_14 : E 0 5 = .inr (2, [.ref (ad 0 6), .int (nI nd)]) := q5_13
  have m_15 : (0, 5) ∈ RL := hmB 5 (by decide)
  have c_16 : E 0 6 = .inl (kA 4, 12, .inr (.inr (.inr (.inr fd_13)))) := q6_13
  have m_17 : (0, 6) ∈ RL := hmB 6 (by decide)
  obtain ⟨cf_18, pv_18, fc_18, hcs_18, hpv_18, q7_18, q8_18, hfc_18⟩ := id (hCh)
  have c_19 : E 0 7 = .inr (3, [.ref (ad 0 5), .ref (ad 0 8), .int (nI cs), .int cf_18, pv_18]) := q7_18
  have m_20 : (0, 7) ∈ RL := hmB 7 (by decide)
  have c_21 : E 0 8 = .inl (kA 4, 12, .inr (.inr (.inr (.inr fc_18)))) := q8_18
  have m_22 : (0, 8) ∈ RL := hmB 8 (by decide)
  obtain ⟨fl_23, hml_23, q9_23, hla_23⟩ := id (hLa)
  have c_24 : E 0 9 = .inl (kA 5, 5, .inr (.inr (.inr (.inr fl_23)))) := q9_23
  have m_25 : (0, 9) ∈ RL := hmB 9 (by decide)
  obtain ⟨zw0, zw1, zw2, zw3, zw4, zw5, zw6, zw7, zw8, zw9, zw10, zw11⟩ := zW_all
  refine lv_aload_n hx hb xd_Sh_acceptService_0 rfl (lv_at hl 1 rfl) ?_
  refine lv_iconst (v := 1) hx hb xd_Sh_acceptService_1 (by decide) ?_
  have hFc := px_free hD hS hA
  refine va_calli (va_runV (As := [.int 1]) (rest := []) ⟨hx, hb, hml, hown, hT⟩ (xc_Li_nameAtX l D kA s.heap.size ad E RL g ml nd len lt wl cs 1 (by first | assumption | omega) (by first | assumption | omega) (by first | assumption | omega)) (cwV 1 hT (wT_V k5g_1 k5g_2 k5g_3 k5g_4 k5g_0) rfl rfl rfl (by decide +kernel) ⟨Nat.le_of_ble_eq_true rfl, Nat.le_of_ble_eq_true rfl⟩) (px_preV hK hP hD m_6 c_5 rfl) rfl rfl hl.1 rfl (lv_room (Nat.le_of_ble_eq_true rfl)) xd_Sh_acceptService_2 ⟨(Nat.le_of_ble_eq_true rfl), (Nat.le_of_ble_eq_true rfl)⟩) hS (fun q _ h => hFc q h) hFc (fun r26 u27 t H1 locs ht hvm hp28 hB hz1 hk1 hS => ?_)
  obtain ⟨hP1, hD1⟩ := hB
  rw [ht] at hP1
  have hD1 := hD1.weaken (fun _ _ _ h => hFc _ h)
  generalize H1 = H at hP1 hS ⊢
  have hP := hP1
  have hD := hD1
  have hP : va_P D xcl (rp ad E RL) H := hP
  have hD : va_D A (rp ad E RL) := hD
  have hp28 : r26 = wN (g 0) wl 1 := hp28
  subst hp28
  have hP : va_P D xcl (rp ad E RL) H := hP
  have hD : va_D A (rp ad E RL) := hD
  refine lv_istore_n hx hb xd_Sh_acceptService_5 rfl hl (Nat.le_of_ble_eq_true rfl) rfl (fun ls hl => ?_)
  have hl : lv_has ls 5 [(2, .int (wN (g 0) wl 1)), (0, .ref (ad 0 5)), (1, .ref (ad 0 1))] := hl
  refine lv_aload_n hx hb xd_Sh_acceptService_6 rfl (lv_at hl 2 rfl) ?_
  refine px_get (D := D) (ci := 1) (v := .int (nI (wl.length))) (C := xR_Li) (T := xT_Li) (N := 5) hx hb hT xi_Li hown hK.1 hP m_6 c_5 rfl 4 (by decide) (hT _ k5g_5) (fun _ h9 => h9) rfl xd_Sh_acceptService_7 ?_
  refine lv_iconst (v := 2) hx hb xd_Sh_acceptService_10 (by decide) ?_
  refine xn_ne (a := wl.length) (b := 2) (tgt := 18) hx hb xd_Sh_acceptService_11 (by decide) (by omega) (by omega) (fun hc29 => ?_) (fun hc29 => ?_)
  · refine lv_iconst (v := (-1)) hx hb xd_Sh_acceptService_18 (by decide) ?_
    refine W.widen (k := 0) (n := 0) (Nat.le_of_ble_eq_true rfl) (Nat.le_of_ble_eq_true rfl) ?_
    exact W.iret (v := (-1)) hx hb hr (fun t ht hW => ⟨⟨(-1), (ad, E, RL), rfl, ⟨hCI, by rw [cif_eq (lS_no1 (a := 14) (fun q => absurd q.1 (by omega))).symm (lS_no1 (a := 15) (fun q => absurd q.1 (by omega))).symm]; exact hTD, rfl, FRL_rf⟩, by rw [ht]; exact hP, hD⟩, hS.F ht⟩) hS.2.2 xd_Sh_acceptService_19
  · refine lv_iload_n hx hb xd_Sh_acceptService_14 rfl (lv_at hl 0 rfl) ?_
    refine lv_if_ne (tgt := 20) hx hb xd_Sh_acceptService_15 (by decide) (fun hc30 => ?_) (fun hc30 => ?_)
    · refine lv_aload_n hx hb xd_Sh_acceptService_20 rfl (lv_at hl 1 rfl) ?_
      have hFc := px_free hD hS hA
      refine va_callq (va_runV (As := []) (rest := []) ⟨hx, hb, hml, hown, hT⟩ (xc_Sh_latestX l D kA H.size ad E RL ml nd len wl.length cs (by first | assumption | omega)) (cwV 0 hT (wT_V k5g_7 k5g_8 k5g_9 k5g_10 k5g_6) rfl rfl rfl (by decide +kernel) ⟨Nat.le_of_ble_eq_true rfl, Nat.le_of_ble_eq_true rfl⟩) (px_preV hK hP hD m_15 c_14 rfl) rfl rfl hl.1 rfl (lv_room (Nat.le_of_ble_eq_true rfl)) xd_Sh_acceptService_21 ⟨(Nat.le_of_ble_eq_true rfl), (Nat.le_of_ble_eq_true rfl)⟩) hS (fun q _ h => hFc q h) hFc (fun r31 u32 t H1 locs ht hvm hp33 hB hz1 hk1 hS => ?_)
      obtain ⟨hP1, hD1⟩ := hB
      rw [ht] at hP1
      have hD1 := hD1.weaken (fun _ _ _ h => hFc _ h)
      generalize H1 = H at hP1 hS ⊢
      have hP := hP1
      have hD := hD1
      have hP : va_P D xcl (rp ad E RL) H := hP
      have hD : va_D A (rp ad E RL) := hD
      rcases hp33 with ⟨rfl, z34⟩ | ⟨z35, rfl⟩
      · refine W.eq (g2 := F0 m 24 ls [.null]) rfl ?_
        refine lv_astore_nN hx hb xd_Sh_acceptService_24 rfl hl (Nat.le_of_ble_eq_true rfl) rfl (fun ls hl => ?_)
        have hl : lv_has ls 5 [(3, .null), (2, .int (wN (g 0) wl 1)), (0, .ref (ad 0 5)), (1, .ref (ad 0 1))] := hl
        refine lv_aload_nN hx hb xd_Sh_acceptService_25 rfl (lv_at hl 0 rfl) ?_
        refine lv_ifnonnullN hx hb xd_Sh_acceptService_26 ?_
        refine lv_bipush (v := (-2)) hx hb xd_Sh_acceptService_29 (by decide) ?_
        refine W.widen (k := 0) (n := 0) (Nat.le_of_ble_eq_true rfl) (Nat.le_of_ble_eq_true rfl) ?_
        exact W.iret (v := (-2)) hx hb hr (fun t ht hW => ⟨⟨(-2), (ad, E, RL), rfl, ⟨hCI, by rw [cif_eq (lS_no1 (a := 14) (fun q => absurd q.2.2.1 (by omega))).symm (lS_no1 (a := 15) (fun q => absurd q.2.2.1 (by omega))).symm]; exact hTD, rfl, FRL_rf⟩, by rw [ht]; exact hP, hD⟩, hS.F ht⟩) hS.2.2 xd_Sh_acceptService_31
      · refine W.eq (g2 := F0 m 24 ls [.ref (ad (1 + (nd - 1)) 0)]) rfl ?_
        refine lv_astore_n hx hb xd_Sh_acceptService_24 rfl hl (Nat.le_of_ble_eq_true rfl) rfl (fun ls hl => ?_)
        have hl : lv_has ls 5 [(3, .ref (ad (1 + (nd - 1)) 0)), (2, .int (wN (g 0) wl 1)), (0, .ref (ad 0 5)), (1, .ref (ad 0 1))] := hl
        refine lv_aload_n hx hb xd_Sh_acceptService_25 rfl (lv_at hl 0 rfl) ?_
        refine lv_ifnonnull (tgt := 32) hx hb xd_Sh_acceptService_26 (by decide) ?_
        refine lv_aload_n hx hb xd_Sh_acceptService_32 rfl (lv_at hl 3 rfl) ?_
        refine lv_iconst (v := 0) hx hb xd_Sh_acceptService_33 (by decide) ?_
        refine va_ldcS (q := Z.1 5) hx hb hown hZ.2.2.2.1.2.2.2.2.2.1 xd_Sh_acceptService_34 ?_
        have hFc := px_free hD hS hA
        refine va_calli (va_runV (As := [.int 0, .ref (Z.1 5)]) (rest := []) ⟨hx, hb, hml, hown, hT⟩ (xc_Li_wordIsX l D kA H.size ad E RL Z g ml nd len lt wl cs 0 5 (by first | assumption | omega) (by first | assumption | omega) (by first | assumption | omega) (by first | assumption | omega)) (cwV 2 hT (wT_V k5g_12 k5g_13 k5g_14 k5g_4 k5g_11) rfl rfl rfl (by decide +kernel) ⟨Nat.le_of_ble_eq_true rfl, Nat.le_of_ble_eq_true rfl⟩) (px_preVZ hK hP hD m_6 c_5 rfl hFc (hZ.kept hS)) rfl rfl hl.1 rfl (lv_room (Nat.le_of_ble_eq_true rfl)) xd_Sh_acceptService_36 ⟨(Nat.le_of_ble_eq_true rfl), (Nat.le_of_ble_eq_true rfl)⟩) hS (fun q _ h => hFc q h) hFc (fun r36 u37 t H1 locs ht hvm hp38 hB hz1 hk1 hS => ?_)
        obtain ⟨hP1, hD1⟩ := hB
        rw [ht] at hP1
        have hD1 := hD1.weaken (fun _ _ _ h => hFc _ h)
        generalize H1 = H at hP1 hS ⊢
        have hP := hP1
        have hD := hD1
        have hP : va_P D xcl (rp ad E RL) H := hP
        have hD : va_D A (rp ad E RL) := hD
        rcases hp38 with ⟨rfl, z39⟩ | ⟨rfl, z40⟩
        · have hw5 : wS (g 0) wl 0 zUs := by have q := z39; rw [zw5] at q; exact q
          refine W.eq (g2 := F0 m 39 ls [.int 1]) rfl ?_
          refine lv_if_eq (tgt := 49) hx hb xd_Sh_acceptService_39 (by decide) (fun hc41 => absurd hc41 (by decide)) (fun _ => ?_)
          refine lv_aload_n hx hb xd_Sh_acceptService_42 rfl (lv_at hl 0 rfl) ?_
          obtain ⟨hm_42, fd_42, nm_42, sd_42, k0_42, k1_42, k2_42, k3_42, f0_42, f1_42, f2_42, f3_42, fe_42, fo_42, tr_42, op_42, hk0_42, hk1_42, hk2_42, hk3_42, q0_42, q1_42, q2_42, q3_42, q4_42, q5_42, q6_42, q7_42, q8_42, q9_42, q10_42, q11_42, q12_42, hg_42⟩ := id (hDIs (nd - 1) (by omega))
          have c_43 : E (1 + (nd - 1)) 0 = .inr (7, [.int (nI ((nd - 1))), .int fd_42, .int nm_42, .ref (ad (1 + (nd - 1)) 1), .ref (ad (1 + (nd - 1)) 9), .ref (ad (1 + (nd - 1)) 10), .ref (ad (1 + (nd - 1)) 2), .ref (ad (1 + (nd - 1)) 11), .ref (ad (1 + (nd - 1)) 12), .ref (ad (1 + (nd - 1)) 3), .ref (ad (1 + (nd - 1)) 4), .int sd_42]) := q0_42
          have m_44 : (1 + (nd - 1), 0) ∈ RL := hm_42 0 (by decide)
          have c_45 : E (1 + (nd - 1)) 1 = .inr (8, [.ref (ad (1 + (nd - 1)) 5), .int (nI k0_42)]) := q1_42
          have m_46 : (1 + (nd - 1), 1) ∈ RL := hm_42 1 (by decide)
          have c_47 : E (1 + (nd - 1)) 2 = .inr (8, [.ref (ad (1 + (nd - 1)) 6), .int (nI k1_42)]) := q2_42
          have m_48 : (1 + (nd - 1), 2) ∈ RL := hm_42 2 (by decide)
          have c_49 : E (1 + (nd - 1)) 3 = .inr (8, [.ref (ad (1 + (nd - 1)) 7), .int (nI k2_42)]) := q3_42
          have m_50 : (1 + (nd - 1), 3) ∈ RL := hm_42 3 (by decide)
          have c_51 : E (1 + (nd - 1)) 4 = .inr (8, [.ref (ad (1 + (nd - 1)) 8), .int (nI k3_42)]) := q4_42
          have m_52 : (1 + (nd - 1), 4) ∈ RL := hm_42 4 (by decide)
          have c_53 : E (1 + (nd - 1)) 5 = .inl (kA 0, 6, .inl f0_42) := q5_42
          have m_54 : (1 + (nd - 1), 5) ∈ RL := hm_42 5 (by decide)
          have c_55 : E (1 + (nd - 1)) 6 = .inl (kA 0, 5, .inl f1_42) := q6_42
          have m_56 : (1 + (nd - 1), 6) ∈ RL := hm_42 6 (by decide)
          have c_57 : E (1 + (nd - 1)) 7 = .inl (kA 0, 3, .inl f2_42) := q7_42
          have m_58 : (1 + (nd - 1), 7) ∈ RL := hm_42 7 (by decide)
          have c_59 : E (1 + (nd - 1)) 8 = .inl (kA 0, 3, .inl f3_42) := q8_42
          have m_60 : (1 + (nd - 1), 8) ∈ RL := hm_42 8 (by decide)
          have c_61 : E (1 + (nd - 1)) 9 = .inl (kA 8, 6, .inr (.inr (.inr (.inr fe_42)))) := q9_42
          have m_62 : (1 + (nd - 1), 9) ∈ RL := hm_42 9 (by decide)
          have c_63 : E (1 + (nd - 1)) 10 = .inl (kA 8, 6, .inr (.inr (.inr (.inr fo_42)))) := q10_42
          have m_64 : (1 + (nd - 1), 10) ∈ RL := hm_42 10 (by decide)
          have c_65 : E (1 + (nd - 1)) 11 = .inl (kA 2, 5, .inl tr_42) := q11_42
          have m_66 : (1 + (nd - 1), 11) ∈ RL := hm_42 11 (by decide)
          have c_67 : E (1 + (nd - 1)) 12 = .inl (kA 2, 5, .inl op_42) := q12_42
          have m_68 : (1 + (nd - 1), 12) ∈ RL := hm_42 12 (by decide)
          have hg_42 : ∀ w9, w9 < k0_42 → fe_42 w9 = some (ad (1 + (nd - 1)) (20 + 3 * w9)) ∧ fo_42 w9 = some (ad (1 + (nd - 1)) (38 + 3 * w9)) ∧ GI kA (ad (1 + (nd - 1))) (E (1 + (nd - 1))) (fun o => (1 + (nd - 1), o) ∈ RL) (20 + 3 * w9) (21 + 3 * w9) (22 + 3 * w9) ∧ GI kA (ad (1 + (nd - 1))) (E (1 + (nd - 1))) (fun o => (1 + (nd - 1), o) ∈ RL) (38 + 3 * w9) (39 + 3 * w9) (40 + 3 * w9) := hg_42
          obtain ⟨hTT_42, tgr_42⟩ := TD_get hk0_42 hk1_42 hk2_42 hk3_42 c_43 c_45 c_47 c_49 c_51 c_53 c_55 c_57 c_59 c_65 c_67 (hTD (nd - 1) (by omega))
          obtain ⟨tfd_42, tnm_42, tsd_42, tk0_42, tf0_42, tk1_42, tf1_42, tk2_42, tk3_42⟩ := id hTT_42
          have ik0_42 : iN (g 5 (nd - 1)) = k0_42 := by rw [← tk0_42, iN_nI (by omega)]
          have ik1_42 : iN (g 12 (nd - 1)) = k1_42 := by rw [← tk1_42, iN_nI (by omega)]
          refine px_get (D := D) (ci := 7) (v := .ref (ad (1 + (nd - 1)) 3)) (C := xR_Ds) (T := xT_Ds) (N := 12) hx hb hT xi_Ds hown hK.1 hP m_44 c_43 rfl 9 (by decide) (hT _ k5g_15) (fun _ h9 => h9) rfl xd_Sh_acceptService_43 ?_
          refine lv_goto (tgt := 53) hx hb xd_Sh_acceptService_46 (by decide) ?_
          refine lv_astore hx hb xd_Sh_acceptService_53 hl (Nat.le_of_ble_eq_true rfl) rfl (fun ls hl => ?_)
          have hl : lv_has ls 5 [(4, .ref (ad (1 + (nd - 1)) 3)), (3, .ref (ad (1 + (nd - 1)) 0)), (2, .int (wN (g 0) wl 1)), (0, .ref (ad 0 5)), (1, .ref (ad 0 1))] := hl
          refine lv_aload hx hb xd_Sh_acceptService_55 (lv_at hl 0 rfl) ?_
          refine lv_iload_n hx hb xd_Sh_acceptService_57 rfl (lv_at hl 2 rfl) ?_
          have hFc := px_free hD hS hA
          refine va_calli (va_runV (As := [.int (wN (g 0) wl 1)]) (rest := []) ⟨hx, hb, hml, hown, hT⟩ (xc_Na_holds l D kA H.size ad E RL (1 + (nd - 1)) 3 7 3 k2_42 f2_42 (wN (g 0) wl 1) m_50 c_49 m_58 c_57 (by first | assumption | omega) (by first | assumption | omega)) (cwV 1 hT (wT_V k5g_17 k5g_18 k5g_19 k5g_20 k5g_16) rfl rfl rfl (by decide +kernel) ⟨Nat.le_of_ble_eq_true rfl, Nat.le_of_ble_eq_true rfl⟩) (px_preV hK hP hD m_50 c_49 rfl) rfl rfl hl.1 rfl (lv_room (Nat.le_of_ble_eq_true rfl)) xd_Sh_acceptService_58 ⟨(Nat.le_of_ble_eq_true rfl), (Nat.le_of_ble_eq_true rfl)⟩) hS (fun q _ h => hFc q h) hFc (fun r69 u70 t H1 locs ht hvm hp71 hB hz1 hk1 hS => ?_)
          obtain ⟨hP1, hD1⟩ := hB
          rw [ht] at hP1
          have hD1 := hD1.weaken (fun _ _ _ h => hFc _ h)
          generalize H1 = H at hP1 hS ⊢
          have hP := hP1
          have hD := hD1
          have hP : va_P D xcl (rp ad E RL) H := hP
          have hD : va_D A (rp ad E RL) := hD
          rcases hp71 with ⟨rfl, z72, z73, z74⟩ | ⟨rfl, z75⟩
          · refine W.eq (g2 := F0 m 61 ls [.int 1]) rfl ?_
            refine lv_if_eq (tgt := 66) hx hb xd_Sh_acceptService_61 (by decide) (fun hc76 => absurd hc76 (by decide)) (fun _ => ?_)
            refine lv_iconst (v := (-1)) hx hb xd_Sh_acceptService_64 (by decide) ?_
            refine W.widen (k := 0) (n := 0) (Nat.le_of_ble_eq_true rfl) (Nat.le_of_ble_eq_true rfl) ?_
            exact W.iret (v := (-1)) hx hb hr (fun t ht hW => ⟨⟨(-1), (ad, E, RL), rfl, ⟨hCI, by rw [cif_pos hw5, ← lS_no1 (fun q => q.2.2.2.1 z72 (by omega) (((tk2_42 z72 (by omega)).1 z73).1.symm.trans z74))]; exact hTD, rfl, FRL_rf⟩, by rw [ht]; exact hP, hD⟩, hS.F ht⟩) hS.2.2 xd_Sh_acceptService_65
          · refine W.eq (g2 := F0 m 61 ls [.int 0]) rfl ?_
            refine lv_if_eq (tgt := 66) hx hb xd_Sh_acceptService_61 (by decide) (fun _ => ?_) (fun hc77 => absurd (by decide) hc77)
            refine lv_aload_n hx hb xd_Sh_acceptService_66 rfl (lv_at hl 1 rfl) ?_
            refine px_get (D := D) (ci := 7) (v := .int sd_42) (C := xR_Ds) (T := xT_Ds) (N := 12) hx hb hT xi_Ds hown hK.1 hP m_44 c_43 rfl 11 (by decide) (hT _ k5g_21) (fun _ h9 => h9) rfl xd_Sh_acceptService_67 ?_
            refine lv_if_ne (tgt := 81) hx hb xd_Sh_acceptService_70 (by decide) (fun hc78 => ?_) (fun hc78 => ?_)
            · refine lv_bipush (v := (-2)) hx hb xd_Sh_acceptService_81 (by decide) ?_
              refine W.widen (k := 0) (n := 0) (Nat.le_of_ble_eq_true rfl) (Nat.le_of_ble_eq_true rfl) ?_
              exact W.iret (v := (-2)) hx hb hr (fun t ht hW => ⟨⟨(-2), (ad, E, RL), rfl, ⟨hCI, by rw [cif_pos hw5, ← lS_no1 (fun q => hc78 (by rw [tsd_42]; exact q.2.2.2.2))]; exact hTD, rfl, FRL_rf⟩, by rw [ht]; exact hP, hD⟩, hS.F ht⟩) hS.2.2 xd_Sh_acceptService_83
            · refine lv_aload hx hb xd_Sh_acceptService_73 (lv_at hl 0 rfl) ?_
              have hFc := px_free hD hS hA
              refine va_calli (va_runV (As := []) (rest := []) ⟨hx, hb, hml, hown, hT⟩ (xc_Na_isFull l D kA H.size ad E RL (1 + (nd - 1)) 3 7 3 k2_42 f2_42 m_50 c_49 m_58 c_57 (by first | assumption | omega) (by first | assumption | omega)) (cwV 0 hT (wT_V k5g_23 k5g_24 k5g_25 k5g_20 k5g_22) rfl rfl rfl (by decide +kernel) ⟨Nat.le_of_ble_eq_true rfl, Nat.le_of_ble_eq_true rfl⟩) (px_preV hK hP hD m_50 c_49 rfl) rfl rfl hl.1 rfl (lv_room (Nat.le_of_ble_eq_true rfl)) xd_Sh_acceptService_75 ⟨(Nat.le_of_ble_eq_true rfl), (Nat.le_of_ble_eq_true rfl)⟩) hS (fun q _ h => hFc q h) hFc (fun r79 u80 t H1 locs ht hvm hp81 hB hz1 hk1 hS => ?_)
              obtain ⟨hP1, hD1⟩ := hB
              rw [ht] at hP1
              have hD1 := hD1.weaken (fun _ _ _ h => hFc _ h)
              generalize H1 = H at hP1 hS ⊢
              have hP := hP1
              have hD := hD1
              have hP : va_P D xcl (rp ad E RL) H := hP
              have hD : va_D A (rp ad E RL) := hD
              rcases hp81 with ⟨rfl, z82⟩ | ⟨rfl, z83⟩
              · refine W.eq (g2 := F0 m 78 ls [.int 1]) rfl ?_
                refine lv_if_eq (tgt := 84) hx hb xd_Sh_acceptService_78 (by decide) (fun hc84 => absurd hc84 (by decide)) (fun _ => ?_)
                refine lv_bipush (v := (-2)) hx hb xd_Sh_acceptService_81 (by decide) ?_
                refine W.widen (k := 0) (n := 0) (Nat.le_of_ble_eq_true rfl) (Nat.le_of_ble_eq_true rfl) ?_
                exact W.iret (v := (-2)) hx hb hr (fun t ht hW => ⟨⟨(-2), (ad, E, RL), rfl, ⟨hCI, by rw [cif_pos hw5, ← lS_no2 (NT_sn z82 tk2_42)]; exact hTD, rfl, FRL_rf⟩, by rw [ht]; exact hP, hD⟩, hS.F ht⟩) hS.2.2 xd_Sh_acceptService_83
              · refine W.eq (g2 := F0 m 78 ls [.int 0]) rfl ?_
                refine lv_if_eq (tgt := 84) hx hb xd_Sh_acceptService_78 (by decide) (fun _ => ?_) (fun hc85 => absurd (by decide) hc85)
                refine lv_aload hx hb xd_Sh_acceptService_84 (lv_at hl 0 rfl) ?_
                refine lv_iload_n hx hb xd_Sh_acceptService_86 rfl (lv_at hl 2 rfl) ?_
                have hFc := px_free hD hS hA
                refine va_callv (va_runV (As := [.int (wN (g 0) wl 1)]) (rest := []) ⟨hx, hb, hml, hown, hT⟩ (xc_Na_append l D kA H.size ad E RL (1 + (nd - 1)) 3 7 3 k2_42 f2_42 (wN (g 0) wl 1) m_50 c_49 m_58 c_57 (by first | assumption | omega) (by first | assumption | omega) (by first | assumption | omega)) (cwV 1 hT (wT_V k5g_27 k5g_28 k5g_29 k5g_20 k5g_26) rfl rfl rfl (by decide +kernel) ⟨Nat.le_of_ble_eq_true rfl, Nat.le_of_ble_eq_true rfl⟩) (px_preV hK hP hD m_50 c_49 rfl) rfl rfl hl.1 rfl (lv_room (Nat.le_of_ble_eq_true rfl)) xd_Sh_acceptService_87 ⟨(Nat.le_of_ble_eq_true rfl), (Nat.le_of_ble_eq_true rfl)⟩) hS (fun q _ h => hFc q h) hFc (fun u87 t H1 locs ht hvm hp88 hB hz1 hk1 hS => ?_)
                obtain ⟨hP1, hD1⟩ := hB
                rw [ht] at hP1
                have hD1 := hD1.weaken (fun _ _ _ h => hFc _ h)
                generalize H1 = H at hP1 hS ⊢
                have hP := hP1
                have hD := hD1
                obtain ⟨E89, rfl⟩ : ∃ z, z = u87 := ⟨_, rfl⟩
                obtain ⟨w90, w91, hp95, p_92, p_93, p_94⟩ := hp88
                have p_92 : E89 (1 + (nd - 1)) 3 = .inr (8, [.ref (ad (1 + (nd - 1)) 7), .int (nI w90)]) := p_92
                have p_93 : E89 (1 + (nd - 1)) 7 = .inl (kA 0, 3, .inl w91) := p_93
                have p_94 : (∀ b2 o2, ¬ (b2 = (1 + (nd - 1)) ∧ o2 = 3) → ¬ (b2 = (1 + (nd - 1)) ∧ o2 = 7) → E89 b2 o2 = E b2 o2) := p_94
                have c_96 : E89 0 0 = .inr (0, [.ref (ad 0 1), .ref (ad 0 5), .ref (ad 0 7), .ref (ad 0 9), .int (nI ml), .int lf_1]) := (p_94 0 0 (fun q9 => absurd q9.2 (by decide)) (fun q9 => absurd q9.2 (by decide))).trans c_2
                have c_97 : E89 0 1 = .inr (1, [.ref (ad 0 2), .ref (ad 0 3), .ref (ad 0 4), .int (nI len), .int (nI (wl.length))]) := (p_94 0 1 (fun q9 => absurd q9.2 (by decide)) (fun q9 => absurd q9.2 (by decide))).trans c_5
                have c_98 : E89 0 2 = .inl (kA 1, 40, .inl tx_4) := (p_94 0 2 (fun q9 => absurd q9.2 (by decide)) (fun q9 => absurd q9.2 (by decide))).trans c_7
                have nb_99 : ¬ (0 = 1 + (nd - 1)) := by omega
                have c_100 : E89 0 3 = .inl (kA 0, 20, .inl fb_4) := (p_94 0 3 (fun q9 => nb_99 q9.1) (fun q9 => absurd q9.2 (by decide))).trans c_9
                have c_101 : E89 0 4 = .inl (kA 0, 20, .inl fe_4) := (p_94 0 4 (fun q9 => absurd q9.2 (by decide)) (fun q9 => absurd q9.2 (by decide))).trans c_11
                have c_102 : E89 0 5 = .inr (2, [.ref (ad 0 6), .int (nI nd)]) := (p_94 0 5 (fun q9 => absurd q9.2 (by decide)) (fun q9 => absurd q9.2 (by decide))).trans c_14
                have c_103 : E89 0 6 = .inl (kA 4, 12, .inr (.inr (.inr (.inr fd_13)))) := (p_94 0 6 (fun q9 => absurd q9.2 (by decide)) (fun q9 => absurd q9.2 (by decide))).trans c_16
                have c_104 : E89 0 7 = .inr (3, [.ref (ad 0 5), .ref (ad 0 8), .int (nI cs), .int cf_18, pv_18]) := (p_94 0 7 (fun q9 => absurd q9.2 (by decide)) (fun q9 => nb_99 q9.1)).trans c_19
                have c_105 : E89 0 8 = .inl (kA 4, 12, .inr (.inr (.inr (.inr fc_18)))) := (p_94 0 8 (fun q9 => absurd q9.2 (by decide)) (fun q9 => absurd q9.2 (by decide))).trans c_21
                have c_106 : E89 0 9 = .inl (kA 5, 5, .inr (.inr (.inr (.inr fl_23)))) := (p_94 0 9 (fun q9 => absurd q9.2 (by decide)) (fun q9 => absurd q9.2 (by decide))).trans c_24
                have c_107 : E89 (1 + (nd - 1)) 0 = .inr (7, [.int (nI ((nd - 1))), .int fd_42, .int nm_42, .ref (ad (1 + (nd - 1)) 1), .ref (ad (1 + (nd - 1)) 9), .ref (ad (1 + (nd - 1)) 10), .ref (ad (1 + (nd - 1)) 2), .ref (ad (1 + (nd - 1)) 11), .ref (ad (1 + (nd - 1)) 12), .ref (ad (1 + (nd - 1)) 3), .ref (ad (1 + (nd - 1)) 4), .int sd_42]) := (p_94 (1 + (nd - 1)) 0 (fun q9 => absurd q9.2 (by decide)) (fun q9 => absurd q9.2 (by decide))).trans c_43
                have c_108 : E89 (1 + (nd - 1)) 1 = .inr (8, [.ref (ad (1 + (nd - 1)) 5), .int (nI k0_42)]) := (p_94 (1 + (nd - 1)) 1 (fun q9 => absurd q9.2 (by decide)) (fun q9 => absurd q9.2 (by decide))).trans c_45
                have c_109 : E89 (1 + (nd - 1)) 2 = .inr (8, [.ref (ad (1 + (nd - 1)) 6), .int (nI k1_42)]) := (p_94 (1 + (nd - 1)) 2 (fun q9 => absurd q9.2 (by decide)) (fun q9 => absurd q9.2 (by decide))).trans c_47
                have c_110 : E89 (1 + (nd - 1)) 4 = .inr (8, [.ref (ad (1 + (nd - 1)) 8), .int (nI k3_42)]) := (p_94 (1 + (nd - 1)) 4 (fun q9 => absurd q9.2 (by decide)) (fun q9 => absurd q9.2 (by decide))).trans c_51
                have c_111 : E89 (1 + (nd - 1)) 5 = .inl (kA 0, 6, .inl f0_42) := (p_94 (1 + (nd - 1)) 5 (fun q9 => absurd q9.2 (by decide)) (fun q9 => absurd q9.2 (by decide))).trans c_53
                have c_112 : E89 (1 + (nd - 1)) 6 = .inl (kA 0, 5, .inl f1_42) := (p_94 (1 + (nd - 1)) 6 (fun q9 => absurd q9.2 (by decide)) (fun q9 => absurd q9.2 (by decide))).trans c_55
                have c_113 : E89 (1 + (nd - 1)) 8 = .inl (kA 0, 3, .inl f3_42) := (p_94 (1 + (nd - 1)) 8 (fun q9 => absurd q9.2 (by decide)) (fun q9 => absurd q9.2 (by decide))).trans c_59
                have c_114 : E89 (1 + (nd - 1)) 9 = .inl (kA 8, 6, .inr (.inr (.inr (.inr fe_42)))) := (p_94 (1 + (nd - 1)) 9 (fun q9 => absurd q9.2 (by decide)) (fun q9 => absurd q9.2 (by decide))).trans c_61
                have c_115 : E89 (1 + (nd - 1)) 10 = .inl (kA 8, 6, .inr (.inr (.inr (.inr fo_42)))) := (p_94 (1 + (nd - 1)) 10 (fun q9 => absurd q9.2 (by decide)) (fun q9 => absurd q9.2 (by decide))).trans c_63
                have c_116 : E89 (1 + (nd - 1)) 11 = .inl (kA 2, 5, .inl tr_42) := (p_94 (1 + (nd - 1)) 11 (fun q9 => absurd q9.2 (by decide)) (fun q9 => absurd q9.2 (by decide))).trans c_65
                have c_117 : E89 (1 + (nd - 1)) 12 = .inl (kA 2, 5, .inl op_42) := (p_94 (1 + (nd - 1)) 12 (fun q9 => absurd q9.2 (by decide)) (fun q9 => absurd q9.2 (by decide))).trans c_67
                have hP : va_P D xcl (rp ad E89 RL) H := hP
                have hD : va_D A (rp ad E89 RL) := hD
                have hap : w90 = k2_42 + 1 ∧ w91 = upd f2_42 k2_42 (wN (g 0) wl 1) := by
                  rcases hp95.2 with ⟨_, q1, q2⟩ | ⟨q, _⟩
                  · exact ⟨q1, q2⟩
                  · omega
                obtain ⟨hap1, hap2⟩ := hap
                have hTD9 := (show TD (va_up g 14 (upd (g 14) (3 * (nd - 1) + k2_42) (wN (g 0) wl 1))) (E89 (1 + (nd - 1))) (nd - 1) from TD_mk (by omega) (by omega) (by omega) (by omega) c_107 c_108 c_109 p_92 c_110 c_111 c_112 p_93 c_113 c_116 c_117 (by rw [hap1, hap2]; exact TT_S2 (by omega) (wN_pos.mp hc30) hTT_42) (fun i9 hi9 => by
          have q := tgr_42 i9 hi9
          rw [← (show E89 (1 + (nd - 1)) (20 + 3 * i9) = E (1 + (nd - 1)) (20 + 3 * i9) from by show E89 (1 + (nd - 1)) (20 + 3 * i9) = _; rw [p_94 (1 + (nd - 1)) (20 + 3 * i9) (by omega) (by omega)]), ← (show E89 (1 + (nd - 1)) (21 + 3 * i9) = E (1 + (nd - 1)) (21 + 3 * i9) from by show E89 (1 + (nd - 1)) (21 + 3 * i9) = _; rw [p_94 (1 + (nd - 1)) (21 + 3 * i9) (by omega) (by omega)]), ← (show E89 (1 + (nd - 1)) (22 + 3 * i9) = E (1 + (nd - 1)) (22 + 3 * i9) from by show E89 (1 + (nd - 1)) (22 + 3 * i9) = _; rw [p_94 (1 + (nd - 1)) (22 + 3 * i9) (by omega) (by omega)]), ← (show E89 (1 + (nd - 1)) (38 + 3 * i9) = E (1 + (nd - 1)) (38 + 3 * i9) from by show E89 (1 + (nd - 1)) (38 + 3 * i9) = _; rw [p_94 (1 + (nd - 1)) (38 + 3 * i9) (by omega) (by omega)]), ← (show E89 (1 + (nd - 1)) (39 + 3 * i9) = E (1 + (nd - 1)) (39 + 3 * i9) from by show E89 (1 + (nd - 1)) (39 + 3 * i9) = _; rw [p_94 (1 + (nd - 1)) (39 + 3 * i9) (by omega) (by omega)]), ← (show E89 (1 + (nd - 1)) (40 + 3 * i9) = E (1 + (nd - 1)) (40 + 3 * i9) from by show E89 (1 + (nd - 1)) (40 + 3 * i9) = _; rw [p_94 (1 + (nd - 1)) (40 + 3 * i9) (by omega) (by omega)])] at q
          exact q))
                have hTD2 : TDs (va_up g 14 (upd (g 14) (3 * (nd - 1) + k2_42) (wN (g 0) wl 1))) E89 nd := TDs_upd (x := nd - 1) hDIs (fun d9 hd9 hx9 => fun2 fun o9 => by show E89 (1 + d9) o9 = _; rw [p_94 (1 + d9) o9 (by omega) (by omega)]) (fun d9 hd9 hx9 => AG_S (by omega) (by omega) hx9) hTD9 hTD
                have hFRL : FRL ml nd ad ad E E89 := ⟨fun n9 hn9 => ⟨fun2 fun o9 => by show E89 (20 + n9) o9 = _; rw [p_94 (20 + n9) o9 (by omega) (by omega)], fun2 fun o9 => rfl⟩, fun d9 hd9 => rfl, by show E89 0 0 = _; rw [p_94 0 0 (by omega) (by omega)]⟩
                have hCI : CI kA ad E89 RL ml nd len wl.length cs := ⟨hmB, ⟨lf_1, c_96⟩, ⟨tx_4, fb_4, fe_4, (by omega), (by omega), c_97, c_98, c_100, c_101, hws_4⟩, ⟨fd_13, (by omega), c_102, c_103, hds_13⟩, ⟨cf_18, pv_18, fc_18, (by omega), hpv_18, c_104, c_105, hfc_18⟩, ⟨fl_23, (by omega), c_106, hla_23⟩, (DIs_set (x := nd - 1) (fun d9 hd9 hx9 => fun2 fun o9 => by show E89 (1 + d9) o9 = _; rw [p_94 (1 + d9) o9 (by omega) (by omega)]) (fun _ _ _ => rfl) (fun _ h => h) ⟨hm_42, fd_42, nm_42, sd_42, k0_42, k1_42, w90, k3_42, f0_42, f1_42, w91, f3_42, fe_42, fo_42, tr_42, op_42, (by omega), (by omega), (by omega), (by omega), c_107, c_108, c_109, p_92, c_110, c_111, c_112, p_93, c_113, c_114, c_115, c_116, c_117, (fun i9 hi9 => ⟨(hg_42 i9 (by omega)).1, (hg_42 i9 (by omega)).2.1, (GI_at (by show E89 (1 + (nd - 1)) (20 + 3 * i9) = _; rw [p_94 (1 + (nd - 1)) (20 + 3 * i9) (by omega) (by omega)]) (by show E89 (1 + (nd - 1)) (21 + 3 * i9) = _; rw [p_94 (1 + (nd - 1)) (21 + 3 * i9) (by omega) (by omega)]) (by show E89 (1 + (nd - 1)) (22 + 3 * i9) = _; rw [p_94 (1 + (nd - 1)) (22 + 3 * i9) (by omega) (by omega)]) (rfl) (rfl) (fun _ h9 => h9) (hg_42 i9 (by omega)).2.2.1), (GI_at (by show E89 (1 + (nd - 1)) (38 + 3 * i9) = _; rw [p_94 (1 + (nd - 1)) (38 + 3 * i9) (by omega) (by omega)]) (by show E89 (1 + (nd - 1)) (39 + 3 * i9) = _; rw [p_94 (1 + (nd - 1)) (39 + 3 * i9) (by omega) (by omega)]) (by show E89 (1 + (nd - 1)) (40 + 3 * i9) = _; rw [p_94 (1 + (nd - 1)) (40 + 3 * i9) (by omega) (by omega)]) (rfl) (rfl) (fun _ h9 => h9) (hg_42 i9 (by omega)).2.2.2)⟩)⟩ hDIs), (LIs_same (Nat.le_refl _) (fun n9 hn9 => fun2 fun o9 => by show E89 (20 + n9) o9 = _; rw [p_94 (20 + n9) o9 (by omega) (by omega)]) (fun _ _ => rfl) (fun _ _ => rfl) (fun _ h9 => h9) hLIs)⟩
                obtain ⟨hmB, hDk, hLi, hSh, hCh, hLa, hDIs, hLIs⟩ := id hCI
                refine lv_iconst (v := 2) hx hb xd_Sh_acceptService_90 (by decide) ?_
                refine W.widen (k := 0) (n := 0) (Nat.le_of_ble_eq_true rfl) (Nat.le_of_ble_eq_true rfl) ?_
                exact W.iret (v := 2) hx hb hr (fun t ht hW => ⟨⟨2, (ad, E89, RL), rfl, (by
        rw [cif_pos hw5, lS_y (NT_sv z83 tk2_42) ⟨by omega, hc30, by omega, fun k9 hk9 q => by
          rcases Nat.lt_or_ge k9 k2_42 with z | z
          · exact z75 k9 z (((tk2_42 k9 hk9).1 z).1.trans q)
          · exact hc30 (q.symm.trans ((tk2_42 k9 hk9).2 z)), by rw [← tsd_42]; exact hc78⟩]
        exact ⟨hCI, hTD2, rfl, hFRL⟩), by rw [ht]; exact hP, hD⟩, hS.F ht⟩) hS.2.2 xd_Sh_acceptService_91
        · have hw5 : ¬ wS (g 0) wl 0 zUs := by have q := z40; rw [zw5] at q; exact q
          refine W.eq (g2 := F0 m 39 ls [.int 0]) rfl ?_
          refine lv_if_eq (tgt := 49) hx hb xd_Sh_acceptService_39 (by decide) (fun _ => ?_) (fun hc118 => absurd (by decide) hc118)
          refine lv_aload_n hx hb xd_Sh_acceptService_49 rfl (lv_at hl 0 rfl) ?_
          obtain ⟨hm_119, fd_119, nm_119, sd_119, k0_119, k1_119, k2_119, k3_119, f0_119, f1_119, f2_119, f3_119, fe_119, fo_119, tr_119, op_119, hk0_119, hk1_119, hk2_119, hk3_119, q0_119, q1_119, q2_119, q3_119, q4_119, q5_119, q6_119, q7_119, q8_119, q9_119, q10_119, q11_119, q12_119, hg_119⟩ := id (hDIs (nd - 1) (by omega))
          have c_120 : E (1 + (nd - 1)) 0 = .inr (7, [.int (nI ((nd - 1))), .int fd_119, .int nm_119, .ref (ad (1 + (nd - 1)) 1), .ref (ad (1 + (nd - 1)) 9), .ref (ad (1 + (nd - 1)) 10), .ref (ad (1 + (nd - 1)) 2), .ref (ad (1 + (nd - 1)) 11), .ref (ad (1 + (nd - 1)) 12), .ref (ad (1 + (nd - 1)) 3), .ref (ad (1 + (nd - 1)) 4), .int sd_119]) := q0_119
          have m_121 : (1 + (nd - 1), 0) ∈ RL := hm_119 0 (by decide)
          have c_122 : E (1 + (nd - 1)) 1 = .inr (8, [.ref (ad (1 + (nd - 1)) 5), .int (nI k0_119)]) := q1_119
          have m_123 : (1 + (nd - 1), 1) ∈ RL := hm_119 1 (by decide)
          have c_124 : E (1 + (nd - 1)) 2 = .inr (8, [.ref (ad (1 + (nd - 1)) 6), .int (nI k1_119)]) := q2_119
          have m_125 : (1 + (nd - 1), 2) ∈ RL := hm_119 2 (by decide)
          have c_126 : E (1 + (nd - 1)) 3 = .inr (8, [.ref (ad (1 + (nd - 1)) 7), .int (nI k2_119)]) := q3_119
          have m_127 : (1 + (nd - 1), 3) ∈ RL := hm_119 3 (by decide)
          have c_128 : E (1 + (nd - 1)) 4 = .inr (8, [.ref (ad (1 + (nd - 1)) 8), .int (nI k3_119)]) := q4_119
          have m_129 : (1 + (nd - 1), 4) ∈ RL := hm_119 4 (by decide)
          have c_130 : E (1 + (nd - 1)) 5 = .inl (kA 0, 6, .inl f0_119) := q5_119
          have m_131 : (1 + (nd - 1), 5) ∈ RL := hm_119 5 (by decide)
          have c_132 : E (1 + (nd - 1)) 6 = .inl (kA 0, 5, .inl f1_119) := q6_119
          have m_133 : (1 + (nd - 1), 6) ∈ RL := hm_119 6 (by decide)
          have c_134 : E (1 + (nd - 1)) 7 = .inl (kA 0, 3, .inl f2_119) := q7_119
          have m_135 : (1 + (nd - 1), 7) ∈ RL := hm_119 7 (by decide)
          have c_136 : E (1 + (nd - 1)) 8 = .inl (kA 0, 3, .inl f3_119) := q8_119
          have m_137 : (1 + (nd - 1), 8) ∈ RL := hm_119 8 (by decide)
          have c_138 : E (1 + (nd - 1)) 9 = .inl (kA 8, 6, .inr (.inr (.inr (.inr fe_119)))) := q9_119
          have m_139 : (1 + (nd - 1), 9) ∈ RL := hm_119 9 (by decide)
          have c_140 : E (1 + (nd - 1)) 10 = .inl (kA 8, 6, .inr (.inr (.inr (.inr fo_119)))) := q10_119
          have m_141 : (1 + (nd - 1), 10) ∈ RL := hm_119 10 (by decide)
          have c_142 : E (1 + (nd - 1)) 11 = .inl (kA 2, 5, .inl tr_119) := q11_119
          have m_143 : (1 + (nd - 1), 11) ∈ RL := hm_119 11 (by decide)
          have c_144 : E (1 + (nd - 1)) 12 = .inl (kA 2, 5, .inl op_119) := q12_119
          have m_145 : (1 + (nd - 1), 12) ∈ RL := hm_119 12 (by decide)
          have hg_119 : ∀ w9, w9 < k0_119 → fe_119 w9 = some (ad (1 + (nd - 1)) (20 + 3 * w9)) ∧ fo_119 w9 = some (ad (1 + (nd - 1)) (38 + 3 * w9)) ∧ GI kA (ad (1 + (nd - 1))) (E (1 + (nd - 1))) (fun o => (1 + (nd - 1), o) ∈ RL) (20 + 3 * w9) (21 + 3 * w9) (22 + 3 * w9) ∧ GI kA (ad (1 + (nd - 1))) (E (1 + (nd - 1))) (fun o => (1 + (nd - 1), o) ∈ RL) (38 + 3 * w9) (39 + 3 * w9) (40 + 3 * w9) := hg_119
          obtain ⟨hTT_119, tgr_119⟩ := TD_get hk0_119 hk1_119 hk2_119 hk3_119 c_120 c_122 c_124 c_126 c_128 c_130 c_132 c_134 c_136 c_142 c_144 (hTD (nd - 1) (by omega))
          obtain ⟨tfd_119, tnm_119, tsd_119, tk0_119, tf0_119, tk1_119, tf1_119, tk2_119, tk3_119⟩ := id hTT_119
          have ik0_119 : iN (g 5 (nd - 1)) = k0_119 := by rw [← tk0_119, iN_nI (by omega)]
          have ik1_119 : iN (g 12 (nd - 1)) = k1_119 := by rw [← tk1_119, iN_nI (by omega)]
          refine px_get (D := D) (ci := 7) (v := .ref (ad (1 + (nd - 1)) 4)) (C := xR_Ds) (T := xT_Ds) (N := 12) hx hb hT xi_Ds hown hK.1 hP m_121 c_120 rfl 10 (by decide) (hT _ k5g_30) (fun _ h9 => h9) rfl xd_Sh_acceptService_50 ?_
          refine lv_astore hx hb xd_Sh_acceptService_53 hl (Nat.le_of_ble_eq_true rfl) rfl (fun ls hl => ?_)
          have hl : lv_has ls 5 [(4, .ref (ad (1 + (nd - 1)) 4)), (3, .ref (ad (1 + (nd - 1)) 0)), (2, .int (wN (g 0) wl 1)), (0, .ref (ad 0 5)), (1, .ref (ad 0 1))] := hl
          refine lv_aload hx hb xd_Sh_acceptService_55 (lv_at hl 0 rfl) ?_
          refine lv_iload_n hx hb xd_Sh_acceptService_57 rfl (lv_at hl 2 rfl) ?_
          have hFc := px_free hD hS hA
          refine va_calli (va_runV (As := [.int (wN (g 0) wl 1)]) (rest := []) ⟨hx, hb, hml, hown, hT⟩ (xc_Na_holds l D kA H.size ad E RL (1 + (nd - 1)) 4 8 3 k3_119 f3_119 (wN (g 0) wl 1) m_129 c_128 m_137 c_136 (by first | assumption | omega) (by first | assumption | omega)) (cwV 1 hT (wT_V k5g_17 k5g_18 k5g_19 k5g_20 k5g_16) rfl rfl rfl (by decide +kernel) ⟨Nat.le_of_ble_eq_true rfl, Nat.le_of_ble_eq_true rfl⟩) (px_preV hK hP hD m_129 c_128 rfl) rfl rfl hl.1 rfl (lv_room (Nat.le_of_ble_eq_true rfl)) xd_Sh_acceptService_58 ⟨(Nat.le_of_ble_eq_true rfl), (Nat.le_of_ble_eq_true rfl)⟩) hS (fun q _ h => hFc q h) hFc (fun r146 u147 t H1 locs ht hvm hp148 hB hz1 hk1 hS => ?_)
          obtain ⟨hP1, hD1⟩ := hB
          rw [ht] at hP1
          have hD1 := hD1.weaken (fun _ _ _ h => hFc _ h)
          generalize H1 = H at hP1 hS ⊢
          have hP := hP1
          have hD := hD1
          have hP : va_P D xcl (rp ad E RL) H := hP
          have hD : va_D A (rp ad E RL) := hD
          rcases hp148 with ⟨rfl, z149, z150, z151⟩ | ⟨rfl, z152⟩
          · refine W.eq (g2 := F0 m 61 ls [.int 1]) rfl ?_
            refine lv_if_eq (tgt := 66) hx hb xd_Sh_acceptService_61 (by decide) (fun hc153 => absurd hc153 (by decide)) (fun _ => ?_)
            refine lv_iconst (v := (-1)) hx hb xd_Sh_acceptService_64 (by decide) ?_
            refine W.widen (k := 0) (n := 0) (Nat.le_of_ble_eq_true rfl) (Nat.le_of_ble_eq_true rfl) ?_
            exact W.iret (v := (-1)) hx hb hr (fun t ht hW => ⟨⟨(-1), (ad, E, RL), rfl, ⟨hCI, by rw [cif_neg hw5, ← lS_no1 (fun q => q.2.2.2.1 z149 (by omega) (((tk3_119 z149 (by omega)).1 z150).1.symm.trans z151))]; exact hTD, rfl, FRL_rf⟩, by rw [ht]; exact hP, hD⟩, hS.F ht⟩) hS.2.2 xd_Sh_acceptService_65
          · refine W.eq (g2 := F0 m 61 ls [.int 0]) rfl ?_
            refine lv_if_eq (tgt := 66) hx hb xd_Sh_acceptService_61 (by decide) (fun _ => ?_) (fun hc154 => absurd (by decide) hc154)
            refine lv_aload_n hx hb xd_Sh_acceptService_66 rfl (lv_at hl 1 rfl) ?_
            refine px_get (D := D) (ci := 7) (v := .int sd_119) (C := xR_Ds) (T := xT_Ds) (N := 12) hx hb hT xi_Ds hown hK.1 hP m_121 c_120 rfl 11 (by decide) (hT _ k5g_21) (fun _ h9 => h9) rfl xd_Sh_acceptService_67 ?_
            refine lv_if_ne (tgt := 81) hx hb xd_Sh_acceptService_70 (by decide) (fun hc155 => ?_) (fun hc155 => ?_)
            · refine lv_bipush (v := (-2)) hx hb xd_Sh_acceptService_81 (by decide) ?_
              refine W.widen (k := 0) (n := 0) (Nat.le_of_ble_eq_true rfl) (Nat.le_of_ble_eq_true rfl) ?_
              exact W.iret (v := (-2)) hx hb hr (fun t ht hW => ⟨⟨(-2), (ad, E, RL), rfl, ⟨hCI, by rw [cif_neg hw5, ← lS_no1 (fun q => hc155 (by rw [tsd_119]; exact q.2.2.2.2))]; exact hTD, rfl, FRL_rf⟩, by rw [ht]; exact hP, hD⟩, hS.F ht⟩) hS.2.2 xd_Sh_acceptService_83
            · refine lv_aload hx hb xd_Sh_acceptService_73 (lv_at hl 0 rfl) ?_
              have hFc := px_free hD hS hA
              refine va_calli (va_runV (As := []) (rest := []) ⟨hx, hb, hml, hown, hT⟩ (xc_Na_isFull l D kA H.size ad E RL (1 + (nd - 1)) 4 8 3 k3_119 f3_119 m_129 c_128 m_137 c_136 (by first | assumption | omega) (by first | assumption | omega)) (cwV 0 hT (wT_V k5g_23 k5g_24 k5g_25 k5g_20 k5g_22) rfl rfl rfl (by decide +kernel) ⟨Nat.le_of_ble_eq_true rfl, Nat.le_of_ble_eq_true rfl⟩) (px_preV hK hP hD m_129 c_128 rfl) rfl rfl hl.1 rfl (lv_room (Nat.le_of_ble_eq_true rfl)) xd_Sh_acceptService_75 ⟨(Nat.le_of_ble_eq_true rfl), (Nat.le_of_ble_eq_true rfl)⟩) hS (fun q _ h => hFc q h) hFc (fun r156 u157 t H1 locs ht hvm hp158 hB hz1 hk1 hS => ?_)
              obtain ⟨hP1, hD1⟩ := hB
              rw [ht] at hP1
              have hD1 := hD1.weaken (fun _ _ _ h => hFc _ h)
              generalize H1 = H at hP1 hS ⊢
              have hP := hP1
              have hD := hD1
              have hP : va_P D xcl (rp ad E RL) H := hP
              have hD : va_D A (rp ad E RL) := hD
              rcases hp158 with ⟨rfl, z159⟩ | ⟨rfl, z160⟩
              · refine W.eq (g2 := F0 m 78 ls [.int 1]) rfl ?_
                refine lv_if_eq (tgt := 84) hx hb xd_Sh_acceptService_78 (by decide) (fun hc161 => absurd hc161 (by decide)) (fun _ => ?_)
                refine lv_bipush (v := (-2)) hx hb xd_Sh_acceptService_81 (by decide) ?_
                refine W.widen (k := 0) (n := 0) (Nat.le_of_ble_eq_true rfl) (Nat.le_of_ble_eq_true rfl) ?_
                exact W.iret (v := (-2)) hx hb hr (fun t ht hW => ⟨⟨(-2), (ad, E, RL), rfl, ⟨hCI, by rw [cif_neg hw5, ← lS_no2 (NT_sn z159 tk3_119)]; exact hTD, rfl, FRL_rf⟩, by rw [ht]; exact hP, hD⟩, hS.F ht⟩) hS.2.2 xd_Sh_acceptService_83
              · refine W.eq (g2 := F0 m 78 ls [.int 0]) rfl ?_
                refine lv_if_eq (tgt := 84) hx hb xd_Sh_acceptService_78 (by decide) (fun _ => ?_) (fun hc162 => absurd (by decide) hc162)
                refine lv_aload hx hb xd_Sh_acceptService_84 (lv_at hl 0 rfl) ?_
                refine lv_iload_n hx hb xd_Sh_acceptService_86 rfl (lv_at hl 2 rfl) ?_
                have hFc := px_free hD hS hA
                refine va_callv (va_runV (As := [.int (wN (g 0) wl 1)]) (rest := []) ⟨hx, hb, hml, hown, hT⟩ (xc_Na_append l D kA H.size ad E RL (1 + (nd - 1)) 4 8 3 k3_119 f3_119 (wN (g 0) wl 1) m_129 c_128 m_137 c_136 (by first | assumption | omega) (by first | assumption | omega) (by first | assumption | omega)) (cwV 1 hT (wT_V k5g_27 k5g_28 k5g_29 k5g_20 k5g_26) rfl rfl rfl (by decide +kernel) ⟨Nat.le_of_ble_eq_true rfl, Nat.le_of_ble_eq_true rfl⟩) (px_preV hK hP hD m_129 c_128 rfl) rfl rfl hl.1 rfl (lv_room (Nat.le_of_ble_eq_true rfl)) xd_Sh_acceptService_87 ⟨(Nat.le_of_ble_eq_true rfl), (Nat.le_of_ble_eq_true rfl)⟩) hS (fun q _ h => hFc q h) hFc (fun u164 t H1 locs ht hvm hp165 hB hz1 hk1 hS => ?_)
                obtain ⟨hP1, hD1⟩ := hB
                rw [ht] at hP1
                have hD1 := hD1.weaken (fun _ _ _ h => hFc _ h)
                generalize H1 = H at hP1 hS ⊢
                have hP := hP1
                have hD := hD1
                obtain ⟨E166, rfl⟩ : ∃ z, z = u164 := ⟨_, rfl⟩
                obtain ⟨w167, w168, hp172, p_169, p_170, p_171⟩ := hp165
                have p_169 : E166 (1 + (nd - 1)) 4 = .inr (8, [.ref (ad (1 + (nd - 1)) 8), .int (nI w167)]) := p_169
                have p_170 : E166 (1 + (nd - 1)) 8 = .inl (kA 0, 3, .inl w168) := p_170
                have p_171 : (∀ b2 o2, ¬ (b2 = (1 + (nd - 1)) ∧ o2 = 4) → ¬ (b2 = (1 + (nd - 1)) ∧ o2 = 8) → E166 b2 o2 = E b2 o2) := p_171
                have c_173 : E166 0 0 = .inr (0, [.ref (ad 0 1), .ref (ad 0 5), .ref (ad 0 7), .ref (ad 0 9), .int (nI ml), .int lf_1]) := (p_171 0 0 (fun q9 => absurd q9.2 (by decide)) (fun q9 => absurd q9.2 (by decide))).trans c_2
                have c_174 : E166 0 1 = .inr (1, [.ref (ad 0 2), .ref (ad 0 3), .ref (ad 0 4), .int (nI len), .int (nI (wl.length))]) := (p_171 0 1 (fun q9 => absurd q9.2 (by decide)) (fun q9 => absurd q9.2 (by decide))).trans c_5
                have c_175 : E166 0 2 = .inl (kA 1, 40, .inl tx_4) := (p_171 0 2 (fun q9 => absurd q9.2 (by decide)) (fun q9 => absurd q9.2 (by decide))).trans c_7
                have c_176 : E166 0 3 = .inl (kA 0, 20, .inl fb_4) := (p_171 0 3 (fun q9 => absurd q9.2 (by decide)) (fun q9 => absurd q9.2 (by decide))).trans c_9
                have nb_177 : ¬ (0 = 1 + (nd - 1)) := by omega
                have c_178 : E166 0 4 = .inl (kA 0, 20, .inl fe_4) := (p_171 0 4 (fun q9 => nb_177 q9.1) (fun q9 => absurd q9.2 (by decide))).trans c_11
                have c_179 : E166 0 5 = .inr (2, [.ref (ad 0 6), .int (nI nd)]) := (p_171 0 5 (fun q9 => absurd q9.2 (by decide)) (fun q9 => absurd q9.2 (by decide))).trans c_14
                have c_180 : E166 0 6 = .inl (kA 4, 12, .inr (.inr (.inr (.inr fd_13)))) := (p_171 0 6 (fun q9 => absurd q9.2 (by decide)) (fun q9 => absurd q9.2 (by decide))).trans c_16
                have c_181 : E166 0 7 = .inr (3, [.ref (ad 0 5), .ref (ad 0 8), .int (nI cs), .int cf_18, pv_18]) := (p_171 0 7 (fun q9 => absurd q9.2 (by decide)) (fun q9 => absurd q9.2 (by decide))).trans c_19
                have c_182 : E166 0 8 = .inl (kA 4, 12, .inr (.inr (.inr (.inr fc_18)))) := (p_171 0 8 (fun q9 => absurd q9.2 (by decide)) (fun q9 => nb_177 q9.1)).trans c_21
                have c_183 : E166 0 9 = .inl (kA 5, 5, .inr (.inr (.inr (.inr fl_23)))) := (p_171 0 9 (fun q9 => absurd q9.2 (by decide)) (fun q9 => absurd q9.2 (by decide))).trans c_24
                have c_184 : E166 (1 + (nd - 1)) 0 = .inr (7, [.int (nI ((nd - 1))), .int fd_119, .int nm_119, .ref (ad (1 + (nd - 1)) 1), .ref (ad (1 + (nd - 1)) 9), .ref (ad (1 + (nd - 1)) 10), .ref (ad (1 + (nd - 1)) 2), .ref (ad (1 + (nd - 1)) 11), .ref (ad (1 + (nd - 1)) 12), .ref (ad (1 + (nd - 1)) 3), .ref (ad (1 + (nd - 1)) 4), .int sd_119]) := (p_171 (1 + (nd - 1)) 0 (fun q9 => absurd q9.2 (by decide)) (fun q9 => absurd q9.2 (by decide))).trans c_120
                have c_185 : E166 (1 + (nd - 1)) 1 = .inr (8, [.ref (ad (1 + (nd - 1)) 5), .int (nI k0_119)]) := (p_171 (1 + (nd - 1)) 1 (fun q9 => absurd q9.2 (by decide)) (fun q9 => absurd q9.2 (by decide))).trans c_122
                have c_186 : E166 (1 + (nd - 1)) 2 = .inr (8, [.ref (ad (1 + (nd - 1)) 6), .int (nI k1_119)]) := (p_171 (1 + (nd - 1)) 2 (fun q9 => absurd q9.2 (by decide)) (fun q9 => absurd q9.2 (by decide))).trans c_124
                have c_187 : E166 (1 + (nd - 1)) 3 = .inr (8, [.ref (ad (1 + (nd - 1)) 7), .int (nI k2_119)]) := (p_171 (1 + (nd - 1)) 3 (fun q9 => absurd q9.2 (by decide)) (fun q9 => absurd q9.2 (by decide))).trans c_126
                have c_188 : E166 (1 + (nd - 1)) 5 = .inl (kA 0, 6, .inl f0_119) := (p_171 (1 + (nd - 1)) 5 (fun q9 => absurd q9.2 (by decide)) (fun q9 => absurd q9.2 (by decide))).trans c_130
                have c_189 : E166 (1 + (nd - 1)) 6 = .inl (kA 0, 5, .inl f1_119) := (p_171 (1 + (nd - 1)) 6 (fun q9 => absurd q9.2 (by decide)) (fun q9 => absurd q9.2 (by decide))).trans c_132
                have c_190 : E166 (1 + (nd - 1)) 7 = .inl (kA 0, 3, .inl f2_119) := (p_171 (1 + (nd - 1)) 7 (fun q9 => absurd q9.2 (by decide)) (fun q9 => absurd q9.2 (by decide))).trans c_134
                have c_191 : E166 (1 + (nd - 1)) 9 = .inl (kA 8, 6, .inr (.inr (.inr (.inr fe_119)))) := (p_171 (1 + (nd - 1)) 9 (fun q9 => absurd q9.2 (by decide)) (fun q9 => absurd q9.2 (by decide))).trans c_138
                have c_192 : E166 (1 + (nd - 1)) 10 = .inl (kA 8, 6, .inr (.inr (.inr (.inr fo_119)))) := (p_171 (1 + (nd - 1)) 10 (fun q9 => absurd q9.2 (by decide)) (fun q9 => absurd q9.2 (by decide))).trans c_140
                have c_193 : E166 (1 + (nd - 1)) 11 = .inl (kA 2, 5, .inl tr_119) := (p_171 (1 + (nd - 1)) 11 (fun q9 => absurd q9.2 (by decide)) (fun q9 => absurd q9.2 (by decide))).trans c_142
                have c_194 : E166 (1 + (nd - 1)) 12 = .inl (kA 2, 5, .inl op_119) := (p_171 (1 + (nd - 1)) 12 (fun q9 => absurd q9.2 (by decide)) (fun q9 => absurd q9.2 (by decide))).trans c_144
                have hP : va_P D xcl (rp ad E166 RL) H := hP
                have hD : va_D A (rp ad E166 RL) := hD
                have hap : w167 = k3_119 + 1 ∧ w168 = upd f3_119 k3_119 (wN (g 0) wl 1) := by
                  rcases hp172.2 with ⟨_, q1, q2⟩ | ⟨q, _⟩
                  · exact ⟨q1, q2⟩
                  · omega
                obtain ⟨hap1, hap2⟩ := hap
                have hTD9 := (show TD (va_up g 15 (upd (g 15) (3 * (nd - 1) + k3_119) (wN (g 0) wl 1))) (E166 (1 + (nd - 1))) (nd - 1) from TD_mk (by omega) (by omega) (by omega) (by omega) c_184 c_185 c_186 c_187 p_169 c_188 c_189 c_190 p_170 c_193 c_194 (by rw [hap1, hap2]; exact TT_S3 (by omega) (wN_pos.mp hc30) hTT_119) (fun i9 hi9 => by
          have q := tgr_119 i9 hi9
          rw [← (show E166 (1 + (nd - 1)) (20 + 3 * i9) = E (1 + (nd - 1)) (20 + 3 * i9) from by show E166 (1 + (nd - 1)) (20 + 3 * i9) = _; rw [p_171 (1 + (nd - 1)) (20 + 3 * i9) (by omega) (by omega)]), ← (show E166 (1 + (nd - 1)) (21 + 3 * i9) = E (1 + (nd - 1)) (21 + 3 * i9) from by show E166 (1 + (nd - 1)) (21 + 3 * i9) = _; rw [p_171 (1 + (nd - 1)) (21 + 3 * i9) (by omega) (by omega)]), ← (show E166 (1 + (nd - 1)) (22 + 3 * i9) = E (1 + (nd - 1)) (22 + 3 * i9) from by show E166 (1 + (nd - 1)) (22 + 3 * i9) = _; rw [p_171 (1 + (nd - 1)) (22 + 3 * i9) (by omega) (by omega)]), ← (show E166 (1 + (nd - 1)) (38 + 3 * i9) = E (1 + (nd - 1)) (38 + 3 * i9) from by show E166 (1 + (nd - 1)) (38 + 3 * i9) = _; rw [p_171 (1 + (nd - 1)) (38 + 3 * i9) (by omega) (by omega)]), ← (show E166 (1 + (nd - 1)) (39 + 3 * i9) = E (1 + (nd - 1)) (39 + 3 * i9) from by show E166 (1 + (nd - 1)) (39 + 3 * i9) = _; rw [p_171 (1 + (nd - 1)) (39 + 3 * i9) (by omega) (by omega)]), ← (show E166 (1 + (nd - 1)) (40 + 3 * i9) = E (1 + (nd - 1)) (40 + 3 * i9) from by show E166 (1 + (nd - 1)) (40 + 3 * i9) = _; rw [p_171 (1 + (nd - 1)) (40 + 3 * i9) (by omega) (by omega)])] at q
          exact q))
                have hTD2 : TDs (va_up g 15 (upd (g 15) (3 * (nd - 1) + k3_119) (wN (g 0) wl 1))) E166 nd := TDs_upd (x := nd - 1) hDIs (fun d9 hd9 hx9 => fun2 fun o9 => by show E166 (1 + d9) o9 = _; rw [p_171 (1 + d9) o9 (by omega) (by omega)]) (fun d9 hd9 hx9 => AG_S (by omega) (by omega) hx9) hTD9 hTD
                have hFRL : FRL ml nd ad ad E E166 := ⟨fun n9 hn9 => ⟨fun2 fun o9 => by show E166 (20 + n9) o9 = _; rw [p_171 (20 + n9) o9 (by omega) (by omega)], fun2 fun o9 => rfl⟩, fun d9 hd9 => rfl, by show E166 0 0 = _; rw [p_171 0 0 (by omega) (by omega)]⟩
                have hCI : CI kA ad E166 RL ml nd len wl.length cs := ⟨hmB, ⟨lf_1, c_173⟩, ⟨tx_4, fb_4, fe_4, (by omega), (by omega), c_174, c_175, c_176, c_178, hws_4⟩, ⟨fd_13, (by omega), c_179, c_180, hds_13⟩, ⟨cf_18, pv_18, fc_18, (by omega), hpv_18, c_181, c_182, hfc_18⟩, ⟨fl_23, (by omega), c_183, hla_23⟩, (DIs_set (x := nd - 1) (fun d9 hd9 hx9 => fun2 fun o9 => by show E166 (1 + d9) o9 = _; rw [p_171 (1 + d9) o9 (by omega) (by omega)]) (fun _ _ _ => rfl) (fun _ h => h) ⟨hm_119, fd_119, nm_119, sd_119, k0_119, k1_119, k2_119, w167, f0_119, f1_119, f2_119, w168, fe_119, fo_119, tr_119, op_119, (by omega), (by omega), (by omega), (by omega), c_184, c_185, c_186, c_187, p_169, c_188, c_189, c_190, p_170, c_191, c_192, c_193, c_194, (fun i9 hi9 => ⟨(hg_119 i9 (by omega)).1, (hg_119 i9 (by omega)).2.1, (GI_at (by show E166 (1 + (nd - 1)) (20 + 3 * i9) = _; rw [p_171 (1 + (nd - 1)) (20 + 3 * i9) (by omega) (by omega)]) (by show E166 (1 + (nd - 1)) (21 + 3 * i9) = _; rw [p_171 (1 + (nd - 1)) (21 + 3 * i9) (by omega) (by omega)]) (by show E166 (1 + (nd - 1)) (22 + 3 * i9) = _; rw [p_171 (1 + (nd - 1)) (22 + 3 * i9) (by omega) (by omega)]) (rfl) (rfl) (fun _ h9 => h9) (hg_119 i9 (by omega)).2.2.1), (GI_at (by show E166 (1 + (nd - 1)) (38 + 3 * i9) = _; rw [p_171 (1 + (nd - 1)) (38 + 3 * i9) (by omega) (by omega)]) (by show E166 (1 + (nd - 1)) (39 + 3 * i9) = _; rw [p_171 (1 + (nd - 1)) (39 + 3 * i9) (by omega) (by omega)]) (by show E166 (1 + (nd - 1)) (40 + 3 * i9) = _; rw [p_171 (1 + (nd - 1)) (40 + 3 * i9) (by omega) (by omega)]) (rfl) (rfl) (fun _ h9 => h9) (hg_119 i9 (by omega)).2.2.2)⟩)⟩ hDIs), (LIs_same (Nat.le_refl _) (fun n9 hn9 => fun2 fun o9 => by show E166 (20 + n9) o9 = _; rw [p_171 (20 + n9) o9 (by omega) (by omega)]) (fun _ _ => rfl) (fun _ _ => rfl) (fun _ h9 => h9) hLIs)⟩
                obtain ⟨hmB, hDk, hLi, hSh, hCh, hLa, hDIs, hLIs⟩ := id hCI
                refine lv_iconst (v := 2) hx hb xd_Sh_acceptService_90 (by decide) ?_
                refine W.widen (k := 0) (n := 0) (Nat.le_of_ble_eq_true rfl) (Nat.le_of_ble_eq_true rfl) ?_
                exact W.iret (v := 2) hx hb hr (fun t ht hW => ⟨⟨2, (ad, E166, RL), rfl, (by
        rw [cif_neg hw5, lS_y (NT_sv z160 tk3_119) ⟨by omega, hc30, by omega, fun k9 hk9 q => by
          rcases Nat.lt_or_ge k9 k3_119 with z | z
          · exact z152 k9 z (((tk3_119 k9 hk9).1 z).1.trans q)
          · exact hc30 (q.symm.trans ((tk3_119 k9 hk9).2 z)), by rw [← tsd_119]; exact hc155⟩]
        exact ⟨hCI, hTD2, rfl, hFRL⟩), by rw [ht]; exact hP, hD⟩, hS.F ht⟩) hS.2.2 xd_Sh_acceptService_91
    · refine lv_iconst (v := (-1)) hx hb xd_Sh_acceptService_18 (by decide) ?_
      refine W.widen (k := 0) (n := 0) (Nat.le_of_ble_eq_true rfl) (Nat.le_of_ble_eq_true rfl) ?_
      exact W.iret (v := (-1)) hx hb hr (fun t ht hW => ⟨⟨(-1), (ad, E, RL), rfl, ⟨hCI, by rw [cif_eq (lS_no1 (a := 14) (fun q => q.2.1 hc30)).symm (lS_no1 (a := 15) (fun q => q.2.1 hc30)).symm]; exact hTD, rfl, FRL_rf⟩, by rw [ht]; exact hP, hD⟩, hS.F ht⟩) hS.2.2 xd_Sh_acceptService_19
theorem k5h_0 : (Cond.fieldLink "LayerDesk$Shelf" 27 "LayerDesk$Line" "words" "I") ∈ wT := wT_t (List.mem_append_left _ (List.mem_of_getElem? (i := 41) rfl)) rfl
theorem k5h_1 : (Cond.code xy_Li_nameAt xb_Li_nameAt 4 (some .int)) ∈ wT := wT_t (List.mem_append_right _ (List.mem_append_left _ (List.mem_of_getElem? (i := 17) rfl))) rfl
theorem k5h_2 : (Cond.methodLink "LayerDesk$Shelf" 70 xy_Li_nameAt) ∈ wT := wT_t (List.mem_append_right _ (List.mem_append_left _ (List.mem_of_getElem? (i := 14) rfl))) rfl
theorem k5h_3 : (Cond.instanceMethod xy_Li_nameAt) ∈ wT := wT_t (List.mem_append_right _ (List.mem_append_left _ (List.mem_of_getElem? (i := 15) rfl))) rfl
theorem k5h_4 : (Cond.selects "LayerDesk$Line" xy_Li_nameAt xy_Li_nameAt) ∈ wT := wT_t (List.mem_append_right _ (List.mem_append_left _ (List.mem_of_getElem? (i := 16) rfl))) rfl
theorem k5h_5 : (Cond.initialized "LayerDesk$Line") ∈ wT := wT_t (List.mem_append_left _ (List.mem_of_getElem? (i := 2) rfl)) rfl
theorem k5h_6 : (Cond.code xy_Sh_latest xb_Sh_latest 1 (some (.object "LayerDesk$Descriptor"))) ∈ wT := wT_t (List.mem_append_right _ (List.mem_append_left _ (List.mem_of_getElem? (i := 119) rfl))) rfl
theorem k5h_7 : (Cond.methodLink "LayerDesk$Shelf" 81 xy_Sh_latest) ∈ wT := wT_t (List.mem_append_right _ (List.mem_append_left _ (List.mem_of_getElem? (i := 116) rfl))) rfl
theorem k5h_8 : (Cond.instanceMethod xy_Sh_latest) ∈ wT := wT_t (List.mem_append_right _ (List.mem_append_left _ (List.mem_of_getElem? (i := 118) rfl))) rfl
theorem k5h_9 : (Cond.selects "LayerDesk$Shelf" xy_Sh_latest xy_Sh_latest) ∈ wT := wT_s (q := (xy_Sh_latest, 2)) (by decide +kernel) rfl
theorem k5h_10 : (Cond.initialized "LayerDesk$Shelf") ∈ wT := wT_t (List.mem_append_left _ (List.mem_of_getElem? (i := 3) rfl)) rfl
theorem k5h_11 : (Cond.fieldLink "LayerDesk$Shelf" 24 "LayerDesk$Descriptor" "name" "I") ∈ wT := wT_t (List.mem_append_right _ (List.mem_append_left _ (List.mem_of_getElem? (i := 56) rfl))) rfl
theorem k5h_12 : (Cond.fieldLink "LayerDesk$Shelf" 128 "LayerDesk$Descriptor" "required" "LLayerDesk$Names;") ∈ wT := wT_t (List.mem_append_right _ (List.mem_append_left _ (List.mem_of_getElem? (i := 69) rfl))) rfl
theorem k5h_13 : (Cond.code xy_Na_holds xb_Na_holds 2 (some .boolean)) ∈ wT := wT_t (List.mem_append_right _ (List.mem_append_left _ (List.mem_of_getElem? (i := 123) rfl))) rfl
theorem k5h_14 : (Cond.methodLink "LayerDesk$Shelf" 89 xy_Na_holds) ∈ wT := wT_t (List.mem_append_right _ (List.mem_append_left _ (List.mem_of_getElem? (i := 120) rfl))) rfl
theorem k5h_15 : (Cond.instanceMethod xy_Na_holds) ∈ wT := wT_t (List.mem_append_right _ (List.mem_append_left _ (List.mem_of_getElem? (i := 121) rfl))) rfl
theorem k5h_16 : (Cond.selects "LayerDesk$Names" xy_Na_holds xy_Na_holds) ∈ wT := wT_t (List.mem_append_right _ (List.mem_append_left _ (List.mem_of_getElem? (i := 122) rfl))) rfl
theorem k5h_17 : (Cond.initialized "LayerDesk$Names") ∈ wT := wT_t (List.mem_append_left _ (List.mem_of_getElem? (i := 11) rfl)) rfl
theorem k5h_18 : (Cond.fieldLink "LayerDesk$Shelf" 95 "LayerDesk$Descriptor" "settled" "Z") ∈ wT := wT_t (List.mem_append_right _ (List.mem_append_left _ (List.mem_of_getElem? (i := 83) rfl))) rfl
theorem k5h_19 : (Cond.code xy_Na_isFull xb_Na_isFull 1 (some .boolean)) ∈ wT := wT_t (List.mem_append_right _ (List.mem_append_left _ (List.mem_of_getElem? (i := 131) rfl))) rfl
theorem k5h_20 : (Cond.methodLink "LayerDesk$Shelf" 99 xy_Na_isFull) ∈ wT := wT_t (List.mem_append_right _ (List.mem_append_left _ (List.mem_of_getElem? (i := 128) rfl))) rfl
theorem k5h_21 : (Cond.instanceMethod xy_Na_isFull) ∈ wT := wT_t (List.mem_append_right _ (List.mem_append_left _ (List.mem_of_getElem? (i := 129) rfl))) rfl
theorem k5h_22 : (Cond.selects "LayerDesk$Names" xy_Na_isFull xy_Na_isFull) ∈ wT := wT_t (List.mem_append_right _ (List.mem_append_left _ (List.mem_of_getElem? (i := 130) rfl))) rfl
theorem k5h_23 : (Cond.code xy_Ds_addRequired xb_Ds_addRequired 4 none) ∈ wT := wT_t (List.mem_append_right _ (List.mem_append_left _ (List.mem_of_getElem? (i := 197) rfl))) rfl
theorem k5h_24 : (Cond.methodLink "LayerDesk$Shelf" 131 xy_Ds_addRequired) ∈ wT := wT_t (List.mem_append_right _ (List.mem_append_left _ (List.mem_of_getElem? (i := 194) rfl))) rfl
theorem k5h_25 : (Cond.instanceMethod xy_Ds_addRequired) ∈ wT := wT_t (List.mem_append_right _ (List.mem_append_left _ (List.mem_of_getElem? (i := 195) rfl))) rfl
theorem k5h_26 : (Cond.selects "LayerDesk$Descriptor" xy_Ds_addRequired xy_Ds_addRequired) ∈ wT := wT_t (List.mem_append_right _ (List.mem_append_left _ (List.mem_of_getElem? (i := 196) rfl))) rfl
theorem k5h_27 : (Cond.initialized "LayerDesk$Descriptor") ∈ wT := wT_t (List.mem_append_left _ (List.mem_of_getElem? (i := 10) rfl)) rfl
theorem k5h_28 : (Cond.code xy_Li_wordIs xb_Li_wordIs 4 (some .boolean)) ∈ wT := wT_t (List.mem_append_left _ (List.mem_of_getElem? (i := 199) rfl)) rfl
theorem k5h_29 : (Cond.methodLink "LayerDesk$Shelf" 34 xy_Li_wordIs) ∈ wT := wT_t (List.mem_append_left _ (List.mem_of_getElem? (i := 196) rfl)) rfl
theorem k5h_30 : (Cond.instanceMethod xy_Li_wordIs) ∈ wT := wT_t (List.mem_append_left _ (List.mem_of_getElem? (i := 197) rfl)) rfl
theorem k5h_31 : (Cond.selects "LayerDesk$Line" xy_Li_wordIs xy_Li_wordIs) ∈ wT := wT_t (List.mem_append_left _ (List.mem_of_getElem? (i := 198) rfl)) rfl
set_option maxHeartbeats 4000000 in
set_option maxRecDepth 100000 in
theorem xc_Sh_acceptRequiredX (l : Launch) (D : va_G) (kA : Nat → ClassId) (sz : Nat) (ad : Nat → Nat → Nat) (E : Nat → Nat → va_E) (RL : List (Nat × Nat)) (Z : zT) (g : Nat → Nat → Int32) (ml : Nat) (nd : Nat) (len : Nat) (lt : Nat) (wl : List (Nat × Nat)) (cs : Nat) (hCI : CI kA ad E RL ml nd len wl.length cs) (hLW : LW g E lt wl) (hTD : TDs g E nd) (hZI : ZI g nd) (hw1 : 1 ≤ wl.length) : Met l xy_Sh_acceptRequired (.code xy_Sh_acceptRequired xb_Sh_acceptRequired 7 (some .int) :: wT) { frames := 5, cells := 0, slots := 0, locals := 108 } (va_Pc [.ref (ad 0 5), .ref (ad 0 1)] (xPreZ D kA sz (rp ad E RL) Z)) (va_Qi (fun (r : Int32) (u : (Nat → Nat → Nat) × (Nat → Nat → va_E) × List (Nat × Nat)) => CI kA u.1 u.2.1 u.2.2 ml nd len wl.length cs ∧ TDs (lR (g 0) wl nd g) u.2.1 nd ∧ u.1 0 0 = ad 0 0 ∧ FRL ml nd ad u.1 E u.2.1) (fun (u : (Nat → Nat → Nat) × (Nat → Nat → va_E) × List (Nat × Nat)) t => va_P D xcl (rp u.1 u.2.1 u.2.2) t.heap ∧ va_D (va_A (rp ad E RL) sz) (rp u.1 u.2.1 u.2.2)) (va_A (rp ad E RL) sz)) 0 0 (va_A (rp ad E RL) sz) := by
  refine Met.ofW (cc := xb_Sh_acceptRequired) (maxL := 7) (ret := (some .int)) (by decide) rfl ?_
  intro p e s m args below meth c s₁ B hml hv
  obtain ⟨rfl, ⟨hsz, hP, hK, hD0⟩, hZ⟩ := hv
  have hx := B.exec
  have hb := B.bytes
  have hr := B.returns
  have hT := x_hT B.pre
  have hown : s.vm.findClass xR_Sh = some m.cls := findClass_of_methodNamed B.named
  have hlocks := B.notSynchronized
  subst hsz
  have hD := hD0.self (sz := s.heap.size)
  generalize hAe : va_A (rp ad E RL) s.heap.size = A at hD hZ ⊢
  have hA : ∀ q : Nat, s.heap.size ≤ q → A q := fun q h => by rw [← hAe]; exact Or.inr h
  have hS : va_S A s.heap s.heap [] := va_S.rf
  have hl := lv_entry ([.ref (ad 0 5), .ref (ad 0 1)]) (n := 7) (Nat.le_of_ble_eq_true rfl)
  rw [lg_entry_eq]
  generalize (lg_sl ([.ref (ad 0 5), .ref (ad 0 1)]) ++ List.replicate (7 - (lg_sl ([.ref (ad 0 5), .ref (ad 0 1)])).length) Slot.unset).toArray = ls at hl ⊢
  have hl : lv_has ls 7 [(0, .ref (ad 0 5)), (1, .ref (ad 0 1))] := hl
  have hP : va_P D xcl (rp ad E RL) s.heap := hP
  obtain ⟨hmB, hDk, hLi, hSh, hCh, hLa, hDIs, hLIs⟩ := id hCI
  obtain ⟨hWL, hlt40, hLwd, hLtx⟩ := id hLW
  obtain ⟨lf_1, q_1⟩ := id (hDk)
  have c_2 : E 0 0 = .inr (0, [.ref (ad 0 1), .ref (ad 0 5), .ref (ad 0 7), .ref (ad 0 9), .int (nI ml), .int lf_1]) := q_1
  have m_3 : (0, 0) ∈ RL := hmB 0 (by decide)
  obtain ⟨tx_4, fb_4, fe_4, hl1_4, hw2_4, q1_4, q2_4, q3_4, q4_4, hws_4⟩ := id (hLi)
  have c_5 : E 0 1 = .inr (1, [.ref (ad 0 2), .ref (ad 0 3), .ref (ad 0 4), .int (nI len), .int (nI (wl.length))]) := q1_4
  have m_6 : (0, 1) ∈ RL := hmB 1 (by decide)
  have c_7 : E 0 2 = .inl (kA 1, 40, .inl tx_4) := q2_4
  have m_8 : (0, 2) ∈ RL := hmB 2 (by decide)
  have c_9 : E 0 3 = .inl (kA 0, 20, .inl fb_4) := q3_4
  have m_10 : (0, 3) ∈ RL := hmB 3 (by decide)
  have c_11 : E 0 4 = .inl (kA 0, 20, .inl fe_4) := q4_4
  have m_12 : (0, 4) ∈ RL := hmB 4 (by decide)
  obtain ⟨fd_13, hnd_13, q5_13, q6_13, hds_13⟩ := id (hSh)
  have c_14 : E 0 5 = .inr (2, [.ref (ad 0 6), .int (nI nd)]) := q5_13
  have m_15 : (0, 5) ∈ RL := hmB 5 (by decide)
  have c_16 : E 0 6 = .inl (kA 4, 12, .inr (.inr (.inr (.inr fd_13)))) := q6_13
  have m_17 : (0, 6) ∈ RL := hmB 6 (by decide)
  obtain ⟨cf_18, pv_18, fc_18, hcs_18, hpv_18, q7_18, q8_18, hfc_18⟩ := id (hCh)
  have c_19 : E 0 7 = .inr (3, [.ref (ad 0 5), .ref (ad 0 8), .int (nI cs), .int cf_18, pv_18]) := q7_18
  have m_20 : (0, 7) ∈ RL := hmB 7 (by decide)
  have c_21 : E 0 8 = .inl (kA 4, 12, .inr (.inr (.inr (.inr fc_18)))) := q8_18
  have m_22 : (0, 8) ∈ RL := hmB 8 (by decide)
  obtain ⟨fl_23, hml_23, q9_23, hla_23⟩ := id (hLa)
  have c_24 : E 0 9 = .inl (kA 5, 5, .inr (.inr (.inr (.inr fl_23)))) := q9_23
  have m_25 : (0, 9) ∈ RL := hmB 9 (by decide)
  obtain ⟨zw0, zw1, zw2, zw3, zw4, zw5, zw6, zw7, zw8, zw9, zw10, zw11⟩ := zW_all
  refine xjoin (D := D) (cl := xcl) (A := A) (H0 := s.heap) (σ := Int32) (ml := 7) 23 (fun (it9 : Int32) => [(1, .ref (ad 0 1)), (0, .ref (ad 0 5))]) (fun (it9 : Int32) => [.int it9]) (fun (it9 : Int32) => rp ad E RL) (fun (it9 : Int32) => ((it9 = 1 ∧ 3 ≤ wl.length ∧ wS (g 0) wl 1 zTr) ∨ (it9 = 0 ∧ ¬ (3 ≤ wl.length ∧ wS (g 0) wl 1 zTr)))) ?_ (fun jn26 => ?_)
  · intro a9 ls H locs hl hP hD hS hI
    obtain ⟨it9, rfl⟩ : ∃ z, z = a9 := ⟨_, rfl⟩
    have hit : (it9 = 1 ∧ 3 ≤ wl.length ∧ wS (g 0) wl 1 zTr) ∨ (it9 = 0 ∧ ¬ (3 ≤ wl.length ∧ wS (g 0) wl 1 zTr)) := hI
    have hl : lv_has ls 7 [(1, .ref (ad 0 1)), (0, .ref (ad 0 5))] := hl
    have hP : va_P D xcl (rp ad E RL) H := hP
    have hD : va_D A (rp ad E RL) := hD
    refine lv_istore_n hx hb xd_Sh_acceptRequired_23 rfl hl (Nat.le_of_ble_eq_true rfl) rfl (fun ls hl => ?_)
    have hl : lv_has ls 7 [(2, .int it9), (1, .ref (ad 0 1)), (0, .ref (ad 0 5))] := hl
    refine xjoin (D := D) (cl := xcl) (A := A) (H0 := s.heap) (σ := Int32) (ml := 7) 52 (fun (io9 : Int32) => [(2, .int it9), (1, .ref (ad 0 1)), (0, .ref (ad 0 5))]) (fun (io9 : Int32) => [.int io9]) (fun (io9 : Int32) => rp ad E RL) (fun (io9 : Int32) => ((io9 = 1 ∧ 3 ≤ wl.length ∧ wS (g 0) wl (wl.length - 2) zSt) ∨ (io9 = 0 ∧ ¬ (3 ≤ wl.length ∧ wS (g 0) wl (wl.length - 2) zSt)))) ?_ (fun jn27 => ?_)
    · intro a9 ls H locs hl hP hD hS hI
      obtain ⟨io9, rfl⟩ : ∃ z, z = a9 := ⟨_, rfl⟩
      have hio : (io9 = 1 ∧ 3 ≤ wl.length ∧ wS (g 0) wl (wl.length - 2) zSt) ∨ (io9 = 0 ∧ ¬ (3 ≤ wl.length ∧ wS (g 0) wl (wl.length - 2) zSt)) := hI
      have hl : lv_has ls 7 [(2, .int it9), (1, .ref (ad 0 1)), (0, .ref (ad 0 5))] := hl
      have hP : va_P D xcl (rp ad E RL) H := hP
      have hD : va_D A (rp ad E RL) := hD
      refine lv_istore_n hx hb xd_Sh_acceptRequired_52 rfl hl (Nat.le_of_ble_eq_true rfl) rfl (fun ls hl => ?_)
      have hl : lv_has ls 7 [(3, .int io9), (2, .int it9), (1, .ref (ad 0 1)), (0, .ref (ad 0 5))] := hl
      refine lv_iconst (v := 2) hx hb xd_Sh_acceptRequired_53 (by decide) ?_
      refine lv_iload_n hx hb xd_Sh_acceptRequired_54 rfl (lv_at hl 1 rfl) ?_
      refine lv_if_eq (tgt := 62) hx hb xd_Sh_acceptRequired_55 (by decide) (fun hc28 => ?_) (fun hc28 => ?_)
      · refine lv_iconst (v := 0) hx hb xd_Sh_acceptRequired_62 (by decide) ?_
        refine lv_iadd hx hb xd_Sh_acceptRequired_63 ?_
        refine xn_top (y := nI (2)) (nI_add 2 0) ?_
        refine lv_iload_n hx hb xd_Sh_acceptRequired_64 rfl (lv_at hl 0 rfl) ?_
        refine lv_if_eq (tgt := 72) hx hb xd_Sh_acceptRequired_65 (by decide) (fun hc29 => ?_) (fun hc29 => ?_)
        · refine lv_iconst (v := 0) hx hb xd_Sh_acceptRequired_72 (by decide) ?_
          refine lv_iadd hx hb xd_Sh_acceptRequired_73 ?_
          refine xn_top (y := nI (2)) (nI_add 2 0) ?_
          refine lv_istore hx hb xd_Sh_acceptRequired_74 hl (Nat.le_of_ble_eq_true rfl) rfl (fun ls hl => ?_)
          have hl : lv_has ls 7 [(4, .int (nI 2)), (3, .int io9), (2, .int it9), (1, .ref (ad 0 1)), (0, .ref (ad 0 5))] := hl
          have hfa : ((0 : Nat) = 1 ∧ 3 ≤ wl.length ∧ wS (g 0) wl 1 zTr) ∨ ((0 : Nat) = 0 ∧ ¬ (3 ≤ wl.length ∧ wS (g 0) wl 1 zTr)) := by
            rcases hit with ⟨q, q2⟩ | ⟨q, q2⟩
            · exact absurd (q.symm.trans hc28) (by decide)
            · exact Or.inr ⟨rfl, q2⟩
          have hfb : ((0 : Nat) = 1 ∧ 3 ≤ wl.length ∧ wS (g 0) wl (wl.length - 2) zSt) ∨ ((0 : Nat) = 0 ∧ ¬ (3 ≤ wl.length ∧ wS (g 0) wl (wl.length - 2) zSt)) := by
            rcases hio with ⟨q, q2⟩ | ⟨q, q2⟩
            · exact absurd (q.symm.trans hc29) (by decide)
            · exact Or.inr ⟨rfl, q2⟩
          have hrq := rq_iff hfa hfb
          refine lv_aload_n hx hb xd_Sh_acceptRequired_76 rfl (lv_at hl 3 rfl) ?_
          refine lv_aload_n hx hb xd_Sh_acceptRequired_77 rfl (lv_at hl 3 rfl) ?_
          refine px_get (D := D) (ci := 1) (v := .int (nI (wl.length))) (C := xR_Li) (T := xT_Li) (N := 5) hx hb hT xi_Li hown hK.1 hP m_6 c_5 rfl 4 (by decide) (hT _ k5h_0) (fun _ h9 => h9) rfl xd_Sh_acceptRequired_78 ?_
          refine lv_iconst (v := 1) hx hb xd_Sh_acceptRequired_81 (by decide) ?_
          refine lv_isub hx hb xd_Sh_acceptRequired_82 ?_
          refine xn_top (y := nI (wl.length - 1)) (pk_sub (a := wl.length) (b := 1) (by omega)) ?_
          have hFc := px_free hD hS hA
          refine va_calli (va_runV (As := [.int (nI (wl.length - 1))]) (rest := []) ⟨hx, hb, hml, hown, hT⟩ (xc_Li_nameAtX l D kA H.size ad E RL g ml nd len lt wl cs (wl.length - 1) (by first | assumption | omega) (by first | assumption | omega) (by first | assumption | omega)) (cwV 1 hT (wT_V k5h_2 k5h_3 k5h_4 k5h_5 k5h_1) rfl rfl rfl (by decide +kernel) ⟨Nat.le_of_ble_eq_true rfl, Nat.le_of_ble_eq_true rfl⟩) (px_preV hK hP hD m_6 c_5 rfl) rfl rfl hl.1 rfl (lv_room (Nat.le_of_ble_eq_true rfl)) xd_Sh_acceptRequired_83 ⟨(Nat.le_of_ble_eq_true rfl), (Nat.le_of_ble_eq_true rfl)⟩) hS (fun q _ h => hFc q h) hFc (fun r30 u31 t H1 locs ht hvm hp32 hB hz1 hk1 hS => ?_)
          obtain ⟨hP1, hD1⟩ := hB
          rw [ht] at hP1
          have hD1 := hD1.weaken (fun _ _ _ h => hFc _ h)
          generalize H1 = H at hP1 hS ⊢
          have hP := hP1
          have hD := hD1
          have hP : va_P D xcl (rp ad E RL) H := hP
          have hD : va_D A (rp ad E RL) := hD
          have hp32 : r30 = wN (g 0) wl (wl.length - 1) := hp32
          subst hp32
          have hP : va_P D xcl (rp ad E RL) H := hP
          have hD : va_D A (rp ad E RL) := hD
          refine lv_istore hx hb xd_Sh_acceptRequired_86 hl (Nat.le_of_ble_eq_true rfl) rfl (fun ls hl => ?_)
          have hl : lv_has ls 7 [(5, .int (wN (g 0) wl (wl.length - 1))), (4, .int (nI 2)), (3, .int io9), (2, .int it9), (1, .ref (ad 0 1)), (0, .ref (ad 0 5))] := hl
          refine lv_aload_n hx hb xd_Sh_acceptRequired_88 rfl (lv_at hl 4 rfl) ?_
          refine px_get (D := D) (ci := 1) (v := .int (nI (wl.length))) (C := xR_Li) (T := xT_Li) (N := 5) hx hb hT xi_Li hown hK.1 hP m_6 c_5 rfl 4 (by decide) (hT _ k5h_0) (fun _ h9 => h9) rfl xd_Sh_acceptRequired_89 ?_
          refine lv_iload hx hb xd_Sh_acceptRequired_92 (lv_at hl 1 rfl) ?_
          refine xn_ne (a := wl.length) (b := 2) (tgt := 102) hx hb xd_Sh_acceptRequired_94 (by decide) (by omega) (by omega) (fun hc33 => ?_) (fun hc33 => ?_)
          · refine lv_iconst (v := (-1)) hx hb xd_Sh_acceptRequired_102 (by decide) ?_
            refine W.widen (k := 0) (n := 0) (Nat.le_of_ble_eq_true rfl) (Nat.le_of_ble_eq_true rfl) ?_
            exact W.iret (v := (-1)) hx hb hr (fun t ht hW => ⟨⟨(-1), (ad, E, RL), rfl, ⟨hCI, by rw [← lR_no (fun q => absurd (hrq.1.mp q.1) (by omega))]; exact hTD, rfl, FRL_rf⟩, by rw [ht]; exact hP, hD⟩, hS.F ht⟩) hS.2.2 xd_Sh_acceptRequired_103
          · refine lv_iload hx hb xd_Sh_acceptRequired_97 (lv_at hl 0 rfl) ?_
            refine lv_if_ne (tgt := 104) hx hb xd_Sh_acceptRequired_99 (by decide) (fun hc34 => ?_) (fun hc34 => ?_)
            · obtain ⟨hrT, hrO, hrB⟩ := hrq.2 (by omega)
              have hitb : it9 = bI (rqT (g 0) wl) := by rw [hc28]; exact bI_0 (fun q => absurd (hrT.mp q) (by decide))
              have hiob : io9 = bI (rqO (g 0) wl) := by rw [hc29]; exact bI_0 (fun q => absurd (hrO.mp q) (by decide))
              have hnB : wN (g 0) wl (wl.length - 1) = wN (g 0) wl (rqB (g 0) wl) := by rw [hrB]
              refine lv_aload_n hx hb xd_Sh_acceptRequired_104 rfl (lv_at hl 5 rfl) ?_
              have hFc := px_free hD hS hA
              refine va_callq (va_runV (As := []) (rest := []) ⟨hx, hb, hml, hown, hT⟩ (xc_Sh_latestX l D kA H.size ad E RL ml nd len wl.length cs (by first | assumption | omega)) (cwV 0 hT (wT_V k5h_7 k5h_8 k5h_9 k5h_10 k5h_6) rfl rfl rfl (by decide +kernel) ⟨Nat.le_of_ble_eq_true rfl, Nat.le_of_ble_eq_true rfl⟩) (px_preV hK hP hD m_15 c_14 rfl) rfl rfl hl.1 rfl (lv_room (Nat.le_of_ble_eq_true rfl)) xd_Sh_acceptRequired_105 ⟨(Nat.le_of_ble_eq_true rfl), (Nat.le_of_ble_eq_true rfl)⟩) hS (fun q _ h => hFc q h) hFc (fun r35 u36 t H1 locs ht hvm hp37 hB hz1 hk1 hS => ?_)
              obtain ⟨hP1, hD1⟩ := hB
              rw [ht] at hP1
              have hD1 := hD1.weaken (fun _ _ _ h => hFc _ h)
              generalize H1 = H at hP1 hS ⊢
              have hP := hP1
              have hD := hD1
              have hP : va_P D xcl (rp ad E RL) H := hP
              have hD : va_D A (rp ad E RL) := hD
              rcases hp37 with ⟨rfl, z38⟩ | ⟨z39, rfl⟩
              · refine W.eq (g2 := F0 m 108 ls [.null]) rfl ?_
                refine lv_astoreN hx hb xd_Sh_acceptRequired_108 hl (Nat.le_of_ble_eq_true rfl) rfl (fun ls hl => ?_)
                have hl : lv_has ls 7 [(6, .null), (5, .int (wN (g 0) wl (wl.length - 1))), (4, .int (nI 2)), (3, .int io9), (2, .int it9), (1, .ref (ad 0 1)), (0, .ref (ad 0 5))] := hl
                refine lv_aloadN hx hb xd_Sh_acceptRequired_110 (lv_at hl 0 rfl) ?_
                refine lv_ifnonnullN hx hb xd_Sh_acceptRequired_112 ?_
                refine lv_bipush (v := (-2)) hx hb xd_Sh_acceptRequired_115 (by decide) ?_
                refine W.widen (k := 0) (n := 0) (Nat.le_of_ble_eq_true rfl) (Nat.le_of_ble_eq_true rfl) ?_
                exact W.iret (v := (-2)) hx hb hr (fun t ht hW => ⟨⟨(-2), (ad, E, RL), rfl, ⟨hCI, by rw [← lR_no (fun q => absurd q.2.2.1 (by omega))]; exact hTD, rfl, FRL_rf⟩, by rw [ht]; exact hP, hD⟩, hS.F ht⟩) hS.2.2 xd_Sh_acceptRequired_117
              · refine W.eq (g2 := F0 m 108 ls [.ref (ad (1 + (nd - 1)) 0)]) rfl ?_
                refine lv_astore hx hb xd_Sh_acceptRequired_108 hl (Nat.le_of_ble_eq_true rfl) rfl (fun ls hl => ?_)
                have hl : lv_has ls 7 [(6, .ref (ad (1 + (nd - 1)) 0)), (5, .int (wN (g 0) wl (wl.length - 1))), (4, .int (nI 2)), (3, .int io9), (2, .int it9), (1, .ref (ad 0 1)), (0, .ref (ad 0 5))] := hl
                refine lv_aload hx hb xd_Sh_acceptRequired_110 (lv_at hl 0 rfl) ?_
                refine lv_ifnonnull (tgt := 118) hx hb xd_Sh_acceptRequired_112 (by decide) ?_
                refine lv_aload hx hb xd_Sh_acceptRequired_118 (lv_at hl 0 rfl) ?_
                obtain ⟨hm_40, fd_40, nm_40, sd_40, k0_40, k1_40, k2_40, k3_40, f0_40, f1_40, f2_40, f3_40, fe_40, fo_40, tr_40, op_40, hk0_40, hk1_40, hk2_40, hk3_40, q0_40, q1_40, q2_40, q3_40, q4_40, q5_40, q6_40, q7_40, q8_40, q9_40, q10_40, q11_40, q12_40, hg_40⟩ := id (hDIs (nd - 1) (by omega))
                have c_41 : E (1 + (nd - 1)) 0 = .inr (7, [.int (nI ((nd - 1))), .int fd_40, .int nm_40, .ref (ad (1 + (nd - 1)) 1), .ref (ad (1 + (nd - 1)) 9), .ref (ad (1 + (nd - 1)) 10), .ref (ad (1 + (nd - 1)) 2), .ref (ad (1 + (nd - 1)) 11), .ref (ad (1 + (nd - 1)) 12), .ref (ad (1 + (nd - 1)) 3), .ref (ad (1 + (nd - 1)) 4), .int sd_40]) := q0_40
                have m_42 : (1 + (nd - 1), 0) ∈ RL := hm_40 0 (by decide)
                have c_43 : E (1 + (nd - 1)) 1 = .inr (8, [.ref (ad (1 + (nd - 1)) 5), .int (nI k0_40)]) := q1_40
                have m_44 : (1 + (nd - 1), 1) ∈ RL := hm_40 1 (by decide)
                have c_45 : E (1 + (nd - 1)) 2 = .inr (8, [.ref (ad (1 + (nd - 1)) 6), .int (nI k1_40)]) := q2_40
                have m_46 : (1 + (nd - 1), 2) ∈ RL := hm_40 2 (by decide)
                have c_47 : E (1 + (nd - 1)) 3 = .inr (8, [.ref (ad (1 + (nd - 1)) 7), .int (nI k2_40)]) := q3_40
                have m_48 : (1 + (nd - 1), 3) ∈ RL := hm_40 3 (by decide)
                have c_49 : E (1 + (nd - 1)) 4 = .inr (8, [.ref (ad (1 + (nd - 1)) 8), .int (nI k3_40)]) := q4_40
                have m_50 : (1 + (nd - 1), 4) ∈ RL := hm_40 4 (by decide)
                have c_51 : E (1 + (nd - 1)) 5 = .inl (kA 0, 6, .inl f0_40) := q5_40
                have m_52 : (1 + (nd - 1), 5) ∈ RL := hm_40 5 (by decide)
                have c_53 : E (1 + (nd - 1)) 6 = .inl (kA 0, 5, .inl f1_40) := q6_40
                have m_54 : (1 + (nd - 1), 6) ∈ RL := hm_40 6 (by decide)
                have c_55 : E (1 + (nd - 1)) 7 = .inl (kA 0, 3, .inl f2_40) := q7_40
                have m_56 : (1 + (nd - 1), 7) ∈ RL := hm_40 7 (by decide)
                have c_57 : E (1 + (nd - 1)) 8 = .inl (kA 0, 3, .inl f3_40) := q8_40
                have m_58 : (1 + (nd - 1), 8) ∈ RL := hm_40 8 (by decide)
                have c_59 : E (1 + (nd - 1)) 9 = .inl (kA 8, 6, .inr (.inr (.inr (.inr fe_40)))) := q9_40
                have m_60 : (1 + (nd - 1), 9) ∈ RL := hm_40 9 (by decide)
                have c_61 : E (1 + (nd - 1)) 10 = .inl (kA 8, 6, .inr (.inr (.inr (.inr fo_40)))) := q10_40
                have m_62 : (1 + (nd - 1), 10) ∈ RL := hm_40 10 (by decide)
                have c_63 : E (1 + (nd - 1)) 11 = .inl (kA 2, 5, .inl tr_40) := q11_40
                have m_64 : (1 + (nd - 1), 11) ∈ RL := hm_40 11 (by decide)
                have c_65 : E (1 + (nd - 1)) 12 = .inl (kA 2, 5, .inl op_40) := q12_40
                have m_66 : (1 + (nd - 1), 12) ∈ RL := hm_40 12 (by decide)
                have hg_40 : ∀ w9, w9 < k0_40 → fe_40 w9 = some (ad (1 + (nd - 1)) (20 + 3 * w9)) ∧ fo_40 w9 = some (ad (1 + (nd - 1)) (38 + 3 * w9)) ∧ GI kA (ad (1 + (nd - 1))) (E (1 + (nd - 1))) (fun o => (1 + (nd - 1), o) ∈ RL) (20 + 3 * w9) (21 + 3 * w9) (22 + 3 * w9) ∧ GI kA (ad (1 + (nd - 1))) (E (1 + (nd - 1))) (fun o => (1 + (nd - 1), o) ∈ RL) (38 + 3 * w9) (39 + 3 * w9) (40 + 3 * w9) := hg_40
                obtain ⟨hTT_40, tgr_40⟩ := TD_get hk0_40 hk1_40 hk2_40 hk3_40 c_41 c_43 c_45 c_47 c_49 c_51 c_53 c_55 c_57 c_63 c_65 (hTD (nd - 1) (by omega))
                obtain ⟨tfd_40, tnm_40, tsd_40, tk0_40, tf0_40, tk1_40, tf1_40, tk2_40, tk3_40⟩ := id hTT_40
                have ik0_40 : iN (g 5 (nd - 1)) = k0_40 := by rw [← tk0_40, iN_nI (by omega)]
                have ik1_40 : iN (g 12 (nd - 1)) = k1_40 := by rw [← tk1_40, iN_nI (by omega)]
                refine px_get (D := D) (ci := 7) (v := .int nm_40) (C := xR_Ds) (T := xT_Ds) (N := 12) hx hb hT xi_Ds hown hK.1 hP m_42 c_41 rfl 2 (by decide) (hT _ k5h_11) (fun _ h9 => h9) rfl xd_Sh_acceptRequired_120 ?_
                refine lv_iload hx hb xd_Sh_acceptRequired_123 (lv_at hl 1 rfl) ?_
                refine lv_icmp_eq (tgt := 141) hx hb xd_Sh_acceptRequired_125 (by decide) (fun hc67 => ?_) (fun hc67 => ?_)
                · refine lv_iconst (v := (-1)) hx hb xd_Sh_acceptRequired_141 (by decide) ?_
                  refine W.widen (k := 0) (n := 0) (Nat.le_of_ble_eq_true rfl) (Nat.le_of_ble_eq_true rfl) ?_
                  exact W.iret (v := (-1)) hx hb hr (fun t ht hW => ⟨⟨(-1), (ad, E, RL), rfl, ⟨hCI, by rw [← lR_no (fun q => q.2.2.2.1 (tnm_40.symm.trans (hc67.trans hnB)))]; exact hTD, rfl, FRL_rf⟩, by rw [ht]; exact hP, hD⟩, hS.F ht⟩) hS.2.2 xd_Sh_acceptRequired_142
                · refine lv_aload hx hb xd_Sh_acceptRequired_128 (lv_at hl 0 rfl) ?_
                  refine px_get (D := D) (ci := 7) (v := .ref (ad (1 + (nd - 1)) 2)) (C := xR_Ds) (T := xT_Ds) (N := 12) hx hb hT xi_Ds hown hK.1 hP m_42 c_41 rfl 6 (by decide) (hT _ k5h_12) (fun _ h9 => h9) rfl xd_Sh_acceptRequired_130 ?_
                  refine lv_iload hx hb xd_Sh_acceptRequired_133 (lv_at hl 1 rfl) ?_
                  have hFc := px_free hD hS hA
                  refine va_calli (va_runV (As := [.int (wN (g 0) wl (wl.length - 1))]) (rest := []) ⟨hx, hb, hml, hown, hT⟩ (xc_Na_holds l D kA H.size ad E RL (1 + (nd - 1)) 2 6 5 k1_40 f1_40 (wN (g 0) wl (wl.length - 1)) m_46 c_45 m_54 c_53 (by first | assumption | omega) (by first | assumption | omega)) (cwV 1 hT (wT_V k5h_14 k5h_15 k5h_16 k5h_17 k5h_13) rfl rfl rfl (by decide +kernel) ⟨Nat.le_of_ble_eq_true rfl, Nat.le_of_ble_eq_true rfl⟩) (px_preV hK hP hD m_46 c_45 rfl) rfl rfl hl.1 rfl (lv_room (Nat.le_of_ble_eq_true rfl)) xd_Sh_acceptRequired_135 ⟨(Nat.le_of_ble_eq_true rfl), (Nat.le_of_ble_eq_true rfl)⟩) hS (fun q _ h => hFc q h) hFc (fun r68 u69 t H1 locs ht hvm hp70 hB hz1 hk1 hS => ?_)
                  obtain ⟨hP1, hD1⟩ := hB
                  rw [ht] at hP1
                  have hD1 := hD1.weaken (fun _ _ _ h => hFc _ h)
                  generalize H1 = H at hP1 hS ⊢
                  have hP := hP1
                  have hD := hD1
                  have hP : va_P D xcl (rp ad E RL) H := hP
                  have hD : va_D A (rp ad E RL) := hD
                  rcases hp70 with ⟨rfl, z71, z72, z73⟩ | ⟨rfl, z74⟩
                  · refine W.eq (g2 := F0 m 138 ls [.int 1]) rfl ?_
                    refine lv_if_eq (tgt := 143) hx hb xd_Sh_acceptRequired_138 (by decide) (fun hc75 => absurd hc75 (by decide)) (fun _ => ?_)
                    refine lv_iconst (v := (-1)) hx hb xd_Sh_acceptRequired_141 (by decide) ?_
                    refine W.widen (k := 0) (n := 0) (Nat.le_of_ble_eq_true rfl) (Nat.le_of_ble_eq_true rfl) ?_
                    exact W.iret (v := (-1)) hx hb hr (fun t ht hW => ⟨⟨(-1), (ad, E, RL), rfl, ⟨hCI, by rw [← lR_no (fun q => q.2.2.2.2.1 (5 * (nd - 1) + z71) (by omega) (by omega) ((tf1_40 _ z72).1.symm.trans (z73.trans hnB)))]; exact hTD, rfl, FRL_rf⟩, by rw [ht]; exact hP, hD⟩, hS.F ht⟩) hS.2.2 xd_Sh_acceptRequired_142
                  · refine W.eq (g2 := F0 m 138 ls [.int 0]) rfl ?_
                    refine lv_if_eq (tgt := 143) hx hb xd_Sh_acceptRequired_138 (by decide) (fun _ => ?_) (fun hc76 => absurd (by decide) hc76)
                    refine lv_aload hx hb xd_Sh_acceptRequired_143 (lv_at hl 0 rfl) ?_
                    refine px_get (D := D) (ci := 7) (v := .int sd_40) (C := xR_Ds) (T := xT_Ds) (N := 12) hx hb hT xi_Ds hown hK.1 hP m_42 c_41 rfl 11 (by decide) (hT _ k5h_18) (fun _ h9 => h9) rfl xd_Sh_acceptRequired_145 ?_
                    refine lv_if_ne (tgt := 162) hx hb xd_Sh_acceptRequired_148 (by decide) (fun hc77 => ?_) (fun hc77 => ?_)
                    · refine lv_bipush (v := (-2)) hx hb xd_Sh_acceptRequired_162 (by decide) ?_
                      refine W.widen (k := 0) (n := 0) (Nat.le_of_ble_eq_true rfl) (Nat.le_of_ble_eq_true rfl) ?_
                      exact W.iret (v := (-2)) hx hb hr (fun t ht hW => ⟨⟨(-2), (ad, E, RL), rfl, ⟨hCI, by rw [← lR_no (fun q => hc77 (by rw [tsd_40]; exact q.2.2.2.2.2.1))]; exact hTD, rfl, FRL_rf⟩, by rw [ht]; exact hP, hD⟩, hS.F ht⟩) hS.2.2 xd_Sh_acceptRequired_164
                    · refine lv_aload hx hb xd_Sh_acceptRequired_151 (lv_at hl 0 rfl) ?_
                      refine px_get (D := D) (ci := 7) (v := .ref (ad (1 + (nd - 1)) 2)) (C := xR_Ds) (T := xT_Ds) (N := 12) hx hb hT xi_Ds hown hK.1 hP m_42 c_41 rfl 6 (by decide) (hT _ k5h_12) (fun _ h9 => h9) rfl xd_Sh_acceptRequired_153 ?_
                      have hFc := px_free hD hS hA
                      refine va_calli (va_runV (As := []) (rest := []) ⟨hx, hb, hml, hown, hT⟩ (xc_Na_isFull l D kA H.size ad E RL (1 + (nd - 1)) 2 6 5 k1_40 f1_40 m_46 c_45 m_54 c_53 (by first | assumption | omega) (by first | assumption | omega)) (cwV 0 hT (wT_V k5h_20 k5h_21 k5h_22 k5h_17 k5h_19) rfl rfl rfl (by decide +kernel) ⟨Nat.le_of_ble_eq_true rfl, Nat.le_of_ble_eq_true rfl⟩) (px_preV hK hP hD m_46 c_45 rfl) rfl rfl hl.1 rfl (lv_room (Nat.le_of_ble_eq_true rfl)) xd_Sh_acceptRequired_156 ⟨(Nat.le_of_ble_eq_true rfl), (Nat.le_of_ble_eq_true rfl)⟩) hS (fun q _ h => hFc q h) hFc (fun r78 u79 t H1 locs ht hvm hp80 hB hz1 hk1 hS => ?_)
                      obtain ⟨hP1, hD1⟩ := hB
                      rw [ht] at hP1
                      have hD1 := hD1.weaken (fun _ _ _ h => hFc _ h)
                      generalize H1 = H at hP1 hS ⊢
                      have hP := hP1
                      have hD := hD1
                      have hP : va_P D xcl (rp ad E RL) H := hP
                      have hD : va_D A (rp ad E RL) := hD
                      rcases hp80 with ⟨rfl, z81⟩ | ⟨rfl, z82⟩
                      · refine W.eq (g2 := F0 m 159 ls [.int 1]) rfl ?_
                        refine lv_if_eq (tgt := 165) hx hb xd_Sh_acceptRequired_159 (by decide) (fun hc83 => absurd hc83 (by decide)) (fun _ => ?_)
                        refine lv_bipush (v := (-2)) hx hb xd_Sh_acceptRequired_162 (by decide) ?_
                        refine W.widen (k := 0) (n := 0) (Nat.le_of_ble_eq_true rfl) (Nat.le_of_ble_eq_true rfl) ?_
                        exact W.iret (v := (-2)) hx hb hr (fun t ht hW => ⟨⟨(-2), (ad, E, RL), rfl, ⟨hCI, by rw [← lR_no (fun q => absurd q.2.2.2.2.2.2 (by have := z81; omega))]; exact hTD, rfl, FRL_rf⟩, by rw [ht]; exact hP, hD⟩, hS.F ht⟩) hS.2.2 xd_Sh_acceptRequired_164
                      · refine W.eq (g2 := F0 m 159 ls [.int 0]) rfl ?_
                        refine lv_if_eq (tgt := 165) hx hb xd_Sh_acceptRequired_159 (by decide) (fun _ => ?_) (fun hc84 => absurd (by decide) hc84)
                        refine lv_aload hx hb xd_Sh_acceptRequired_165 (lv_at hl 0 rfl) ?_
                        refine lv_iload hx hb xd_Sh_acceptRequired_167 (lv_at hl 1 rfl) ?_
                        refine lv_iload_n hx hb xd_Sh_acceptRequired_169 rfl (lv_at hl 4 rfl) ?_
                        refine lv_iload_n hx hb xd_Sh_acceptRequired_170 rfl (lv_at hl 3 rfl) ?_
                        have hFc := px_free hD hS hA
                        refine va_callv (va_runV (As := [.int (wN (g 0) wl (wl.length - 1)), .int it9, .int io9]) (rest := []) ⟨hx, hb, hml, hown, hT⟩ (xc_Ds_addRequiredX l D kA H.size ad E RL g (nd - 1) (wN (g 0) wl (wl.length - 1)) it9 io9 (hDIs (nd - 1) (by omega)) (hTD (nd - 1) (by omega)) (by have := z82; omega)) (cwV 3 hT (wT_V k5h_24 k5h_25 k5h_26 k5h_27 k5h_23) rfl rfl rfl (by decide +kernel) ⟨Nat.le_of_ble_eq_true rfl, Nat.le_of_ble_eq_true rfl⟩) (px_preV hK hP hD m_42 c_41 rfl) rfl rfl hl.1 rfl (lv_room (Nat.le_of_ble_eq_true rfl)) xd_Sh_acceptRequired_171 ⟨(Nat.le_of_ble_eq_true rfl), (Nat.le_of_ble_eq_true rfl)⟩) hS (fun q _ h => hFc q h) hFc (fun u86 t H1 locs ht hvm hp87 hB hz1 hk1 hS => ?_)
                        obtain ⟨hP1, hD1⟩ := hB
                        rw [ht] at hP1
                        have hD1 := hD1.weaken (fun _ _ _ h => hFc _ h)
                        generalize H1 = H at hP1 hS ⊢
                        have hP := hP1
                        have hD := hD1
                        obtain ⟨E88, rfl⟩ : ∃ z, z = u86 := ⟨_, rfl⟩
                        obtain ⟨hp90, p_89⟩ := hp87
                        have p_89 : (∀ b2 o2, ¬ (b2 = 1 + (nd - 1)) → E88 b2 o2 = E b2 o2) := p_89
                        have nb_91 : ¬ (0 = 1 + (nd - 1)) := by omega
                        have c_92 : E88 0 0 = .inr (0, [.ref (ad 0 1), .ref (ad 0 5), .ref (ad 0 7), .ref (ad 0 9), .int (nI ml), .int lf_1]) := (p_89 0 0 nb_91).trans c_2
                        have c_93 : E88 0 1 = .inr (1, [.ref (ad 0 2), .ref (ad 0 3), .ref (ad 0 4), .int (nI len), .int (nI (wl.length))]) := (p_89 0 1 nb_91).trans c_5
                        have c_94 : E88 0 2 = .inl (kA 1, 40, .inl tx_4) := (p_89 0 2 nb_91).trans c_7
                        have c_95 : E88 0 3 = .inl (kA 0, 20, .inl fb_4) := (p_89 0 3 nb_91).trans c_9
                        have c_96 : E88 0 4 = .inl (kA 0, 20, .inl fe_4) := (p_89 0 4 nb_91).trans c_11
                        have c_97 : E88 0 5 = .inr (2, [.ref (ad 0 6), .int (nI nd)]) := (p_89 0 5 nb_91).trans c_14
                        have c_98 : E88 0 6 = .inl (kA 4, 12, .inr (.inr (.inr (.inr fd_13)))) := (p_89 0 6 nb_91).trans c_16
                        have c_99 : E88 0 7 = .inr (3, [.ref (ad 0 5), .ref (ad 0 8), .int (nI cs), .int cf_18, pv_18]) := (p_89 0 7 nb_91).trans c_19
                        have c_100 : E88 0 8 = .inl (kA 4, 12, .inr (.inr (.inr (.inr fc_18)))) := (p_89 0 8 nb_91).trans c_21
                        have c_101 : E88 0 9 = .inl (kA 5, 5, .inr (.inr (.inr (.inr fl_23)))) := (p_89 0 9 nb_91).trans c_24
                        have hP : va_P D xcl (rp ad E88 RL) H := hP
                        have hD : va_D A (rp ad E88 RL) := hD
                        obtain ⟨hDI9, hTD9⟩ := hp90
                        have hTD2 : TDs (rqU g (nd - 1) (wN (g 0) wl (wl.length - 1)) (vp_nar .boolean it9) (vp_nar .boolean io9)) E88 nd := TDs_upd (x := nd - 1) hDIs (fun d9 hd9 hx9 => fun2 fun o9 => by show E88 (1 + d9) o9 = _; rw [p_89 (1 + d9) o9 (by omega)]) (fun d9 hd9 hx9 => AG_R (by omega) hx9) hTD9 hTD
                        have hFRL : FRL ml nd ad ad E E88 := ⟨fun n9 hn9 => ⟨fun2 fun o9 => by show E88 (20 + n9) o9 = _; rw [p_89 (20 + n9) o9 (by omega)], fun2 fun o9 => rfl⟩, fun d9 hd9 => rfl, by show E88 0 0 = _; rw [p_89 0 0 (by omega)]⟩
                        have hCI : CI kA ad E88 RL ml nd len wl.length cs := ⟨hmB, ⟨lf_1, c_92⟩, ⟨tx_4, fb_4, fe_4, (by omega), (by omega), c_93, c_94, c_95, c_96, hws_4⟩, ⟨fd_13, (by omega), c_97, c_98, hds_13⟩, ⟨cf_18, pv_18, fc_18, (by omega), hpv_18, c_99, c_100, hfc_18⟩, ⟨fl_23, (by omega), c_101, hla_23⟩, (DIs_set (x := nd - 1) (fun d9 hd9 hx9 => fun2 fun o9 => by show E88 (1 + d9) o9 = _; rw [p_89 (1 + d9) o9 (by omega)]) (fun _ _ _ => rfl) (fun _ h => h) hDI9 hDIs), (LIs_same (Nat.le_refl _) (fun n9 hn9 => fun2 fun o9 => by show E88 (20 + n9) o9 = _; rw [p_89 (20 + n9) o9 (by omega)]) (fun _ _ => rfl) (fun _ _ => rfl) (fun _ h9 => h9) hLIs)⟩
                        obtain ⟨hmB, hDk, hLi, hSh, hCh, hLa, hDIs, hLIs⟩ := id hCI
                        refine lv_iconst (v := 2) hx hb xd_Sh_acceptRequired_174 (by decide) ?_
                        refine W.widen (k := 0) (n := 0) (Nat.le_of_ble_eq_true rfl) (Nat.le_of_ble_eq_true rfl) ?_
                        exact W.iret (v := 2) hx hb hr (fun t ht hW => ⟨⟨2, (ad, E88, RL), rfl, (by
        rw [lR_y hnB hitb hiob ⟨by rw [hrB]; omega, fun q => hc34 (hnB.trans q), by omega, fun q => hc67 (tnm_40.trans (q.trans hnB.symm)), fun j a9 b9 q => by
          have q2 := z74 (j - 5 * (nd - 1)) (by omega)
          rw [(tf1_40 _ (by omega)).1, show 5 * (nd - 1) + (j - 5 * (nd - 1)) = j by omega] at q2
          exact q2 (q.trans hnB.symm), by rw [← tsd_40]; exact hc77, by omega⟩]
        exact ⟨hCI, hTD2, rfl, hFRL⟩), by rw [ht]; exact hP, hD⟩, hS.F ht⟩) hS.2.2 xd_Sh_acceptRequired_175
            · refine lv_iconst (v := (-1)) hx hb xd_Sh_acceptRequired_102 (by decide) ?_
              refine W.widen (k := 0) (n := 0) (Nat.le_of_ble_eq_true rfl) (Nat.le_of_ble_eq_true rfl) ?_
              exact W.iret (v := (-1)) hx hb hr (fun t ht hW => ⟨⟨(-1), (ad, E, RL), rfl, ⟨hCI, by rw [← lR_no (fun q => q.2.1 (by rw [(hrq.2 (by omega)).2.2]; exact hc34))]; exact hTD, rfl, FRL_rf⟩, by rw [ht]; exact hP, hD⟩, hS.F ht⟩) hS.2.2 xd_Sh_acceptRequired_103
        · refine lv_iconst (v := 1) hx hb xd_Sh_acceptRequired_68 (by decide) ?_
          refine lv_goto (tgt := 73) hx hb xd_Sh_acceptRequired_69 (by decide) ?_
          refine lv_iadd hx hb xd_Sh_acceptRequired_73 ?_
          refine xn_top (y := nI (3)) (nI_add 2 1) ?_
          refine lv_istore hx hb xd_Sh_acceptRequired_74 hl (Nat.le_of_ble_eq_true rfl) rfl (fun ls hl => ?_)
          have hl : lv_has ls 7 [(4, .int (nI 3)), (3, .int io9), (2, .int it9), (1, .ref (ad 0 1)), (0, .ref (ad 0 5))] := hl
          have hfa : ((0 : Nat) = 1 ∧ 3 ≤ wl.length ∧ wS (g 0) wl 1 zTr) ∨ ((0 : Nat) = 0 ∧ ¬ (3 ≤ wl.length ∧ wS (g 0) wl 1 zTr)) := by
            rcases hit with ⟨q, q2⟩ | ⟨q, q2⟩
            · exact absurd (q.symm.trans hc28) (by decide)
            · exact Or.inr ⟨rfl, q2⟩
          have hfb : ((1 : Nat) = 1 ∧ 3 ≤ wl.length ∧ wS (g 0) wl (wl.length - 2) zSt) ∨ ((1 : Nat) = 0 ∧ ¬ (3 ≤ wl.length ∧ wS (g 0) wl (wl.length - 2) zSt)) := by
            rcases hio with ⟨q, q2⟩ | ⟨q, q2⟩
            · exact Or.inl ⟨rfl, q2⟩
            · exact absurd q hc29
          have hrq := rq_iff hfa hfb
          refine lv_aload_n hx hb xd_Sh_acceptRequired_76 rfl (lv_at hl 3 rfl) ?_
          refine lv_aload_n hx hb xd_Sh_acceptRequired_77 rfl (lv_at hl 3 rfl) ?_
          refine px_get (D := D) (ci := 1) (v := .int (nI (wl.length))) (C := xR_Li) (T := xT_Li) (N := 5) hx hb hT xi_Li hown hK.1 hP m_6 c_5 rfl 4 (by decide) (hT _ k5h_0) (fun _ h9 => h9) rfl xd_Sh_acceptRequired_78 ?_
          refine lv_iconst (v := 1) hx hb xd_Sh_acceptRequired_81 (by decide) ?_
          refine lv_isub hx hb xd_Sh_acceptRequired_82 ?_
          refine xn_top (y := nI (wl.length - 1)) (pk_sub (a := wl.length) (b := 1) (by omega)) ?_
          have hFc := px_free hD hS hA
          refine va_calli (va_runV (As := [.int (nI (wl.length - 1))]) (rest := []) ⟨hx, hb, hml, hown, hT⟩ (xc_Li_nameAtX l D kA H.size ad E RL g ml nd len lt wl cs (wl.length - 1) (by first | assumption | omega) (by first | assumption | omega) (by first | assumption | omega)) (cwV 1 hT (wT_V k5h_2 k5h_3 k5h_4 k5h_5 k5h_1) rfl rfl rfl (by decide +kernel) ⟨Nat.le_of_ble_eq_true rfl, Nat.le_of_ble_eq_true rfl⟩) (px_preV hK hP hD m_6 c_5 rfl) rfl rfl hl.1 rfl (lv_room (Nat.le_of_ble_eq_true rfl)) xd_Sh_acceptRequired_83 ⟨(Nat.le_of_ble_eq_true rfl), (Nat.le_of_ble_eq_true rfl)⟩) hS (fun q _ h => hFc q h) hFc (fun r102 u103 t H1 locs ht hvm hp104 hB hz1 hk1 hS => ?_)
          obtain ⟨hP1, hD1⟩ := hB
          rw [ht] at hP1
          have hD1 := hD1.weaken (fun _ _ _ h => hFc _ h)
          generalize H1 = H at hP1 hS ⊢
          have hP := hP1
          have hD := hD1
          have hP : va_P D xcl (rp ad E RL) H := hP
          have hD : va_D A (rp ad E RL) := hD
          have hp104 : r102 = wN (g 0) wl (wl.length - 1) := hp104
          subst hp104
          have hP : va_P D xcl (rp ad E RL) H := hP
          have hD : va_D A (rp ad E RL) := hD
          refine lv_istore hx hb xd_Sh_acceptRequired_86 hl (Nat.le_of_ble_eq_true rfl) rfl (fun ls hl => ?_)
          have hl : lv_has ls 7 [(5, .int (wN (g 0) wl (wl.length - 1))), (4, .int (nI 3)), (3, .int io9), (2, .int it9), (1, .ref (ad 0 1)), (0, .ref (ad 0 5))] := hl
          refine lv_aload_n hx hb xd_Sh_acceptRequired_88 rfl (lv_at hl 4 rfl) ?_
          refine px_get (D := D) (ci := 1) (v := .int (nI (wl.length))) (C := xR_Li) (T := xT_Li) (N := 5) hx hb hT xi_Li hown hK.1 hP m_6 c_5 rfl 4 (by decide) (hT _ k5h_0) (fun _ h9 => h9) rfl xd_Sh_acceptRequired_89 ?_
          refine lv_iload hx hb xd_Sh_acceptRequired_92 (lv_at hl 1 rfl) ?_
          refine xn_ne (a := wl.length) (b := 3) (tgt := 102) hx hb xd_Sh_acceptRequired_94 (by decide) (by omega) (by omega) (fun hc105 => ?_) (fun hc105 => ?_)
          · refine lv_iconst (v := (-1)) hx hb xd_Sh_acceptRequired_102 (by decide) ?_
            refine W.widen (k := 0) (n := 0) (Nat.le_of_ble_eq_true rfl) (Nat.le_of_ble_eq_true rfl) ?_
            exact W.iret (v := (-1)) hx hb hr (fun t ht hW => ⟨⟨(-1), (ad, E, RL), rfl, ⟨hCI, by rw [← lR_no (fun q => absurd (hrq.1.mp q.1) (by omega))]; exact hTD, rfl, FRL_rf⟩, by rw [ht]; exact hP, hD⟩, hS.F ht⟩) hS.2.2 xd_Sh_acceptRequired_103
          · refine lv_iload hx hb xd_Sh_acceptRequired_97 (lv_at hl 0 rfl) ?_
            refine lv_if_ne (tgt := 104) hx hb xd_Sh_acceptRequired_99 (by decide) (fun hc106 => ?_) (fun hc106 => ?_)
            · obtain ⟨hrT, hrO, hrB⟩ := hrq.2 (by omega)
              have hitb : it9 = bI (rqT (g 0) wl) := by rw [hc28]; exact bI_0 (fun q => absurd (hrT.mp q) (by decide))
              have hiob : io9 = bI (rqO (g 0) wl) := by
                rcases hio with ⟨q, _⟩ | ⟨q, _⟩
                · rw [q]; exact bI_1 (hrO.mpr rfl)
                · exact absurd q hc29
              have hnB : wN (g 0) wl (wl.length - 1) = wN (g 0) wl (rqB (g 0) wl) := by rw [hrB]
              refine lv_aload_n hx hb xd_Sh_acceptRequired_104 rfl (lv_at hl 5 rfl) ?_
              have hFc := px_free hD hS hA
              refine va_callq (va_runV (As := []) (rest := []) ⟨hx, hb, hml, hown, hT⟩ (xc_Sh_latestX l D kA H.size ad E RL ml nd len wl.length cs (by first | assumption | omega)) (cwV 0 hT (wT_V k5h_7 k5h_8 k5h_9 k5h_10 k5h_6) rfl rfl rfl (by decide +kernel) ⟨Nat.le_of_ble_eq_true rfl, Nat.le_of_ble_eq_true rfl⟩) (px_preV hK hP hD m_15 c_14 rfl) rfl rfl hl.1 rfl (lv_room (Nat.le_of_ble_eq_true rfl)) xd_Sh_acceptRequired_105 ⟨(Nat.le_of_ble_eq_true rfl), (Nat.le_of_ble_eq_true rfl)⟩) hS (fun q _ h => hFc q h) hFc (fun r107 u108 t H1 locs ht hvm hp109 hB hz1 hk1 hS => ?_)
              obtain ⟨hP1, hD1⟩ := hB
              rw [ht] at hP1
              have hD1 := hD1.weaken (fun _ _ _ h => hFc _ h)
              generalize H1 = H at hP1 hS ⊢
              have hP := hP1
              have hD := hD1
              have hP : va_P D xcl (rp ad E RL) H := hP
              have hD : va_D A (rp ad E RL) := hD
              rcases hp109 with ⟨rfl, z110⟩ | ⟨z111, rfl⟩
              · refine W.eq (g2 := F0 m 108 ls [.null]) rfl ?_
                refine lv_astoreN hx hb xd_Sh_acceptRequired_108 hl (Nat.le_of_ble_eq_true rfl) rfl (fun ls hl => ?_)
                have hl : lv_has ls 7 [(6, .null), (5, .int (wN (g 0) wl (wl.length - 1))), (4, .int (nI 3)), (3, .int io9), (2, .int it9), (1, .ref (ad 0 1)), (0, .ref (ad 0 5))] := hl
                refine lv_aloadN hx hb xd_Sh_acceptRequired_110 (lv_at hl 0 rfl) ?_
                refine lv_ifnonnullN hx hb xd_Sh_acceptRequired_112 ?_
                refine lv_bipush (v := (-2)) hx hb xd_Sh_acceptRequired_115 (by decide) ?_
                refine W.widen (k := 0) (n := 0) (Nat.le_of_ble_eq_true rfl) (Nat.le_of_ble_eq_true rfl) ?_
                exact W.iret (v := (-2)) hx hb hr (fun t ht hW => ⟨⟨(-2), (ad, E, RL), rfl, ⟨hCI, by rw [← lR_no (fun q => absurd q.2.2.1 (by omega))]; exact hTD, rfl, FRL_rf⟩, by rw [ht]; exact hP, hD⟩, hS.F ht⟩) hS.2.2 xd_Sh_acceptRequired_117
              · refine W.eq (g2 := F0 m 108 ls [.ref (ad (1 + (nd - 1)) 0)]) rfl ?_
                refine lv_astore hx hb xd_Sh_acceptRequired_108 hl (Nat.le_of_ble_eq_true rfl) rfl (fun ls hl => ?_)
                have hl : lv_has ls 7 [(6, .ref (ad (1 + (nd - 1)) 0)), (5, .int (wN (g 0) wl (wl.length - 1))), (4, .int (nI 3)), (3, .int io9), (2, .int it9), (1, .ref (ad 0 1)), (0, .ref (ad 0 5))] := hl
                refine lv_aload hx hb xd_Sh_acceptRequired_110 (lv_at hl 0 rfl) ?_
                refine lv_ifnonnull (tgt := 118) hx hb xd_Sh_acceptRequired_112 (by decide) ?_
                refine lv_aload hx hb xd_Sh_acceptRequired_118 (lv_at hl 0 rfl) ?_
                obtain ⟨hm_112, fd_112, nm_112, sd_112, k0_112, k1_112, k2_112, k3_112, f0_112, f1_112, f2_112, f3_112, fe_112, fo_112, tr_112, op_112, hk0_112, hk1_112, hk2_112, hk3_112, q0_112, q1_112, q2_112, q3_112, q4_112, q5_112, q6_112, q7_112, q8_112, q9_112, q10_112, q11_112, q12_112, hg_112⟩ := id (hDIs (nd - 1) (by omega))
                have c_113 : E (1 + (nd - 1)) 0 = .inr (7, [.int (nI ((nd - 1))), .int fd_112, .int nm_112, .ref (ad (1 + (nd - 1)) 1), .ref (ad (1 + (nd - 1)) 9), .ref (ad (1 + (nd - 1)) 10), .ref (ad (1 + (nd - 1)) 2), .ref (ad (1 + (nd - 1)) 11), .ref (ad (1 + (nd - 1)) 12), .ref (ad (1 + (nd - 1)) 3), .ref (ad (1 + (nd - 1)) 4), .int sd_112]) := q0_112
                have m_114 : (1 + (nd - 1), 0) ∈ RL := hm_112 0 (by decide)
                have c_115 : E (1 + (nd - 1)) 1 = .inr (8, [.ref (ad (1 + (nd - 1)) 5), .int (nI k0_112)]) := q1_112
                have m_116 : (1 + (nd - 1), 1) ∈ RL := hm_112 1 (by decide)
                have c_117 : E (1 + (nd - 1)) 2 = .inr (8, [.ref (ad (1 + (nd - 1)) 6), .int (nI k1_112)]) := q2_112
                have m_118 : (1 + (nd - 1), 2) ∈ RL := hm_112 2 (by decide)
                have c_119 : E (1 + (nd - 1)) 3 = .inr (8, [.ref (ad (1 + (nd - 1)) 7), .int (nI k2_112)]) := q3_112
                have m_120 : (1 + (nd - 1), 3) ∈ RL := hm_112 3 (by decide)
                have c_121 : E (1 + (nd - 1)) 4 = .inr (8, [.ref (ad (1 + (nd - 1)) 8), .int (nI k3_112)]) := q4_112
                have m_122 : (1 + (nd - 1), 4) ∈ RL := hm_112 4 (by decide)
                have c_123 : E (1 + (nd - 1)) 5 = .inl (kA 0, 6, .inl f0_112) := q5_112
                have m_124 : (1 + (nd - 1), 5) ∈ RL := hm_112 5 (by decide)
                have c_125 : E (1 + (nd - 1)) 6 = .inl (kA 0, 5, .inl f1_112) := q6_112
                have m_126 : (1 + (nd - 1), 6) ∈ RL := hm_112 6 (by decide)
                have c_127 : E (1 + (nd - 1)) 7 = .inl (kA 0, 3, .inl f2_112) := q7_112
                have m_128 : (1 + (nd - 1), 7) ∈ RL := hm_112 7 (by decide)
                have c_129 : E (1 + (nd - 1)) 8 = .inl (kA 0, 3, .inl f3_112) := q8_112
                have m_130 : (1 + (nd - 1), 8) ∈ RL := hm_112 8 (by decide)
                have c_131 : E (1 + (nd - 1)) 9 = .inl (kA 8, 6, .inr (.inr (.inr (.inr fe_112)))) := q9_112
                have m_132 : (1 + (nd - 1), 9) ∈ RL := hm_112 9 (by decide)
                have c_133 : E (1 + (nd - 1)) 10 = .inl (kA 8, 6, .inr (.inr (.inr (.inr fo_112)))) := q10_112
                have m_134 : (1 + (nd - 1), 10) ∈ RL := hm_112 10 (by decide)
                have c_135 : E (1 + (nd - 1)) 11 = .inl (kA 2, 5, .inl tr_112) := q11_112
                have m_136 : (1 + (nd - 1), 11) ∈ RL := hm_112 11 (by decide)
                have c_137 : E (1 + (nd - 1)) 12 = .inl (kA 2, 5, .inl op_112) := q12_112
                have m_138 : (1 + (nd - 1), 12) ∈ RL := hm_112 12 (by decide)
                have hg_112 : ∀ w9, w9 < k0_112 → fe_112 w9 = some (ad (1 + (nd - 1)) (20 + 3 * w9)) ∧ fo_112 w9 = some (ad (1 + (nd - 1)) (38 + 3 * w9)) ∧ GI kA (ad (1 + (nd - 1))) (E (1 + (nd - 1))) (fun o => (1 + (nd - 1), o) ∈ RL) (20 + 3 * w9) (21 + 3 * w9) (22 + 3 * w9) ∧ GI kA (ad (1 + (nd - 1))) (E (1 + (nd - 1))) (fun o => (1 + (nd - 1), o) ∈ RL) (38 + 3 * w9) (39 + 3 * w9) (40 + 3 * w9) := hg_112
                obtain ⟨hTT_112, tgr_112⟩ := TD_get hk0_112 hk1_112 hk2_112 hk3_112 c_113 c_115 c_117 c_119 c_121 c_123 c_125 c_127 c_129 c_135 c_137 (hTD (nd - 1) (by omega))
                obtain ⟨tfd_112, tnm_112, tsd_112, tk0_112, tf0_112, tk1_112, tf1_112, tk2_112, tk3_112⟩ := id hTT_112
                have ik0_112 : iN (g 5 (nd - 1)) = k0_112 := by rw [← tk0_112, iN_nI (by omega)]
                have ik1_112 : iN (g 12 (nd - 1)) = k1_112 := by rw [← tk1_112, iN_nI (by omega)]
                refine px_get (D := D) (ci := 7) (v := .int nm_112) (C := xR_Ds) (T := xT_Ds) (N := 12) hx hb hT xi_Ds hown hK.1 hP m_114 c_113 rfl 2 (by decide) (hT _ k5h_11) (fun _ h9 => h9) rfl xd_Sh_acceptRequired_120 ?_
                refine lv_iload hx hb xd_Sh_acceptRequired_123 (lv_at hl 1 rfl) ?_
                refine lv_icmp_eq (tgt := 141) hx hb xd_Sh_acceptRequired_125 (by decide) (fun hc139 => ?_) (fun hc139 => ?_)
                · refine lv_iconst (v := (-1)) hx hb xd_Sh_acceptRequired_141 (by decide) ?_
                  refine W.widen (k := 0) (n := 0) (Nat.le_of_ble_eq_true rfl) (Nat.le_of_ble_eq_true rfl) ?_
                  exact W.iret (v := (-1)) hx hb hr (fun t ht hW => ⟨⟨(-1), (ad, E, RL), rfl, ⟨hCI, by rw [← lR_no (fun q => q.2.2.2.1 (tnm_112.symm.trans (hc139.trans hnB)))]; exact hTD, rfl, FRL_rf⟩, by rw [ht]; exact hP, hD⟩, hS.F ht⟩) hS.2.2 xd_Sh_acceptRequired_142
                · refine lv_aload hx hb xd_Sh_acceptRequired_128 (lv_at hl 0 rfl) ?_
                  refine px_get (D := D) (ci := 7) (v := .ref (ad (1 + (nd - 1)) 2)) (C := xR_Ds) (T := xT_Ds) (N := 12) hx hb hT xi_Ds hown hK.1 hP m_114 c_113 rfl 6 (by decide) (hT _ k5h_12) (fun _ h9 => h9) rfl xd_Sh_acceptRequired_130 ?_
                  refine lv_iload hx hb xd_Sh_acceptRequired_133 (lv_at hl 1 rfl) ?_
                  have hFc := px_free hD hS hA
                  refine va_calli (va_runV (As := [.int (wN (g 0) wl (wl.length - 1))]) (rest := []) ⟨hx, hb, hml, hown, hT⟩ (xc_Na_holds l D kA H.size ad E RL (1 + (nd - 1)) 2 6 5 k1_112 f1_112 (wN (g 0) wl (wl.length - 1)) m_118 c_117 m_126 c_125 (by first | assumption | omega) (by first | assumption | omega)) (cwV 1 hT (wT_V k5h_14 k5h_15 k5h_16 k5h_17 k5h_13) rfl rfl rfl (by decide +kernel) ⟨Nat.le_of_ble_eq_true rfl, Nat.le_of_ble_eq_true rfl⟩) (px_preV hK hP hD m_118 c_117 rfl) rfl rfl hl.1 rfl (lv_room (Nat.le_of_ble_eq_true rfl)) xd_Sh_acceptRequired_135 ⟨(Nat.le_of_ble_eq_true rfl), (Nat.le_of_ble_eq_true rfl)⟩) hS (fun q _ h => hFc q h) hFc (fun r140 u141 t H1 locs ht hvm hp142 hB hz1 hk1 hS => ?_)
                  obtain ⟨hP1, hD1⟩ := hB
                  rw [ht] at hP1
                  have hD1 := hD1.weaken (fun _ _ _ h => hFc _ h)
                  generalize H1 = H at hP1 hS ⊢
                  have hP := hP1
                  have hD := hD1
                  have hP : va_P D xcl (rp ad E RL) H := hP
                  have hD : va_D A (rp ad E RL) := hD
                  rcases hp142 with ⟨rfl, z143, z144, z145⟩ | ⟨rfl, z146⟩
                  · refine W.eq (g2 := F0 m 138 ls [.int 1]) rfl ?_
                    refine lv_if_eq (tgt := 143) hx hb xd_Sh_acceptRequired_138 (by decide) (fun hc147 => absurd hc147 (by decide)) (fun _ => ?_)
                    refine lv_iconst (v := (-1)) hx hb xd_Sh_acceptRequired_141 (by decide) ?_
                    refine W.widen (k := 0) (n := 0) (Nat.le_of_ble_eq_true rfl) (Nat.le_of_ble_eq_true rfl) ?_
                    exact W.iret (v := (-1)) hx hb hr (fun t ht hW => ⟨⟨(-1), (ad, E, RL), rfl, ⟨hCI, by rw [← lR_no (fun q => q.2.2.2.2.1 (5 * (nd - 1) + z143) (by omega) (by omega) ((tf1_112 _ z144).1.symm.trans (z145.trans hnB)))]; exact hTD, rfl, FRL_rf⟩, by rw [ht]; exact hP, hD⟩, hS.F ht⟩) hS.2.2 xd_Sh_acceptRequired_142
                  · refine W.eq (g2 := F0 m 138 ls [.int 0]) rfl ?_
                    refine lv_if_eq (tgt := 143) hx hb xd_Sh_acceptRequired_138 (by decide) (fun _ => ?_) (fun hc148 => absurd (by decide) hc148)
                    refine lv_aload hx hb xd_Sh_acceptRequired_143 (lv_at hl 0 rfl) ?_
                    refine px_get (D := D) (ci := 7) (v := .int sd_112) (C := xR_Ds) (T := xT_Ds) (N := 12) hx hb hT xi_Ds hown hK.1 hP m_114 c_113 rfl 11 (by decide) (hT _ k5h_18) (fun _ h9 => h9) rfl xd_Sh_acceptRequired_145 ?_
                    refine lv_if_ne (tgt := 162) hx hb xd_Sh_acceptRequired_148 (by decide) (fun hc149 => ?_) (fun hc149 => ?_)
                    · refine lv_bipush (v := (-2)) hx hb xd_Sh_acceptRequired_162 (by decide) ?_
                      refine W.widen (k := 0) (n := 0) (Nat.le_of_ble_eq_true rfl) (Nat.le_of_ble_eq_true rfl) ?_
                      exact W.iret (v := (-2)) hx hb hr (fun t ht hW => ⟨⟨(-2), (ad, E, RL), rfl, ⟨hCI, by rw [← lR_no (fun q => hc149 (by rw [tsd_112]; exact q.2.2.2.2.2.1))]; exact hTD, rfl, FRL_rf⟩, by rw [ht]; exact hP, hD⟩, hS.F ht⟩) hS.2.2 xd_Sh_acceptRequired_164
                    · refine lv_aload hx hb xd_Sh_acceptRequired_151 (lv_at hl 0 rfl) ?_
                      refine px_get (D := D) (ci := 7) (v := .ref (ad (1 + (nd - 1)) 2)) (C := xR_Ds) (T := xT_Ds) (N := 12) hx hb hT xi_Ds hown hK.1 hP m_114 c_113 rfl 6 (by decide) (hT _ k5h_12) (fun _ h9 => h9) rfl xd_Sh_acceptRequired_153 ?_
                      have hFc := px_free hD hS hA
                      refine va_calli (va_runV (As := []) (rest := []) ⟨hx, hb, hml, hown, hT⟩ (xc_Na_isFull l D kA H.size ad E RL (1 + (nd - 1)) 2 6 5 k1_112 f1_112 m_118 c_117 m_126 c_125 (by first | assumption | omega) (by first | assumption | omega)) (cwV 0 hT (wT_V k5h_20 k5h_21 k5h_22 k5h_17 k5h_19) rfl rfl rfl (by decide +kernel) ⟨Nat.le_of_ble_eq_true rfl, Nat.le_of_ble_eq_true rfl⟩) (px_preV hK hP hD m_118 c_117 rfl) rfl rfl hl.1 rfl (lv_room (Nat.le_of_ble_eq_true rfl)) xd_Sh_acceptRequired_156 ⟨(Nat.le_of_ble_eq_true rfl), (Nat.le_of_ble_eq_true rfl)⟩) hS (fun q _ h => hFc q h) hFc (fun r150 u151 t H1 locs ht hvm hp152 hB hz1 hk1 hS => ?_)
                      obtain ⟨hP1, hD1⟩ := hB
                      rw [ht] at hP1
                      have hD1 := hD1.weaken (fun _ _ _ h => hFc _ h)
                      generalize H1 = H at hP1 hS ⊢
                      have hP := hP1
                      have hD := hD1
                      have hP : va_P D xcl (rp ad E RL) H := hP
                      have hD : va_D A (rp ad E RL) := hD
                      rcases hp152 with ⟨rfl, z153⟩ | ⟨rfl, z154⟩
                      · refine W.eq (g2 := F0 m 159 ls [.int 1]) rfl ?_
                        refine lv_if_eq (tgt := 165) hx hb xd_Sh_acceptRequired_159 (by decide) (fun hc155 => absurd hc155 (by decide)) (fun _ => ?_)
                        refine lv_bipush (v := (-2)) hx hb xd_Sh_acceptRequired_162 (by decide) ?_
                        refine W.widen (k := 0) (n := 0) (Nat.le_of_ble_eq_true rfl) (Nat.le_of_ble_eq_true rfl) ?_
                        exact W.iret (v := (-2)) hx hb hr (fun t ht hW => ⟨⟨(-2), (ad, E, RL), rfl, ⟨hCI, by rw [← lR_no (fun q => absurd q.2.2.2.2.2.2 (by have := z153; omega))]; exact hTD, rfl, FRL_rf⟩, by rw [ht]; exact hP, hD⟩, hS.F ht⟩) hS.2.2 xd_Sh_acceptRequired_164
                      · refine W.eq (g2 := F0 m 159 ls [.int 0]) rfl ?_
                        refine lv_if_eq (tgt := 165) hx hb xd_Sh_acceptRequired_159 (by decide) (fun _ => ?_) (fun hc156 => absurd (by decide) hc156)
                        refine lv_aload hx hb xd_Sh_acceptRequired_165 (lv_at hl 0 rfl) ?_
                        refine lv_iload hx hb xd_Sh_acceptRequired_167 (lv_at hl 1 rfl) ?_
                        refine lv_iload_n hx hb xd_Sh_acceptRequired_169 rfl (lv_at hl 4 rfl) ?_
                        refine lv_iload_n hx hb xd_Sh_acceptRequired_170 rfl (lv_at hl 3 rfl) ?_
                        have hFc := px_free hD hS hA
                        refine va_callv (va_runV (As := [.int (wN (g 0) wl (wl.length - 1)), .int it9, .int io9]) (rest := []) ⟨hx, hb, hml, hown, hT⟩ (xc_Ds_addRequiredX l D kA H.size ad E RL g (nd - 1) (wN (g 0) wl (wl.length - 1)) it9 io9 (hDIs (nd - 1) (by omega)) (hTD (nd - 1) (by omega)) (by have := z154; omega)) (cwV 3 hT (wT_V k5h_24 k5h_25 k5h_26 k5h_27 k5h_23) rfl rfl rfl (by decide +kernel) ⟨Nat.le_of_ble_eq_true rfl, Nat.le_of_ble_eq_true rfl⟩) (px_preV hK hP hD m_114 c_113 rfl) rfl rfl hl.1 rfl (lv_room (Nat.le_of_ble_eq_true rfl)) xd_Sh_acceptRequired_171 ⟨(Nat.le_of_ble_eq_true rfl), (Nat.le_of_ble_eq_true rfl)⟩) hS (fun q _ h => hFc q h) hFc (fun u158 t H1 locs ht hvm hp159 hB hz1 hk1 hS => ?_)
                        obtain ⟨hP1, hD1⟩ := hB
                        rw [ht] at hP1
                        have hD1 := hD1.weaken (fun _ _ _ h => hFc _ h)
                        generalize H1 = H at hP1 hS ⊢
                        have hP := hP1
                        have hD := hD1
                        obtain ⟨E160, rfl⟩ : ∃ z, z = u158 := ⟨_, rfl⟩
                        obtain ⟨hp162, p_161⟩ := hp159
                        have p_161 : (∀ b2 o2, ¬ (b2 = 1 + (nd - 1)) → E160 b2 o2 = E b2 o2) := p_161
                        have nb_163 : ¬ (0 = 1 + (nd - 1)) := by omega
                        have c_164 : E160 0 0 = .inr (0, [.ref (ad 0 1), .ref (ad 0 5), .ref (ad 0 7), .ref (ad 0 9), .int (nI ml), .int lf_1]) := (p_161 0 0 nb_163).trans c_2
                        have c_165 : E160 0 1 = .inr (1, [.ref (ad 0 2), .ref (ad 0 3), .ref (ad 0 4), .int (nI len), .int (nI (wl.length))]) := (p_161 0 1 nb_163).trans c_5
                        have c_166 : E160 0 2 = .inl (kA 1, 40, .inl tx_4) := (p_161 0 2 nb_163).trans c_7
                        have c_167 : E160 0 3 = .inl (kA 0, 20, .inl fb_4) := (p_161 0 3 nb_163).trans c_9
                        have c_168 : E160 0 4 = .inl (kA 0, 20, .inl fe_4) := (p_161 0 4 nb_163).trans c_11
                        have c_169 : E160 0 5 = .inr (2, [.ref (ad 0 6), .int (nI nd)]) := (p_161 0 5 nb_163).trans c_14
                        have c_170 : E160 0 6 = .inl (kA 4, 12, .inr (.inr (.inr (.inr fd_13)))) := (p_161 0 6 nb_163).trans c_16
                        have c_171 : E160 0 7 = .inr (3, [.ref (ad 0 5), .ref (ad 0 8), .int (nI cs), .int cf_18, pv_18]) := (p_161 0 7 nb_163).trans c_19
                        have c_172 : E160 0 8 = .inl (kA 4, 12, .inr (.inr (.inr (.inr fc_18)))) := (p_161 0 8 nb_163).trans c_21
                        have c_173 : E160 0 9 = .inl (kA 5, 5, .inr (.inr (.inr (.inr fl_23)))) := (p_161 0 9 nb_163).trans c_24
                        have hP : va_P D xcl (rp ad E160 RL) H := hP
                        have hD : va_D A (rp ad E160 RL) := hD
                        obtain ⟨hDI9, hTD9⟩ := hp162
                        have hTD2 : TDs (rqU g (nd - 1) (wN (g 0) wl (wl.length - 1)) (vp_nar .boolean it9) (vp_nar .boolean io9)) E160 nd := TDs_upd (x := nd - 1) hDIs (fun d9 hd9 hx9 => fun2 fun o9 => by show E160 (1 + d9) o9 = _; rw [p_161 (1 + d9) o9 (by omega)]) (fun d9 hd9 hx9 => AG_R (by omega) hx9) hTD9 hTD
                        have hFRL : FRL ml nd ad ad E E160 := ⟨fun n9 hn9 => ⟨fun2 fun o9 => by show E160 (20 + n9) o9 = _; rw [p_161 (20 + n9) o9 (by omega)], fun2 fun o9 => rfl⟩, fun d9 hd9 => rfl, by show E160 0 0 = _; rw [p_161 0 0 (by omega)]⟩
                        have hCI : CI kA ad E160 RL ml nd len wl.length cs := ⟨hmB, ⟨lf_1, c_164⟩, ⟨tx_4, fb_4, fe_4, (by omega), (by omega), c_165, c_166, c_167, c_168, hws_4⟩, ⟨fd_13, (by omega), c_169, c_170, hds_13⟩, ⟨cf_18, pv_18, fc_18, (by omega), hpv_18, c_171, c_172, hfc_18⟩, ⟨fl_23, (by omega), c_173, hla_23⟩, (DIs_set (x := nd - 1) (fun d9 hd9 hx9 => fun2 fun o9 => by show E160 (1 + d9) o9 = _; rw [p_161 (1 + d9) o9 (by omega)]) (fun _ _ _ => rfl) (fun _ h => h) hDI9 hDIs), (LIs_same (Nat.le_refl _) (fun n9 hn9 => fun2 fun o9 => by show E160 (20 + n9) o9 = _; rw [p_161 (20 + n9) o9 (by omega)]) (fun _ _ => rfl) (fun _ _ => rfl) (fun _ h9 => h9) hLIs)⟩
                        obtain ⟨hmB, hDk, hLi, hSh, hCh, hLa, hDIs, hLIs⟩ := id hCI
                        refine lv_iconst (v := 2) hx hb xd_Sh_acceptRequired_174 (by decide) ?_
                        refine W.widen (k := 0) (n := 0) (Nat.le_of_ble_eq_true rfl) (Nat.le_of_ble_eq_true rfl) ?_
                        exact W.iret (v := 2) hx hb hr (fun t ht hW => ⟨⟨2, (ad, E160, RL), rfl, (by
        rw [lR_y hnB hitb hiob ⟨by rw [hrB]; omega, fun q => hc106 (hnB.trans q), by omega, fun q => hc139 (tnm_112.trans (q.trans hnB.symm)), fun j a9 b9 q => by
          have q2 := z146 (j - 5 * (nd - 1)) (by omega)
          rw [(tf1_112 _ (by omega)).1, show 5 * (nd - 1) + (j - 5 * (nd - 1)) = j by omega] at q2
          exact q2 (q.trans hnB.symm), by rw [← tsd_112]; exact hc149, by omega⟩]
        exact ⟨hCI, hTD2, rfl, hFRL⟩), by rw [ht]; exact hP, hD⟩, hS.F ht⟩) hS.2.2 xd_Sh_acceptRequired_175
            · refine lv_iconst (v := (-1)) hx hb xd_Sh_acceptRequired_102 (by decide) ?_
              refine W.widen (k := 0) (n := 0) (Nat.le_of_ble_eq_true rfl) (Nat.le_of_ble_eq_true rfl) ?_
              exact W.iret (v := (-1)) hx hb hr (fun t ht hW => ⟨⟨(-1), (ad, E, RL), rfl, ⟨hCI, by rw [← lR_no (fun q => q.2.1 (by rw [(hrq.2 (by omega)).2.2]; exact hc106))]; exact hTD, rfl, FRL_rf⟩, by rw [ht]; exact hP, hD⟩, hS.F ht⟩) hS.2.2 xd_Sh_acceptRequired_103
      · refine lv_iconst (v := 1) hx hb xd_Sh_acceptRequired_58 (by decide) ?_
        refine lv_goto (tgt := 63) hx hb xd_Sh_acceptRequired_59 (by decide) ?_
        refine lv_iadd hx hb xd_Sh_acceptRequired_63 ?_
        refine xn_top (y := nI (3)) (nI_add 2 1) ?_
        refine lv_iload_n hx hb xd_Sh_acceptRequired_64 rfl (lv_at hl 0 rfl) ?_
        refine lv_if_eq (tgt := 72) hx hb xd_Sh_acceptRequired_65 (by decide) (fun hc174 => ?_) (fun hc174 => ?_)
        · refine lv_iconst (v := 0) hx hb xd_Sh_acceptRequired_72 (by decide) ?_
          refine lv_iadd hx hb xd_Sh_acceptRequired_73 ?_
          refine xn_top (y := nI (3)) (nI_add 3 0) ?_
          refine lv_istore hx hb xd_Sh_acceptRequired_74 hl (Nat.le_of_ble_eq_true rfl) rfl (fun ls hl => ?_)
          have hl : lv_has ls 7 [(4, .int (nI 3)), (3, .int io9), (2, .int it9), (1, .ref (ad 0 1)), (0, .ref (ad 0 5))] := hl
          have hfa : ((1 : Nat) = 1 ∧ 3 ≤ wl.length ∧ wS (g 0) wl 1 zTr) ∨ ((1 : Nat) = 0 ∧ ¬ (3 ≤ wl.length ∧ wS (g 0) wl 1 zTr)) := by
            rcases hit with ⟨q, q2⟩ | ⟨q, q2⟩
            · exact Or.inl ⟨rfl, q2⟩
            · exact absurd q hc28
          have hfb : ((0 : Nat) = 1 ∧ 3 ≤ wl.length ∧ wS (g 0) wl (wl.length - 2) zSt) ∨ ((0 : Nat) = 0 ∧ ¬ (3 ≤ wl.length ∧ wS (g 0) wl (wl.length - 2) zSt)) := by
            rcases hio with ⟨q, q2⟩ | ⟨q, q2⟩
            · exact absurd (q.symm.trans hc174) (by decide)
            · exact Or.inr ⟨rfl, q2⟩
          have hrq := rq_iff hfa hfb
          refine lv_aload_n hx hb xd_Sh_acceptRequired_76 rfl (lv_at hl 3 rfl) ?_
          refine lv_aload_n hx hb xd_Sh_acceptRequired_77 rfl (lv_at hl 3 rfl) ?_
          refine px_get (D := D) (ci := 1) (v := .int (nI (wl.length))) (C := xR_Li) (T := xT_Li) (N := 5) hx hb hT xi_Li hown hK.1 hP m_6 c_5 rfl 4 (by decide) (hT _ k5h_0) (fun _ h9 => h9) rfl xd_Sh_acceptRequired_78 ?_
          refine lv_iconst (v := 1) hx hb xd_Sh_acceptRequired_81 (by decide) ?_
          refine lv_isub hx hb xd_Sh_acceptRequired_82 ?_
          refine xn_top (y := nI (wl.length - 1)) (pk_sub (a := wl.length) (b := 1) (by omega)) ?_
          have hFc := px_free hD hS hA
          refine va_calli (va_runV (As := [.int (nI (wl.length - 1))]) (rest := []) ⟨hx, hb, hml, hown, hT⟩ (xc_Li_nameAtX l D kA H.size ad E RL g ml nd len lt wl cs (wl.length - 1) (by first | assumption | omega) (by first | assumption | omega) (by first | assumption | omega)) (cwV 1 hT (wT_V k5h_2 k5h_3 k5h_4 k5h_5 k5h_1) rfl rfl rfl (by decide +kernel) ⟨Nat.le_of_ble_eq_true rfl, Nat.le_of_ble_eq_true rfl⟩) (px_preV hK hP hD m_6 c_5 rfl) rfl rfl hl.1 rfl (lv_room (Nat.le_of_ble_eq_true rfl)) xd_Sh_acceptRequired_83 ⟨(Nat.le_of_ble_eq_true rfl), (Nat.le_of_ble_eq_true rfl)⟩) hS (fun q _ h => hFc q h) hFc (fun r175 u176 t H1 locs ht hvm hp177 hB hz1 hk1 hS => ?_)
          obtain ⟨hP1, hD1⟩ := hB
          rw [ht] at hP1
          have hD1 := hD1.weaken (fun _ _ _ h => hFc _ h)
          generalize H1 = H at hP1 hS ⊢
          have hP := hP1
          have hD := hD1
          have hP : va_P D xcl (rp ad E RL) H := hP
          have hD : va_D A (rp ad E RL) := hD
          have hp177 : r175 = wN (g 0) wl (wl.length - 1) := hp177
          subst hp177
          have hP : va_P D xcl (rp ad E RL) H := hP
          have hD : va_D A (rp ad E RL) := hD
          refine lv_istore hx hb xd_Sh_acceptRequired_86 hl (Nat.le_of_ble_eq_true rfl) rfl (fun ls hl => ?_)
          have hl : lv_has ls 7 [(5, .int (wN (g 0) wl (wl.length - 1))), (4, .int (nI 3)), (3, .int io9), (2, .int it9), (1, .ref (ad 0 1)), (0, .ref (ad 0 5))] := hl
          refine lv_aload_n hx hb xd_Sh_acceptRequired_88 rfl (lv_at hl 4 rfl) ?_
          refine px_get (D := D) (ci := 1) (v := .int (nI (wl.length))) (C := xR_Li) (T := xT_Li) (N := 5) hx hb hT xi_Li hown hK.1 hP m_6 c_5 rfl 4 (by decide) (hT _ k5h_0) (fun _ h9 => h9) rfl xd_Sh_acceptRequired_89 ?_
          refine lv_iload hx hb xd_Sh_acceptRequired_92 (lv_at hl 1 rfl) ?_
          refine xn_ne (a := wl.length) (b := 3) (tgt := 102) hx hb xd_Sh_acceptRequired_94 (by decide) (by omega) (by omega) (fun hc178 => ?_) (fun hc178 => ?_)
          · refine lv_iconst (v := (-1)) hx hb xd_Sh_acceptRequired_102 (by decide) ?_
            refine W.widen (k := 0) (n := 0) (Nat.le_of_ble_eq_true rfl) (Nat.le_of_ble_eq_true rfl) ?_
            exact W.iret (v := (-1)) hx hb hr (fun t ht hW => ⟨⟨(-1), (ad, E, RL), rfl, ⟨hCI, by rw [← lR_no (fun q => absurd (hrq.1.mp q.1) (by omega))]; exact hTD, rfl, FRL_rf⟩, by rw [ht]; exact hP, hD⟩, hS.F ht⟩) hS.2.2 xd_Sh_acceptRequired_103
          · refine lv_iload hx hb xd_Sh_acceptRequired_97 (lv_at hl 0 rfl) ?_
            refine lv_if_ne (tgt := 104) hx hb xd_Sh_acceptRequired_99 (by decide) (fun hc179 => ?_) (fun hc179 => ?_)
            · obtain ⟨hrT, hrO, hrB⟩ := hrq.2 (by omega)
              have hitb : it9 = bI (rqT (g 0) wl) := by
                rcases hit with ⟨q, _⟩ | ⟨q, _⟩
                · rw [q]; exact bI_1 (hrT.mpr rfl)
                · exact absurd q hc28
              have hiob : io9 = bI (rqO (g 0) wl) := by rw [hc174]; exact bI_0 (fun q => absurd (hrO.mp q) (by decide))
              have hnB : wN (g 0) wl (wl.length - 1) = wN (g 0) wl (rqB (g 0) wl) := by rw [hrB]
              refine lv_aload_n hx hb xd_Sh_acceptRequired_104 rfl (lv_at hl 5 rfl) ?_
              have hFc := px_free hD hS hA
              refine va_callq (va_runV (As := []) (rest := []) ⟨hx, hb, hml, hown, hT⟩ (xc_Sh_latestX l D kA H.size ad E RL ml nd len wl.length cs (by first | assumption | omega)) (cwV 0 hT (wT_V k5h_7 k5h_8 k5h_9 k5h_10 k5h_6) rfl rfl rfl (by decide +kernel) ⟨Nat.le_of_ble_eq_true rfl, Nat.le_of_ble_eq_true rfl⟩) (px_preV hK hP hD m_15 c_14 rfl) rfl rfl hl.1 rfl (lv_room (Nat.le_of_ble_eq_true rfl)) xd_Sh_acceptRequired_105 ⟨(Nat.le_of_ble_eq_true rfl), (Nat.le_of_ble_eq_true rfl)⟩) hS (fun q _ h => hFc q h) hFc (fun r180 u181 t H1 locs ht hvm hp182 hB hz1 hk1 hS => ?_)
              obtain ⟨hP1, hD1⟩ := hB
              rw [ht] at hP1
              have hD1 := hD1.weaken (fun _ _ _ h => hFc _ h)
              generalize H1 = H at hP1 hS ⊢
              have hP := hP1
              have hD := hD1
              have hP : va_P D xcl (rp ad E RL) H := hP
              have hD : va_D A (rp ad E RL) := hD
              rcases hp182 with ⟨rfl, z183⟩ | ⟨z184, rfl⟩
              · refine W.eq (g2 := F0 m 108 ls [.null]) rfl ?_
                refine lv_astoreN hx hb xd_Sh_acceptRequired_108 hl (Nat.le_of_ble_eq_true rfl) rfl (fun ls hl => ?_)
                have hl : lv_has ls 7 [(6, .null), (5, .int (wN (g 0) wl (wl.length - 1))), (4, .int (nI 3)), (3, .int io9), (2, .int it9), (1, .ref (ad 0 1)), (0, .ref (ad 0 5))] := hl
                refine lv_aloadN hx hb xd_Sh_acceptRequired_110 (lv_at hl 0 rfl) ?_
                refine lv_ifnonnullN hx hb xd_Sh_acceptRequired_112 ?_
                refine lv_bipush (v := (-2)) hx hb xd_Sh_acceptRequired_115 (by decide) ?_
                refine W.widen (k := 0) (n := 0) (Nat.le_of_ble_eq_true rfl) (Nat.le_of_ble_eq_true rfl) ?_
                exact W.iret (v := (-2)) hx hb hr (fun t ht hW => ⟨⟨(-2), (ad, E, RL), rfl, ⟨hCI, by rw [← lR_no (fun q => absurd q.2.2.1 (by omega))]; exact hTD, rfl, FRL_rf⟩, by rw [ht]; exact hP, hD⟩, hS.F ht⟩) hS.2.2 xd_Sh_acceptRequired_117
              · refine W.eq (g2 := F0 m 108 ls [.ref (ad (1 + (nd - 1)) 0)]) rfl ?_
                refine lv_astore hx hb xd_Sh_acceptRequired_108 hl (Nat.le_of_ble_eq_true rfl) rfl (fun ls hl => ?_)
                have hl : lv_has ls 7 [(6, .ref (ad (1 + (nd - 1)) 0)), (5, .int (wN (g 0) wl (wl.length - 1))), (4, .int (nI 3)), (3, .int io9), (2, .int it9), (1, .ref (ad 0 1)), (0, .ref (ad 0 5))] := hl
                refine lv_aload hx hb xd_Sh_acceptRequired_110 (lv_at hl 0 rfl) ?_
                refine lv_ifnonnull (tgt := 118) hx hb xd_Sh_acceptRequired_112 (by decide) ?_
                refine lv_aload hx hb xd_Sh_acceptRequired_118 (lv_at hl 0 rfl) ?_
                obtain ⟨hm_185, fd_185, nm_185, sd_185, k0_185, k1_185, k2_185, k3_185, f0_185, f1_185, f2_185, f3_185, fe_185, fo_185, tr_185, op_185, hk0_185, hk1_185, hk2_185, hk3_185, q0_185, q1_185, q2_185, q3_185, q4_185, q5_185, q6_185, q7_185, q8_185, q9_185, q10_185, q11_185, q12_185, hg_185⟩ := id (hDIs (nd - 1) (by omega))
                have c_186 : E (1 + (nd - 1)) 0 = .inr (7, [.int (nI ((nd - 1))), .int fd_185, .int nm_185, .ref (ad (1 + (nd - 1)) 1), .ref (ad (1 + (nd - 1)) 9), .ref (ad (1 + (nd - 1)) 10), .ref (ad (1 + (nd - 1)) 2), .ref (ad (1 + (nd - 1)) 11), .ref (ad (1 + (nd - 1)) 12), .ref (ad (1 + (nd - 1)) 3), .ref (ad (1 + (nd - 1)) 4), .int sd_185]) := q0_185
                have m_187 : (1 + (nd - 1), 0) ∈ RL := hm_185 0 (by decide)
                have c_188 : E (1 + (nd - 1)) 1 = .inr (8, [.ref (ad (1 + (nd - 1)) 5), .int (nI k0_185)]) := q1_185
                have m_189 : (1 + (nd - 1), 1) ∈ RL := hm_185 1 (by decide)
                have c_190 : E (1 + (nd - 1)) 2 = .inr (8, [.ref (ad (1 + (nd - 1)) 6), .int (nI k1_185)]) := q2_185
                have m_191 : (1 + (nd - 1), 2) ∈ RL := hm_185 2 (by decide)
                have c_192 : E (1 + (nd - 1)) 3 = .inr (8, [.ref (ad (1 + (nd - 1)) 7), .int (nI k2_185)]) := q3_185
                have m_193 : (1 + (nd - 1), 3) ∈ RL := hm_185 3 (by decide)
                have c_194 : E (1 + (nd - 1)) 4 = .inr (8, [.ref (ad (1 + (nd - 1)) 8), .int (nI k3_185)]) := q4_185
                have m_195 : (1 + (nd - 1), 4) ∈ RL := hm_185 4 (by decide)
                have c_196 : E (1 + (nd - 1)) 5 = .inl (kA 0, 6, .inl f0_185) := q5_185
                have m_197 : (1 + (nd - 1), 5) ∈ RL := hm_185 5 (by decide)
                have c_198 : E (1 + (nd - 1)) 6 = .inl (kA 0, 5, .inl f1_185) := q6_185
                have m_199 : (1 + (nd - 1), 6) ∈ RL := hm_185 6 (by decide)
                have c_200 : E (1 + (nd - 1)) 7 = .inl (kA 0, 3, .inl f2_185) := q7_185
                have m_201 : (1 + (nd - 1), 7) ∈ RL := hm_185 7 (by decide)
                have c_202 : E (1 + (nd - 1)) 8 = .inl (kA 0, 3, .inl f3_185) := q8_185
                have m_203 : (1 + (nd - 1), 8) ∈ RL := hm_185 8 (by decide)
                have c_204 : E (1 + (nd - 1)) 9 = .inl (kA 8, 6, .inr (.inr (.inr (.inr fe_185)))) := q9_185
                have m_205 : (1 + (nd - 1), 9) ∈ RL := hm_185 9 (by decide)
                have c_206 : E (1 + (nd - 1)) 10 = .inl (kA 8, 6, .inr (.inr (.inr (.inr fo_185)))) := q10_185
                have m_207 : (1 + (nd - 1), 10) ∈ RL := hm_185 10 (by decide)
                have c_208 : E (1 + (nd - 1)) 11 = .inl (kA 2, 5, .inl tr_185) := q11_185
                have m_209 : (1 + (nd - 1), 11) ∈ RL := hm_185 11 (by decide)
                have c_210 : E (1 + (nd - 1)) 12 = .inl (kA 2, 5, .inl op_185) := q12_185
                have m_211 : (1 + (nd - 1), 12) ∈ RL := hm_185 12 (by decide)
                have hg_185 : ∀ w9, w9 < k0_185 → fe_185 w9 = some (ad (1 + (nd - 1)) (20 + 3 * w9)) ∧ fo_185 w9 = some (ad (1 + (nd - 1)) (38 + 3 * w9)) ∧ GI kA (ad (1 + (nd - 1))) (E (1 + (nd - 1))) (fun o => (1 + (nd - 1), o) ∈ RL) (20 + 3 * w9) (21 + 3 * w9) (22 + 3 * w9) ∧ GI kA (ad (1 + (nd - 1))) (E (1 + (nd - 1))) (fun o => (1 + (nd - 1), o) ∈ RL) (38 + 3 * w9) (39 + 3 * w9) (40 + 3 * w9) := hg_185
                obtain ⟨hTT_185, tgr_185⟩ := TD_get hk0_185 hk1_185 hk2_185 hk3_185 c_186 c_188 c_190 c_192 c_194 c_196 c_198 c_200 c_202 c_208 c_210 (hTD (nd - 1) (by omega))
                obtain ⟨tfd_185, tnm_185, tsd_185, tk0_185, tf0_185, tk1_185, tf1_185, tk2_185, tk3_185⟩ := id hTT_185
                have ik0_185 : iN (g 5 (nd - 1)) = k0_185 := by rw [← tk0_185, iN_nI (by omega)]
                have ik1_185 : iN (g 12 (nd - 1)) = k1_185 := by rw [← tk1_185, iN_nI (by omega)]
                refine px_get (D := D) (ci := 7) (v := .int nm_185) (C := xR_Ds) (T := xT_Ds) (N := 12) hx hb hT xi_Ds hown hK.1 hP m_187 c_186 rfl 2 (by decide) (hT _ k5h_11) (fun _ h9 => h9) rfl xd_Sh_acceptRequired_120 ?_
                refine lv_iload hx hb xd_Sh_acceptRequired_123 (lv_at hl 1 rfl) ?_
                refine lv_icmp_eq (tgt := 141) hx hb xd_Sh_acceptRequired_125 (by decide) (fun hc212 => ?_) (fun hc212 => ?_)
                · refine lv_iconst (v := (-1)) hx hb xd_Sh_acceptRequired_141 (by decide) ?_
                  refine W.widen (k := 0) (n := 0) (Nat.le_of_ble_eq_true rfl) (Nat.le_of_ble_eq_true rfl) ?_
                  exact W.iret (v := (-1)) hx hb hr (fun t ht hW => ⟨⟨(-1), (ad, E, RL), rfl, ⟨hCI, by rw [← lR_no (fun q => q.2.2.2.1 (tnm_185.symm.trans (hc212.trans hnB)))]; exact hTD, rfl, FRL_rf⟩, by rw [ht]; exact hP, hD⟩, hS.F ht⟩) hS.2.2 xd_Sh_acceptRequired_142
                · refine lv_aload hx hb xd_Sh_acceptRequired_128 (lv_at hl 0 rfl) ?_
                  refine px_get (D := D) (ci := 7) (v := .ref (ad (1 + (nd - 1)) 2)) (C := xR_Ds) (T := xT_Ds) (N := 12) hx hb hT xi_Ds hown hK.1 hP m_187 c_186 rfl 6 (by decide) (hT _ k5h_12) (fun _ h9 => h9) rfl xd_Sh_acceptRequired_130 ?_
                  refine lv_iload hx hb xd_Sh_acceptRequired_133 (lv_at hl 1 rfl) ?_
                  have hFc := px_free hD hS hA
                  refine va_calli (va_runV (As := [.int (wN (g 0) wl (wl.length - 1))]) (rest := []) ⟨hx, hb, hml, hown, hT⟩ (xc_Na_holds l D kA H.size ad E RL (1 + (nd - 1)) 2 6 5 k1_185 f1_185 (wN (g 0) wl (wl.length - 1)) m_191 c_190 m_199 c_198 (by first | assumption | omega) (by first | assumption | omega)) (cwV 1 hT (wT_V k5h_14 k5h_15 k5h_16 k5h_17 k5h_13) rfl rfl rfl (by decide +kernel) ⟨Nat.le_of_ble_eq_true rfl, Nat.le_of_ble_eq_true rfl⟩) (px_preV hK hP hD m_191 c_190 rfl) rfl rfl hl.1 rfl (lv_room (Nat.le_of_ble_eq_true rfl)) xd_Sh_acceptRequired_135 ⟨(Nat.le_of_ble_eq_true rfl), (Nat.le_of_ble_eq_true rfl)⟩) hS (fun q _ h => hFc q h) hFc (fun r213 u214 t H1 locs ht hvm hp215 hB hz1 hk1 hS => ?_)
                  obtain ⟨hP1, hD1⟩ := hB
                  rw [ht] at hP1
                  have hD1 := hD1.weaken (fun _ _ _ h => hFc _ h)
                  generalize H1 = H at hP1 hS ⊢
                  have hP := hP1
                  have hD := hD1
                  have hP : va_P D xcl (rp ad E RL) H := hP
                  have hD : va_D A (rp ad E RL) := hD
                  rcases hp215 with ⟨rfl, z216, z217, z218⟩ | ⟨rfl, z219⟩
                  · refine W.eq (g2 := F0 m 138 ls [.int 1]) rfl ?_
                    refine lv_if_eq (tgt := 143) hx hb xd_Sh_acceptRequired_138 (by decide) (fun hc220 => absurd hc220 (by decide)) (fun _ => ?_)
                    refine lv_iconst (v := (-1)) hx hb xd_Sh_acceptRequired_141 (by decide) ?_
                    refine W.widen (k := 0) (n := 0) (Nat.le_of_ble_eq_true rfl) (Nat.le_of_ble_eq_true rfl) ?_
                    exact W.iret (v := (-1)) hx hb hr (fun t ht hW => ⟨⟨(-1), (ad, E, RL), rfl, ⟨hCI, by rw [← lR_no (fun q => q.2.2.2.2.1 (5 * (nd - 1) + z216) (by omega) (by omega) ((tf1_185 _ z217).1.symm.trans (z218.trans hnB)))]; exact hTD, rfl, FRL_rf⟩, by rw [ht]; exact hP, hD⟩, hS.F ht⟩) hS.2.2 xd_Sh_acceptRequired_142
                  · refine W.eq (g2 := F0 m 138 ls [.int 0]) rfl ?_
                    refine lv_if_eq (tgt := 143) hx hb xd_Sh_acceptRequired_138 (by decide) (fun _ => ?_) (fun hc221 => absurd (by decide) hc221)
                    refine lv_aload hx hb xd_Sh_acceptRequired_143 (lv_at hl 0 rfl) ?_
                    refine px_get (D := D) (ci := 7) (v := .int sd_185) (C := xR_Ds) (T := xT_Ds) (N := 12) hx hb hT xi_Ds hown hK.1 hP m_187 c_186 rfl 11 (by decide) (hT _ k5h_18) (fun _ h9 => h9) rfl xd_Sh_acceptRequired_145 ?_
                    refine lv_if_ne (tgt := 162) hx hb xd_Sh_acceptRequired_148 (by decide) (fun hc222 => ?_) (fun hc222 => ?_)
                    · refine lv_bipush (v := (-2)) hx hb xd_Sh_acceptRequired_162 (by decide) ?_
                      refine W.widen (k := 0) (n := 0) (Nat.le_of_ble_eq_true rfl) (Nat.le_of_ble_eq_true rfl) ?_
                      exact W.iret (v := (-2)) hx hb hr (fun t ht hW => ⟨⟨(-2), (ad, E, RL), rfl, ⟨hCI, by rw [← lR_no (fun q => hc222 (by rw [tsd_185]; exact q.2.2.2.2.2.1))]; exact hTD, rfl, FRL_rf⟩, by rw [ht]; exact hP, hD⟩, hS.F ht⟩) hS.2.2 xd_Sh_acceptRequired_164
                    · refine lv_aload hx hb xd_Sh_acceptRequired_151 (lv_at hl 0 rfl) ?_
                      refine px_get (D := D) (ci := 7) (v := .ref (ad (1 + (nd - 1)) 2)) (C := xR_Ds) (T := xT_Ds) (N := 12) hx hb hT xi_Ds hown hK.1 hP m_187 c_186 rfl 6 (by decide) (hT _ k5h_12) (fun _ h9 => h9) rfl xd_Sh_acceptRequired_153 ?_
                      have hFc := px_free hD hS hA
                      refine va_calli (va_runV (As := []) (rest := []) ⟨hx, hb, hml, hown, hT⟩ (xc_Na_isFull l D kA H.size ad E RL (1 + (nd - 1)) 2 6 5 k1_185 f1_185 m_191 c_190 m_199 c_198 (by first | assumption | omega) (by first | assumption | omega)) (cwV 0 hT (wT_V k5h_20 k5h_21 k5h_22 k5h_17 k5h_19) rfl rfl rfl (by decide +kernel) ⟨Nat.le_of_ble_eq_true rfl, Nat.le_of_ble_eq_true rfl⟩) (px_preV hK hP hD m_191 c_190 rfl) rfl rfl hl.1 rfl (lv_room (Nat.le_of_ble_eq_true rfl)) xd_Sh_acceptRequired_156 ⟨(Nat.le_of_ble_eq_true rfl), (Nat.le_of_ble_eq_true rfl)⟩) hS (fun q _ h => hFc q h) hFc (fun r223 u224 t H1 locs ht hvm hp225 hB hz1 hk1 hS => ?_)
                      obtain ⟨hP1, hD1⟩ := hB
                      rw [ht] at hP1
                      have hD1 := hD1.weaken (fun _ _ _ h => hFc _ h)
                      generalize H1 = H at hP1 hS ⊢
                      have hP := hP1
                      have hD := hD1
                      have hP : va_P D xcl (rp ad E RL) H := hP
                      have hD : va_D A (rp ad E RL) := hD
                      rcases hp225 with ⟨rfl, z226⟩ | ⟨rfl, z227⟩
                      · refine W.eq (g2 := F0 m 159 ls [.int 1]) rfl ?_
                        refine lv_if_eq (tgt := 165) hx hb xd_Sh_acceptRequired_159 (by decide) (fun hc228 => absurd hc228 (by decide)) (fun _ => ?_)
                        refine lv_bipush (v := (-2)) hx hb xd_Sh_acceptRequired_162 (by decide) ?_
                        refine W.widen (k := 0) (n := 0) (Nat.le_of_ble_eq_true rfl) (Nat.le_of_ble_eq_true rfl) ?_
                        exact W.iret (v := (-2)) hx hb hr (fun t ht hW => ⟨⟨(-2), (ad, E, RL), rfl, ⟨hCI, by rw [← lR_no (fun q => absurd q.2.2.2.2.2.2 (by have := z226; omega))]; exact hTD, rfl, FRL_rf⟩, by rw [ht]; exact hP, hD⟩, hS.F ht⟩) hS.2.2 xd_Sh_acceptRequired_164
                      · refine W.eq (g2 := F0 m 159 ls [.int 0]) rfl ?_
                        refine lv_if_eq (tgt := 165) hx hb xd_Sh_acceptRequired_159 (by decide) (fun _ => ?_) (fun hc229 => absurd (by decide) hc229)
                        refine lv_aload hx hb xd_Sh_acceptRequired_165 (lv_at hl 0 rfl) ?_
                        refine lv_iload hx hb xd_Sh_acceptRequired_167 (lv_at hl 1 rfl) ?_
                        refine lv_iload_n hx hb xd_Sh_acceptRequired_169 rfl (lv_at hl 4 rfl) ?_
                        refine lv_iload_n hx hb xd_Sh_acceptRequired_170 rfl (lv_at hl 3 rfl) ?_
                        have hFc := px_free hD hS hA
                        refine va_callv (va_runV (As := [.int (wN (g 0) wl (wl.length - 1)), .int it9, .int io9]) (rest := []) ⟨hx, hb, hml, hown, hT⟩ (xc_Ds_addRequiredX l D kA H.size ad E RL g (nd - 1) (wN (g 0) wl (wl.length - 1)) it9 io9 (hDIs (nd - 1) (by omega)) (hTD (nd - 1) (by omega)) (by have := z227; omega)) (cwV 3 hT (wT_V k5h_24 k5h_25 k5h_26 k5h_27 k5h_23) rfl rfl rfl (by decide +kernel) ⟨Nat.le_of_ble_eq_true rfl, Nat.le_of_ble_eq_true rfl⟩) (px_preV hK hP hD m_187 c_186 rfl) rfl rfl hl.1 rfl (lv_room (Nat.le_of_ble_eq_true rfl)) xd_Sh_acceptRequired_171 ⟨(Nat.le_of_ble_eq_true rfl), (Nat.le_of_ble_eq_true rfl)⟩) hS (fun q _ h => hFc q h) hFc (fun u231 t H1 locs ht hvm hp232 hB hz1 hk1 hS => ?_)
                        obtain ⟨hP1, hD1⟩ := hB
                        rw [ht] at hP1
                        have hD1 := hD1.weaken (fun _ _ _ h => hFc _ h)
                        generalize H1 = H at hP1 hS ⊢
                        have hP := hP1
                        have hD := hD1
                        obtain ⟨E233, rfl⟩ : ∃ z, z = u231 := ⟨_, rfl⟩
                        obtain ⟨hp235, p_234⟩ := hp232
                        have p_234 : (∀ b2 o2, ¬ (b2 = 1 + (nd - 1)) → E233 b2 o2 = E b2 o2) := p_234
                        have nb_236 : ¬ (0 = 1 + (nd - 1)) := by omega
                        have c_237 : E233 0 0 = .inr (0, [.ref (ad 0 1), .ref (ad 0 5), .ref (ad 0 7), .ref (ad 0 9), .int (nI ml), .int lf_1]) := (p_234 0 0 nb_236).trans c_2
                        have c_238 : E233 0 1 = .inr (1, [.ref (ad 0 2), .ref (ad 0 3), .ref (ad 0 4), .int (nI len), .int (nI (wl.length))]) := (p_234 0 1 nb_236).trans c_5
                        have c_239 : E233 0 2 = .inl (kA 1, 40, .inl tx_4) := (p_234 0 2 nb_236).trans c_7
                        have c_240 : E233 0 3 = .inl (kA 0, 20, .inl fb_4) := (p_234 0 3 nb_236).trans c_9
                        have c_241 : E233 0 4 = .inl (kA 0, 20, .inl fe_4) := (p_234 0 4 nb_236).trans c_11
                        have c_242 : E233 0 5 = .inr (2, [.ref (ad 0 6), .int (nI nd)]) := (p_234 0 5 nb_236).trans c_14
                        have c_243 : E233 0 6 = .inl (kA 4, 12, .inr (.inr (.inr (.inr fd_13)))) := (p_234 0 6 nb_236).trans c_16
                        have c_244 : E233 0 7 = .inr (3, [.ref (ad 0 5), .ref (ad 0 8), .int (nI cs), .int cf_18, pv_18]) := (p_234 0 7 nb_236).trans c_19
                        have c_245 : E233 0 8 = .inl (kA 4, 12, .inr (.inr (.inr (.inr fc_18)))) := (p_234 0 8 nb_236).trans c_21
                        have c_246 : E233 0 9 = .inl (kA 5, 5, .inr (.inr (.inr (.inr fl_23)))) := (p_234 0 9 nb_236).trans c_24
                        have hP : va_P D xcl (rp ad E233 RL) H := hP
                        have hD : va_D A (rp ad E233 RL) := hD
                        obtain ⟨hDI9, hTD9⟩ := hp235
                        have hTD2 : TDs (rqU g (nd - 1) (wN (g 0) wl (wl.length - 1)) (vp_nar .boolean it9) (vp_nar .boolean io9)) E233 nd := TDs_upd (x := nd - 1) hDIs (fun d9 hd9 hx9 => fun2 fun o9 => by show E233 (1 + d9) o9 = _; rw [p_234 (1 + d9) o9 (by omega)]) (fun d9 hd9 hx9 => AG_R (by omega) hx9) hTD9 hTD
                        have hFRL : FRL ml nd ad ad E E233 := ⟨fun n9 hn9 => ⟨fun2 fun o9 => by show E233 (20 + n9) o9 = _; rw [p_234 (20 + n9) o9 (by omega)], fun2 fun o9 => rfl⟩, fun d9 hd9 => rfl, by show E233 0 0 = _; rw [p_234 0 0 (by omega)]⟩
                        have hCI : CI kA ad E233 RL ml nd len wl.length cs := ⟨hmB, ⟨lf_1, c_237⟩, ⟨tx_4, fb_4, fe_4, (by omega), (by omega), c_238, c_239, c_240, c_241, hws_4⟩, ⟨fd_13, (by omega), c_242, c_243, hds_13⟩, ⟨cf_18, pv_18, fc_18, (by omega), hpv_18, c_244, c_245, hfc_18⟩, ⟨fl_23, (by omega), c_246, hla_23⟩, (DIs_set (x := nd - 1) (fun d9 hd9 hx9 => fun2 fun o9 => by show E233 (1 + d9) o9 = _; rw [p_234 (1 + d9) o9 (by omega)]) (fun _ _ _ => rfl) (fun _ h => h) hDI9 hDIs), (LIs_same (Nat.le_refl _) (fun n9 hn9 => fun2 fun o9 => by show E233 (20 + n9) o9 = _; rw [p_234 (20 + n9) o9 (by omega)]) (fun _ _ => rfl) (fun _ _ => rfl) (fun _ h9 => h9) hLIs)⟩
                        obtain ⟨hmB, hDk, hLi, hSh, hCh, hLa, hDIs, hLIs⟩ := id hCI
                        refine lv_iconst (v := 2) hx hb xd_Sh_acceptRequired_174 (by decide) ?_
                        refine W.widen (k := 0) (n := 0) (Nat.le_of_ble_eq_true rfl) (Nat.le_of_ble_eq_true rfl) ?_
                        exact W.iret (v := 2) hx hb hr (fun t ht hW => ⟨⟨2, (ad, E233, RL), rfl, (by
        rw [lR_y hnB hitb hiob ⟨by rw [hrB]; omega, fun q => hc179 (hnB.trans q), by omega, fun q => hc212 (tnm_185.trans (q.trans hnB.symm)), fun j a9 b9 q => by
          have q2 := z219 (j - 5 * (nd - 1)) (by omega)
          rw [(tf1_185 _ (by omega)).1, show 5 * (nd - 1) + (j - 5 * (nd - 1)) = j by omega] at q2
          exact q2 (q.trans hnB.symm), by rw [← tsd_185]; exact hc222, by omega⟩]
        exact ⟨hCI, hTD2, rfl, hFRL⟩), by rw [ht]; exact hP, hD⟩, hS.F ht⟩) hS.2.2 xd_Sh_acceptRequired_175
            · refine lv_iconst (v := (-1)) hx hb xd_Sh_acceptRequired_102 (by decide) ?_
              refine W.widen (k := 0) (n := 0) (Nat.le_of_ble_eq_true rfl) (Nat.le_of_ble_eq_true rfl) ?_
              exact W.iret (v := (-1)) hx hb hr (fun t ht hW => ⟨⟨(-1), (ad, E, RL), rfl, ⟨hCI, by rw [← lR_no (fun q => q.2.1 (by rw [(hrq.2 (by omega)).2.2]; exact hc179))]; exact hTD, rfl, FRL_rf⟩, by rw [ht]; exact hP, hD⟩, hS.F ht⟩) hS.2.2 xd_Sh_acceptRequired_103
        · refine lv_iconst (v := 1) hx hb xd_Sh_acceptRequired_68 (by decide) ?_
          refine lv_goto (tgt := 73) hx hb xd_Sh_acceptRequired_69 (by decide) ?_
          refine lv_iadd hx hb xd_Sh_acceptRequired_73 ?_
          refine xn_top (y := nI (4)) (nI_add 3 1) ?_
          refine lv_istore hx hb xd_Sh_acceptRequired_74 hl (Nat.le_of_ble_eq_true rfl) rfl (fun ls hl => ?_)
          have hl : lv_has ls 7 [(4, .int (nI 4)), (3, .int io9), (2, .int it9), (1, .ref (ad 0 1)), (0, .ref (ad 0 5))] := hl
          have hfa : ((1 : Nat) = 1 ∧ 3 ≤ wl.length ∧ wS (g 0) wl 1 zTr) ∨ ((1 : Nat) = 0 ∧ ¬ (3 ≤ wl.length ∧ wS (g 0) wl 1 zTr)) := by
            rcases hit with ⟨q, q2⟩ | ⟨q, q2⟩
            · exact Or.inl ⟨rfl, q2⟩
            · exact absurd q hc28
          have hfb : ((1 : Nat) = 1 ∧ 3 ≤ wl.length ∧ wS (g 0) wl (wl.length - 2) zSt) ∨ ((1 : Nat) = 0 ∧ ¬ (3 ≤ wl.length ∧ wS (g 0) wl (wl.length - 2) zSt)) := by
            rcases hio with ⟨q, q2⟩ | ⟨q, q2⟩
            · exact Or.inl ⟨rfl, q2⟩
            · exact absurd q hc174
          have hrq := rq_iff hfa hfb
          refine lv_aload_n hx hb xd_Sh_acceptRequired_76 rfl (lv_at hl 3 rfl) ?_
          refine lv_aload_n hx hb xd_Sh_acceptRequired_77 rfl (lv_at hl 3 rfl) ?_
          refine px_get (D := D) (ci := 1) (v := .int (nI (wl.length))) (C := xR_Li) (T := xT_Li) (N := 5) hx hb hT xi_Li hown hK.1 hP m_6 c_5 rfl 4 (by decide) (hT _ k5h_0) (fun _ h9 => h9) rfl xd_Sh_acceptRequired_78 ?_
          refine lv_iconst (v := 1) hx hb xd_Sh_acceptRequired_81 (by decide) ?_
          refine lv_isub hx hb xd_Sh_acceptRequired_82 ?_
          refine xn_top (y := nI (wl.length - 1)) (pk_sub (a := wl.length) (b := 1) (by omega)) ?_
          have hFc := px_free hD hS hA
          refine va_calli (va_runV (As := [.int (nI (wl.length - 1))]) (rest := []) ⟨hx, hb, hml, hown, hT⟩ (xc_Li_nameAtX l D kA H.size ad E RL g ml nd len lt wl cs (wl.length - 1) (by first | assumption | omega) (by first | assumption | omega) (by first | assumption | omega)) (cwV 1 hT (wT_V k5h_2 k5h_3 k5h_4 k5h_5 k5h_1) rfl rfl rfl (by decide +kernel) ⟨Nat.le_of_ble_eq_true rfl, Nat.le_of_ble_eq_true rfl⟩) (px_preV hK hP hD m_6 c_5 rfl) rfl rfl hl.1 rfl (lv_room (Nat.le_of_ble_eq_true rfl)) xd_Sh_acceptRequired_83 ⟨(Nat.le_of_ble_eq_true rfl), (Nat.le_of_ble_eq_true rfl)⟩) hS (fun q _ h => hFc q h) hFc (fun r247 u248 t H1 locs ht hvm hp249 hB hz1 hk1 hS => ?_)
          obtain ⟨hP1, hD1⟩ := hB
          rw [ht] at hP1
          have hD1 := hD1.weaken (fun _ _ _ h => hFc _ h)
          generalize H1 = H at hP1 hS ⊢
          have hP := hP1
          have hD := hD1
          have hP : va_P D xcl (rp ad E RL) H := hP
          have hD : va_D A (rp ad E RL) := hD
          have hp249 : r247 = wN (g 0) wl (wl.length - 1) := hp249
          subst hp249
          have hP : va_P D xcl (rp ad E RL) H := hP
          have hD : va_D A (rp ad E RL) := hD
          refine lv_istore hx hb xd_Sh_acceptRequired_86 hl (Nat.le_of_ble_eq_true rfl) rfl (fun ls hl => ?_)
          have hl : lv_has ls 7 [(5, .int (wN (g 0) wl (wl.length - 1))), (4, .int (nI 4)), (3, .int io9), (2, .int it9), (1, .ref (ad 0 1)), (0, .ref (ad 0 5))] := hl
          refine lv_aload_n hx hb xd_Sh_acceptRequired_88 rfl (lv_at hl 4 rfl) ?_
          refine px_get (D := D) (ci := 1) (v := .int (nI (wl.length))) (C := xR_Li) (T := xT_Li) (N := 5) hx hb hT xi_Li hown hK.1 hP m_6 c_5 rfl 4 (by decide) (hT _ k5h_0) (fun _ h9 => h9) rfl xd_Sh_acceptRequired_89 ?_
          refine lv_iload hx hb xd_Sh_acceptRequired_92 (lv_at hl 1 rfl) ?_
          refine xn_ne (a := wl.length) (b := 4) (tgt := 102) hx hb xd_Sh_acceptRequired_94 (by decide) (by omega) (by omega) (fun hc250 => ?_) (fun hc250 => ?_)
          · refine lv_iconst (v := (-1)) hx hb xd_Sh_acceptRequired_102 (by decide) ?_
            refine W.widen (k := 0) (n := 0) (Nat.le_of_ble_eq_true rfl) (Nat.le_of_ble_eq_true rfl) ?_
            exact W.iret (v := (-1)) hx hb hr (fun t ht hW => ⟨⟨(-1), (ad, E, RL), rfl, ⟨hCI, by rw [← lR_no (fun q => absurd (hrq.1.mp q.1) (by omega))]; exact hTD, rfl, FRL_rf⟩, by rw [ht]; exact hP, hD⟩, hS.F ht⟩) hS.2.2 xd_Sh_acceptRequired_103
          · refine lv_iload hx hb xd_Sh_acceptRequired_97 (lv_at hl 0 rfl) ?_
            refine lv_if_ne (tgt := 104) hx hb xd_Sh_acceptRequired_99 (by decide) (fun hc251 => ?_) (fun hc251 => ?_)
            · obtain ⟨hrT, hrO, hrB⟩ := hrq.2 (by omega)
              have hitb : it9 = bI (rqT (g 0) wl) := by
                rcases hit with ⟨q, _⟩ | ⟨q, _⟩
                · rw [q]; exact bI_1 (hrT.mpr rfl)
                · exact absurd q hc28
              have hiob : io9 = bI (rqO (g 0) wl) := by
                rcases hio with ⟨q, _⟩ | ⟨q, _⟩
                · rw [q]; exact bI_1 (hrO.mpr rfl)
                · exact absurd q hc174
              have hnB : wN (g 0) wl (wl.length - 1) = wN (g 0) wl (rqB (g 0) wl) := by rw [hrB]
              refine lv_aload_n hx hb xd_Sh_acceptRequired_104 rfl (lv_at hl 5 rfl) ?_
              have hFc := px_free hD hS hA
              refine va_callq (va_runV (As := []) (rest := []) ⟨hx, hb, hml, hown, hT⟩ (xc_Sh_latestX l D kA H.size ad E RL ml nd len wl.length cs (by first | assumption | omega)) (cwV 0 hT (wT_V k5h_7 k5h_8 k5h_9 k5h_10 k5h_6) rfl rfl rfl (by decide +kernel) ⟨Nat.le_of_ble_eq_true rfl, Nat.le_of_ble_eq_true rfl⟩) (px_preV hK hP hD m_15 c_14 rfl) rfl rfl hl.1 rfl (lv_room (Nat.le_of_ble_eq_true rfl)) xd_Sh_acceptRequired_105 ⟨(Nat.le_of_ble_eq_true rfl), (Nat.le_of_ble_eq_true rfl)⟩) hS (fun q _ h => hFc q h) hFc (fun r252 u253 t H1 locs ht hvm hp254 hB hz1 hk1 hS => ?_)
              obtain ⟨hP1, hD1⟩ := hB
              rw [ht] at hP1
              have hD1 := hD1.weaken (fun _ _ _ h => hFc _ h)
              generalize H1 = H at hP1 hS ⊢
              have hP := hP1
              have hD := hD1
              have hP : va_P D xcl (rp ad E RL) H := hP
              have hD : va_D A (rp ad E RL) := hD
              rcases hp254 with ⟨rfl, z255⟩ | ⟨z256, rfl⟩
              · refine W.eq (g2 := F0 m 108 ls [.null]) rfl ?_
                refine lv_astoreN hx hb xd_Sh_acceptRequired_108 hl (Nat.le_of_ble_eq_true rfl) rfl (fun ls hl => ?_)
                have hl : lv_has ls 7 [(6, .null), (5, .int (wN (g 0) wl (wl.length - 1))), (4, .int (nI 4)), (3, .int io9), (2, .int it9), (1, .ref (ad 0 1)), (0, .ref (ad 0 5))] := hl
                refine lv_aloadN hx hb xd_Sh_acceptRequired_110 (lv_at hl 0 rfl) ?_
                refine lv_ifnonnullN hx hb xd_Sh_acceptRequired_112 ?_
                refine lv_bipush (v := (-2)) hx hb xd_Sh_acceptRequired_115 (by decide) ?_
                refine W.widen (k := 0) (n := 0) (Nat.le_of_ble_eq_true rfl) (Nat.le_of_ble_eq_true rfl) ?_
                exact W.iret (v := (-2)) hx hb hr (fun t ht hW => ⟨⟨(-2), (ad, E, RL), rfl, ⟨hCI, by rw [← lR_no (fun q => absurd q.2.2.1 (by omega))]; exact hTD, rfl, FRL_rf⟩, by rw [ht]; exact hP, hD⟩, hS.F ht⟩) hS.2.2 xd_Sh_acceptRequired_117
              · refine W.eq (g2 := F0 m 108 ls [.ref (ad (1 + (nd - 1)) 0)]) rfl ?_
                refine lv_astore hx hb xd_Sh_acceptRequired_108 hl (Nat.le_of_ble_eq_true rfl) rfl (fun ls hl => ?_)
                have hl : lv_has ls 7 [(6, .ref (ad (1 + (nd - 1)) 0)), (5, .int (wN (g 0) wl (wl.length - 1))), (4, .int (nI 4)), (3, .int io9), (2, .int it9), (1, .ref (ad 0 1)), (0, .ref (ad 0 5))] := hl
                refine lv_aload hx hb xd_Sh_acceptRequired_110 (lv_at hl 0 rfl) ?_
                refine lv_ifnonnull (tgt := 118) hx hb xd_Sh_acceptRequired_112 (by decide) ?_
                refine lv_aload hx hb xd_Sh_acceptRequired_118 (lv_at hl 0 rfl) ?_
                obtain ⟨hm_257, fd_257, nm_257, sd_257, k0_257, k1_257, k2_257, k3_257, f0_257, f1_257, f2_257, f3_257, fe_257, fo_257, tr_257, op_257, hk0_257, hk1_257, hk2_257, hk3_257, q0_257, q1_257, q2_257, q3_257, q4_257, q5_257, q6_257, q7_257, q8_257, q9_257, q10_257, q11_257, q12_257, hg_257⟩ := id (hDIs (nd - 1) (by omega))
                have c_258 : E (1 + (nd - 1)) 0 = .inr (7, [.int (nI ((nd - 1))), .int fd_257, .int nm_257, .ref (ad (1 + (nd - 1)) 1), .ref (ad (1 + (nd - 1)) 9), .ref (ad (1 + (nd - 1)) 10), .ref (ad (1 + (nd - 1)) 2), .ref (ad (1 + (nd - 1)) 11), .ref (ad (1 + (nd - 1)) 12), .ref (ad (1 + (nd - 1)) 3), .ref (ad (1 + (nd - 1)) 4), .int sd_257]) := q0_257
                have m_259 : (1 + (nd - 1), 0) ∈ RL := hm_257 0 (by decide)
                have c_260 : E (1 + (nd - 1)) 1 = .inr (8, [.ref (ad (1 + (nd - 1)) 5), .int (nI k0_257)]) := q1_257
                have m_261 : (1 + (nd - 1), 1) ∈ RL := hm_257 1 (by decide)
                have c_262 : E (1 + (nd - 1)) 2 = .inr (8, [.ref (ad (1 + (nd - 1)) 6), .int (nI k1_257)]) := q2_257
                have m_263 : (1 + (nd - 1), 2) ∈ RL := hm_257 2 (by decide)
                have c_264 : E (1 + (nd - 1)) 3 = .inr (8, [.ref (ad (1 + (nd - 1)) 7), .int (nI k2_257)]) := q3_257
                have m_265 : (1 + (nd - 1), 3) ∈ RL := hm_257 3 (by decide)
                have c_266 : E (1 + (nd - 1)) 4 = .inr (8, [.ref (ad (1 + (nd - 1)) 8), .int (nI k3_257)]) := q4_257
                have m_267 : (1 + (nd - 1), 4) ∈ RL := hm_257 4 (by decide)
                have c_268 : E (1 + (nd - 1)) 5 = .inl (kA 0, 6, .inl f0_257) := q5_257
                have m_269 : (1 + (nd - 1), 5) ∈ RL := hm_257 5 (by decide)
                have c_270 : E (1 + (nd - 1)) 6 = .inl (kA 0, 5, .inl f1_257) := q6_257
                have m_271 : (1 + (nd - 1), 6) ∈ RL := hm_257 6 (by decide)
                have c_272 : E (1 + (nd - 1)) 7 = .inl (kA 0, 3, .inl f2_257) := q7_257
                have m_273 : (1 + (nd - 1), 7) ∈ RL := hm_257 7 (by decide)
                have c_274 : E (1 + (nd - 1)) 8 = .inl (kA 0, 3, .inl f3_257) := q8_257
                have m_275 : (1 + (nd - 1), 8) ∈ RL := hm_257 8 (by decide)
                have c_276 : E (1 + (nd - 1)) 9 = .inl (kA 8, 6, .inr (.inr (.inr (.inr fe_257)))) := q9_257
                have m_277 : (1 + (nd - 1), 9) ∈ RL := hm_257 9 (by decide)
                have c_278 : E (1 + (nd - 1)) 10 = .inl (kA 8, 6, .inr (.inr (.inr (.inr fo_257)))) := q10_257
                have m_279 : (1 + (nd - 1), 10) ∈ RL := hm_257 10 (by decide)
                have c_280 : E (1 + (nd - 1)) 11 = .inl (kA 2, 5, .inl tr_257) := q11_257
                have m_281 : (1 + (nd - 1), 11) ∈ RL := hm_257 11 (by decide)
                have c_282 : E (1 + (nd - 1)) 12 = .inl (kA 2, 5, .inl op_257) := q12_257
                have m_283 : (1 + (nd - 1), 12) ∈ RL := hm_257 12 (by decide)
                have hg_257 : ∀ w9, w9 < k0_257 → fe_257 w9 = some (ad (1 + (nd - 1)) (20 + 3 * w9)) ∧ fo_257 w9 = some (ad (1 + (nd - 1)) (38 + 3 * w9)) ∧ GI kA (ad (1 + (nd - 1))) (E (1 + (nd - 1))) (fun o => (1 + (nd - 1), o) ∈ RL) (20 + 3 * w9) (21 + 3 * w9) (22 + 3 * w9) ∧ GI kA (ad (1 + (nd - 1))) (E (1 + (nd - 1))) (fun o => (1 + (nd - 1), o) ∈ RL) (38 + 3 * w9) (39 + 3 * w9) (40 + 3 * w9) := hg_257
                obtain ⟨hTT_257, tgr_257⟩ := TD_get hk0_257 hk1_257 hk2_257 hk3_257 c_258 c_260 c_262 c_264 c_266 c_268 c_270 c_272 c_274 c_280 c_282 (hTD (nd - 1) (by omega))
                obtain ⟨tfd_257, tnm_257, tsd_257, tk0_257, tf0_257, tk1_257, tf1_257, tk2_257, tk3_257⟩ := id hTT_257
                have ik0_257 : iN (g 5 (nd - 1)) = k0_257 := by rw [← tk0_257, iN_nI (by omega)]
                have ik1_257 : iN (g 12 (nd - 1)) = k1_257 := by rw [← tk1_257, iN_nI (by omega)]
                refine px_get (D := D) (ci := 7) (v := .int nm_257) (C := xR_Ds) (T := xT_Ds) (N := 12) hx hb hT xi_Ds hown hK.1 hP m_259 c_258 rfl 2 (by decide) (hT _ k5h_11) (fun _ h9 => h9) rfl xd_Sh_acceptRequired_120 ?_
                refine lv_iload hx hb xd_Sh_acceptRequired_123 (lv_at hl 1 rfl) ?_
                refine lv_icmp_eq (tgt := 141) hx hb xd_Sh_acceptRequired_125 (by decide) (fun hc284 => ?_) (fun hc284 => ?_)
                · refine lv_iconst (v := (-1)) hx hb xd_Sh_acceptRequired_141 (by decide) ?_
                  refine W.widen (k := 0) (n := 0) (Nat.le_of_ble_eq_true rfl) (Nat.le_of_ble_eq_true rfl) ?_
                  exact W.iret (v := (-1)) hx hb hr (fun t ht hW => ⟨⟨(-1), (ad, E, RL), rfl, ⟨hCI, by rw [← lR_no (fun q => q.2.2.2.1 (tnm_257.symm.trans (hc284.trans hnB)))]; exact hTD, rfl, FRL_rf⟩, by rw [ht]; exact hP, hD⟩, hS.F ht⟩) hS.2.2 xd_Sh_acceptRequired_142
                · refine lv_aload hx hb xd_Sh_acceptRequired_128 (lv_at hl 0 rfl) ?_
                  refine px_get (D := D) (ci := 7) (v := .ref (ad (1 + (nd - 1)) 2)) (C := xR_Ds) (T := xT_Ds) (N := 12) hx hb hT xi_Ds hown hK.1 hP m_259 c_258 rfl 6 (by decide) (hT _ k5h_12) (fun _ h9 => h9) rfl xd_Sh_acceptRequired_130 ?_
                  refine lv_iload hx hb xd_Sh_acceptRequired_133 (lv_at hl 1 rfl) ?_
                  have hFc := px_free hD hS hA
                  refine va_calli (va_runV (As := [.int (wN (g 0) wl (wl.length - 1))]) (rest := []) ⟨hx, hb, hml, hown, hT⟩ (xc_Na_holds l D kA H.size ad E RL (1 + (nd - 1)) 2 6 5 k1_257 f1_257 (wN (g 0) wl (wl.length - 1)) m_263 c_262 m_271 c_270 (by first | assumption | omega) (by first | assumption | omega)) (cwV 1 hT (wT_V k5h_14 k5h_15 k5h_16 k5h_17 k5h_13) rfl rfl rfl (by decide +kernel) ⟨Nat.le_of_ble_eq_true rfl, Nat.le_of_ble_eq_true rfl⟩) (px_preV hK hP hD m_263 c_262 rfl) rfl rfl hl.1 rfl (lv_room (Nat.le_of_ble_eq_true rfl)) xd_Sh_acceptRequired_135 ⟨(Nat.le_of_ble_eq_true rfl), (Nat.le_of_ble_eq_true rfl)⟩) hS (fun q _ h => hFc q h) hFc (fun r285 u286 t H1 locs ht hvm hp287 hB hz1 hk1 hS => ?_)
                  obtain ⟨hP1, hD1⟩ := hB
                  rw [ht] at hP1
                  have hD1 := hD1.weaken (fun _ _ _ h => hFc _ h)
                  generalize H1 = H at hP1 hS ⊢
                  have hP := hP1
                  have hD := hD1
                  have hP : va_P D xcl (rp ad E RL) H := hP
                  have hD : va_D A (rp ad E RL) := hD
                  rcases hp287 with ⟨rfl, z288, z289, z290⟩ | ⟨rfl, z291⟩
                  · refine W.eq (g2 := F0 m 138 ls [.int 1]) rfl ?_
                    refine lv_if_eq (tgt := 143) hx hb xd_Sh_acceptRequired_138 (by decide) (fun hc292 => absurd hc292 (by decide)) (fun _ => ?_)
                    refine lv_iconst (v := (-1)) hx hb xd_Sh_acceptRequired_141 (by decide) ?_
                    refine W.widen (k := 0) (n := 0) (Nat.le_of_ble_eq_true rfl) (Nat.le_of_ble_eq_true rfl) ?_
                    exact W.iret (v := (-1)) hx hb hr (fun t ht hW => ⟨⟨(-1), (ad, E, RL), rfl, ⟨hCI, by rw [← lR_no (fun q => q.2.2.2.2.1 (5 * (nd - 1) + z288) (by omega) (by omega) ((tf1_257 _ z289).1.symm.trans (z290.trans hnB)))]; exact hTD, rfl, FRL_rf⟩, by rw [ht]; exact hP, hD⟩, hS.F ht⟩) hS.2.2 xd_Sh_acceptRequired_142
                  · refine W.eq (g2 := F0 m 138 ls [.int 0]) rfl ?_
                    refine lv_if_eq (tgt := 143) hx hb xd_Sh_acceptRequired_138 (by decide) (fun _ => ?_) (fun hc293 => absurd (by decide) hc293)
                    refine lv_aload hx hb xd_Sh_acceptRequired_143 (lv_at hl 0 rfl) ?_
                    refine px_get (D := D) (ci := 7) (v := .int sd_257) (C := xR_Ds) (T := xT_Ds) (N := 12) hx hb hT xi_Ds hown hK.1 hP m_259 c_258 rfl 11 (by decide) (hT _ k5h_18) (fun _ h9 => h9) rfl xd_Sh_acceptRequired_145 ?_
                    refine lv_if_ne (tgt := 162) hx hb xd_Sh_acceptRequired_148 (by decide) (fun hc294 => ?_) (fun hc294 => ?_)
                    · refine lv_bipush (v := (-2)) hx hb xd_Sh_acceptRequired_162 (by decide) ?_
                      refine W.widen (k := 0) (n := 0) (Nat.le_of_ble_eq_true rfl) (Nat.le_of_ble_eq_true rfl) ?_
                      exact W.iret (v := (-2)) hx hb hr (fun t ht hW => ⟨⟨(-2), (ad, E, RL), rfl, ⟨hCI, by rw [← lR_no (fun q => hc294 (by rw [tsd_257]; exact q.2.2.2.2.2.1))]; exact hTD, rfl, FRL_rf⟩, by rw [ht]; exact hP, hD⟩, hS.F ht⟩) hS.2.2 xd_Sh_acceptRequired_164
                    · refine lv_aload hx hb xd_Sh_acceptRequired_151 (lv_at hl 0 rfl) ?_
                      refine px_get (D := D) (ci := 7) (v := .ref (ad (1 + (nd - 1)) 2)) (C := xR_Ds) (T := xT_Ds) (N := 12) hx hb hT xi_Ds hown hK.1 hP m_259 c_258 rfl 6 (by decide) (hT _ k5h_12) (fun _ h9 => h9) rfl xd_Sh_acceptRequired_153 ?_
                      have hFc := px_free hD hS hA
                      refine va_calli (va_runV (As := []) (rest := []) ⟨hx, hb, hml, hown, hT⟩ (xc_Na_isFull l D kA H.size ad E RL (1 + (nd - 1)) 2 6 5 k1_257 f1_257 m_263 c_262 m_271 c_270 (by first | assumption | omega) (by first | assumption | omega)) (cwV 0 hT (wT_V k5h_20 k5h_21 k5h_22 k5h_17 k5h_19) rfl rfl rfl (by decide +kernel) ⟨Nat.le_of_ble_eq_true rfl, Nat.le_of_ble_eq_true rfl⟩) (px_preV hK hP hD m_263 c_262 rfl) rfl rfl hl.1 rfl (lv_room (Nat.le_of_ble_eq_true rfl)) xd_Sh_acceptRequired_156 ⟨(Nat.le_of_ble_eq_true rfl), (Nat.le_of_ble_eq_true rfl)⟩) hS (fun q _ h => hFc q h) hFc (fun r295 u296 t H1 locs ht hvm hp297 hB hz1 hk1 hS => ?_)
                      obtain ⟨hP1, hD1⟩ := hB
                      rw [ht] at hP1
                      have hD1 := hD1.weaken (fun _ _ _ h => hFc _ h)
                      generalize H1 = H at hP1 hS ⊢
                      have hP := hP1
                      have hD := hD1
                      have hP : va_P D xcl (rp ad E RL) H := hP
                      have hD : va_D A (rp ad E RL) := hD
                      rcases hp297 with ⟨rfl, z298⟩ | ⟨rfl, z299⟩
                      · refine W.eq (g2 := F0 m 159 ls [.int 1]) rfl ?_
                        refine lv_if_eq (tgt := 165) hx hb xd_Sh_acceptRequired_159 (by decide) (fun hc300 => absurd hc300 (by decide)) (fun _ => ?_)
                        refine lv_bipush (v := (-2)) hx hb xd_Sh_acceptRequired_162 (by decide) ?_
                        refine W.widen (k := 0) (n := 0) (Nat.le_of_ble_eq_true rfl) (Nat.le_of_ble_eq_true rfl) ?_
                        exact W.iret (v := (-2)) hx hb hr (fun t ht hW => ⟨⟨(-2), (ad, E, RL), rfl, ⟨hCI, by rw [← lR_no (fun q => absurd q.2.2.2.2.2.2 (by have := z298; omega))]; exact hTD, rfl, FRL_rf⟩, by rw [ht]; exact hP, hD⟩, hS.F ht⟩) hS.2.2 xd_Sh_acceptRequired_164
                      · refine W.eq (g2 := F0 m 159 ls [.int 0]) rfl ?_
                        refine lv_if_eq (tgt := 165) hx hb xd_Sh_acceptRequired_159 (by decide) (fun _ => ?_) (fun hc301 => absurd (by decide) hc301)
                        refine lv_aload hx hb xd_Sh_acceptRequired_165 (lv_at hl 0 rfl) ?_
                        refine lv_iload hx hb xd_Sh_acceptRequired_167 (lv_at hl 1 rfl) ?_
                        refine lv_iload_n hx hb xd_Sh_acceptRequired_169 rfl (lv_at hl 4 rfl) ?_
                        refine lv_iload_n hx hb xd_Sh_acceptRequired_170 rfl (lv_at hl 3 rfl) ?_
                        have hFc := px_free hD hS hA
                        refine va_callv (va_runV (As := [.int (wN (g 0) wl (wl.length - 1)), .int it9, .int io9]) (rest := []) ⟨hx, hb, hml, hown, hT⟩ (xc_Ds_addRequiredX l D kA H.size ad E RL g (nd - 1) (wN (g 0) wl (wl.length - 1)) it9 io9 (hDIs (nd - 1) (by omega)) (hTD (nd - 1) (by omega)) (by have := z299; omega)) (cwV 3 hT (wT_V k5h_24 k5h_25 k5h_26 k5h_27 k5h_23) rfl rfl rfl (by decide +kernel) ⟨Nat.le_of_ble_eq_true rfl, Nat.le_of_ble_eq_true rfl⟩) (px_preV hK hP hD m_259 c_258 rfl) rfl rfl hl.1 rfl (lv_room (Nat.le_of_ble_eq_true rfl)) xd_Sh_acceptRequired_171 ⟨(Nat.le_of_ble_eq_true rfl), (Nat.le_of_ble_eq_true rfl)⟩) hS (fun q _ h => hFc q h) hFc (fun u303 t H1 locs ht hvm hp304 hB hz1 hk1 hS => ?_)
                        obtain ⟨hP1, hD1⟩ := hB
                        rw [ht] at hP1
                        have hD1 := hD1.weaken (fun _ _ _ h => hFc _ h)
                        generalize H1 = H at hP1 hS ⊢
                        have hP := hP1
                        have hD := hD1
                        obtain ⟨E305, rfl⟩ : ∃ z, z = u303 := ⟨_, rfl⟩
                        obtain ⟨hp307, p_306⟩ := hp304
                        have p_306 : (∀ b2 o2, ¬ (b2 = 1 + (nd - 1)) → E305 b2 o2 = E b2 o2) := p_306
                        have nb_308 : ¬ (0 = 1 + (nd - 1)) := by omega
                        have c_309 : E305 0 0 = .inr (0, [.ref (ad 0 1), .ref (ad 0 5), .ref (ad 0 7), .ref (ad 0 9), .int (nI ml), .int lf_1]) := (p_306 0 0 nb_308).trans c_2
                        have c_310 : E305 0 1 = .inr (1, [.ref (ad 0 2), .ref (ad 0 3), .ref (ad 0 4), .int (nI len), .int (nI (wl.length))]) := (p_306 0 1 nb_308).trans c_5
                        have c_311 : E305 0 2 = .inl (kA 1, 40, .inl tx_4) := (p_306 0 2 nb_308).trans c_7
                        have c_312 : E305 0 3 = .inl (kA 0, 20, .inl fb_4) := (p_306 0 3 nb_308).trans c_9
                        have c_313 : E305 0 4 = .inl (kA 0, 20, .inl fe_4) := (p_306 0 4 nb_308).trans c_11
                        have c_314 : E305 0 5 = .inr (2, [.ref (ad 0 6), .int (nI nd)]) := (p_306 0 5 nb_308).trans c_14
                        have c_315 : E305 0 6 = .inl (kA 4, 12, .inr (.inr (.inr (.inr fd_13)))) := (p_306 0 6 nb_308).trans c_16
                        have c_316 : E305 0 7 = .inr (3, [.ref (ad 0 5), .ref (ad 0 8), .int (nI cs), .int cf_18, pv_18]) := (p_306 0 7 nb_308).trans c_19
                        have c_317 : E305 0 8 = .inl (kA 4, 12, .inr (.inr (.inr (.inr fc_18)))) := (p_306 0 8 nb_308).trans c_21
                        have c_318 : E305 0 9 = .inl (kA 5, 5, .inr (.inr (.inr (.inr fl_23)))) := (p_306 0 9 nb_308).trans c_24
                        have hP : va_P D xcl (rp ad E305 RL) H := hP
                        have hD : va_D A (rp ad E305 RL) := hD
                        obtain ⟨hDI9, hTD9⟩ := hp307
                        have hTD2 : TDs (rqU g (nd - 1) (wN (g 0) wl (wl.length - 1)) (vp_nar .boolean it9) (vp_nar .boolean io9)) E305 nd := TDs_upd (x := nd - 1) hDIs (fun d9 hd9 hx9 => fun2 fun o9 => by show E305 (1 + d9) o9 = _; rw [p_306 (1 + d9) o9 (by omega)]) (fun d9 hd9 hx9 => AG_R (by omega) hx9) hTD9 hTD
                        have hFRL : FRL ml nd ad ad E E305 := ⟨fun n9 hn9 => ⟨fun2 fun o9 => by show E305 (20 + n9) o9 = _; rw [p_306 (20 + n9) o9 (by omega)], fun2 fun o9 => rfl⟩, fun d9 hd9 => rfl, by show E305 0 0 = _; rw [p_306 0 0 (by omega)]⟩
                        have hCI : CI kA ad E305 RL ml nd len wl.length cs := ⟨hmB, ⟨lf_1, c_309⟩, ⟨tx_4, fb_4, fe_4, (by omega), (by omega), c_310, c_311, c_312, c_313, hws_4⟩, ⟨fd_13, (by omega), c_314, c_315, hds_13⟩, ⟨cf_18, pv_18, fc_18, (by omega), hpv_18, c_316, c_317, hfc_18⟩, ⟨fl_23, (by omega), c_318, hla_23⟩, (DIs_set (x := nd - 1) (fun d9 hd9 hx9 => fun2 fun o9 => by show E305 (1 + d9) o9 = _; rw [p_306 (1 + d9) o9 (by omega)]) (fun _ _ _ => rfl) (fun _ h => h) hDI9 hDIs), (LIs_same (Nat.le_refl _) (fun n9 hn9 => fun2 fun o9 => by show E305 (20 + n9) o9 = _; rw [p_306 (20 + n9) o9 (by omega)]) (fun _ _ => rfl) (fun _ _ => rfl) (fun _ h9 => h9) hLIs)⟩
                        obtain ⟨hmB, hDk, hLi, hSh, hCh, hLa, hDIs, hLIs⟩ := id hCI
                        refine lv_iconst (v := 2) hx hb xd_Sh_acceptRequired_174 (by decide) ?_
                        refine W.widen (k := 0) (n := 0) (Nat.le_of_ble_eq_true rfl) (Nat.le_of_ble_eq_true rfl) ?_
                        exact W.iret (v := 2) hx hb hr (fun t ht hW => ⟨⟨2, (ad, E305, RL), rfl, (by
        rw [lR_y hnB hitb hiob ⟨by rw [hrB]; omega, fun q => hc251 (hnB.trans q), by omega, fun q => hc284 (tnm_257.trans (q.trans hnB.symm)), fun j a9 b9 q => by
          have q2 := z291 (j - 5 * (nd - 1)) (by omega)
          rw [(tf1_257 _ (by omega)).1, show 5 * (nd - 1) + (j - 5 * (nd - 1)) = j by omega] at q2
          exact q2 (q.trans hnB.symm), by rw [← tsd_257]; exact hc294, by omega⟩]
        exact ⟨hCI, hTD2, rfl, hFRL⟩), by rw [ht]; exact hP, hD⟩, hS.F ht⟩) hS.2.2 xd_Sh_acceptRequired_175
            · refine lv_iconst (v := (-1)) hx hb xd_Sh_acceptRequired_102 (by decide) ?_
              refine W.widen (k := 0) (n := 0) (Nat.le_of_ble_eq_true rfl) (Nat.le_of_ble_eq_true rfl) ?_
              exact W.iret (v := (-1)) hx hb hr (fun t ht hW => ⟨⟨(-1), (ad, E, RL), rfl, ⟨hCI, by rw [← lR_no (fun q => q.2.1 (by rw [(hrq.2 (by omega)).2.2]; exact hc251))]; exact hTD, rfl, FRL_rf⟩, by rw [ht]; exact hP, hD⟩, hS.F ht⟩) hS.2.2 xd_Sh_acceptRequired_103
    refine lv_aload_n hx hb xd_Sh_acceptRequired_24 rfl (lv_at hl 1 rfl) ?_
    refine px_get (D := D) (ci := 1) (v := .int (nI (wl.length))) (C := xR_Li) (T := xT_Li) (N := 5) hx hb hT xi_Li hown hK.1 hP m_6 c_5 rfl 4 (by decide) (hT _ k5h_0) (fun _ h9 => h9) rfl xd_Sh_acceptRequired_25 ?_
    refine lv_iconst (v := 3) hx hb xd_Sh_acceptRequired_28 (by decide) ?_
    refine xn_lt (a := wl.length) (b := 3) (tgt := 51) hx hb xd_Sh_acceptRequired_29 (by decide) (by omega) (by omega) (fun hc319 => ?_) (fun hc319 => ?_)
    · refine lv_iconst (v := 0) hx hb xd_Sh_acceptRequired_51 (by decide) ?_
      exact jn27 0 _ _ _ (lv_sub hl [0, 1, 2] rfl) hP hD hS (show (0 = 1 ∧ 3 ≤ wl.length ∧ wS (g 0) wl (wl.length - 2) zSt) ∨ (0 = 0 ∧ ¬ (3 ≤ wl.length ∧ wS (g 0) wl (wl.length - 2) zSt)) from Or.inr ⟨rfl, fun q => absurd q.1 (by omega)⟩)
    · refine lv_aload_n hx hb xd_Sh_acceptRequired_32 rfl (lv_at hl 1 rfl) ?_
      refine lv_aload_n hx hb xd_Sh_acceptRequired_33 rfl (lv_at hl 1 rfl) ?_
      refine px_get (D := D) (ci := 1) (v := .int (nI (wl.length))) (C := xR_Li) (T := xT_Li) (N := 5) hx hb hT xi_Li hown hK.1 hP m_6 c_5 rfl 4 (by decide) (hT _ k5h_0) (fun _ h9 => h9) rfl xd_Sh_acceptRequired_34 ?_
      refine lv_iconst (v := 2) hx hb xd_Sh_acceptRequired_37 (by decide) ?_
      refine lv_isub hx hb xd_Sh_acceptRequired_38 ?_
      refine xn_top (y := nI (wl.length - 2)) (pk_sub (a := wl.length) (b := 2) (by omega)) ?_
      refine va_ldcS (q := Z.1 11) hx hb hown hZ.2.2.2.1.2.2.2.2.2.2.2.2.2.2.2.1 xd_Sh_acceptRequired_39 ?_
      have hFc := px_free hD hS hA
      refine va_calli (va_runV (As := [.int (nI (wl.length - 2)), .ref (Z.1 11)]) (rest := []) ⟨hx, hb, hml, hown, hT⟩ (xc_Li_wordIsX l D kA H.size ad E RL Z g ml nd len lt wl cs (wl.length - 2) 11 (by first | assumption | omega) (by first | assumption | omega) (by first | assumption | omega) (by first | assumption | omega)) (cwV 2 hT (wT_V k5h_29 k5h_30 k5h_31 k5h_5 k5h_28) rfl rfl rfl (by decide +kernel) ⟨Nat.le_of_ble_eq_true rfl, Nat.le_of_ble_eq_true rfl⟩) (px_preVZ hK hP hD m_6 c_5 rfl hFc (hZ.kept hS)) rfl rfl hl.1 rfl (lv_room (Nat.le_of_ble_eq_true rfl)) xd_Sh_acceptRequired_41 ⟨(Nat.le_of_ble_eq_true rfl), (Nat.le_of_ble_eq_true rfl)⟩) hS (fun q _ h => hFc q h) hFc (fun r320 u321 t H1 locs ht hvm hp322 hB hz1 hk1 hS => ?_)
      obtain ⟨hP1, hD1⟩ := hB
      rw [ht] at hP1
      have hD1 := hD1.weaken (fun _ _ _ h => hFc _ h)
      generalize H1 = H at hP1 hS ⊢
      have hP := hP1
      have hD := hD1
      have hP : va_P D xcl (rp ad E RL) H := hP
      have hD : va_D A (rp ad E RL) := hD
      rcases hp322 with ⟨rfl, z323⟩ | ⟨rfl, z324⟩
      · have hw11 : wS (g 0) wl (wl.length - 2) zSt := by have q := z323; rw [zw11] at q; exact q
        refine W.eq (g2 := F0 m 44 ls [.int 1]) rfl ?_
        refine lv_if_eq (tgt := 51) hx hb xd_Sh_acceptRequired_44 (by decide) (fun hc325 => absurd hc325 (by decide)) (fun _ => ?_)
        refine lv_iconst (v := 1) hx hb xd_Sh_acceptRequired_47 (by decide) ?_
        refine lv_goto (tgt := 52) hx hb xd_Sh_acceptRequired_48 (by decide) ?_
        exact jn27 1 _ _ _ (lv_sub hl [0, 1, 2] rfl) hP hD hS (show (1 = 1 ∧ 3 ≤ wl.length ∧ wS (g 0) wl (wl.length - 2) zSt) ∨ (1 = 0 ∧ ¬ (3 ≤ wl.length ∧ wS (g 0) wl (wl.length - 2) zSt)) from Or.inl ⟨rfl, by omega, hw11⟩)
      · have hw11 : ¬ wS (g 0) wl (wl.length - 2) zSt := by have q := z324; rw [zw11] at q; exact q
        refine W.eq (g2 := F0 m 44 ls [.int 0]) rfl ?_
        refine lv_if_eq (tgt := 51) hx hb xd_Sh_acceptRequired_44 (by decide) (fun _ => ?_) (fun hc326 => absurd (by decide) hc326)
        refine lv_iconst (v := 0) hx hb xd_Sh_acceptRequired_51 (by decide) ?_
        exact jn27 0 _ _ _ (lv_sub hl [0, 1, 2] rfl) hP hD hS (show (0 = 1 ∧ 3 ≤ wl.length ∧ wS (g 0) wl (wl.length - 2) zSt) ∨ (0 = 0 ∧ ¬ (3 ≤ wl.length ∧ wS (g 0) wl (wl.length - 2) zSt)) from Or.inr ⟨rfl, fun q => hw11 q.2⟩)
  refine lv_aload_n hx hb xd_Sh_acceptRequired_0 rfl (lv_at hl 1 rfl) ?_
  refine px_get (D := D) (ci := 1) (v := .int (nI (wl.length))) (C := xR_Li) (T := xT_Li) (N := 5) hx hb hT xi_Li hown hK.1 hP m_6 c_5 rfl 4 (by decide) (hT _ k5h_0) (fun _ h9 => h9) rfl xd_Sh_acceptRequired_1 ?_
  refine lv_iconst (v := 3) hx hb xd_Sh_acceptRequired_4 (by decide) ?_
  refine xn_lt (a := wl.length) (b := 3) (tgt := 22) hx hb xd_Sh_acceptRequired_5 (by decide) (by omega) (by omega) (fun hc327 => ?_) (fun hc327 => ?_)
  · refine lv_iconst (v := 0) hx hb xd_Sh_acceptRequired_22 (by decide) ?_
    exact jn26 0 _ _ _ (lv_sub hl [1, 0] rfl) hP hD hS (show (0 = 1 ∧ 3 ≤ wl.length ∧ wS (g 0) wl 1 zTr) ∨ (0 = 0 ∧ ¬ (3 ≤ wl.length ∧ wS (g 0) wl 1 zTr)) from Or.inr ⟨rfl, fun q => absurd q.1 (by omega)⟩)
  · refine lv_aload_n hx hb xd_Sh_acceptRequired_8 rfl (lv_at hl 1 rfl) ?_
    refine lv_iconst (v := 1) hx hb xd_Sh_acceptRequired_9 (by decide) ?_
    refine va_ldcS (q := Z.1 10) hx hb hown hZ.2.2.2.1.2.2.2.2.2.2.2.2.2.2.1 xd_Sh_acceptRequired_10 ?_
    have hFc := px_free hD hS hA
    refine va_calli (va_runV (As := [.int 1, .ref (Z.1 10)]) (rest := []) ⟨hx, hb, hml, hown, hT⟩ (xc_Li_wordIsX l D kA s.heap.size ad E RL Z g ml nd len lt wl cs 1 10 (by first | assumption | omega) (by first | assumption | omega) (by first | assumption | omega) (by first | assumption | omega)) (cwV 2 hT (wT_V k5h_29 k5h_30 k5h_31 k5h_5 k5h_28) rfl rfl rfl (by decide +kernel) ⟨Nat.le_of_ble_eq_true rfl, Nat.le_of_ble_eq_true rfl⟩) (px_preVZ hK hP hD m_6 c_5 rfl hFc (hZ.kept hS)) rfl rfl hl.1 rfl (lv_room (Nat.le_of_ble_eq_true rfl)) xd_Sh_acceptRequired_12 ⟨(Nat.le_of_ble_eq_true rfl), (Nat.le_of_ble_eq_true rfl)⟩) hS (fun q _ h => hFc q h) hFc (fun r328 u329 t H1 locs ht hvm hp330 hB hz1 hk1 hS => ?_)
    obtain ⟨hP1, hD1⟩ := hB
    rw [ht] at hP1
    have hD1 := hD1.weaken (fun _ _ _ h => hFc _ h)
    generalize H1 = H at hP1 hS ⊢
    have hP := hP1
    have hD := hD1
    have hP : va_P D xcl (rp ad E RL) H := hP
    have hD : va_D A (rp ad E RL) := hD
    rcases hp330 with ⟨rfl, z331⟩ | ⟨rfl, z332⟩
    · have hw10 : wS (g 0) wl 1 zTr := by have q := z331; rw [zw10] at q; exact q
      refine W.eq (g2 := F0 m 15 ls [.int 1]) rfl ?_
      refine lv_if_eq (tgt := 22) hx hb xd_Sh_acceptRequired_15 (by decide) (fun hc333 => absurd hc333 (by decide)) (fun _ => ?_)
      refine lv_iconst (v := 1) hx hb xd_Sh_acceptRequired_18 (by decide) ?_
      refine lv_goto (tgt := 23) hx hb xd_Sh_acceptRequired_19 (by decide) ?_
      exact jn26 1 _ _ _ (lv_sub hl [1, 0] rfl) hP hD hS (show (1 = 1 ∧ 3 ≤ wl.length ∧ wS (g 0) wl 1 zTr) ∨ (1 = 0 ∧ ¬ (3 ≤ wl.length ∧ wS (g 0) wl 1 zTr)) from Or.inl ⟨rfl, by omega, hw10⟩)
    · have hw10 : ¬ wS (g 0) wl 1 zTr := by have q := z332; rw [zw10] at q; exact q
      refine W.eq (g2 := F0 m 15 ls [.int 0]) rfl ?_
      refine lv_if_eq (tgt := 22) hx hb xd_Sh_acceptRequired_15 (by decide) (fun _ => ?_) (fun hc334 => absurd (by decide) hc334)
      refine lv_iconst (v := 0) hx hb xd_Sh_acceptRequired_22 (by decide) ?_
      exact jn26 0 _ _ _ (lv_sub hl [1, 0] rfl) hP hD hS (show (0 = 1 ∧ 3 ≤ wl.length ∧ wS (g 0) wl 1 zTr) ∨ (0 = 0 ∧ ¬ (3 ≤ wl.length ∧ wS (g 0) wl 1 zTr)) from Or.inr ⟨rfl, fun q => hw10 q.2⟩)
