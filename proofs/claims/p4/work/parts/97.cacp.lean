theorem k5f_0 : (Cond.code xy_Li_nameAt xb_Li_nameAt 4 (some .int)) ∈ wT := wT_t (List.mem_append_right _ (List.mem_append_left _ (List.mem_of_getElem? (i := 17) rfl))) rfl
theorem k5f_1 : (Cond.methodLink "LayerDesk$Shelf" 70 xy_Li_nameAt) ∈ wT := wT_t (List.mem_append_right _ (List.mem_append_left _ (List.mem_of_getElem? (i := 14) rfl))) rfl
theorem k5f_2 : (Cond.instanceMethod xy_Li_nameAt) ∈ wT := wT_t (List.mem_append_right _ (List.mem_append_left _ (List.mem_of_getElem? (i := 15) rfl))) rfl
theorem k5f_3 : (Cond.selects "LayerDesk$Line" xy_Li_nameAt xy_Li_nameAt) ∈ wT := wT_t (List.mem_append_right _ (List.mem_append_left _ (List.mem_of_getElem? (i := 16) rfl))) rfl
theorem k5f_4 : (Cond.initialized "LayerDesk$Line") ∈ wT := wT_t (List.mem_append_left _ (List.mem_of_getElem? (i := 2) rfl)) rfl
theorem k5f_5 : (Cond.fieldLink "LayerDesk$Shelf" 27 "LayerDesk$Line" "words" "I") ∈ wT := wT_t (List.mem_append_left _ (List.mem_of_getElem? (i := 41) rfl)) rfl
theorem k5f_6 : (Cond.code xy_Sh_latest xb_Sh_latest 1 (some (.object "LayerDesk$Descriptor"))) ∈ wT := wT_t (List.mem_append_right _ (List.mem_append_left _ (List.mem_of_getElem? (i := 119) rfl))) rfl
theorem k5f_7 : (Cond.methodLink "LayerDesk$Shelf" 81 xy_Sh_latest) ∈ wT := wT_t (List.mem_append_right _ (List.mem_append_left _ (List.mem_of_getElem? (i := 116) rfl))) rfl
theorem k5f_8 : (Cond.instanceMethod xy_Sh_latest) ∈ wT := wT_t (List.mem_append_right _ (List.mem_append_left _ (List.mem_of_getElem? (i := 118) rfl))) rfl
theorem k5f_9 : (Cond.selects "LayerDesk$Shelf" xy_Sh_latest xy_Sh_latest) ∈ wT := wT_s (q := (xy_Sh_latest, 2)) (by decide +kernel) rfl
theorem k5f_10 : (Cond.initialized "LayerDesk$Shelf") ∈ wT := wT_t (List.mem_append_left _ (List.mem_of_getElem? (i := 3) rfl)) rfl
theorem k5f_11 : (Cond.fieldLink "LayerDesk$Shelf" 85 "LayerDesk$Descriptor" "packages" "LLayerDesk$Names;") ∈ wT := wT_t (List.mem_append_right _ (List.mem_append_left _ (List.mem_of_getElem? (i := 62) rfl))) rfl
theorem k5f_12 : (Cond.code xy_Na_holds xb_Na_holds 2 (some .boolean)) ∈ wT := wT_t (List.mem_append_right _ (List.mem_append_left _ (List.mem_of_getElem? (i := 123) rfl))) rfl
theorem k5f_13 : (Cond.methodLink "LayerDesk$Shelf" 89 xy_Na_holds) ∈ wT := wT_t (List.mem_append_right _ (List.mem_append_left _ (List.mem_of_getElem? (i := 120) rfl))) rfl
theorem k5f_14 : (Cond.instanceMethod xy_Na_holds) ∈ wT := wT_t (List.mem_append_right _ (List.mem_append_left _ (List.mem_of_getElem? (i := 121) rfl))) rfl
theorem k5f_15 : (Cond.selects "LayerDesk$Names" xy_Na_holds xy_Na_holds) ∈ wT := wT_t (List.mem_append_right _ (List.mem_append_left _ (List.mem_of_getElem? (i := 122) rfl))) rfl
theorem k5f_16 : (Cond.initialized "LayerDesk$Names") ∈ wT := wT_t (List.mem_append_left _ (List.mem_of_getElem? (i := 11) rfl)) rfl
theorem k5f_17 : (Cond.fieldLink "LayerDesk$Shelf" 95 "LayerDesk$Descriptor" "settled" "Z") ∈ wT := wT_t (List.mem_append_right _ (List.mem_append_left _ (List.mem_of_getElem? (i := 83) rfl))) rfl
theorem k5f_18 : (Cond.code xy_Na_isFull xb_Na_isFull 1 (some .boolean)) ∈ wT := wT_t (List.mem_append_right _ (List.mem_append_left _ (List.mem_of_getElem? (i := 131) rfl))) rfl
theorem k5f_19 : (Cond.methodLink "LayerDesk$Shelf" 99 xy_Na_isFull) ∈ wT := wT_t (List.mem_append_right _ (List.mem_append_left _ (List.mem_of_getElem? (i := 128) rfl))) rfl
theorem k5f_20 : (Cond.instanceMethod xy_Na_isFull) ∈ wT := wT_t (List.mem_append_right _ (List.mem_append_left _ (List.mem_of_getElem? (i := 129) rfl))) rfl
theorem k5f_21 : (Cond.selects "LayerDesk$Names" xy_Na_isFull xy_Na_isFull) ∈ wT := wT_t (List.mem_append_right _ (List.mem_append_left _ (List.mem_of_getElem? (i := 130) rfl))) rfl
theorem k5f_22 : (Cond.code xy_Ds_addPackage xb_Ds_addPackage 2 none) ∈ wT := wT_t (List.mem_append_right _ (List.mem_append_left _ (List.mem_of_getElem? (i := 135) rfl))) rfl
theorem k5f_23 : (Cond.methodLink "LayerDesk$Shelf" 103 xy_Ds_addPackage) ∈ wT := wT_t (List.mem_append_right _ (List.mem_append_left _ (List.mem_of_getElem? (i := 132) rfl))) rfl
theorem k5f_24 : (Cond.instanceMethod xy_Ds_addPackage) ∈ wT := wT_t (List.mem_append_right _ (List.mem_append_left _ (List.mem_of_getElem? (i := 133) rfl))) rfl
theorem k5f_25 : (Cond.selects "LayerDesk$Descriptor" xy_Ds_addPackage xy_Ds_addPackage) ∈ wT := wT_t (List.mem_append_right _ (List.mem_append_left _ (List.mem_of_getElem? (i := 134) rfl))) rfl
theorem k5f_26 : (Cond.initialized "LayerDesk$Descriptor") ∈ wT := wT_t (List.mem_append_left _ (List.mem_of_getElem? (i := 10) rfl)) rfl
set_option maxHeartbeats 4000000 in
set_option maxRecDepth 100000 in
theorem xc_Sh_acceptPackageX (l : Launch) (D : va_G) (kA : Nat → ClassId) (sz : Nat) (ad : Nat → Nat → Nat) (E : Nat → Nat → va_E) (RL : List (Nat × Nat)) (Z : zT) (g : Nat → Nat → Int32) (ml : Nat) (nd : Nat) (len : Nat) (lt : Nat) (wl : List (Nat × Nat)) (cs : Nat) (hCI : CI kA ad E RL ml nd len wl.length cs) (hLW : LW g E lt wl) (hTD : TDs g E nd) (hZI : ZI g nd) : Met l xy_Sh_acceptPackage (.code xy_Sh_acceptPackage xb_Sh_acceptPackage 4 (some .int) :: wT) { frames := 4, cells := 6, slots := 20, locals := 76 } (va_Pc [.ref (ad 0 5), .ref (ad 0 1)] (xPreZ D kA sz (rp ad E RL) Z)) (va_Qi (fun (r : Int32) (u : (Nat → Nat → Nat) × (Nat → Nat → va_E) × List (Nat × Nat)) => CI kA u.1 u.2.1 u.2.2 ml nd len wl.length cs ∧ TDs (lP (g 0) wl nd g) u.2.1 nd ∧ u.1 0 0 = ad 0 0 ∧ FRL ml nd ad u.1 E u.2.1) (fun (u : (Nat → Nat → Nat) × (Nat → Nat → va_E) × List (Nat × Nat)) t => va_P D xcl (rp u.1 u.2.1 u.2.2) t.heap ∧ va_D (va_A (rp ad E RL) sz) (rp u.1 u.2.1 u.2.2)) (va_A (rp ad E RL) sz)) 6 20 (va_A (rp ad E RL) sz) := by
  refine Met.ofW (cc := xb_Sh_acceptPackage) (maxL := 4) (ret := (some .int)) (by decide) rfl ?_
  intro p e s m args below meth c s₁ B hml hv
  obtain ⟨rfl, ⟨hsz, hP, hK, hD0⟩, hZ⟩ := hv
  have hx := B.exec
  have hb := B.bytes
  have hr := B.returns
  have hT := x_hT B.pre
  have hown : s.vm.findClass xR_Sh = some m.cls := findClass_of_methodNamed B.named
  have hlocks := B.notSynchronized
  subst hsz
  have hD := hD0.self (sz := s.heap.size)
  generalize hAe : va_A (rp ad E RL) s.heap.size = A at hD hZ ⊢
  have hA : ∀ q : Nat, s.heap.size ≤ q → A q := fun q h => by rw [← hAe]; exact Or.inr h
  have hS : va_S A s.heap s.heap [] := va_S.rf
  have hl := lv_entry ([.ref (ad 0 5), .ref (ad 0 1)]) (n := 4) (Nat.le_of_ble_eq_true rfl)
  rw [lg_entry_eq]
  generalize (lg_sl ([.ref (ad 0 5), .ref (ad 0 1)]) ++ List.replicate (4 - (lg_sl ([.ref (ad 0 5), .ref (ad 0 1)])).length) Slot.unset).toArray = ls at hl ⊢
  have hl : lv_has ls 4 [(0, .ref (ad 0 5)), (1, .ref (ad 0 1))] := hl
  have hP : va_P D xcl (rp ad E RL) s.heap := hP
  obtain ⟨hmB, hDk, hLi, hSh, hCh, hLa, hDIs, hLIs⟩ := id hCI
  obtain ⟨hWL, hlt40, hLwd, hLtx⟩ := id hLW
  obtain ⟨lf_1, q_1⟩ := id (hDk)
  have c_2 : E 0 0 = .inr (0, [.ref (ad 0 1), .ref (ad 0 5), .ref (ad 0 7), .ref (ad 0 9), .int (nI ml), .int lf_1]) := q_1
  have m_3 : (0, 0) ∈ RL := hmB 0 (by omega)
  obtain ⟨tx_4, fb_4, fe_4, hl1_4, hw2_4, q1_4, q2_4, q3_4, q4_4, hws_4⟩ := id (hLi)
  have c_5 : E 0 1 = .inr (1, [.ref (ad 0 2), .ref (ad 0 3), .ref (ad 0 4), .int (nI len), .int (nI (wl.length))]) := q1_4
  have m_6 : (0, 1) ∈ RL := hmB 1 (by omega)
  have c_7 : E 0 2 = .inl (kA 1, 40, .inl tx_4) := q2_4
  have m_8 : (0, 2) ∈ RL := hmB 2 (by omega)
  have c_9 : E 0 3 = .inl (kA 0, 20, .inl fb_4) := q3_4
  have m_10 : (0, 3) ∈ RL := hmB 3 (by omega)
  have c_11 : E 0 4 = .inl (kA 0, 20, .inl fe_4) := q4_4
  have m_12 : (0, 4) ∈ RL := hmB 4 (by omega)
  obtain ⟨fd_13, hnd_13, q5_13, q6_13, hds_13⟩ := id (hSh)
  have c_14 : E 0 5 = .inr (2, [.ref (ad 0 6), .int (nI nd)]) := q5_13
  have m_15 : (0, 5) ∈ RL := hmB 5 (by omega)
  have c_16 : E 0 6 = .inl (kA 4, 12, .inr (.inr (.inr (.inr fd_13)))) := q6_13
  have m_17 : (0, 6) ∈ RL := hmB 6 (by omega)
  obtain ⟨cf_18, pv_18, fc_18, hcs_18, hpv_18, q7_18, q8_18, hfc_18⟩ := id (hCh)
  have c_19 : E 0 7 = .inr (3, [.ref (ad 0 5), .ref (ad 0 8), .int (nI cs), .int cf_18, pv_18]) := q7_18
  have m_20 : (0, 7) ∈ RL := hmB 7 (by omega)
  have c_21 : E 0 8 = .inl (kA 4, 12, .inr (.inr (.inr (.inr fc_18)))) := q8_18
  have m_22 : (0, 8) ∈ RL := hmB 8 (by omega)
  obtain ⟨fl_23, hml_23, q9_23, hla_23⟩ := id (hLa)
  have c_24 : E 0 9 = .inl (kA 5, 5, .inr (.inr (.inr (.inr fl_23)))) := q9_23
  have m_25 : (0, 9) ∈ RL := hmB 9 (by omega)
  obtain ⟨zw0, zw1, zw2, zw3, zw4, zw5, zw6, zw7, zw8, zw9, zw10, zw11⟩ := zW_all
  refine lv_aload_n hx hb xd_Sh_acceptPackage_0 rfl (lv_at hl 1 rfl) ?_
  refine lv_iconst (v := 1) hx hb xd_Sh_acceptPackage_1 (by decide) ?_
  have hFc := px_free hD hS hA
  refine va_calli (va_runV (As := [.int 1]) (rest := []) ⟨hx, hb, hml, hown, hT⟩ (xc_Li_nameAtX l D kA s.heap.size ad E RL g ml nd len lt wl cs 1 (by first | assumption | omega) (by first | assumption | omega) (by first | assumption | omega)) (cwV 1 hT (wT_V k5f_1 k5f_2 k5f_3 k5f_4 k5f_0) rfl rfl rfl (by decide +kernel) ⟨Nat.le_of_ble_eq_true rfl, Nat.le_of_ble_eq_true rfl⟩) (px_preV hK hP hD m_6 c_5 rfl) rfl rfl hl.1 rfl (lv_room (Nat.le_of_ble_eq_true rfl)) xd_Sh_acceptPackage_2 ⟨(Nat.le_of_ble_eq_true rfl), (Nat.le_of_ble_eq_true rfl)⟩) hS (fun q _ h => hFc q h) hFc (fun r26 u27 t H1 locs ht hvm hp28 hB hz1 hk1 hS => ?_)
  obtain ⟨hP1, hD1⟩ := hB
  rw [ht] at hP1
  have hD1 := hD1.weaken (fun _ _ _ h => hFc _ h)
  generalize H1 = H at hP1 hS ⊢
  have hP := hP1
  have hD := hD1
  have hP : va_P D xcl (rp ad E RL) H := hP
  have hD : va_D A (rp ad E RL) := hD
  have hp28 : r26 = wN (g 0) wl 1 := hp28
  subst hp28
  have hP : va_P D xcl (rp ad E RL) H := hP
  have hD : va_D A (rp ad E RL) := hD
  refine lv_istore_n hx hb xd_Sh_acceptPackage_5 rfl hl (Nat.le_of_ble_eq_true rfl) rfl (fun ls hl => ?_)
  have hl : lv_has ls 4 [(2, .int (wN (g 0) wl 1)), (0, .ref (ad 0 5)), (1, .ref (ad 0 1))] := hl
  refine lv_aload_n hx hb xd_Sh_acceptPackage_6 rfl (lv_at hl 2 rfl) ?_
  refine px_get (D := D) (ci := 1) (v := .int (nI (wl.length))) (C := xR_Li) (T := xT_Li) (N := 5) hx hb hT xi_Li hown hK.1 hP m_6 c_5 rfl 4 (by decide) (hT _ k5f_5) (fun _ h9 => h9) rfl xd_Sh_acceptPackage_7 ?_
  refine lv_iconst (v := 2) hx hb xd_Sh_acceptPackage_10 (by decide) ?_
  refine xn_ne (a := wl.length) (b := 2) (tgt := 18) hx hb xd_Sh_acceptPackage_11 (by decide) (by omega) (by omega) (fun hc29 => ?_) (fun hc29 => ?_)
  · refine lv_iconst (v := (-1)) hx hb xd_Sh_acceptPackage_18 (by decide) ?_
    refine W.widen (k := 6) (n := 20) (Nat.le_of_ble_eq_true rfl) (Nat.le_of_ble_eq_true rfl) ?_
    exact W.iret (v := (-1)) hx hb hr (fun t ht hW => ⟨⟨(-1), (ad, E, RL), rfl, ⟨hCI, by rw [← lP_no (fun q => absurd q.1 (by omega))]; exact hTD, rfl, FRL_rf⟩, by rw [ht]; exact hP, hD⟩, hS.F ht⟩) hS.2.2 xd_Sh_acceptPackage_19
  · refine lv_iload_n hx hb xd_Sh_acceptPackage_14 rfl (lv_at hl 0 rfl) ?_
    refine lv_if_ne (tgt := 20) hx hb xd_Sh_acceptPackage_15 (by decide) (fun hc30 => ?_) (fun hc30 => ?_)
    · refine lv_aload_n hx hb xd_Sh_acceptPackage_20 rfl (lv_at hl 1 rfl) ?_
      have hFc := px_free hD hS hA
      refine va_callq (va_runV (As := []) (rest := []) ⟨hx, hb, hml, hown, hT⟩ (xc_Sh_latestX l D kA H.size ad E RL ml nd len wl.length cs (by first | assumption | omega)) (cwV 0 hT (wT_V k5f_7 k5f_8 k5f_9 k5f_10 k5f_6) rfl rfl rfl (by decide +kernel) ⟨Nat.le_of_ble_eq_true rfl, Nat.le_of_ble_eq_true rfl⟩) (px_preV hK hP hD m_15 c_14 rfl) rfl rfl hl.1 rfl (lv_room (Nat.le_of_ble_eq_true rfl)) xd_Sh_acceptPackage_21 ⟨(Nat.le_of_ble_eq_true rfl), (Nat.le_of_ble_eq_true rfl)⟩) hS (fun q _ h => hFc q h) hFc (fun r31 u32 t H1 locs ht hvm hp33 hB hz1 hk1 hS => ?_)
      obtain ⟨hP1, hD1⟩ := hB
      rw [ht] at hP1
      have hD1 := hD1.weaken (fun _ _ _ h => hFc _ h)
      generalize H1 = H at hP1 hS ⊢
      have hP := hP1
      have hD := hD1
      have hP : va_P D xcl (rp ad E RL) H := hP
      have hD : va_D A (rp ad E RL) := hD
      rcases hp33 with ⟨rfl, z34⟩ | ⟨z35, rfl⟩
      · refine W.eq (g2 := F0 m 24 ls [.null]) rfl ?_
        refine lv_astore_nN hx hb xd_Sh_acceptPackage_24 rfl hl (Nat.le_of_ble_eq_true rfl) rfl (fun ls hl => ?_)
        have hl : lv_has ls 4 [(3, .null), (2, .int (wN (g 0) wl 1)), (0, .ref (ad 0 5)), (1, .ref (ad 0 1))] := hl
        refine lv_aload_nN hx hb xd_Sh_acceptPackage_25 rfl (lv_at hl 0 rfl) ?_
        refine lv_ifnonnullN hx hb xd_Sh_acceptPackage_26 ?_
        refine lv_bipush (v := (-2)) hx hb xd_Sh_acceptPackage_29 (by decide) ?_
        refine W.widen (k := 6) (n := 20) (Nat.le_of_ble_eq_true rfl) (Nat.le_of_ble_eq_true rfl) ?_
        exact W.iret (v := (-2)) hx hb hr (fun t ht hW => ⟨⟨(-2), (ad, E, RL), rfl, ⟨hCI, by rw [← lP_no (fun q => absurd q.2.2.1 (by omega))]; exact hTD, rfl, FRL_rf⟩, by rw [ht]; exact hP, hD⟩, hS.F ht⟩) hS.2.2 xd_Sh_acceptPackage_31
      · refine W.eq (g2 := F0 m 24 ls [.ref (ad (1 + (nd - 1)) 0)]) rfl ?_
        refine lv_astore_n hx hb xd_Sh_acceptPackage_24 rfl hl (Nat.le_of_ble_eq_true rfl) rfl (fun ls hl => ?_)
        have hl : lv_has ls 4 [(3, .ref (ad (1 + (nd - 1)) 0)), (2, .int (wN (g 0) wl 1)), (0, .ref (ad 0 5)), (1, .ref (ad 0 1))] := hl
        refine lv_aload_n hx hb xd_Sh_acceptPackage_25 rfl (lv_at hl 0 rfl) ?_
        refine lv_ifnonnull (tgt := 32) hx hb xd_Sh_acceptPackage_26 (by decide) ?_
        refine lv_aload_n hx hb xd_Sh_acceptPackage_32 rfl (lv_at hl 0 rfl) ?_
        obtain ⟨hm_36, fd_36, nm_36, sd_36, k0_36, k1_36, k2_36, k3_36, f0_36, f1_36, f2_36, f3_36, fe_36, fo_36, tr_36, op_36, hk0_36, hk1_36, hk2_36, hk3_36, q0_36, q1_36, q2_36, q3_36, q4_36, q5_36, q6_36, q7_36, q8_36, q9_36, q10_36, q11_36, q12_36, hg_36⟩ := id (hDIs (nd - 1) (by omega))
        have c_37 : E (1 + (nd - 1)) 0 = .inr (7, [.int (nI ((nd - 1))), .int fd_36, .int nm_36, .ref (ad (1 + (nd - 1)) 1), .ref (ad (1 + (nd - 1)) 9), .ref (ad (1 + (nd - 1)) 10), .ref (ad (1 + (nd - 1)) 2), .ref (ad (1 + (nd - 1)) 11), .ref (ad (1 + (nd - 1)) 12), .ref (ad (1 + (nd - 1)) 3), .ref (ad (1 + (nd - 1)) 4), .int sd_36]) := q0_36
        have m_38 : (1 + (nd - 1), 0) ∈ RL := hm_36 0 (by omega)
        have c_39 : E (1 + (nd - 1)) 1 = .inr (8, [.ref (ad (1 + (nd - 1)) 5), .int (nI k0_36)]) := q1_36
        have m_40 : (1 + (nd - 1), 1) ∈ RL := hm_36 1 (by omega)
        have c_41 : E (1 + (nd - 1)) 2 = .inr (8, [.ref (ad (1 + (nd - 1)) 6), .int (nI k1_36)]) := q2_36
        have m_42 : (1 + (nd - 1), 2) ∈ RL := hm_36 2 (by omega)
        have c_43 : E (1 + (nd - 1)) 3 = .inr (8, [.ref (ad (1 + (nd - 1)) 7), .int (nI k2_36)]) := q3_36
        have m_44 : (1 + (nd - 1), 3) ∈ RL := hm_36 3 (by omega)
        have c_45 : E (1 + (nd - 1)) 4 = .inr (8, [.ref (ad (1 + (nd - 1)) 8), .int (nI k3_36)]) := q4_36
        have m_46 : (1 + (nd - 1), 4) ∈ RL := hm_36 4 (by omega)
        have c_47 : E (1 + (nd - 1)) 5 = .inl (kA 0, 6, .inl f0_36) := q5_36
        have m_48 : (1 + (nd - 1), 5) ∈ RL := hm_36 5 (by omega)
        have c_49 : E (1 + (nd - 1)) 6 = .inl (kA 0, 5, .inl f1_36) := q6_36
        have m_50 : (1 + (nd - 1), 6) ∈ RL := hm_36 6 (by omega)
        have c_51 : E (1 + (nd - 1)) 7 = .inl (kA 0, 3, .inl f2_36) := q7_36
        have m_52 : (1 + (nd - 1), 7) ∈ RL := hm_36 7 (by omega)
        have c_53 : E (1 + (nd - 1)) 8 = .inl (kA 0, 3, .inl f3_36) := q8_36
        have m_54 : (1 + (nd - 1), 8) ∈ RL := hm_36 8 (by omega)
        have c_55 : E (1 + (nd - 1)) 9 = .inl (kA 8, 6, .inr (.inr (.inr (.inr fe_36)))) := q9_36
        have m_56 : (1 + (nd - 1), 9) ∈ RL := hm_36 9 (by omega)
        have c_57 : E (1 + (nd - 1)) 10 = .inl (kA 8, 6, .inr (.inr (.inr (.inr fo_36)))) := q10_36
        have m_58 : (1 + (nd - 1), 10) ∈ RL := hm_36 10 (by omega)
        have c_59 : E (1 + (nd - 1)) 11 = .inl (kA 2, 5, .inl tr_36) := q11_36
        have m_60 : (1 + (nd - 1), 11) ∈ RL := hm_36 11 (by omega)
        have c_61 : E (1 + (nd - 1)) 12 = .inl (kA 2, 5, .inl op_36) := q12_36
        have m_62 : (1 + (nd - 1), 12) ∈ RL := hm_36 12 (by omega)
        have hg_36 : ∀ w9, w9 < k0_36 → fe_36 w9 = some (ad (1 + (nd - 1)) (20 + 3 * w9)) ∧ fo_36 w9 = some (ad (1 + (nd - 1)) (38 + 3 * w9)) ∧ GI kA (ad (1 + (nd - 1))) (E (1 + (nd - 1))) (fun o => (1 + (nd - 1), o) ∈ RL) (20 + 3 * w9) (21 + 3 * w9) (22 + 3 * w9) ∧ GI kA (ad (1 + (nd - 1))) (E (1 + (nd - 1))) (fun o => (1 + (nd - 1), o) ∈ RL) (38 + 3 * w9) (39 + 3 * w9) (40 + 3 * w9) := hg_36
        obtain ⟨hTT_36, tgr_36⟩ := TD_get hk0_36 hk1_36 hk2_36 hk3_36 c_37 c_39 c_41 c_43 c_45 c_47 c_49 c_51 c_53 c_59 c_61 (hTD (nd - 1) (by omega))
        obtain ⟨tfd_36, tnm_36, tsd_36, tk0_36, tf0_36, tk1_36, tf1_36, tk2_36, tk3_36⟩ := id hTT_36
        have ik0_36 : iN (g 5 (nd - 1)) = k0_36 := by rw [← tk0_36, iN_nI (by omega)]
        have ik1_36 : iN (g 12 (nd - 1)) = k1_36 := by rw [← tk1_36, iN_nI (by omega)]
        refine px_get (D := D) (ci := 7) (v := .ref (ad (1 + (nd - 1)) 1)) (C := xR_Ds) (T := xT_Ds) (N := 12) hx hb hT xi_Ds hown hK.1 hP m_38 c_37 rfl 3 (by decide) (hT _ k5f_11) (fun _ h9 => h9) rfl xd_Sh_acceptPackage_33 ?_
        refine lv_iload_n hx hb xd_Sh_acceptPackage_36 rfl (lv_at hl 1 rfl) ?_
        have hFc := px_free hD hS hA
        refine va_calli (va_runV (As := [.int (wN (g 0) wl 1)]) (rest := []) ⟨hx, hb, hml, hown, hT⟩ (xc_Na_holds l D kA H.size ad E RL (1 + (nd - 1)) 1 5 6 k0_36 f0_36 (wN (g 0) wl 1) m_40 c_39 m_48 c_47 (by first | assumption | omega) (by first | assumption | omega)) (cwV 1 hT (wT_V k5f_13 k5f_14 k5f_15 k5f_16 k5f_12) rfl rfl rfl (by decide +kernel) ⟨Nat.le_of_ble_eq_true rfl, Nat.le_of_ble_eq_true rfl⟩) (px_preV hK hP hD m_40 c_39 rfl) rfl rfl hl.1 rfl (lv_room (Nat.le_of_ble_eq_true rfl)) xd_Sh_acceptPackage_37 ⟨(Nat.le_of_ble_eq_true rfl), (Nat.le_of_ble_eq_true rfl)⟩) hS (fun q _ h => hFc q h) hFc (fun r63 u64 t H1 locs ht hvm hp65 hB hz1 hk1 hS => ?_)
        obtain ⟨hP1, hD1⟩ := hB
        rw [ht] at hP1
        have hD1 := hD1.weaken (fun _ _ _ h => hFc _ h)
        generalize H1 = H at hP1 hS ⊢
        have hP := hP1
        have hD := hD1
        have hP : va_P D xcl (rp ad E RL) H := hP
        have hD : va_D A (rp ad E RL) := hD
        rcases hp65 with ⟨rfl, z66, z67, z68⟩ | ⟨rfl, z69⟩
        · refine W.eq (g2 := F0 m 40 ls [.int 1]) rfl ?_
          refine lv_if_eq (tgt := 45) hx hb xd_Sh_acceptPackage_40 (by decide) (fun hc70 => absurd hc70 (by decide)) (fun _ => ?_)
          refine lv_iconst (v := (-1)) hx hb xd_Sh_acceptPackage_43 (by decide) ?_
          refine W.widen (k := 6) (n := 20) (Nat.le_of_ble_eq_true rfl) (Nat.le_of_ble_eq_true rfl) ?_
          exact W.iret (v := (-1)) hx hb hr (fun t ht hW => ⟨⟨(-1), (ad, E, RL), rfl, ⟨hCI, by rw [← lP_no (fun q => q.2.2.2.1 (6 * (nd - 1) + z66) (by omega) (by omega) (by rw [← tf0_36 _ z67]; exact z68))]; exact hTD, rfl, FRL_rf⟩, by rw [ht]; exact hP, hD⟩, hS.F ht⟩) hS.2.2 xd_Sh_acceptPackage_44
        · refine W.eq (g2 := F0 m 40 ls [.int 0]) rfl ?_
          refine lv_if_eq (tgt := 45) hx hb xd_Sh_acceptPackage_40 (by decide) (fun _ => ?_) (fun hc71 => absurd (by decide) hc71)
          refine lv_aload_n hx hb xd_Sh_acceptPackage_45 rfl (lv_at hl 0 rfl) ?_
          refine px_get (D := D) (ci := 7) (v := .int sd_36) (C := xR_Ds) (T := xT_Ds) (N := 12) hx hb hT xi_Ds hown hK.1 hP m_38 c_37 rfl 11 (by decide) (hT _ k5f_17) (fun _ h9 => h9) rfl xd_Sh_acceptPackage_46 ?_
          refine lv_if_ne (tgt := 62) hx hb xd_Sh_acceptPackage_49 (by decide) (fun hc72 => ?_) (fun hc72 => ?_)
          · refine lv_bipush (v := (-2)) hx hb xd_Sh_acceptPackage_62 (by decide) ?_
            refine W.widen (k := 6) (n := 20) (Nat.le_of_ble_eq_true rfl) (Nat.le_of_ble_eq_true rfl) ?_
            exact W.iret (v := (-2)) hx hb hr (fun t ht hW => ⟨⟨(-2), (ad, E, RL), rfl, ⟨hCI, by rw [← lP_no (fun q => hc72 (by rw [tsd_36]; exact q.2.2.2.2.1))]; exact hTD, rfl, FRL_rf⟩, by rw [ht]; exact hP, hD⟩, hS.F ht⟩) hS.2.2 xd_Sh_acceptPackage_64
          · refine lv_aload_n hx hb xd_Sh_acceptPackage_52 rfl (lv_at hl 0 rfl) ?_
            refine px_get (D := D) (ci := 7) (v := .ref (ad (1 + (nd - 1)) 1)) (C := xR_Ds) (T := xT_Ds) (N := 12) hx hb hT xi_Ds hown hK.1 hP m_38 c_37 rfl 3 (by decide) (hT _ k5f_11) (fun _ h9 => h9) rfl xd_Sh_acceptPackage_53 ?_
            have hFc := px_free hD hS hA
            refine va_calli (va_runV (As := []) (rest := []) ⟨hx, hb, hml, hown, hT⟩ (xc_Na_isFull l D kA H.size ad E RL (1 + (nd - 1)) 1 5 6 k0_36 f0_36 m_40 c_39 m_48 c_47 (by first | assumption | omega) (by first | assumption | omega)) (cwV 0 hT (wT_V k5f_19 k5f_20 k5f_21 k5f_16 k5f_18) rfl rfl rfl (by decide +kernel) ⟨Nat.le_of_ble_eq_true rfl, Nat.le_of_ble_eq_true rfl⟩) (px_preV hK hP hD m_40 c_39 rfl) rfl rfl hl.1 rfl (lv_room (Nat.le_of_ble_eq_true rfl)) xd_Sh_acceptPackage_56 ⟨(Nat.le_of_ble_eq_true rfl), (Nat.le_of_ble_eq_true rfl)⟩) hS (fun q _ h => hFc q h) hFc (fun r73 u74 t H1 locs ht hvm hp75 hB hz1 hk1 hS => ?_)
            obtain ⟨hP1, hD1⟩ := hB
            rw [ht] at hP1
            have hD1 := hD1.weaken (fun _ _ _ h => hFc _ h)
            generalize H1 = H at hP1 hS ⊢
            have hP := hP1
            have hD := hD1
            have hP : va_P D xcl (rp ad E RL) H := hP
            have hD : va_D A (rp ad E RL) := hD
            rcases hp75 with ⟨rfl, z76⟩ | ⟨rfl, z77⟩
            · refine W.eq (g2 := F0 m 59 ls [.int 1]) rfl ?_
              refine lv_if_eq (tgt := 65) hx hb xd_Sh_acceptPackage_59 (by decide) (fun hc78 => absurd hc78 (by decide)) (fun _ => ?_)
              refine lv_bipush (v := (-2)) hx hb xd_Sh_acceptPackage_62 (by decide) ?_
              refine W.widen (k := 6) (n := 20) (Nat.le_of_ble_eq_true rfl) (Nat.le_of_ble_eq_true rfl) ?_
              exact W.iret (v := (-2)) hx hb hr (fun t ht hW => ⟨⟨(-2), (ad, E, RL), rfl, ⟨hCI, by rw [← lP_no (fun q => absurd q.2.2.2.2.2 (by have := z76; omega))]; exact hTD, rfl, FRL_rf⟩, by rw [ht]; exact hP, hD⟩, hS.F ht⟩) hS.2.2 xd_Sh_acceptPackage_64
            · refine W.eq (g2 := F0 m 59 ls [.int 0]) rfl ?_
              refine lv_if_eq (tgt := 65) hx hb xd_Sh_acceptPackage_59 (by decide) (fun _ => ?_) (fun hc79 => absurd (by decide) hc79)
              refine lv_aload_n hx hb xd_Sh_acceptPackage_65 rfl (lv_at hl 0 rfl) ?_
              refine lv_iload_n hx hb xd_Sh_acceptPackage_66 rfl (lv_at hl 1 rfl) ?_
              have hl := lv_sub hl [1, 2, 3] rfl
              have hl : lv_has ls 4 [(2, .int (wN (g 0) wl 1)), (0, .ref (ad 0 5)), (1, .ref (ad 0 1))] := hl
              have hFc := px_free hD hS hA
              refine va_callv (va_runV (As := [.int (wN (g 0) wl 1)]) (rest := []) ⟨hx, hb, hml, hown, hT⟩ (xc_Ds_addPackageX l D kA H.size ad E RL g (nd - 1) (wN (g 0) wl 1) (hDIs (nd - 1) (by omega)) (hTD (nd - 1) (by omega)) (by have := z77; omega) ((hZI (nd - 1) (by omega)).2 (iN (g 5 (nd - 1))) (by omega) (Or.inr (Nat.le_refl _)))) (cwV 1 hT (wT_V k5f_23 k5f_24 k5f_25 k5f_26 k5f_22) rfl rfl rfl (by decide +kernel) ⟨Nat.le_of_ble_eq_true rfl, Nat.le_of_ble_eq_true rfl⟩) (px_preV hK hP hD m_38 c_37 rfl) rfl rfl hl.1 rfl (lv_room (Nat.le_of_ble_eq_true rfl)) xd_Sh_acceptPackage_67 ⟨(Nat.le_of_ble_eq_true rfl), (Nat.le_of_ble_eq_true rfl)⟩) hS (fun q _ h => hFc q h) hFc (fun u81 t H1 locs ht hvm hp82 hB hz1 hk1 hS => ?_)
              obtain ⟨hP1, hD1⟩ := hB
              rw [ht] at hP1
              have hD1 := hD1.weaken (fun _ _ _ h => hFc _ h)
              generalize H1 = H at hP1 hS ⊢
              have hP := hP1
              have hD := hD1
              obtain ⟨ad83, E84, RL85⟩ := u81
              obtain ⟨hp89, p_86, p_87, p_88⟩ := hp82
              have p_86 : (∀ b2 o2, ¬ (b2 = 1 + (nd - 1)) → E84 b2 o2 = E b2 o2) := p_86
              have p_87 : (∀ b2 o2, ¬ (b2 = 1 + (nd - 1)) → ad83 b2 o2 = ad b2 o2) := p_87
              have p_88 : (∀ x ∈ RL, x ∈ RL85) := p_88
              have hl : lv_has ls 4 [(2, .int (wN (g 0) wl 1)), (0, .ref (ad83 0 5)), (1, .ref (ad83 0 1))] := by
                rw [p_87 0 5 (by omega), p_87 0 1 (by omega)]; exact hl
              have m_90 : (0, 0) ∈ RL85 := p_88 _ m_3
              have m_91 : (0, 1) ∈ RL85 := p_88 _ m_6
              have m_92 : (0, 2) ∈ RL85 := p_88 _ m_8
              have m_93 : (0, 3) ∈ RL85 := p_88 _ m_10
              have m_94 : (0, 4) ∈ RL85 := p_88 _ m_12
              have m_95 : (0, 5) ∈ RL85 := p_88 _ m_15
              have m_96 : (0, 6) ∈ RL85 := p_88 _ m_17
              have m_97 : (0, 7) ∈ RL85 := p_88 _ m_20
              have m_98 : (0, 8) ∈ RL85 := p_88 _ m_22
              have m_99 : (0, 9) ∈ RL85 := p_88 _ m_25
              have m_100 : (1 + (nd - 1), 0) ∈ RL85 := p_88 _ m_38
              have m_101 : (1 + (nd - 1), 1) ∈ RL85 := p_88 _ m_40
              have m_102 : (1 + (nd - 1), 2) ∈ RL85 := p_88 _ m_42
              have m_103 : (1 + (nd - 1), 3) ∈ RL85 := p_88 _ m_44
              have m_104 : (1 + (nd - 1), 4) ∈ RL85 := p_88 _ m_46
              have m_105 : (1 + (nd - 1), 5) ∈ RL85 := p_88 _ m_48
              have m_106 : (1 + (nd - 1), 6) ∈ RL85 := p_88 _ m_50
              have m_107 : (1 + (nd - 1), 7) ∈ RL85 := p_88 _ m_52
              have m_108 : (1 + (nd - 1), 8) ∈ RL85 := p_88 _ m_54
              have m_109 : (1 + (nd - 1), 9) ∈ RL85 := p_88 _ m_56
              have m_110 : (1 + (nd - 1), 10) ∈ RL85 := p_88 _ m_58
              have m_111 : (1 + (nd - 1), 11) ∈ RL85 := p_88 _ m_60
              have m_112 : (1 + (nd - 1), 12) ∈ RL85 := p_88 _ m_62
              have c_113 : E84 0 0 = .inr (0, [.ref (ad83 0 1), .ref (ad83 0 5), .ref (ad83 0 7), .ref (ad83 0 9), .int (nI ml), .int lf_1]) := by rw [p_86 0 0 (by omega), p_87 0 1 (by omega), p_87 0 5 (by omega), p_87 0 7 (by omega), p_87 0 9 (by omega)]; exact c_2
              have c_114 : E84 0 1 = .inr (1, [.ref (ad83 0 2), .ref (ad83 0 3), .ref (ad83 0 4), .int (nI len), .int (nI (wl.length))]) := by rw [p_86 0 1 (by omega), p_87 0 2 (by omega), p_87 0 3 (by omega), p_87 0 4 (by omega)]; exact c_5
              have c_115 : E84 0 2 = .inl (kA 1, 40, .inl tx_4) := by rw [p_86 0 2 (by omega)]; exact c_7
              have c_116 : E84 0 3 = .inl (kA 0, 20, .inl fb_4) := by rw [p_86 0 3 (by omega)]; exact c_9
              have c_117 : E84 0 4 = .inl (kA 0, 20, .inl fe_4) := by rw [p_86 0 4 (by omega)]; exact c_11
              have c_118 : E84 0 5 = .inr (2, [.ref (ad83 0 6), .int (nI nd)]) := by rw [p_86 0 5 (by omega), p_87 0 6 (by omega)]; exact c_14
              have c_119 : E84 0 6 = .inl (kA 4, 12, .inr (.inr (.inr (.inr fd_13)))) := by rw [p_86 0 6 (by omega)]; exact c_16
              have c_120 : E84 0 7 = .inr (3, [.ref (ad83 0 5), .ref (ad83 0 8), .int (nI cs), .int cf_18, pv_18]) := by rw [p_86 0 7 (by omega), p_87 0 5 (by omega), p_87 0 8 (by omega)]; exact c_19
              have c_121 : E84 0 8 = .inl (kA 4, 12, .inr (.inr (.inr (.inr fc_18)))) := by rw [p_86 0 8 (by omega)]; exact c_21
              have c_122 : E84 0 9 = .inl (kA 5, 5, .inr (.inr (.inr (.inr fl_23)))) := by rw [p_86 0 9 (by omega)]; exact c_24
              have hP : va_P D xcl (rp ad83 E84 RL85) H := hP
              have hD : va_D A (rp ad83 E84 RL85) := hD
              obtain ⟨hDI9, hA9, hTD9⟩ := hp89
              have hA0 : ∀ d9, d9 < nd → ad83 (1 + d9) 0 = ad (1 + d9) 0 := fun d9 hd9 => by
                  by_cases q : d9 = nd - 1
                  · subst q; exact hA9 0 (by omega)
                  · exact p_87 (1 + d9) 0 (by omega)
              have hTD2 : TDs (pkU g (nd - 1) (wN (g 0) wl 1)) E84 nd := TDs_upd (x := nd - 1) hDIs (fun d9 hd9 hx9 => fun2 fun o9 => by show E84 (1 + d9) o9 = _; rw [p_86 (1 + d9) o9 (by omega)]) (fun d9 hd9 hx9 => AG_P (by omega) hx9) hTD9 hTD
              have hFRL : FRL ml nd ad ad83 E E84 := ⟨fun n9 hn9 => ⟨fun2 fun o9 => by show E84 (20 + n9) o9 = _; rw [p_86 (20 + n9) o9 (by omega)], fun2 fun o9 => by show ad83 (20 + n9) o9 = _; rw [p_87 (20 + n9) o9 (by omega)]⟩, hA0, by show E84 0 0 = _; rw [p_86 0 0 (by omega)]⟩
              have hCI : CI kA ad83 E84 RL85 ml nd len wl.length cs := ⟨(fun o9 h9 => p_88 _ (hmB o9 h9)), ⟨lf_1, c_113⟩, ⟨tx_4, fb_4, fe_4, (by omega), (by omega), c_114, c_115, c_116, c_117, hws_4⟩, ⟨fd_13, (by omega), c_118, c_119, (DS_ad hds_13 hA0)⟩, ⟨cf_18, pv_18, fc_18, (by omega), (PV_ad hpv_18 (fun n9 hn9 => by show ad83 (20 + n9) 0 = _; rw [p_87 (20 + n9) 0 (by omega)])), c_120, c_121, (FC_ad hfc_18 hA0 (by omega))⟩, ⟨fl_23, (by omega), c_122, (LA_ad hla_23 (fun n9 hn9 => by show ad83 (20 + n9) 0 = _; rw [p_87 (20 + n9) 0 (by omega)]))⟩, (DIs_set (x := nd - 1) (fun d9 hd9 hx9 => fun2 fun o9 => by show E84 (1 + d9) o9 = _; rw [p_86 (1 + d9) o9 (by omega)]) (fun d9 hd9 hx9 => fun2 fun o9 => by show ad83 (1 + d9) o9 = _; rw [p_87 (1 + d9) o9 (by omega)]) (fun _ h9 => p_88 _ h9) hDI9 hDIs), (LIs_same (Nat.le_refl _) (fun n9 hn9 => fun2 fun o9 => by show E84 (20 + n9) o9 = _; rw [p_86 (20 + n9) o9 (by omega)]) (fun n9 hn9 => fun2 fun o9 => by show ad83 (20 + n9) o9 = _; rw [p_87 (20 + n9) o9 (by omega)]) hA0 (fun _ h9 => p_88 _ h9) hLIs)⟩
              have hA00 : ad83 0 0 = ad 0 0 := by show ad83 0 0 = _; rw [p_87 0 0 (by omega)]
              obtain ⟨hmB, hDk, hLi, hSh, hCh, hLa, hDIs, hLIs⟩ := id hCI
              refine lv_iconst (v := 2) hx hb xd_Sh_acceptPackage_70 (by decide) ?_
              refine W.widen (k := 6) (n := 20) (Nat.le_of_ble_eq_true rfl) (Nat.le_of_ble_eq_true rfl) ?_
              exact W.iret (v := 2) hx hb hr (fun t ht hW => ⟨⟨2, (ad83, E84, RL85), rfl, (by
        rw [lP_y ⟨by omega, hc30, by omega, fun j a9 b9 q => by
          have q2 := z69 (j - 6 * (nd - 1)) (by omega)
          rw [tf0_36 _ (by omega), show 6 * (nd - 1) + (j - 6 * (nd - 1)) = j by omega] at q2
          exact q2 q, by rw [← tsd_36]; exact hc72, by omega⟩]
        exact ⟨hCI, hTD2, hA00, hFRL⟩), by rw [ht]; exact hP, hD⟩, hS.F ht⟩) hS.2.2 xd_Sh_acceptPackage_71
    · refine lv_iconst (v := (-1)) hx hb xd_Sh_acceptPackage_18 (by decide) ?_
      refine W.widen (k := 6) (n := 20) (Nat.le_of_ble_eq_true rfl) (Nat.le_of_ble_eq_true rfl) ?_
      exact W.iret (v := (-1)) hx hb hr (fun t ht hW => ⟨⟨(-1), (ad, E, RL), rfl, ⟨hCI, by rw [← lP_no (fun q => q.2.1 hc30)]; exact hTD, rfl, FRL_rf⟩, by rw [ht]; exact hP, hD⟩, hS.F ht⟩) hS.2.2 xd_Sh_acceptPackage_19
