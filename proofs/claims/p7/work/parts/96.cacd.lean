theorem k5e_0 : (Cond.code xy_Li_wordIs xb_Li_wordIs 4 (some .boolean)) ∈ wT := wT_t (List.mem_append_left _ (List.mem_of_getElem? (i := 199) rfl)) rfl
theorem k5e_1 : (Cond.methodLink "LayerDesk$Shelf" 34 xy_Li_wordIs) ∈ wT := wT_t (List.mem_append_left _ (List.mem_of_getElem? (i := 196) rfl)) rfl
theorem k5e_2 : (Cond.instanceMethod xy_Li_wordIs) ∈ wT := wT_t (List.mem_append_left _ (List.mem_of_getElem? (i := 197) rfl)) rfl
theorem k5e_3 : (Cond.selects "LayerDesk$Line" xy_Li_wordIs xy_Li_wordIs) ∈ wT := wT_t (List.mem_append_left _ (List.mem_of_getElem? (i := 198) rfl)) rfl
theorem k5e_4 : (Cond.initialized "LayerDesk$Line") ∈ wT := wT_t (List.mem_append_left _ (List.mem_of_getElem? (i := 2) rfl)) rfl
theorem k5e_5 : (Cond.code xy_Li_nameAt xb_Li_nameAt 4 (some .int)) ∈ wT := wT_t (List.mem_append_right _ (List.mem_append_left _ (List.mem_of_getElem? (i := 17) rfl))) rfl
theorem k5e_6 : (Cond.methodLink "LayerDesk$Shelf" 70 xy_Li_nameAt) ∈ wT := wT_t (List.mem_append_right _ (List.mem_append_left _ (List.mem_of_getElem? (i := 14) rfl))) rfl
theorem k5e_7 : (Cond.instanceMethod xy_Li_nameAt) ∈ wT := wT_t (List.mem_append_right _ (List.mem_append_left _ (List.mem_of_getElem? (i := 15) rfl))) rfl
theorem k5e_8 : (Cond.selects "LayerDesk$Line" xy_Li_nameAt xy_Li_nameAt) ∈ wT := wT_t (List.mem_append_right _ (List.mem_append_left _ (List.mem_of_getElem? (i := 16) rfl))) rfl
theorem k5e_9 : (Cond.fieldLink "LayerDesk$Shelf" 27 "LayerDesk$Line" "words" "I") ∈ wT := wT_t (List.mem_append_left _ (List.mem_of_getElem? (i := 41) rfl)) rfl
theorem k5e_10 : (Cond.code xy_Sh_find xb_Sh_find 4 (some (.object "LayerDesk$Descriptor"))) ∈ wT := wT_t (List.mem_append_right _ (List.mem_append_left _ (List.mem_of_getElem? (i := 21) rfl))) rfl
theorem k5e_11 : (Cond.methodLink "LayerDesk$Shelf" 74 xy_Sh_find) ∈ wT := wT_t (List.mem_append_right _ (List.mem_append_left _ (List.mem_of_getElem? (i := 18) rfl))) rfl
theorem k5e_12 : (Cond.instanceMethod xy_Sh_find) ∈ wT := wT_t (List.mem_append_right _ (List.mem_append_left _ (List.mem_of_getElem? (i := 19) rfl))) rfl
theorem k5e_13 : (Cond.selects "LayerDesk$Shelf" xy_Sh_find xy_Sh_find) ∈ wT := wT_t (List.mem_append_right _ (List.mem_append_left _ (List.mem_of_getElem? (i := 20) rfl))) rfl
theorem k5e_14 : (Cond.initialized "LayerDesk$Shelf") ∈ wT := wT_t (List.mem_append_left _ (List.mem_of_getElem? (i := 3) rfl)) rfl
theorem k5e_15 : (Cond.fieldLink "LayerDesk$Shelf" 17 "LayerDesk$Shelf" "size" "I") ∈ wT := wT_t (List.mem_append_left _ (List.mem_of_getElem? (i := 66) rfl)) rfl
theorem k5e_16 : (Cond.fieldLink "LayerDesk$Shelf" 11 "LayerDesk$Shelf" "descriptors" "[LLayerDesk$Descriptor;") ∈ wT := wT_t (List.mem_append_left _ (List.mem_of_getElem? (i := 64) rfl)) rfl
theorem k5e_17 : (Cond.classLink "LayerDesk$Shelf" 9 "LayerDesk$Descriptor") ∈ wT := wT_t (List.mem_append_left _ (List.mem_of_getElem? (i := 62) rfl)) rfl
theorem k5e_18 : (Cond.instantiable "LayerDesk$Descriptor" 12) ∈ wT := wT_t (List.mem_append_right _ (List.mem_append_left _ (List.mem_of_getElem? (i := 22) rfl))) rfl
theorem k5e_19 : (Cond.initialized "LayerDesk$Descriptor") ∈ wT := wT_t (List.mem_append_left _ (List.mem_of_getElem? (i := 10) rfl)) rfl
theorem k5e_20 : (Cond.code xy_Ds_init xb_Ds_init 4 none) ∈ wT := wT_t (List.mem_append_right _ (List.mem_append_left _ (List.mem_of_getElem? (i := 25) rfl))) rfl
theorem k5e_21 : (Cond.methodLink "LayerDesk$Shelf" 78 xy_Ds_init) ∈ wT := wT_t (List.mem_append_right _ (List.mem_append_left _ (List.mem_of_getElem? (i := 23) rfl))) rfl
theorem k5e_22 : (Cond.instanceMethod xy_Ds_init) ∈ wT := wT_t (List.mem_append_right _ (List.mem_append_left _ (List.mem_of_getElem? (i := 24) rfl))) rfl
set_option maxHeartbeats 4000000 in
set_option maxRecDepth 100000 in
theorem xc_Sh_acceptDescriptorX (l : Launch) (D : va_G) (kA : Nat → ClassId) (sz : Nat) (ad : Nat → Nat → Nat) (E : Nat → Nat → va_E) (RL : List (Nat × Nat)) (Z : zT) (g : Nat → Nat → Int32) (ml : Nat) (nd : Nat) (len : Nat) (lt : Nat) (wl : List (Nat × Nat)) (cs : Nat) (hCI : CI kA ad E RL ml nd len wl.length cs) (hLW : LW g E lt wl) (hTD : TDs g E nd) (hZI : ZI g nd) : Met l xy_Sh_acceptDescriptor (.code xy_Sh_acceptDescriptor xb_Sh_acceptDescriptor 5 (some .int) :: wT) { frames := 5, cells := 13, slots := 66, locals := 108 } (va_Pc [.ref (ad 0 5), .ref (ad 0 1)] (xPreZ D kA sz (rp ad E RL) Z)) (va_Qi (fun (r : Int32) (u : (Nat → Nat → Nat) × (Nat → Nat → va_E) × List (Nat × Nat)) => CI kA u.1 u.2.1 u.2.2 ml (lD (g 0) wl nd g).1 len wl.length cs ∧ TDs (lD (g 0) wl nd g).2 u.2.1 (lD (g 0) wl nd g).1 ∧ u.1 0 0 = ad 0 0 ∧ FRL ml nd ad u.1 E u.2.1) (fun (u : (Nat → Nat → Nat) × (Nat → Nat → va_E) × List (Nat × Nat)) t => va_P D xcl (rp u.1 u.2.1 u.2.2) t.heap ∧ va_D (va_A (rp ad E RL) sz) (rp u.1 u.2.1 u.2.2)) (va_A (rp ad E RL) sz)) 13 66 (va_A (rp ad E RL) sz) := by
  refine Met.ofW (cc := xb_Sh_acceptDescriptor) (maxL := 5) (ret := (some .int)) (by decide) rfl ?_
  intro p e s m args below meth c s₁ B hml hv
  obtain ⟨rfl, ⟨hsz, hP, hK, hD0⟩, hZ⟩ := hv
  have hx := B.exec
  have hb := B.bytes
  have hr := B.returns
  have hT := x_hT B.pre
  have hown : s.vm.findClass xR_Sh = some m.cls := findClass_of_methodNamed B.named
  have hlocks := B.notSynchronized
  subst hsz
  have hD := hD0.self (sz := s.heap.size)
  generalize hAe : va_A (rp ad E RL) s.heap.size = A at hD hZ ⊢
  have hA : ∀ q : Nat, s.heap.size ≤ q → A q := fun q h => by rw [← hAe]; exact Or.inr h
  have hS : va_S A s.heap s.heap [] := va_S.rf
  have hl := lv_entry ([.ref (ad 0 5), .ref (ad 0 1)]) (n := 5) (Nat.le_of_ble_eq_true rfl)
  rw [lg_entry_eq]
  generalize (lg_sl ([.ref (ad 0 5), .ref (ad 0 1)]) ++ List.replicate (5 - (lg_sl ([.ref (ad 0 5), .ref (ad 0 1)])).length) Slot.unset).toArray = ls at hl ⊢
  have hl : lv_has ls 5 [(0, .ref (ad 0 5)), (1, .ref (ad 0 1))] := hl
  have hP : va_P D xcl (rp ad E RL) s.heap := hP
  obtain ⟨hmB, hDk, hLi, hSh, hCh, hLa, hDIs, hLIs⟩ := id hCI
  obtain ⟨hWL, hlt40, hLwd, hLtx⟩ := id hLW
  obtain ⟨lf_1, q_1⟩ := id (hDk)
  have c_2 : E 0 0 = .inr (0, [.ref (ad 0 1), .ref (ad 0 5), .ref (ad 0 7), .ref (ad 0 9), .int (nI ml), .int lf_1]) := q_1
  have m_3 : (0, 0) ∈ RL := hmB 0 (by omega)
  obtain ⟨tx_4, fb_4, fe_4, hl1_4, hw2_4, q1_4, q2_4, q3_4, q4_4, hws_4⟩ := id (hLi)
  have c_5 : E 0 1 = .inr (1, [.ref (ad 0 2), .ref (ad 0 3), .ref (ad 0 4), .int (nI len), .int (nI (wl.length))]) := q1_4
  have m_6 : (0, 1) ∈ RL := hmB 1 (by omega)
  have c_7 : E 0 2 = .inl (kA 1, 40, .inl tx_4) := q2_4
  have m_8 : (0, 2) ∈ RL := hmB 2 (by omega)
  have c_9 : E 0 3 = .inl (kA 0, 20, .inl fb_4) := q3_4
  have m_10 : (0, 3) ∈ RL := hmB 3 (by omega)
  have c_11 : E 0 4 = .inl (kA 0, 20, .inl fe_4) := q4_4
  have m_12 : (0, 4) ∈ RL := hmB 4 (by omega)
  obtain ⟨fd_13, hnd_13, q5_13, q6_13, hds_13⟩ := id (hSh)
  have c_14 : E 0 5 = .inr (2, [.ref (ad 0 6), .int (nI nd)]) := q5_13
  have m_15 : (0, 5) ∈ RL := hmB 5 (by omega)
  have c_16 : E 0 6 = .inl (kA 4, 12, .inr (.inr (.inr (.inr fd_13)))) := q6_13
  have m_17 : (0, 6) ∈ RL := hmB 6 (by omega)
  obtain ⟨cf_18, pv_18, fc_18, hcs_18, hpv_18, q7_18, q8_18, hfc_18⟩ := id (hCh)
  have c_19 : E 0 7 = .inr (3, [.ref (ad 0 5), .ref (ad 0 8), .int (nI cs), .int cf_18, pv_18]) := q7_18
  have m_20 : (0, 7) ∈ RL := hmB 7 (by omega)
  have c_21 : E 0 8 = .inl (kA 4, 12, .inr (.inr (.inr (.inr fc_18)))) := q8_18
  have m_22 : (0, 8) ∈ RL := hmB 8 (by omega)
  obtain ⟨fl_23, hml_23, q9_23, hla_23⟩ := id (hLa)
  have c_24 : E 0 9 = .inl (kA 5, 5, .inr (.inr (.inr (.inr fl_23)))) := q9_23
  have m_25 : (0, 9) ∈ RL := hmB 9 (by omega)
  obtain ⟨zw0, zw1, zw2, zw3, zw4, zw5, zw6, zw7, zw8, zw9, zw10, zw11⟩ := zW_all
  refine lv_aload_n hx hb xd_Sh_acceptDescriptor_0 rfl (lv_at hl 1 rfl) ?_
  refine lv_iconst (v := 1) hx hb xd_Sh_acceptDescriptor_1 (by decide) ?_
  refine va_ldcS (q := Z.1 7) hx hb hown hZ.2.2.2.1.2.2.2.2.2.2.2.1 xd_Sh_acceptDescriptor_2 ?_
  have hFc := px_free hD hS hA
  refine va_calli (va_runV (As := [.int 1, .ref (Z.1 7)]) (rest := []) ⟨hx, hb, hml, hown, hT⟩ (xc_Li_wordIsX l D kA s.heap.size ad E RL Z g ml nd len lt wl cs 1 7 (by first | assumption | omega) (by first | assumption | omega) (by first | assumption | omega) (by first | assumption | omega)) (cwV 2 hT (wT_V k5e_1 k5e_2 k5e_3 k5e_4 k5e_0) rfl rfl rfl (by decide +kernel) ⟨Nat.le_of_ble_eq_true rfl, Nat.le_of_ble_eq_true rfl⟩) (px_preVZ hK hP hD m_6 c_5 rfl hFc (hZ.kept hS)) rfl rfl hl.1 rfl (lv_room (Nat.le_of_ble_eq_true rfl)) xd_Sh_acceptDescriptor_4 ⟨(Nat.le_of_ble_eq_true rfl), (Nat.le_of_ble_eq_true rfl)⟩) hS (fun q _ h => hFc q h) hFc (fun r26 u27 t H1 locs ht hvm hp28 hB hz1 hk1 hS => ?_)
  obtain ⟨hP1, hD1⟩ := hB
  rw [ht] at hP1
  have hD1 := hD1.weaken (fun _ _ _ h => hFc _ h)
  generalize H1 = H at hP1 hS ⊢
  have hP := hP1
  have hD := hD1
  have hP : va_P D xcl (rp ad E RL) H := hP
  have hD : va_D A (rp ad E RL) := hD
  rcases hp28 with ⟨rfl, z29⟩ | ⟨rfl, z30⟩
  · have hw7 : wS (g 0) wl 1 [48] := by have q := z29; rw [zw7] at q; exact q
    refine W.eq (g2 := F0 m 7 ls [.int 1]) rfl ?_
    refine lv_if_eq (tgt := 14) hx hb xd_Sh_acceptDescriptor_7 (by decide) (fun hc31 => absurd hc31 (by decide)) (fun _ => ?_)
    refine lv_iconst (v := 0) hx hb xd_Sh_acceptDescriptor_10 (by decide) ?_
    refine lv_goto (tgt := 29) hx hb xd_Sh_acceptDescriptor_11 (by decide) ?_
    refine lv_istore_n hx hb xd_Sh_acceptDescriptor_29 rfl hl (Nat.le_of_ble_eq_true rfl) rfl (fun ls hl => ?_)
    have hl : lv_has ls 5 [(2, .int 0), (0, .ref (ad 0 5)), (1, .ref (ad 0 1))] := hl
    refine lv_aload_n hx hb xd_Sh_acceptDescriptor_30 rfl (lv_at hl 2 rfl) ?_
    refine lv_iconst (v := 2) hx hb xd_Sh_acceptDescriptor_31 (by decide) ?_
    have hFc := px_free hD hS hA
    refine va_calli (va_runV (As := [.int 2]) (rest := []) ⟨hx, hb, hml, hown, hT⟩ (xc_Li_nameAtX l D kA H.size ad E RL g ml nd len lt wl cs 2 (by first | assumption | omega) (by first | assumption | omega) (by first | assumption | omega)) (cwV 1 hT (wT_V k5e_6 k5e_7 k5e_8 k5e_4 k5e_5) rfl rfl rfl (by decide +kernel) ⟨Nat.le_of_ble_eq_true rfl, Nat.le_of_ble_eq_true rfl⟩) (px_preV hK hP hD m_6 c_5 rfl) rfl rfl hl.1 rfl (lv_room (Nat.le_of_ble_eq_true rfl)) xd_Sh_acceptDescriptor_32 ⟨(Nat.le_of_ble_eq_true rfl), (Nat.le_of_ble_eq_true rfl)⟩) hS (fun q _ h => hFc q h) hFc (fun r32 u33 t H1 locs ht hvm hp34 hB hz1 hk1 hS => ?_)
    obtain ⟨hP1, hD1⟩ := hB
    rw [ht] at hP1
    have hD1 := hD1.weaken (fun _ _ _ h => hFc _ h)
    generalize H1 = H at hP1 hS ⊢
    have hP := hP1
    have hD := hD1
    have hP : va_P D xcl (rp ad E RL) H := hP
    have hD : va_D A (rp ad E RL) := hD
    have hp34 : r32 = wN (g 0) wl 2 := hp34
    subst hp34
    have hP : va_P D xcl (rp ad E RL) H := hP
    have hD : va_D A (rp ad E RL) := hD
    refine lv_istore_n hx hb xd_Sh_acceptDescriptor_35 rfl hl (Nat.le_of_ble_eq_true rfl) rfl (fun ls hl => ?_)
    have hl : lv_has ls 5 [(3, .int (wN (g 0) wl 2)), (2, .int 0), (0, .ref (ad 0 5)), (1, .ref (ad 0 1))] := hl
    refine lv_aload_n hx hb xd_Sh_acceptDescriptor_36 rfl (lv_at hl 3 rfl) ?_
    refine px_get (D := D) (ci := 1) (v := .int (nI (wl.length))) (C := xR_Li) (T := xT_Li) (N := 5) hx hb hT xi_Li hown hK.1 hP m_6 c_5 rfl 4 (by decide) (hT _ k5e_9) (fun _ h9 => h9) rfl xd_Sh_acceptDescriptor_37 ?_
    refine lv_iconst (v := 3) hx hb xd_Sh_acceptDescriptor_40 (by decide) ?_
    refine xn_ne (a := wl.length) (b := 3) (tgt := 57) hx hb xd_Sh_acceptDescriptor_41 (by decide) (by omega) (by omega) (fun hc35 => ?_) (fun hc35 => ?_)
    · refine lv_iconst (v := 0) hx hb xd_Sh_acceptDescriptor_57 (by decide) ?_
      refine lv_istore hx hb xd_Sh_acceptDescriptor_58 hl (Nat.le_of_ble_eq_true rfl) rfl (fun ls hl => ?_)
      have hl : lv_has ls 5 [(4, .int 0), (3, .int (wN (g 0) wl 2)), (2, .int 0), (0, .ref (ad 0 5)), (1, .ref (ad 0 1))] := hl
      refine lv_iload hx hb xd_Sh_acceptDescriptor_60 (lv_at hl 0 rfl) ?_
      refine lv_if_eq (tgt := 74) hx hb xd_Sh_acceptDescriptor_62 (by decide) (fun _ => ?_) (fun hc36 => absurd (by decide) hc36)
      refine lv_iconst (v := (-1)) hx hb xd_Sh_acceptDescriptor_74 (by decide) ?_
      refine W.widen (k := 13) (n := 66) (Nat.le_of_ble_eq_true rfl) (Nat.le_of_ble_eq_true rfl) ?_
      exact W.iret (v := (-1)) hx hb hr (fun t ht hW => ⟨⟨(-1), (ad, E, RL), rfl, (by rw [lD_n (fun q => absurd q.1 (by omega))]; exact ⟨hCI, hTD, rfl, FRL_rf⟩), by rw [ht]; exact hP, hD⟩, hS.F ht⟩) hS.2.2 xd_Sh_acceptDescriptor_75
    · refine lv_iload_n hx hb xd_Sh_acceptDescriptor_44 rfl (lv_at hl 1 rfl) ?_
      refine lv_iconst (v := (-1)) hx hb xd_Sh_acceptDescriptor_45 (by decide) ?_
      refine lv_icmp_eq (tgt := 57) hx hb xd_Sh_acceptDescriptor_46 (by decide) (fun hc37 => absurd hc37 (by decide)) (fun _ => ?_)
      refine lv_iload_n hx hb xd_Sh_acceptDescriptor_49 rfl (lv_at hl 0 rfl) ?_
      refine lv_if_eq (tgt := 57) hx hb xd_Sh_acceptDescriptor_50 (by decide) (fun hc38 => ?_) (fun hc38 => ?_)
      · refine lv_iconst (v := 0) hx hb xd_Sh_acceptDescriptor_57 (by decide) ?_
        refine lv_istore hx hb xd_Sh_acceptDescriptor_58 hl (Nat.le_of_ble_eq_true rfl) rfl (fun ls hl => ?_)
        have hl : lv_has ls 5 [(4, .int 0), (3, .int (wN (g 0) wl 2)), (2, .int 0), (0, .ref (ad 0 5)), (1, .ref (ad 0 1))] := hl
        refine lv_iload hx hb xd_Sh_acceptDescriptor_60 (lv_at hl 0 rfl) ?_
        refine lv_if_eq (tgt := 74) hx hb xd_Sh_acceptDescriptor_62 (by decide) (fun _ => ?_) (fun hc39 => absurd (by decide) hc39)
        refine lv_iconst (v := (-1)) hx hb xd_Sh_acceptDescriptor_74 (by decide) ?_
        refine W.widen (k := 13) (n := 66) (Nat.le_of_ble_eq_true rfl) (Nat.le_of_ble_eq_true rfl) ?_
        exact W.iret (v := (-1)) hx hb hr (fun t ht hW => ⟨⟨(-1), (ad, E, RL), rfl, (by rw [lD_n (fun q => q.2.2.1 hc38)]; exact ⟨hCI, hTD, rfl, FRL_rf⟩), by rw [ht]; exact hP, hD⟩, hS.F ht⟩) hS.2.2 xd_Sh_acceptDescriptor_75
      · refine lv_iconst (v := 1) hx hb xd_Sh_acceptDescriptor_53 (by decide) ?_
        refine lv_goto (tgt := 58) hx hb xd_Sh_acceptDescriptor_54 (by decide) ?_
        refine lv_istore hx hb xd_Sh_acceptDescriptor_58 hl (Nat.le_of_ble_eq_true rfl) rfl (fun ls hl => ?_)
        have hl : lv_has ls 5 [(4, .int 1), (3, .int (wN (g 0) wl 2)), (2, .int 0), (0, .ref (ad 0 5)), (1, .ref (ad 0 1))] := hl
        refine lv_iload hx hb xd_Sh_acceptDescriptor_60 (lv_at hl 0 rfl) ?_
        refine lv_if_eq (tgt := 74) hx hb xd_Sh_acceptDescriptor_62 (by decide) (fun hc40 => absurd hc40 (by decide)) (fun _ => ?_)
        refine lv_aload_n hx hb xd_Sh_acceptDescriptor_65 rfl (lv_at hl 3 rfl) ?_
        refine lv_iload_n hx hb xd_Sh_acceptDescriptor_66 rfl (lv_at hl 2 rfl) ?_
        refine lv_iload_n hx hb xd_Sh_acceptDescriptor_67 rfl (lv_at hl 1 rfl) ?_
        have hFc := px_free hD hS hA
        refine va_callq (va_runV (As := [.int 0, .int (wN (g 0) wl 2)]) (rest := []) ⟨hx, hb, hml, hown, hT⟩ (xc_Sh_findX l D kA H.size ad E RL g ml nd len wl.length cs 0 (wN (g 0) wl 2) (by first | assumption | omega) (by first | assumption | omega)) (cwV 2 hT (wT_V k5e_11 k5e_12 k5e_13 k5e_14 k5e_10) rfl rfl rfl (by decide +kernel) ⟨Nat.le_of_ble_eq_true rfl, Nat.le_of_ble_eq_true rfl⟩) (px_preV hK hP hD m_15 c_14 rfl) rfl rfl hl.1 rfl (lv_room (Nat.le_of_ble_eq_true rfl)) xd_Sh_acceptDescriptor_68 ⟨(Nat.le_of_ble_eq_true rfl), (Nat.le_of_ble_eq_true rfl)⟩) hS (fun q _ h => hFc q h) hFc (fun r41 u42 t H1 locs ht hvm hp43 hB hz1 hk1 hS => ?_)
        obtain ⟨hP1, hD1⟩ := hB
        rw [ht] at hP1
        have hD1 := hD1.weaken (fun _ _ _ h => hFc _ h)
        generalize H1 = H at hP1 hS ⊢
        have hP := hP1
        have hD := hD1
        have hP : va_P D xcl (rp ad E RL) H := hP
        have hD : va_D A (rp ad E RL) := hD
        rcases hp43 with ⟨rfl, z44⟩ | ⟨z45, z46, rfl, z47⟩
        · refine W.eq (g2 := F0 m 71 ls [.null]) rfl ?_
          refine lv_ifnullN (tgt := 76) hx hb xd_Sh_acceptDescriptor_71 (by decide) ?_
          refine lv_aload_n hx hb xd_Sh_acceptDescriptor_76 rfl (lv_at hl 3 rfl) ?_
          refine px_get (D := D) (ci := 2) (v := .int (nI nd)) (C := xR_Sh) (T := xT_Sh) (N := 2) hx hb hT xi_Sh hown hK.1 hP m_15 c_14 rfl 1 (by decide) (hT _ k5e_15) (fun _ h9 => h9) rfl xd_Sh_acceptDescriptor_77 ?_
          refine lv_bipush (v := 12) hx hb xd_Sh_acceptDescriptor_80 (by decide) ?_
          refine xn_lt (a := nd) (b := 12) (tgt := 88) hx hb xd_Sh_acceptDescriptor_82 (by decide) (by omega) (by omega) (fun hc48 => ?_) (fun hc48 => ?_)
          · refine lv_aload_n hx hb xd_Sh_acceptDescriptor_88 rfl (lv_at hl 3 rfl) ?_
            refine px_get (D := D) (ci := 2) (v := .ref (ad 0 6)) (C := xR_Sh) (T := xT_Sh) (N := 2) hx hb hT xi_Sh hown hK.1 hP m_15 c_14 rfl 0 (by decide) (hT _ k5e_16) (fun _ h9 => h9) rfl xd_Sh_acceptDescriptor_89 ?_
            refine lv_aload_n hx hb xd_Sh_acceptDescriptor_92 rfl (lv_at hl 3 rfl) ?_
            refine px_get (D := D) (ci := 2) (v := .int (nI nd)) (C := xR_Sh) (T := xT_Sh) (N := 2) hx hb hT xi_Sh hown hK.1 hP m_15 c_14 rfl 1 (by decide) (hT _ k5e_15) (fun _ h9 => h9) rfl xd_Sh_acceptDescriptor_93 ?_
            refine px_new (ci := 7) (fs := [.int 0, .int 0, .int 0, .null, .null, .null, .null, .null, .null, .null, .null, .int 0]) (C := xR_Ds) (T := xT_Ds) (N := 12) (1 + nd) 0 hx hb hT xi_Ds xt_Ds xt_Ds_ok hown (hT _ k5e_17) (hT _ k5e_18) (hT _ k5e_19) hK.1 hP hD hS hA rfl (by decide +kernel) (Nat.le_of_ble_eq_true rfl) (Nat.le_of_ble_eq_true rfl) xd_Sh_acceptDescriptor_96 (fun ad49 E50 RL51 H hA1 hE1 hs1 hm1 hP hD hS => ?_)
            have fE52 : ∀ b2 o2, ¬ (b2 = 1 + nd ∧ o2 = 0) → E50 b2 o2 = E b2 o2 := fun b2 o2 h9 => by rw [hE1]; exact up2_ne (by omega)
            have fA53 : ∀ b2 o2, ¬ (b2 = 1 + nd ∧ o2 = 0) → ad49 b2 o2 = ad b2 o2 := fun b2 o2 h9 => by rw [hA1]; exact up2_ne (by omega)
            have hs54 := hs1
            refine W.eq (g2 := F0 m _ ls [.ref (ad49 (1 + nd) 0), .int (nI nd), .ref (ad49 0 6)]) (by rw [fA53 0 6 (by omega)]) ?_
            have c_55 : E50 (1 + nd) 0 = .inr (7, [.int 0, .int 0, .int 0, .null, .null, .null, .null, .null, .null, .null, .null, .int 0]) := by rw [hE1]; exact up2_eq
            have hl : lv_has ls 5 [(4, .int 1), (3, .int (wN (g 0) wl 2)), (2, .int 0), (0, .ref (ad49 0 5)), (1, .ref (ad49 0 1))] := by
              rw [fA53 0 5 (by omega), fA53 0 1 (by omega)]; exact hl
            have m_57 : (0, 0) ∈ RL51 := hs54 _ m_3
            have m_58 : (0, 1) ∈ RL51 := hs54 _ m_6
            have m_59 : (0, 2) ∈ RL51 := hs54 _ m_8
            have m_60 : (0, 3) ∈ RL51 := hs54 _ m_10
            have m_61 : (0, 4) ∈ RL51 := hs54 _ m_12
            have m_62 : (0, 5) ∈ RL51 := hs54 _ m_15
            have m_63 : (0, 6) ∈ RL51 := hs54 _ m_17
            have m_64 : (0, 7) ∈ RL51 := hs54 _ m_20
            have m_65 : (0, 8) ∈ RL51 := hs54 _ m_22
            have m_66 : (0, 9) ∈ RL51 := hs54 _ m_25
            have c_67 : E50 0 0 = .inr (0, [.ref (ad49 0 1), .ref (ad49 0 5), .ref (ad49 0 7), .ref (ad49 0 9), .int (nI ml), .int lf_1]) := by rw [fE52 0 0 (by omega), fA53 0 1 (by omega), fA53 0 5 (by omega), fA53 0 7 (by omega), fA53 0 9 (by omega)]; exact c_2
            have c_68 : E50 0 1 = .inr (1, [.ref (ad49 0 2), .ref (ad49 0 3), .ref (ad49 0 4), .int (nI len), .int (nI (wl.length))]) := by rw [fE52 0 1 (by omega), fA53 0 2 (by omega), fA53 0 3 (by omega), fA53 0 4 (by omega)]; exact c_5
            have c_69 : E50 0 2 = .inl (kA 1, 40, .inl tx_4) := by rw [fE52 0 2 (by omega)]; exact c_7
            have c_70 : E50 0 3 = .inl (kA 0, 20, .inl fb_4) := by rw [fE52 0 3 (by omega)]; exact c_9
            have c_71 : E50 0 4 = .inl (kA 0, 20, .inl fe_4) := by rw [fE52 0 4 (by omega)]; exact c_11
            have c_72 : E50 0 5 = .inr (2, [.ref (ad49 0 6), .int (nI nd)]) := by rw [fE52 0 5 (by omega), fA53 0 6 (by omega)]; exact c_14
            have c_73 : E50 0 6 = .inl (kA 4, 12, .inr (.inr (.inr (.inr fd_13)))) := by rw [fE52 0 6 (by omega)]; exact c_16
            have c_74 : E50 0 7 = .inr (3, [.ref (ad49 0 5), .ref (ad49 0 8), .int (nI cs), .int cf_18, pv_18]) := by rw [fE52 0 7 (by omega), fA53 0 5 (by omega), fA53 0 8 (by omega)]; exact c_19
            have c_75 : E50 0 8 = .inl (kA 4, 12, .inr (.inr (.inr (.inr fc_18)))) := by rw [fE52 0 8 (by omega)]; exact c_21
            have c_76 : E50 0 9 = .inl (kA 5, 5, .inr (.inr (.inr (.inr fl_23)))) := by rw [fE52 0 9 (by omega)]; exact c_24
            have m_56 : (1 + nd, 0) ∈ RL51 := hm1
            have hP : va_P D xcl (rp ad49 E50 RL51) H := hP
            have hD : va_D A (rp ad49 E50 RL51) := hD
            refine lv_dup hx hb xd_Sh_acceptDescriptor_99 rfl ?_
            refine lv_aload_n hx hb xd_Sh_acceptDescriptor_100 rfl (lv_at hl 3 rfl) ?_
            refine px_get (D := D) (ci := 2) (v := .int (nI nd)) (C := xR_Sh) (T := xT_Sh) (N := 2) hx hb hT xi_Sh hown hK.1 hP m_62 c_72 rfl 1 (by decide) (hT _ k5e_15) (fun _ h9 => h9) rfl xd_Sh_acceptDescriptor_101 ?_
            refine lv_iload_n hx hb xd_Sh_acceptDescriptor_104 rfl (lv_at hl 2 rfl) ?_
            refine lv_iload_n hx hb xd_Sh_acceptDescriptor_105 rfl (lv_at hl 1 rfl) ?_
            have hFc := px_free hD hS hA
            refine va_callv (va_runI (As := [.int (nI nd), .int 0, .int (wN (g 0) wl 2)]) (rest := [.ref (ad49 (1 + nd) 0), .int (nI nd), .ref (ad49 0 6)]) ⟨hx, hb, hml, hown, hT⟩ (xc_Ds_init l D kA H.size ad49 E50 RL51 nd 0 (wN (g 0) wl 2) m_56 c_55) (cwI 3 hT (wT_I k5e_20) rfl rfl rfl (hT _ k5e_19) (hT _ k5e_21) (hT _ k5e_22) rfl (by decide +kernel) ⟨Nat.le_of_ble_eq_true rfl, Nat.le_of_ble_eq_true rfl⟩) (x_preS hK hP hD) rfl rfl hl.1 rfl (lv_room (Nat.le_of_ble_eq_true rfl)) xd_Sh_acceptDescriptor_106 ⟨(Nat.le_of_ble_eq_true rfl), (Nat.le_of_ble_eq_true rfl)⟩) hS (fun q _ h => hFc q h) hFc (fun u78 t H1 locs ht hvm hp79 hB hz1 hk1 hS => ?_)
            obtain ⟨hP1, hD1⟩ := hB
            rw [ht] at hP1
            have hD1 := hD1.weaken (fun _ _ _ h => hFc _ h)
            generalize H1 = H at hP1 hS ⊢
            have hP := hP1
            have hD := hD1
            obtain ⟨ad80, E81, RL82⟩ := u78
            obtain ⟨hp111, p_83, p_84, p_85, p_86, p_87, p_88, p_89, p_90, p_91, p_92, p_93, p_94, p_95, p_96, p_97, p_98, p_99, p_100, p_101, p_102, p_103, p_104, p_105, p_106, p_107, p_108, p_109, p_110⟩ := hp79
            have p_83 : E81 (1 + nd) 0 = .inr (7, [.int (nI nd), .int 0, .int (wN (g 0) wl 2), .ref (ad80 (1 + nd) 1), .ref (ad80 (1 + nd) 9), .ref (ad80 (1 + nd) 10), .ref (ad80 (1 + nd) 2), .ref (ad80 (1 + nd) 11), .ref (ad80 (1 + nd) 12), .ref (ad80 (1 + nd) 3), .ref (ad80 (1 + nd) 4), .int 0]) := p_83
            have p_84 : E81 (1 + nd) 1 = .inr (8, [.ref (ad80 (1 + nd) 5), .int 0]) := p_84
            have p_85 : E81 (1 + nd) 2 = .inr (8, [.ref (ad80 (1 + nd) 6), .int 0]) := p_85
            have p_86 : E81 (1 + nd) 3 = .inr (8, [.ref (ad80 (1 + nd) 7), .int 0]) := p_86
            have p_87 : E81 (1 + nd) 4 = .inr (8, [.ref (ad80 (1 + nd) 8), .int 0]) := p_87
            have p_88 : E81 (1 + nd) 5 = .inl (kA 0, 6, .inl (fun _ => 0)) := p_88
            have p_89 : E81 (1 + nd) 6 = .inl (kA 0, 5, .inl (fun _ => 0)) := p_89
            have p_90 : E81 (1 + nd) 7 = .inl (kA 0, 3, .inl (fun _ => 0)) := p_90
            have p_91 : E81 (1 + nd) 8 = .inl (kA 0, 3, .inl (fun _ => 0)) := p_91
            have p_92 : E81 (1 + nd) 9 = .inl (kA 8, 6, .inr (.inr (.inr (.inr (fun _ => none))))) := p_92
            have p_93 : E81 (1 + nd) 10 = .inl (kA 8, 6, .inr (.inr (.inr (.inr (fun _ => none))))) := p_93
            have p_94 : E81 (1 + nd) 11 = .inl (kA 2, 5, .inl (fun _ => 0)) := p_94
            have p_95 : E81 (1 + nd) 12 = .inl (kA 2, 5, .inl (fun _ => 0)) := p_95
            have p_96 : (∀ b2 o2, ¬ (b2 = 1 + nd ∧ o2 = 0) → ¬ (b2 = 1 + nd ∧ o2 = 1) → ¬ (b2 = 1 + nd ∧ o2 = 2) → ¬ (b2 = 1 + nd ∧ o2 = 3) → ¬ (b2 = 1 + nd ∧ o2 = 4) → ¬ (b2 = 1 + nd ∧ o2 = 5) → ¬ (b2 = 1 + nd ∧ o2 = 6) → ¬ (b2 = 1 + nd ∧ o2 = 7) → ¬ (b2 = 1 + nd ∧ o2 = 8) → ¬ (b2 = 1 + nd ∧ o2 = 9) → ¬ (b2 = 1 + nd ∧ o2 = 10) → ¬ (b2 = 1 + nd ∧ o2 = 11) → ¬ (b2 = 1 + nd ∧ o2 = 12) → E81 b2 o2 = E50 b2 o2) := p_96
            have p_97 : (∀ b2 o2, ¬ (b2 = 1 + nd ∧ o2 = 1) → ¬ (b2 = 1 + nd ∧ o2 = 2) → ¬ (b2 = 1 + nd ∧ o2 = 3) → ¬ (b2 = 1 + nd ∧ o2 = 4) → ¬ (b2 = 1 + nd ∧ o2 = 5) → ¬ (b2 = 1 + nd ∧ o2 = 6) → ¬ (b2 = 1 + nd ∧ o2 = 7) → ¬ (b2 = 1 + nd ∧ o2 = 8) → ¬ (b2 = 1 + nd ∧ o2 = 9) → ¬ (b2 = 1 + nd ∧ o2 = 10) → ¬ (b2 = 1 + nd ∧ o2 = 11) → ¬ (b2 = 1 + nd ∧ o2 = 12) → ad80 b2 o2 = ad49 b2 o2) := p_97
            have p_98 : (∀ x ∈ RL51, x ∈ RL82) := p_98
            have p_99 : (1 + nd, 1) ∈ RL82 := p_99
            have p_100 : (1 + nd, 2) ∈ RL82 := p_100
            have p_101 : (1 + nd, 3) ∈ RL82 := p_101
            have p_102 : (1 + nd, 4) ∈ RL82 := p_102
            have p_103 : (1 + nd, 5) ∈ RL82 := p_103
            have p_104 : (1 + nd, 6) ∈ RL82 := p_104
            have p_105 : (1 + nd, 7) ∈ RL82 := p_105
            have p_106 : (1 + nd, 8) ∈ RL82 := p_106
            have p_107 : (1 + nd, 9) ∈ RL82 := p_107
            have p_108 : (1 + nd, 10) ∈ RL82 := p_108
            have p_109 : (1 + nd, 11) ∈ RL82 := p_109
            have p_110 : (1 + nd, 12) ∈ RL82 := p_110
            refine W.eq (g2 := F0 m 109 ls [.ref (ad80 (1 + nd) 0), .int (nI nd), .ref (ad80 0 6)]) (by rw [p_97 (1 + nd) 0 (by omega) (by omega) (by omega) (by omega) (by omega) (by omega) (by omega) (by omega) (by omega) (by omega) (by omega) (by omega), p_97 0 6 (by omega) (by omega) (by omega) (by omega) (by omega) (by omega) (by omega) (by omega) (by omega) (by omega) (by omega) (by omega)]) ?_
            have hl : lv_has ls 5 [(4, .int 1), (3, .int (wN (g 0) wl 2)), (2, .int 0), (0, .ref (ad80 0 5)), (1, .ref (ad80 0 1))] := by
              rw [p_97 0 5 (by omega) (by omega) (by omega) (by omega) (by omega) (by omega) (by omega) (by omega) (by omega) (by omega) (by omega) (by omega), p_97 0 1 (by omega) (by omega) (by omega) (by omega) (by omega) (by omega) (by omega) (by omega) (by omega) (by omega) (by omega) (by omega)]; exact hl
            have m_112 : (0, 0) ∈ RL82 := p_98 _ m_57
            have m_113 : (0, 1) ∈ RL82 := p_98 _ m_58
            have m_114 : (0, 2) ∈ RL82 := p_98 _ m_59
            have m_115 : (0, 3) ∈ RL82 := p_98 _ m_60
            have m_116 : (0, 4) ∈ RL82 := p_98 _ m_61
            have m_117 : (0, 5) ∈ RL82 := p_98 _ m_62
            have m_118 : (0, 6) ∈ RL82 := p_98 _ m_63
            have m_119 : (0, 7) ∈ RL82 := p_98 _ m_64
            have m_120 : (0, 8) ∈ RL82 := p_98 _ m_65
            have m_121 : (0, 9) ∈ RL82 := p_98 _ m_66
            have m_122 : (1 + nd, 0) ∈ RL82 := p_98 _ m_56
            have c_123 : E81 0 0 = .inr (0, [.ref (ad80 0 1), .ref (ad80 0 5), .ref (ad80 0 7), .ref (ad80 0 9), .int (nI ml), .int lf_1]) := by rw [p_96 0 0 (by omega) (by omega) (by omega) (by omega) (by omega) (by omega) (by omega) (by omega) (by omega) (by omega) (by omega) (by omega) (by omega), p_97 0 1 (by omega) (by omega) (by omega) (by omega) (by omega) (by omega) (by omega) (by omega) (by omega) (by omega) (by omega) (by omega), p_97 0 5 (by omega) (by omega) (by omega) (by omega) (by omega) (by omega) (by omega) (by omega) (by omega) (by omega) (by omega) (by omega), p_97 0 7 (by omega) (by omega) (by omega) (by omega) (by omega) (by omega) (by omega) (by omega) (by omega) (by omega) (by omega) (by omega), p_97 0 9 (by omega) (by omega) (by omega) (by omega) (by omega) (by omega) (by omega) (by omega) (by omega) (by omega) (by omega) (by omega)]; exact c_67
            have c_124 : E81 0 1 = .inr (1, [.ref (ad80 0 2), .ref (ad80 0 3), .ref (ad80 0 4), .int (nI len), .int (nI (wl.length))]) := by rw [p_96 0 1 (by omega) (by omega) (by omega) (by omega) (by omega) (by omega) (by omega) (by omega) (by omega) (by omega) (by omega) (by omega) (by omega), p_97 0 2 (by omega) (by omega) (by omega) (by omega) (by omega) (by omega) (by omega) (by omega) (by omega) (by omega) (by omega) (by omega), p_97 0 3 (by omega) (by omega) (by omega) (by omega) (by omega) (by omega) (by omega) (by omega) (by omega) (by omega) (by omega) (by omega), p_97 0 4 (by omega) (by omega) (by omega) (by omega) (by omega) (by omega) (by omega) (by omega) (by omega) (by omega) (by omega) (by omega)]; exact c_68
            have c_125 : E81 0 2 = .inl (kA 1, 40, .inl tx_4) := by rw [p_96 0 2 (by omega) (by omega) (by omega) (by omega) (by omega) (by omega) (by omega) (by omega) (by omega) (by omega) (by omega) (by omega) (by omega)]; exact c_69
            have c_126 : E81 0 3 = .inl (kA 0, 20, .inl fb_4) := by rw [p_96 0 3 (by omega) (by omega) (by omega) (by omega) (by omega) (by omega) (by omega) (by omega) (by omega) (by omega) (by omega) (by omega) (by omega)]; exact c_70
            have c_127 : E81 0 4 = .inl (kA 0, 20, .inl fe_4) := by rw [p_96 0 4 (by omega) (by omega) (by omega) (by omega) (by omega) (by omega) (by omega) (by omega) (by omega) (by omega) (by omega) (by omega) (by omega)]; exact c_71
            have c_128 : E81 0 5 = .inr (2, [.ref (ad80 0 6), .int (nI nd)]) := by rw [p_96 0 5 (by omega) (by omega) (by omega) (by omega) (by omega) (by omega) (by omega) (by omega) (by omega) (by omega) (by omega) (by omega) (by omega), p_97 0 6 (by omega) (by omega) (by omega) (by omega) (by omega) (by omega) (by omega) (by omega) (by omega) (by omega) (by omega) (by omega)]; exact c_72
            have c_129 : E81 0 6 = .inl (kA 4, 12, .inr (.inr (.inr (.inr fd_13)))) := by rw [p_96 0 6 (by omega) (by omega) (by omega) (by omega) (by omega) (by omega) (by omega) (by omega) (by omega) (by omega) (by omega) (by omega) (by omega)]; exact c_73
            have c_130 : E81 0 7 = .inr (3, [.ref (ad80 0 5), .ref (ad80 0 8), .int (nI cs), .int cf_18, pv_18]) := by rw [p_96 0 7 (by omega) (by omega) (by omega) (by omega) (by omega) (by omega) (by omega) (by omega) (by omega) (by omega) (by omega) (by omega) (by omega), p_97 0 5 (by omega) (by omega) (by omega) (by omega) (by omega) (by omega) (by omega) (by omega) (by omega) (by omega) (by omega) (by omega), p_97 0 8 (by omega) (by omega) (by omega) (by omega) (by omega) (by omega) (by omega) (by omega) (by omega) (by omega) (by omega) (by omega)]; exact c_74
            have c_131 : E81 0 8 = .inl (kA 4, 12, .inr (.inr (.inr (.inr fc_18)))) := by rw [p_96 0 8 (by omega) (by omega) (by omega) (by omega) (by omega) (by omega) (by omega) (by omega) (by omega) (by omega) (by omega) (by omega) (by omega)]; exact c_75
            have c_132 : E81 0 9 = .inl (kA 5, 5, .inr (.inr (.inr (.inr fl_23)))) := by rw [p_96 0 9 (by omega) (by omega) (by omega) (by omega) (by omega) (by omega) (by omega) (by omega) (by omega) (by omega) (by omega) (by omega) (by omega)]; exact c_76
            have hP : va_P D xcl (rp ad80 E81 RL82) H := hP
            have hD : va_D A (rp ad80 E81 RL82) := hD
            refine px_aast (i := nd) (r := (xR_Ds, xT_Ds, 12)) hx hb hK.1 hP hD hS m_118 c_129 4 rfl m_122 p_83 rfl (by omega) (by decide) xd_Sh_acceptDescriptor_109 (fun H locs hP hD hS => ?_)
            have hP : va_P D xcl (rp ad80 (up2 E81 0 6 (.inl (kA 4, 12, .inr (.inr (.inr (.inr (va_up fd_13 nd (some (ad80 (1 + nd) 0))))))))) RL82) H := hP
            have hD : va_D A (rp ad80 (up2 E81 0 6 (.inl (kA 4, 12, .inr (.inr (.inr (.inr (va_up fd_13 nd (some (ad80 (1 + nd) 0))))))))) RL82) := hD
            generalize hE134 : up2 E81 0 6 (.inl (kA 4, 12, .inr (.inr (.inr (.inr (va_up fd_13 nd (some (ad80 (1 + nd) 0)))))))) = E133 at hP hD
            have fE135 : ∀ b2 o2, ¬ (b2 = 0 ∧ o2 = 6) → E133 b2 o2 = E81 b2 o2 := fun b2 o2 h9 => by rw [← hE134]; exact up2_ne (by omega)
            have c_136 : E133 0 6 = .inl (kA 4, 12, .inr (.inr (.inr (.inr (va_up fd_13 nd (some (ad80 (1 + nd) 0))))))) := by rw [← hE134]; exact up2_eq
            have c_137 : E133 (1 + nd) 0 = .inr (7, [.int (nI nd), .int 0, .int (wN (g 0) wl 2), .ref (ad80 (1 + nd) 1), .ref (ad80 (1 + nd) 9), .ref (ad80 (1 + nd) 10), .ref (ad80 (1 + nd) 2), .ref (ad80 (1 + nd) 11), .ref (ad80 (1 + nd) 12), .ref (ad80 (1 + nd) 3), .ref (ad80 (1 + nd) 4), .int 0]) := (fE135 (1 + nd) 0 (by omega)).trans p_83
            have c_138 : E133 (1 + nd) 1 = .inr (8, [.ref (ad80 (1 + nd) 5), .int 0]) := (fE135 (1 + nd) 1 (by omega)).trans p_84
            have c_139 : E133 (1 + nd) 2 = .inr (8, [.ref (ad80 (1 + nd) 6), .int 0]) := (fE135 (1 + nd) 2 (by omega)).trans p_85
            have c_140 : E133 (1 + nd) 3 = .inr (8, [.ref (ad80 (1 + nd) 7), .int 0]) := (fE135 (1 + nd) 3 (by omega)).trans p_86
            have c_141 : E133 (1 + nd) 4 = .inr (8, [.ref (ad80 (1 + nd) 8), .int 0]) := (fE135 (1 + nd) 4 (by omega)).trans p_87
            have c_142 : E133 (1 + nd) 5 = .inl (kA 0, 6, .inl (fun _ => 0)) := (fE135 (1 + nd) 5 (by omega)).trans p_88
            have c_143 : E133 (1 + nd) 6 = .inl (kA 0, 5, .inl (fun _ => 0)) := (fE135 (1 + nd) 6 (by omega)).trans p_89
            have c_144 : E133 (1 + nd) 7 = .inl (kA 0, 3, .inl (fun _ => 0)) := (fE135 (1 + nd) 7 (by omega)).trans p_90
            have c_145 : E133 (1 + nd) 8 = .inl (kA 0, 3, .inl (fun _ => 0)) := (fE135 (1 + nd) 8 (by omega)).trans p_91
            have c_146 : E133 (1 + nd) 9 = .inl (kA 8, 6, .inr (.inr (.inr (.inr (fun _ => none))))) := (fE135 (1 + nd) 9 (by omega)).trans p_92
            have c_147 : E133 (1 + nd) 10 = .inl (kA 8, 6, .inr (.inr (.inr (.inr (fun _ => none))))) := (fE135 (1 + nd) 10 (by omega)).trans p_93
            have c_148 : E133 (1 + nd) 11 = .inl (kA 2, 5, .inl (fun _ => 0)) := (fE135 (1 + nd) 11 (by omega)).trans p_94
            have c_149 : E133 (1 + nd) 12 = .inl (kA 2, 5, .inl (fun _ => 0)) := (fE135 (1 + nd) 12 (by omega)).trans p_95
            have c_150 : E133 0 0 = .inr (0, [.ref (ad80 0 1), .ref (ad80 0 5), .ref (ad80 0 7), .ref (ad80 0 9), .int (nI ml), .int lf_1]) := (fE135 0 0 (by omega)).trans c_123
            have c_151 : E133 0 1 = .inr (1, [.ref (ad80 0 2), .ref (ad80 0 3), .ref (ad80 0 4), .int (nI len), .int (nI (wl.length))]) := (fE135 0 1 (by omega)).trans c_124
            have c_152 : E133 0 2 = .inl (kA 1, 40, .inl tx_4) := (fE135 0 2 (by omega)).trans c_125
            have c_153 : E133 0 3 = .inl (kA 0, 20, .inl fb_4) := (fE135 0 3 (by omega)).trans c_126
            have c_154 : E133 0 4 = .inl (kA 0, 20, .inl fe_4) := (fE135 0 4 (by omega)).trans c_127
            have c_155 : E133 0 5 = .inr (2, [.ref (ad80 0 6), .int (nI nd)]) := (fE135 0 5 (by omega)).trans c_128
            have c_156 : E133 0 7 = .inr (3, [.ref (ad80 0 5), .ref (ad80 0 8), .int (nI cs), .int cf_18, pv_18]) := (fE135 0 7 (by omega)).trans c_130
            have c_157 : E133 0 8 = .inl (kA 4, 12, .inr (.inr (.inr (.inr fc_18)))) := (fE135 0 8 (by omega)).trans c_131
            have c_158 : E133 0 9 = .inl (kA 5, 5, .inr (.inr (.inr (.inr fl_23)))) := (fE135 0 9 (by omega)).trans c_132
            refine lv_aload_n hx hb xd_Sh_acceptDescriptor_110 rfl (lv_at hl 3 rfl) ?_
            refine lv_dup hx hb xd_Sh_acceptDescriptor_111 rfl ?_
            refine px_get (D := D) (ci := 2) (v := .int (nI nd)) (C := xR_Sh) (T := xT_Sh) (N := 2) hx hb hT xi_Sh hown hK.1 hP m_117 c_155 rfl 1 (by decide) (hT _ k5e_15) (fun _ h9 => h9) rfl xd_Sh_acceptDescriptor_112 ?_
            refine lv_iconst (v := 1) hx hb xd_Sh_acceptDescriptor_115 (by decide) ?_
            refine lv_iadd hx hb xd_Sh_acceptDescriptor_116 ?_
            refine xn_top (y := nI (nd + 1)) (nI_add nd 1) ?_
            refine px_put (D := D) (ci := 2) (v := .int (nI (nd + 1))) (ty := .int) (C := xR_Sh) (T := xT_Sh) (N := 2) hx hb hT xi_Sh xt_Sh xt_Sh_ok xn_Sh hown hK.1 hP hD hS m_117 c_155 rfl 1 (by decide) (hT _ k5e_15) (fun _ h9 => h9) rfl (by decide +kernel) rfl rfl (Nat.le_of_ble_eq_true rfl) xd_Sh_acceptDescriptor_117 (fun H locs hP hD hS => ?_)
            have hP : va_P D xcl (rp ad80 (up2 E133 0 5 (.inr (2, [.ref (ad80 0 6), .int (nI (nd + 1))]))) RL82) H := hP
            have hD : va_D A (rp ad80 (up2 E133 0 5 (.inr (2, [.ref (ad80 0 6), .int (nI (nd + 1))]))) RL82) := hD
            generalize hE160 : up2 E133 0 5 (.inr (2, [.ref (ad80 0 6), .int (nI (nd + 1))])) = E159 at hP hD
            have fE161 : ∀ b2 o2, ¬ (b2 = 0 ∧ o2 = 5) → E159 b2 o2 = E133 b2 o2 := fun b2 o2 h9 => by rw [← hE160]; exact up2_ne (by omega)
            have c_162 : E159 0 5 = .inr (2, [.ref (ad80 0 6), .int (nI (nd + 1))]) := by rw [← hE160]; exact up2_eq
            have c_163 : E159 0 6 = .inl (kA 4, 12, .inr (.inr (.inr (.inr (va_up fd_13 nd (some (ad80 (1 + nd) 0))))))) := (fE161 0 6 (by omega)).trans c_136
            have c_164 : E159 (1 + nd) 0 = .inr (7, [.int (nI nd), .int 0, .int (wN (g 0) wl 2), .ref (ad80 (1 + nd) 1), .ref (ad80 (1 + nd) 9), .ref (ad80 (1 + nd) 10), .ref (ad80 (1 + nd) 2), .ref (ad80 (1 + nd) 11), .ref (ad80 (1 + nd) 12), .ref (ad80 (1 + nd) 3), .ref (ad80 (1 + nd) 4), .int 0]) := (fE161 (1 + nd) 0 (by omega)).trans c_137
            have c_165 : E159 (1 + nd) 1 = .inr (8, [.ref (ad80 (1 + nd) 5), .int 0]) := (fE161 (1 + nd) 1 (by omega)).trans c_138
            have c_166 : E159 (1 + nd) 2 = .inr (8, [.ref (ad80 (1 + nd) 6), .int 0]) := (fE161 (1 + nd) 2 (by omega)).trans c_139
            have c_167 : E159 (1 + nd) 3 = .inr (8, [.ref (ad80 (1 + nd) 7), .int 0]) := (fE161 (1 + nd) 3 (by omega)).trans c_140
            have c_168 : E159 (1 + nd) 4 = .inr (8, [.ref (ad80 (1 + nd) 8), .int 0]) := (fE161 (1 + nd) 4 (by omega)).trans c_141
            have c_169 : E159 (1 + nd) 5 = .inl (kA 0, 6, .inl (fun _ => 0)) := (fE161 (1 + nd) 5 (by omega)).trans c_142
            have c_170 : E159 (1 + nd) 6 = .inl (kA 0, 5, .inl (fun _ => 0)) := (fE161 (1 + nd) 6 (by omega)).trans c_143
            have c_171 : E159 (1 + nd) 7 = .inl (kA 0, 3, .inl (fun _ => 0)) := (fE161 (1 + nd) 7 (by omega)).trans c_144
            have c_172 : E159 (1 + nd) 8 = .inl (kA 0, 3, .inl (fun _ => 0)) := (fE161 (1 + nd) 8 (by omega)).trans c_145
            have c_173 : E159 (1 + nd) 9 = .inl (kA 8, 6, .inr (.inr (.inr (.inr (fun _ => none))))) := (fE161 (1 + nd) 9 (by omega)).trans c_146
            have c_174 : E159 (1 + nd) 10 = .inl (kA 8, 6, .inr (.inr (.inr (.inr (fun _ => none))))) := (fE161 (1 + nd) 10 (by omega)).trans c_147
            have c_175 : E159 (1 + nd) 11 = .inl (kA 2, 5, .inl (fun _ => 0)) := (fE161 (1 + nd) 11 (by omega)).trans c_148
            have c_176 : E159 (1 + nd) 12 = .inl (kA 2, 5, .inl (fun _ => 0)) := (fE161 (1 + nd) 12 (by omega)).trans c_149
            have c_177 : E159 0 0 = .inr (0, [.ref (ad80 0 1), .ref (ad80 0 5), .ref (ad80 0 7), .ref (ad80 0 9), .int (nI ml), .int lf_1]) := (fE161 0 0 (by omega)).trans c_150
            have c_178 : E159 0 1 = .inr (1, [.ref (ad80 0 2), .ref (ad80 0 3), .ref (ad80 0 4), .int (nI len), .int (nI (wl.length))]) := (fE161 0 1 (by omega)).trans c_151
            have c_179 : E159 0 2 = .inl (kA 1, 40, .inl tx_4) := (fE161 0 2 (by omega)).trans c_152
            have c_180 : E159 0 3 = .inl (kA 0, 20, .inl fb_4) := (fE161 0 3 (by omega)).trans c_153
            have c_181 : E159 0 4 = .inl (kA 0, 20, .inl fe_4) := (fE161 0 4 (by omega)).trans c_154
            have c_182 : E159 0 7 = .inr (3, [.ref (ad80 0 5), .ref (ad80 0 8), .int (nI cs), .int cf_18, pv_18]) := (fE161 0 7 (by omega)).trans c_156
            have c_183 : E159 0 8 = .inl (kA 4, 12, .inr (.inr (.inr (.inr fc_18)))) := (fE161 0 8 (by omega)).trans c_157
            have c_184 : E159 0 9 = .inl (kA 5, 5, .inr (.inr (.inr (.inr fl_23)))) := (fE161 0 9 (by omega)).trans c_158
            have hTDn : TD (va_up (va_up g 3 (upd (g 3) nd 0)) 4 (upd (g 4) nd (wN (g 0) wl 2))) (E159 (1 + nd)) nd := TD_mk (k0 := 0) (k1 := 0) (k2 := 0) (k3 := 0) (by omega) (by omega) (by omega) (by omega) c_164 c_165 c_166 c_167 c_168 c_169 c_170 c_171 c_172 c_175 c_176 (TT_D ((hZI nd (by omega)).1 (Nat.le_refl _))) (fun i9 hi9 => absurd hi9 (by omega))
            have hTD2 : TDs (va_up (va_up g 3 (upd (g 3) nd 0)) 4 (upd (g 4) nd (wN (g 0) wl 2))) E159 (nd + 1) := TDs_add hDIs (fun d9 hd9 => fun2 fun o9 => by show E159 (1 + d9) o9 = _; rw [fE161 (1 + d9) o9 (by omega), fE135 (1 + d9) o9 (by omega), p_96 (1 + d9) o9 (by omega) (by omega) (by omega) (by omega) (by omega) (by omega) (by omega) (by omega) (by omega) (by omega) (by omega) (by omega) (by omega), fE52 (1 + d9) o9 (by omega)]) (fun d9 hd9 => AG_D (by omega)) hTDn hTD
            have hFRL : FRL ml nd ad ad80 E E159 := ⟨fun n9 hn9 => ⟨fun2 fun o9 => by show E159 (20 + n9) o9 = _; rw [fE161 (20 + n9) o9 (by omega), fE135 (20 + n9) o9 (by omega), p_96 (20 + n9) o9 (by omega) (by omega) (by omega) (by omega) (by omega) (by omega) (by omega) (by omega) (by omega) (by omega) (by omega) (by omega) (by omega), fE52 (20 + n9) o9 (by omega)], fun2 fun o9 => by show ad80 (20 + n9) o9 = _; rw [p_97 (20 + n9) o9 (by omega) (by omega) (by omega) (by omega) (by omega) (by omega) (by omega) (by omega) (by omega) (by omega) (by omega) (by omega), fA53 (20 + n9) o9 (by omega)]⟩, fun d9 hd9 => by show ad80 (1 + d9) 0 = _; rw [p_97 (1 + d9) 0 (by omega) (by omega) (by omega) (by omega) (by omega) (by omega) (by omega) (by omega) (by omega) (by omega) (by omega) (by omega), fA53 (1 + d9) 0 (by omega)], by show E159 0 0 = _; rw [fE161 0 0 (by omega), fE135 0 0 (by omega), p_96 0 0 (by omega) (by omega) (by omega) (by omega) (by omega) (by omega) (by omega) (by omega) (by omega) (by omega) (by omega) (by omega) (by omega), fE52 0 0 (by omega)]⟩
            have hCI : CI kA ad80 E159 RL82 ml (nd + 1) len wl.length cs := ⟨(fun o9 h9 => p_98 _ (hs54 _ (hmB o9 h9))), ⟨lf_1, c_177⟩, ⟨tx_4, fb_4, fe_4, (by omega), (by omega), c_178, c_179, c_180, c_181, hws_4⟩, ⟨(va_up fd_13 nd (some (ad80 (1 + nd) 0))), (by omega), c_162, c_163, (DS_add hds_13 (fun d9 hd9 => by show ad80 (1 + d9) 0 = _; rw [p_97 (1 + d9) 0 (by omega) (by omega) (by omega) (by omega) (by omega) (by omega) (by omega) (by omega) (by omega) (by omega) (by omega) (by omega), fA53 (1 + d9) 0 (by omega)]))⟩, ⟨cf_18, pv_18, fc_18, (by omega), (PV_ad hpv_18 (fun n9 hn9 => by show ad80 (20 + n9) 0 = _; rw [p_97 (20 + n9) 0 (by omega) (by omega) (by omega) (by omega) (by omega) (by omega) (by omega) (by omega) (by omega) (by omega) (by omega) (by omega), fA53 (20 + n9) 0 (by omega)])), c_182, c_183, (FC_ad hfc_18 (fun d9 hd9 => by show ad80 (1 + d9) 0 = _; rw [p_97 (1 + d9) 0 (by omega) (by omega) (by omega) (by omega) (by omega) (by omega) (by omega) (by omega) (by omega) (by omega) (by omega) (by omega), fA53 (1 + d9) 0 (by omega)]) (by omega))⟩, ⟨fl_23, (by omega), c_184, (LA_ad hla_23 (fun n9 hn9 => by show ad80 (20 + n9) 0 = _; rw [p_97 (20 + n9) 0 (by omega) (by omega) (by omega) (by omega) (by omega) (by omega) (by omega) (by omega) (by omega) (by omega) (by omega) (by omega), fA53 (20 + n9) 0 (by omega)]))⟩, (DIs_add (fun d9 hd9 => fun2 fun o9 => by show E159 (1 + d9) o9 = _; rw [fE161 (1 + d9) o9 (by omega), fE135 (1 + d9) o9 (by omega), p_96 (1 + d9) o9 (by omega) (by omega) (by omega) (by omega) (by omega) (by omega) (by omega) (by omega) (by omega) (by omega) (by omega) (by omega) (by omega), fE52 (1 + d9) o9 (by omega)]) (fun d9 hd9 => fun2 fun o9 => by show ad80 (1 + d9) o9 = _; rw [p_97 (1 + d9) o9 (by omega) (by omega) (by omega) (by omega) (by omega) (by omega) (by omega) (by omega) (by omega) (by omega) (by omega) (by omega), fA53 (1 + d9) o9 (by omega)]) (fun _ h9 => p_98 _ (hs54 _ h9)) ⟨(fun o9 ho9 => by
          have ho8 : o9 = 0 ∨ o9 = 1 ∨ o9 = 2 ∨ o9 = 3 ∨ o9 = 4 ∨ o9 = 5 ∨ o9 = 6 ∨ o9 = 7 ∨ o9 = 8 ∨ o9 = 9 ∨ o9 = 10 ∨ o9 = 11 ∨ o9 = 12 := by omega
          rcases ho8 with rfl | rfl | rfl | rfl | rfl | rfl | rfl | rfl | rfl | rfl | rfl | rfl | rfl
          · exact m_122
          · exact p_99
          · exact p_100
          · exact p_101
          · exact p_102
          · exact p_103
          · exact p_104
          · exact p_105
          · exact p_106
          · exact p_107
          · exact p_108
          · exact p_109
          · exact p_110), 0, (wN (g 0) wl 2), 0, 0, 0, 0, 0, (fun _ => 0), (fun _ => 0), (fun _ => 0), (fun _ => 0), (fun _ => none), (fun _ => none), (fun _ => 0), (fun _ => 0), (by omega), (by omega), (by omega), (by omega), c_164, c_165, c_166, c_167, c_168, c_169, c_170, c_171, c_172, c_173, c_174, c_175, c_176, fun i9 hi9 => absurd hi9 (by omega)⟩ hDIs), (LIs_same (by omega) (fun n9 hn9 => fun2 fun o9 => by show E159 (20 + n9) o9 = _; rw [fE161 (20 + n9) o9 (by omega), fE135 (20 + n9) o9 (by omega), p_96 (20 + n9) o9 (by omega) (by omega) (by omega) (by omega) (by omega) (by omega) (by omega) (by omega) (by omega) (by omega) (by omega) (by omega) (by omega), fE52 (20 + n9) o9 (by omega)]) (fun n9 hn9 => fun2 fun o9 => by show ad80 (20 + n9) o9 = _; rw [p_97 (20 + n9) o9 (by omega) (by omega) (by omega) (by omega) (by omega) (by omega) (by omega) (by omega) (by omega) (by omega) (by omega) (by omega), fA53 (20 + n9) o9 (by omega)]) (fun d9 hd9 => by show ad80 (1 + d9) 0 = _; rw [p_97 (1 + d9) 0 (by omega) (by omega) (by omega) (by omega) (by omega) (by omega) (by omega) (by omega) (by omega) (by omega) (by omega) (by omega), fA53 (1 + d9) 0 (by omega)]) (fun _ h9 => p_98 _ (hs54 _ h9)) hLIs)⟩
            have hA00 : ad80 0 0 = ad 0 0 := by show ad80 0 0 = _; rw [p_97 0 0 (by omega) (by omega) (by omega) (by omega) (by omega) (by omega) (by omega) (by omega) (by omega) (by omega) (by omega) (by omega), fA53 0 0 (by omega)]
            obtain ⟨hmB, hDk, hLi, hSh, hCh, hLa, hDIs, hLIs⟩ := id hCI
            refine lv_iconst (v := 1) hx hb xd_Sh_acceptDescriptor_120 (by decide) ?_
            refine W.widen (k := 13) (n := 66) (Nat.le_of_ble_eq_true rfl) (Nat.le_of_ble_eq_true rfl) ?_
            exact W.iret (v := 1) hx hb hr (fun t ht hW => ⟨⟨1, (ad80, E159, RL82), rfl, (by
        rw [lD_y (fF_0 hw7) rfl ⟨by omega, Or.inl hw7, hc38, fun j hj q => ff_no z44 j hj ⟨q.1.trans (fF_0 hw7).symm, q.2⟩, by omega⟩]
        exact ⟨hCI, hTD2, hA00, hFRL⟩), by rw [ht]; exact hP, hD⟩, hS.F ht⟩) hS.2.2 xd_Sh_acceptDescriptor_121
          · refine lv_bipush (v := (-2)) hx hb xd_Sh_acceptDescriptor_85 (by decide) ?_
            refine W.widen (k := 13) (n := 66) (Nat.le_of_ble_eq_true rfl) (Nat.le_of_ble_eq_true rfl) ?_
            exact W.iret (v := (-2)) hx hb hr (fun t ht hW => ⟨⟨(-2), (ad, E, RL), rfl, (by rw [lD_n (fun q => absurd q.2.2.2.2 (by omega))]; exact ⟨hCI, hTD, rfl, FRL_rf⟩), by rw [ht]; exact hP, hD⟩, hS.F ht⟩) hS.2.2 xd_Sh_acceptDescriptor_87
        · refine W.eq (g2 := F0 m 71 ls [.ref (ad (1 + z45) 0)]) rfl ?_
          refine lv_ifnull hx hb xd_Sh_acceptDescriptor_71 ?_
          refine lv_iconst (v := (-1)) hx hb xd_Sh_acceptDescriptor_74 (by decide) ?_
          refine W.widen (k := 13) (n := 66) (Nat.le_of_ble_eq_true rfl) (Nat.le_of_ble_eq_true rfl) ?_
          exact W.iret (v := (-1)) hx hb hr (fun t ht hW => ⟨⟨(-1), (ad, E, RL), rfl, (by rw [lD_n (fun q => q.2.2.2.1 z45 z46 ⟨(ff_is z47).2.1.1.trans (fF_0 hw7), (ff_is z47).2.1.2⟩)]; exact ⟨hCI, hTD, rfl, FRL_rf⟩), by rw [ht]; exact hP, hD⟩, hS.F ht⟩) hS.2.2 xd_Sh_acceptDescriptor_75
  · have hw7 : ¬ wS (g 0) wl 1 [48] := by have q := z30; rw [zw7] at q; exact q
    refine W.eq (g2 := F0 m 7 ls [.int 0]) rfl ?_
    refine lv_if_eq (tgt := 14) hx hb xd_Sh_acceptDescriptor_7 (by decide) (fun _ => ?_) (fun hc185 => absurd (by decide) hc185)
    refine lv_aload_n hx hb xd_Sh_acceptDescriptor_14 rfl (lv_at hl 1 rfl) ?_
    refine lv_iconst (v := 1) hx hb xd_Sh_acceptDescriptor_15 (by decide) ?_
    refine va_ldcS (q := Z.1 8) hx hb hown hZ.2.2.2.1.2.2.2.2.2.2.2.2.1 xd_Sh_acceptDescriptor_16 ?_
    have hFc := px_free hD hS hA
    refine va_calli (va_runV (As := [.int 1, .ref (Z.1 8)]) (rest := []) ⟨hx, hb, hml, hown, hT⟩ (xc_Li_wordIsX l D kA H.size ad E RL Z g ml nd len lt wl cs 1 8 (by first | assumption | omega) (by first | assumption | omega) (by first | assumption | omega) (by first | assumption | omega)) (cwV 2 hT (wT_V k5e_1 k5e_2 k5e_3 k5e_4 k5e_0) rfl rfl rfl (by decide +kernel) ⟨Nat.le_of_ble_eq_true rfl, Nat.le_of_ble_eq_true rfl⟩) (px_preVZ hK hP hD m_6 c_5 rfl hFc (hZ.kept hS)) rfl rfl hl.1 rfl (lv_room (Nat.le_of_ble_eq_true rfl)) xd_Sh_acceptDescriptor_18 ⟨(Nat.le_of_ble_eq_true rfl), (Nat.le_of_ble_eq_true rfl)⟩) hS (fun q _ h => hFc q h) hFc (fun r186 u187 t H1 locs ht hvm hp188 hB hz1 hk1 hS => ?_)
    obtain ⟨hP1, hD1⟩ := hB
    rw [ht] at hP1
    have hD1 := hD1.weaken (fun _ _ _ h => hFc _ h)
    generalize H1 = H at hP1 hS ⊢
    have hP := hP1
    have hD := hD1
    have hP : va_P D xcl (rp ad E RL) H := hP
    have hD : va_D A (rp ad E RL) := hD
    rcases hp188 with ⟨rfl, z189⟩ | ⟨rfl, z190⟩
    · have hw8 : wS (g 0) wl 1 [49] := by have q := z189; rw [zw8] at q; exact q
      refine W.eq (g2 := F0 m 21 ls [.int 1]) rfl ?_
      refine lv_if_eq (tgt := 28) hx hb xd_Sh_acceptDescriptor_21 (by decide) (fun hc191 => absurd hc191 (by decide)) (fun _ => ?_)
      refine lv_iconst (v := 1) hx hb xd_Sh_acceptDescriptor_24 (by decide) ?_
      refine lv_goto (tgt := 29) hx hb xd_Sh_acceptDescriptor_25 (by decide) ?_
      refine lv_istore_n hx hb xd_Sh_acceptDescriptor_29 rfl hl (Nat.le_of_ble_eq_true rfl) rfl (fun ls hl => ?_)
      have hl : lv_has ls 5 [(2, .int 1), (0, .ref (ad 0 5)), (1, .ref (ad 0 1))] := hl
      refine lv_aload_n hx hb xd_Sh_acceptDescriptor_30 rfl (lv_at hl 2 rfl) ?_
      refine lv_iconst (v := 2) hx hb xd_Sh_acceptDescriptor_31 (by decide) ?_
      have hFc := px_free hD hS hA
      refine va_calli (va_runV (As := [.int 2]) (rest := []) ⟨hx, hb, hml, hown, hT⟩ (xc_Li_nameAtX l D kA H.size ad E RL g ml nd len lt wl cs 2 (by first | assumption | omega) (by first | assumption | omega) (by first | assumption | omega)) (cwV 1 hT (wT_V k5e_6 k5e_7 k5e_8 k5e_4 k5e_5) rfl rfl rfl (by decide +kernel) ⟨Nat.le_of_ble_eq_true rfl, Nat.le_of_ble_eq_true rfl⟩) (px_preV hK hP hD m_6 c_5 rfl) rfl rfl hl.1 rfl (lv_room (Nat.le_of_ble_eq_true rfl)) xd_Sh_acceptDescriptor_32 ⟨(Nat.le_of_ble_eq_true rfl), (Nat.le_of_ble_eq_true rfl)⟩) hS (fun q _ h => hFc q h) hFc (fun r192 u193 t H1 locs ht hvm hp194 hB hz1 hk1 hS => ?_)
      obtain ⟨hP1, hD1⟩ := hB
      rw [ht] at hP1
      have hD1 := hD1.weaken (fun _ _ _ h => hFc _ h)
      generalize H1 = H at hP1 hS ⊢
      have hP := hP1
      have hD := hD1
      have hP : va_P D xcl (rp ad E RL) H := hP
      have hD : va_D A (rp ad E RL) := hD
      have hp194 : r192 = wN (g 0) wl 2 := hp194
      subst hp194
      have hP : va_P D xcl (rp ad E RL) H := hP
      have hD : va_D A (rp ad E RL) := hD
      refine lv_istore_n hx hb xd_Sh_acceptDescriptor_35 rfl hl (Nat.le_of_ble_eq_true rfl) rfl (fun ls hl => ?_)
      have hl : lv_has ls 5 [(3, .int (wN (g 0) wl 2)), (2, .int 1), (0, .ref (ad 0 5)), (1, .ref (ad 0 1))] := hl
      refine lv_aload_n hx hb xd_Sh_acceptDescriptor_36 rfl (lv_at hl 3 rfl) ?_
      refine px_get (D := D) (ci := 1) (v := .int (nI (wl.length))) (C := xR_Li) (T := xT_Li) (N := 5) hx hb hT xi_Li hown hK.1 hP m_6 c_5 rfl 4 (by decide) (hT _ k5e_9) (fun _ h9 => h9) rfl xd_Sh_acceptDescriptor_37 ?_
      refine lv_iconst (v := 3) hx hb xd_Sh_acceptDescriptor_40 (by decide) ?_
      refine xn_ne (a := wl.length) (b := 3) (tgt := 57) hx hb xd_Sh_acceptDescriptor_41 (by decide) (by omega) (by omega) (fun hc195 => ?_) (fun hc195 => ?_)
      · refine lv_iconst (v := 0) hx hb xd_Sh_acceptDescriptor_57 (by decide) ?_
        refine lv_istore hx hb xd_Sh_acceptDescriptor_58 hl (Nat.le_of_ble_eq_true rfl) rfl (fun ls hl => ?_)
        have hl : lv_has ls 5 [(4, .int 0), (3, .int (wN (g 0) wl 2)), (2, .int 1), (0, .ref (ad 0 5)), (1, .ref (ad 0 1))] := hl
        refine lv_iload hx hb xd_Sh_acceptDescriptor_60 (lv_at hl 0 rfl) ?_
        refine lv_if_eq (tgt := 74) hx hb xd_Sh_acceptDescriptor_62 (by decide) (fun _ => ?_) (fun hc196 => absurd (by decide) hc196)
        refine lv_iconst (v := (-1)) hx hb xd_Sh_acceptDescriptor_74 (by decide) ?_
        refine W.widen (k := 13) (n := 66) (Nat.le_of_ble_eq_true rfl) (Nat.le_of_ble_eq_true rfl) ?_
        exact W.iret (v := (-1)) hx hb hr (fun t ht hW => ⟨⟨(-1), (ad, E, RL), rfl, (by rw [lD_n (fun q => absurd q.1 (by omega))]; exact ⟨hCI, hTD, rfl, FRL_rf⟩), by rw [ht]; exact hP, hD⟩, hS.F ht⟩) hS.2.2 xd_Sh_acceptDescriptor_75
      · refine lv_iload_n hx hb xd_Sh_acceptDescriptor_44 rfl (lv_at hl 1 rfl) ?_
        refine lv_iconst (v := (-1)) hx hb xd_Sh_acceptDescriptor_45 (by decide) ?_
        refine lv_icmp_eq (tgt := 57) hx hb xd_Sh_acceptDescriptor_46 (by decide) (fun hc197 => absurd hc197 (by decide)) (fun _ => ?_)
        refine lv_iload_n hx hb xd_Sh_acceptDescriptor_49 rfl (lv_at hl 0 rfl) ?_
        refine lv_if_eq (tgt := 57) hx hb xd_Sh_acceptDescriptor_50 (by decide) (fun hc198 => ?_) (fun hc198 => ?_)
        · refine lv_iconst (v := 0) hx hb xd_Sh_acceptDescriptor_57 (by decide) ?_
          refine lv_istore hx hb xd_Sh_acceptDescriptor_58 hl (Nat.le_of_ble_eq_true rfl) rfl (fun ls hl => ?_)
          have hl : lv_has ls 5 [(4, .int 0), (3, .int (wN (g 0) wl 2)), (2, .int 1), (0, .ref (ad 0 5)), (1, .ref (ad 0 1))] := hl
          refine lv_iload hx hb xd_Sh_acceptDescriptor_60 (lv_at hl 0 rfl) ?_
          refine lv_if_eq (tgt := 74) hx hb xd_Sh_acceptDescriptor_62 (by decide) (fun _ => ?_) (fun hc199 => absurd (by decide) hc199)
          refine lv_iconst (v := (-1)) hx hb xd_Sh_acceptDescriptor_74 (by decide) ?_
          refine W.widen (k := 13) (n := 66) (Nat.le_of_ble_eq_true rfl) (Nat.le_of_ble_eq_true rfl) ?_
          exact W.iret (v := (-1)) hx hb hr (fun t ht hW => ⟨⟨(-1), (ad, E, RL), rfl, (by rw [lD_n (fun q => q.2.2.1 hc198)]; exact ⟨hCI, hTD, rfl, FRL_rf⟩), by rw [ht]; exact hP, hD⟩, hS.F ht⟩) hS.2.2 xd_Sh_acceptDescriptor_75
        · refine lv_iconst (v := 1) hx hb xd_Sh_acceptDescriptor_53 (by decide) ?_
          refine lv_goto (tgt := 58) hx hb xd_Sh_acceptDescriptor_54 (by decide) ?_
          refine lv_istore hx hb xd_Sh_acceptDescriptor_58 hl (Nat.le_of_ble_eq_true rfl) rfl (fun ls hl => ?_)
          have hl : lv_has ls 5 [(4, .int 1), (3, .int (wN (g 0) wl 2)), (2, .int 1), (0, .ref (ad 0 5)), (1, .ref (ad 0 1))] := hl
          refine lv_iload hx hb xd_Sh_acceptDescriptor_60 (lv_at hl 0 rfl) ?_
          refine lv_if_eq (tgt := 74) hx hb xd_Sh_acceptDescriptor_62 (by decide) (fun hc200 => absurd hc200 (by decide)) (fun _ => ?_)
          refine lv_aload_n hx hb xd_Sh_acceptDescriptor_65 rfl (lv_at hl 3 rfl) ?_
          refine lv_iload_n hx hb xd_Sh_acceptDescriptor_66 rfl (lv_at hl 2 rfl) ?_
          refine lv_iload_n hx hb xd_Sh_acceptDescriptor_67 rfl (lv_at hl 1 rfl) ?_
          have hFc := px_free hD hS hA
          refine va_callq (va_runV (As := [.int 1, .int (wN (g 0) wl 2)]) (rest := []) ⟨hx, hb, hml, hown, hT⟩ (xc_Sh_findX l D kA H.size ad E RL g ml nd len wl.length cs 1 (wN (g 0) wl 2) (by first | assumption | omega) (by first | assumption | omega)) (cwV 2 hT (wT_V k5e_11 k5e_12 k5e_13 k5e_14 k5e_10) rfl rfl rfl (by decide +kernel) ⟨Nat.le_of_ble_eq_true rfl, Nat.le_of_ble_eq_true rfl⟩) (px_preV hK hP hD m_15 c_14 rfl) rfl rfl hl.1 rfl (lv_room (Nat.le_of_ble_eq_true rfl)) xd_Sh_acceptDescriptor_68 ⟨(Nat.le_of_ble_eq_true rfl), (Nat.le_of_ble_eq_true rfl)⟩) hS (fun q _ h => hFc q h) hFc (fun r201 u202 t H1 locs ht hvm hp203 hB hz1 hk1 hS => ?_)
          obtain ⟨hP1, hD1⟩ := hB
          rw [ht] at hP1
          have hD1 := hD1.weaken (fun _ _ _ h => hFc _ h)
          generalize H1 = H at hP1 hS ⊢
          have hP := hP1
          have hD := hD1
          have hP : va_P D xcl (rp ad E RL) H := hP
          have hD : va_D A (rp ad E RL) := hD
          rcases hp203 with ⟨rfl, z204⟩ | ⟨z205, z206, rfl, z207⟩
          · refine W.eq (g2 := F0 m 71 ls [.null]) rfl ?_
            refine lv_ifnullN (tgt := 76) hx hb xd_Sh_acceptDescriptor_71 (by decide) ?_
            refine lv_aload_n hx hb xd_Sh_acceptDescriptor_76 rfl (lv_at hl 3 rfl) ?_
            refine px_get (D := D) (ci := 2) (v := .int (nI nd)) (C := xR_Sh) (T := xT_Sh) (N := 2) hx hb hT xi_Sh hown hK.1 hP m_15 c_14 rfl 1 (by decide) (hT _ k5e_15) (fun _ h9 => h9) rfl xd_Sh_acceptDescriptor_77 ?_
            refine lv_bipush (v := 12) hx hb xd_Sh_acceptDescriptor_80 (by decide) ?_
            refine xn_lt (a := nd) (b := 12) (tgt := 88) hx hb xd_Sh_acceptDescriptor_82 (by decide) (by omega) (by omega) (fun hc208 => ?_) (fun hc208 => ?_)
            · refine lv_aload_n hx hb xd_Sh_acceptDescriptor_88 rfl (lv_at hl 3 rfl) ?_
              refine px_get (D := D) (ci := 2) (v := .ref (ad 0 6)) (C := xR_Sh) (T := xT_Sh) (N := 2) hx hb hT xi_Sh hown hK.1 hP m_15 c_14 rfl 0 (by decide) (hT _ k5e_16) (fun _ h9 => h9) rfl xd_Sh_acceptDescriptor_89 ?_
              refine lv_aload_n hx hb xd_Sh_acceptDescriptor_92 rfl (lv_at hl 3 rfl) ?_
              refine px_get (D := D) (ci := 2) (v := .int (nI nd)) (C := xR_Sh) (T := xT_Sh) (N := 2) hx hb hT xi_Sh hown hK.1 hP m_15 c_14 rfl 1 (by decide) (hT _ k5e_15) (fun _ h9 => h9) rfl xd_Sh_acceptDescriptor_93 ?_
              refine px_new (ci := 7) (fs := [.int 0, .int 0, .int 0, .null, .null, .null, .null, .null, .null, .null, .null, .int 0]) (C := xR_Ds) (T := xT_Ds) (N := 12) (1 + nd) 0 hx hb hT xi_Ds xt_Ds xt_Ds_ok hown (hT _ k5e_17) (hT _ k5e_18) (hT _ k5e_19) hK.1 hP hD hS hA rfl (by decide +kernel) (Nat.le_of_ble_eq_true rfl) (Nat.le_of_ble_eq_true rfl) xd_Sh_acceptDescriptor_96 (fun ad209 E210 RL211 H hA1 hE1 hs1 hm1 hP hD hS => ?_)
              have fE212 : ∀ b2 o2, ¬ (b2 = 1 + nd ∧ o2 = 0) → E210 b2 o2 = E b2 o2 := fun b2 o2 h9 => by rw [hE1]; exact up2_ne (by omega)
              have fA213 : ∀ b2 o2, ¬ (b2 = 1 + nd ∧ o2 = 0) → ad209 b2 o2 = ad b2 o2 := fun b2 o2 h9 => by rw [hA1]; exact up2_ne (by omega)
              have hs214 := hs1
              refine W.eq (g2 := F0 m _ ls [.ref (ad209 (1 + nd) 0), .int (nI nd), .ref (ad209 0 6)]) (by rw [fA213 0 6 (by omega)]) ?_
              have c_215 : E210 (1 + nd) 0 = .inr (7, [.int 0, .int 0, .int 0, .null, .null, .null, .null, .null, .null, .null, .null, .int 0]) := by rw [hE1]; exact up2_eq
              have hl : lv_has ls 5 [(4, .int 1), (3, .int (wN (g 0) wl 2)), (2, .int 1), (0, .ref (ad209 0 5)), (1, .ref (ad209 0 1))] := by
                rw [fA213 0 5 (by omega), fA213 0 1 (by omega)]; exact hl
              have m_217 : (0, 0) ∈ RL211 := hs214 _ m_3
              have m_218 : (0, 1) ∈ RL211 := hs214 _ m_6
              have m_219 : (0, 2) ∈ RL211 := hs214 _ m_8
              have m_220 : (0, 3) ∈ RL211 := hs214 _ m_10
              have m_221 : (0, 4) ∈ RL211 := hs214 _ m_12
              have m_222 : (0, 5) ∈ RL211 := hs214 _ m_15
              have m_223 : (0, 6) ∈ RL211 := hs214 _ m_17
              have m_224 : (0, 7) ∈ RL211 := hs214 _ m_20
              have m_225 : (0, 8) ∈ RL211 := hs214 _ m_22
              have m_226 : (0, 9) ∈ RL211 := hs214 _ m_25
              have c_227 : E210 0 0 = .inr (0, [.ref (ad209 0 1), .ref (ad209 0 5), .ref (ad209 0 7), .ref (ad209 0 9), .int (nI ml), .int lf_1]) := by rw [fE212 0 0 (by omega), fA213 0 1 (by omega), fA213 0 5 (by omega), fA213 0 7 (by omega), fA213 0 9 (by omega)]; exact c_2
              have c_228 : E210 0 1 = .inr (1, [.ref (ad209 0 2), .ref (ad209 0 3), .ref (ad209 0 4), .int (nI len), .int (nI (wl.length))]) := by rw [fE212 0 1 (by omega), fA213 0 2 (by omega), fA213 0 3 (by omega), fA213 0 4 (by omega)]; exact c_5
              have c_229 : E210 0 2 = .inl (kA 1, 40, .inl tx_4) := by rw [fE212 0 2 (by omega)]; exact c_7
              have c_230 : E210 0 3 = .inl (kA 0, 20, .inl fb_4) := by rw [fE212 0 3 (by omega)]; exact c_9
              have c_231 : E210 0 4 = .inl (kA 0, 20, .inl fe_4) := by rw [fE212 0 4 (by omega)]; exact c_11
              have c_232 : E210 0 5 = .inr (2, [.ref (ad209 0 6), .int (nI nd)]) := by rw [fE212 0 5 (by omega), fA213 0 6 (by omega)]; exact c_14
              have c_233 : E210 0 6 = .inl (kA 4, 12, .inr (.inr (.inr (.inr fd_13)))) := by rw [fE212 0 6 (by omega)]; exact c_16
              have c_234 : E210 0 7 = .inr (3, [.ref (ad209 0 5), .ref (ad209 0 8), .int (nI cs), .int cf_18, pv_18]) := by rw [fE212 0 7 (by omega), fA213 0 5 (by omega), fA213 0 8 (by omega)]; exact c_19
              have c_235 : E210 0 8 = .inl (kA 4, 12, .inr (.inr (.inr (.inr fc_18)))) := by rw [fE212 0 8 (by omega)]; exact c_21
              have c_236 : E210 0 9 = .inl (kA 5, 5, .inr (.inr (.inr (.inr fl_23)))) := by rw [fE212 0 9 (by omega)]; exact c_24
              have m_216 : (1 + nd, 0) ∈ RL211 := hm1
              have hP : va_P D xcl (rp ad209 E210 RL211) H := hP
              have hD : va_D A (rp ad209 E210 RL211) := hD
              refine lv_dup hx hb xd_Sh_acceptDescriptor_99 rfl ?_
              refine lv_aload_n hx hb xd_Sh_acceptDescriptor_100 rfl (lv_at hl 3 rfl) ?_
              refine px_get (D := D) (ci := 2) (v := .int (nI nd)) (C := xR_Sh) (T := xT_Sh) (N := 2) hx hb hT xi_Sh hown hK.1 hP m_222 c_232 rfl 1 (by decide) (hT _ k5e_15) (fun _ h9 => h9) rfl xd_Sh_acceptDescriptor_101 ?_
              refine lv_iload_n hx hb xd_Sh_acceptDescriptor_104 rfl (lv_at hl 2 rfl) ?_
              refine lv_iload_n hx hb xd_Sh_acceptDescriptor_105 rfl (lv_at hl 1 rfl) ?_
              have hFc := px_free hD hS hA
              refine va_callv (va_runI (As := [.int (nI nd), .int 1, .int (wN (g 0) wl 2)]) (rest := [.ref (ad209 (1 + nd) 0), .int (nI nd), .ref (ad209 0 6)]) ⟨hx, hb, hml, hown, hT⟩ (xc_Ds_init l D kA H.size ad209 E210 RL211 nd 1 (wN (g 0) wl 2) m_216 c_215) (cwI 3 hT (wT_I k5e_20) rfl rfl rfl (hT _ k5e_19) (hT _ k5e_21) (hT _ k5e_22) rfl (by decide +kernel) ⟨Nat.le_of_ble_eq_true rfl, Nat.le_of_ble_eq_true rfl⟩) (x_preS hK hP hD) rfl rfl hl.1 rfl (lv_room (Nat.le_of_ble_eq_true rfl)) xd_Sh_acceptDescriptor_106 ⟨(Nat.le_of_ble_eq_true rfl), (Nat.le_of_ble_eq_true rfl)⟩) hS (fun q _ h => hFc q h) hFc (fun u238 t H1 locs ht hvm hp239 hB hz1 hk1 hS => ?_)
              obtain ⟨hP1, hD1⟩ := hB
              rw [ht] at hP1
              have hD1 := hD1.weaken (fun _ _ _ h => hFc _ h)
              generalize H1 = H at hP1 hS ⊢
              have hP := hP1
              have hD := hD1
              obtain ⟨ad240, E241, RL242⟩ := u238
              obtain ⟨hp271, p_243, p_244, p_245, p_246, p_247, p_248, p_249, p_250, p_251, p_252, p_253, p_254, p_255, p_256, p_257, p_258, p_259, p_260, p_261, p_262, p_263, p_264, p_265, p_266, p_267, p_268, p_269, p_270⟩ := hp239
              have p_243 : E241 (1 + nd) 0 = .inr (7, [.int (nI nd), .int 1, .int (wN (g 0) wl 2), .ref (ad240 (1 + nd) 1), .ref (ad240 (1 + nd) 9), .ref (ad240 (1 + nd) 10), .ref (ad240 (1 + nd) 2), .ref (ad240 (1 + nd) 11), .ref (ad240 (1 + nd) 12), .ref (ad240 (1 + nd) 3), .ref (ad240 (1 + nd) 4), .int 0]) := p_243
              have p_244 : E241 (1 + nd) 1 = .inr (8, [.ref (ad240 (1 + nd) 5), .int 0]) := p_244
              have p_245 : E241 (1 + nd) 2 = .inr (8, [.ref (ad240 (1 + nd) 6), .int 0]) := p_245
              have p_246 : E241 (1 + nd) 3 = .inr (8, [.ref (ad240 (1 + nd) 7), .int 0]) := p_246
              have p_247 : E241 (1 + nd) 4 = .inr (8, [.ref (ad240 (1 + nd) 8), .int 0]) := p_247
              have p_248 : E241 (1 + nd) 5 = .inl (kA 0, 6, .inl (fun _ => 0)) := p_248
              have p_249 : E241 (1 + nd) 6 = .inl (kA 0, 5, .inl (fun _ => 0)) := p_249
              have p_250 : E241 (1 + nd) 7 = .inl (kA 0, 3, .inl (fun _ => 0)) := p_250
              have p_251 : E241 (1 + nd) 8 = .inl (kA 0, 3, .inl (fun _ => 0)) := p_251
              have p_252 : E241 (1 + nd) 9 = .inl (kA 8, 6, .inr (.inr (.inr (.inr (fun _ => none))))) := p_252
              have p_253 : E241 (1 + nd) 10 = .inl (kA 8, 6, .inr (.inr (.inr (.inr (fun _ => none))))) := p_253
              have p_254 : E241 (1 + nd) 11 = .inl (kA 2, 5, .inl (fun _ => 0)) := p_254
              have p_255 : E241 (1 + nd) 12 = .inl (kA 2, 5, .inl (fun _ => 0)) := p_255
              have p_256 : (∀ b2 o2, ¬ (b2 = 1 + nd ∧ o2 = 0) → ¬ (b2 = 1 + nd ∧ o2 = 1) → ¬ (b2 = 1 + nd ∧ o2 = 2) → ¬ (b2 = 1 + nd ∧ o2 = 3) → ¬ (b2 = 1 + nd ∧ o2 = 4) → ¬ (b2 = 1 + nd ∧ o2 = 5) → ¬ (b2 = 1 + nd ∧ o2 = 6) → ¬ (b2 = 1 + nd ∧ o2 = 7) → ¬ (b2 = 1 + nd ∧ o2 = 8) → ¬ (b2 = 1 + nd ∧ o2 = 9) → ¬ (b2 = 1 + nd ∧ o2 = 10) → ¬ (b2 = 1 + nd ∧ o2 = 11) → ¬ (b2 = 1 + nd ∧ o2 = 12) → E241 b2 o2 = E210 b2 o2) := p_256
              have p_257 : (∀ b2 o2, ¬ (b2 = 1 + nd ∧ o2 = 1) → ¬ (b2 = 1 + nd ∧ o2 = 2) → ¬ (b2 = 1 + nd ∧ o2 = 3) → ¬ (b2 = 1 + nd ∧ o2 = 4) → ¬ (b2 = 1 + nd ∧ o2 = 5) → ¬ (b2 = 1 + nd ∧ o2 = 6) → ¬ (b2 = 1 + nd ∧ o2 = 7) → ¬ (b2 = 1 + nd ∧ o2 = 8) → ¬ (b2 = 1 + nd ∧ o2 = 9) → ¬ (b2 = 1 + nd ∧ o2 = 10) → ¬ (b2 = 1 + nd ∧ o2 = 11) → ¬ (b2 = 1 + nd ∧ o2 = 12) → ad240 b2 o2 = ad209 b2 o2) := p_257
              have p_258 : (∀ x ∈ RL211, x ∈ RL242) := p_258
              have p_259 : (1 + nd, 1) ∈ RL242 := p_259
              have p_260 : (1 + nd, 2) ∈ RL242 := p_260
              have p_261 : (1 + nd, 3) ∈ RL242 := p_261
              have p_262 : (1 + nd, 4) ∈ RL242 := p_262
              have p_263 : (1 + nd, 5) ∈ RL242 := p_263
              have p_264 : (1 + nd, 6) ∈ RL242 := p_264
              have p_265 : (1 + nd, 7) ∈ RL242 := p_265
              have p_266 : (1 + nd, 8) ∈ RL242 := p_266
              have p_267 : (1 + nd, 9) ∈ RL242 := p_267
              have p_268 : (1 + nd, 10) ∈ RL242 := p_268
              have p_269 : (1 + nd, 11) ∈ RL242 := p_269
              have p_270 : (1 + nd, 12) ∈ RL242 := p_270
              refine W.eq (g2 := F0 m 109 ls [.ref (ad240 (1 + nd) 0), .int (nI nd), .ref (ad240 0 6)]) (by rw [p_257 (1 + nd) 0 (by omega) (by omega) (by omega) (by omega) (by omega) (by omega) (by omega) (by omega) (by omega) (by omega) (by omega) (by omega), p_257 0 6 (by omega) (by omega) (by omega) (by omega) (by omega) (by omega) (by omega) (by omega) (by omega) (by omega) (by omega) (by omega)]) ?_
              have hl : lv_has ls 5 [(4, .int 1), (3, .int (wN (g 0) wl 2)), (2, .int 1), (0, .ref (ad240 0 5)), (1, .ref (ad240 0 1))] := by
                rw [p_257 0 5 (by omega) (by omega) (by omega) (by omega) (by omega) (by omega) (by omega) (by omega) (by omega) (by omega) (by omega) (by omega), p_257 0 1 (by omega) (by omega) (by omega) (by omega) (by omega) (by omega) (by omega) (by omega) (by omega) (by omega) (by omega) (by omega)]; exact hl
              have m_272 : (0, 0) ∈ RL242 := p_258 _ m_217
              have m_273 : (0, 1) ∈ RL242 := p_258 _ m_218
              have m_274 : (0, 2) ∈ RL242 := p_258 _ m_219
              have m_275 : (0, 3) ∈ RL242 := p_258 _ m_220
              have m_276 : (0, 4) ∈ RL242 := p_258 _ m_221
              have m_277 : (0, 5) ∈ RL242 := p_258 _ m_222
              have m_278 : (0, 6) ∈ RL242 := p_258 _ m_223
              have m_279 : (0, 7) ∈ RL242 := p_258 _ m_224
              have m_280 : (0, 8) ∈ RL242 := p_258 _ m_225
              have m_281 : (0, 9) ∈ RL242 := p_258 _ m_226
              have m_282 : (1 + nd, 0) ∈ RL242 := p_258 _ m_216
              have c_283 : E241 0 0 = .inr (0, [.ref (ad240 0 1), .ref (ad240 0 5), .ref (ad240 0 7), .ref (ad240 0 9), .int (nI ml), .int lf_1]) := by rw [p_256 0 0 (by omega) (by omega) (by omega) (by omega) (by omega) (by omega) (by omega) (by omega) (by omega) (by omega) (by omega) (by omega) (by omega), p_257 0 1 (by omega) (by omega) (by omega) (by omega) (by omega) (by omega) (by omega) (by omega) (by omega) (by omega) (by omega) (by omega), p_257 0 5 (by omega) (by omega) (by omega) (by omega) (by omega) (by omega) (by omega) (by omega) (by omega) (by omega) (by omega) (by omega), p_257 0 7 (by omega) (by omega) (by omega) (by omega) (by omega) (by omega) (by omega) (by omega) (by omega) (by omega) (by omega) (by omega), p_257 0 9 (by omega) (by omega) (by omega) (by omega) (by omega) (by omega) (by omega) (by omega) (by omega) (by omega) (by omega) (by omega)]; exact c_227
              have c_284 : E241 0 1 = .inr (1, [.ref (ad240 0 2), .ref (ad240 0 3), .ref (ad240 0 4), .int (nI len), .int (nI (wl.length))]) := by rw [p_256 0 1 (by omega) (by omega) (by omega) (by omega) (by omega) (by omega) (by omega) (by omega) (by omega) (by omega) (by omega) (by omega) (by omega), p_257 0 2 (by omega) (by omega) (by omega) (by omega) (by omega) (by omega) (by omega) (by omega) (by omega) (by omega) (by omega) (by omega), p_257 0 3 (by omega) (by omega) (by omega) (by omega) (by omega) (by omega) (by omega) (by omega) (by omega) (by omega) (by omega) (by omega), p_257 0 4 (by omega) (by omega) (by omega) (by omega) (by omega) (by omega) (by omega) (by omega) (by omega) (by omega) (by omega) (by omega)]; exact c_228
              have c_285 : E241 0 2 = .inl (kA 1, 40, .inl tx_4) := by rw [p_256 0 2 (by omega) (by omega) (by omega) (by omega) (by omega) (by omega) (by omega) (by omega) (by omega) (by omega) (by omega) (by omega) (by omega)]; exact c_229
              have c_286 : E241 0 3 = .inl (kA 0, 20, .inl fb_4) := by rw [p_256 0 3 (by omega) (by omega) (by omega) (by omega) (by omega) (by omega) (by omega) (by omega) (by omega) (by omega) (by omega) (by omega) (by omega)]; exact c_230
              have c_287 : E241 0 4 = .inl (kA 0, 20, .inl fe_4) := by rw [p_256 0 4 (by omega) (by omega) (by omega) (by omega) (by omega) (by omega) (by omega) (by omega) (by omega) (by omega) (by omega) (by omega) (by omega)]; exact c_231
              have c_288 : E241 0 5 = .inr (2, [.ref (ad240 0 6), .int (nI nd)]) := by rw [p_256 0 5 (by omega) (by omega) (by omega) (by omega) (by omega) (by omega) (by omega) (by omega) (by omega) (by omega) (by omega) (by omega) (by omega), p_257 0 6 (by omega) (by omega) (by omega) (by omega) (by omega) (by omega) (by omega) (by omega) (by omega) (by omega) (by omega) (by omega)]; exact c_232
              have c_289 : E241 0 6 = .inl (kA 4, 12, .inr (.inr (.inr (.inr fd_13)))) := by rw [p_256 0 6 (by omega) (by omega) (by omega) (by omega) (by omega) (by omega) (by omega) (by omega) (by omega) (by omega) (by omega) (by omega) (by omega)]; exact c_233
              have c_290 : E241 0 7 = .inr (3, [.ref (ad240 0 5), .ref (ad240 0 8), .int (nI cs), .int cf_18, pv_18]) := by rw [p_256 0 7 (by omega) (by omega) (by omega) (by omega) (by omega) (by omega) (by omega) (by omega) (by omega) (by omega) (by omega) (by omega) (by omega), p_257 0 5 (by omega) (by omega) (by omega) (by omega) (by omega) (by omega) (by omega) (by omega) (by omega) (by omega) (by omega) (by omega), p_257 0 8 (by omega) (by omega) (by omega) (by omega) (by omega) (by omega) (by omega) (by omega) (by omega) (by omega) (by omega) (by omega)]; exact c_234
              have c_291 : E241 0 8 = .inl (kA 4, 12, .inr (.inr (.inr (.inr fc_18)))) := by rw [p_256 0 8 (by omega) (by omega) (by omega) (by omega) (by omega) (by omega) (by omega) (by omega) (by omega) (by omega) (by omega) (by omega) (by omega)]; exact c_235
              have c_292 : E241 0 9 = .inl (kA 5, 5, .inr (.inr (.inr (.inr fl_23)))) := by rw [p_256 0 9 (by omega) (by omega) (by omega) (by omega) (by omega) (by omega) (by omega) (by omega) (by omega) (by omega) (by omega) (by omega) (by omega)]; exact c_236
              have hP : va_P D xcl (rp ad240 E241 RL242) H := hP
              have hD : va_D A (rp ad240 E241 RL242) := hD
              refine px_aast (i := nd) (r := (xR_Ds, xT_Ds, 12)) hx hb hK.1 hP hD hS m_278 c_289 4 rfl m_282 p_243 rfl (by omega) (by decide) xd_Sh_acceptDescriptor_109 (fun H locs hP hD hS => ?_)
              have hP : va_P D xcl (rp ad240 (up2 E241 0 6 (.inl (kA 4, 12, .inr (.inr (.inr (.inr (va_up fd_13 nd (some (ad240 (1 + nd) 0))))))))) RL242) H := hP
              have hD : va_D A (rp ad240 (up2 E241 0 6 (.inl (kA 4, 12, .inr (.inr (.inr (.inr (va_up fd_13 nd (some (ad240 (1 + nd) 0))))))))) RL242) := hD
              generalize hE294 : up2 E241 0 6 (.inl (kA 4, 12, .inr (.inr (.inr (.inr (va_up fd_13 nd (some (ad240 (1 + nd) 0)))))))) = E293 at hP hD
              have fE295 : ∀ b2 o2, ¬ (b2 = 0 ∧ o2 = 6) → E293 b2 o2 = E241 b2 o2 := fun b2 o2 h9 => by rw [← hE294]; exact up2_ne (by omega)
              have c_296 : E293 0 6 = .inl (kA 4, 12, .inr (.inr (.inr (.inr (va_up fd_13 nd (some (ad240 (1 + nd) 0))))))) := by rw [← hE294]; exact up2_eq
              have c_297 : E293 (1 + nd) 0 = .inr (7, [.int (nI nd), .int 1, .int (wN (g 0) wl 2), .ref (ad240 (1 + nd) 1), .ref (ad240 (1 + nd) 9), .ref (ad240 (1 + nd) 10), .ref (ad240 (1 + nd) 2), .ref (ad240 (1 + nd) 11), .ref (ad240 (1 + nd) 12), .ref (ad240 (1 + nd) 3), .ref (ad240 (1 + nd) 4), .int 0]) := (fE295 (1 + nd) 0 (by omega)).trans p_243
              have c_298 : E293 (1 + nd) 1 = .inr (8, [.ref (ad240 (1 + nd) 5), .int 0]) := (fE295 (1 + nd) 1 (by omega)).trans p_244
              have c_299 : E293 (1 + nd) 2 = .inr (8, [.ref (ad240 (1 + nd) 6), .int 0]) := (fE295 (1 + nd) 2 (by omega)).trans p_245
              have c_300 : E293 (1 + nd) 3 = .inr (8, [.ref (ad240 (1 + nd) 7), .int 0]) := (fE295 (1 + nd) 3 (by omega)).trans p_246
              have c_301 : E293 (1 + nd) 4 = .inr (8, [.ref (ad240 (1 + nd) 8), .int 0]) := (fE295 (1 + nd) 4 (by omega)).trans p_247
              have c_302 : E293 (1 + nd) 5 = .inl (kA 0, 6, .inl (fun _ => 0)) := (fE295 (1 + nd) 5 (by omega)).trans p_248
              have c_303 : E293 (1 + nd) 6 = .inl (kA 0, 5, .inl (fun _ => 0)) := (fE295 (1 + nd) 6 (by omega)).trans p_249
              have c_304 : E293 (1 + nd) 7 = .inl (kA 0, 3, .inl (fun _ => 0)) := (fE295 (1 + nd) 7 (by omega)).trans p_250
              have c_305 : E293 (1 + nd) 8 = .inl (kA 0, 3, .inl (fun _ => 0)) := (fE295 (1 + nd) 8 (by omega)).trans p_251
              have c_306 : E293 (1 + nd) 9 = .inl (kA 8, 6, .inr (.inr (.inr (.inr (fun _ => none))))) := (fE295 (1 + nd) 9 (by omega)).trans p_252
              have c_307 : E293 (1 + nd) 10 = .inl (kA 8, 6, .inr (.inr (.inr (.inr (fun _ => none))))) := (fE295 (1 + nd) 10 (by omega)).trans p_253
              have c_308 : E293 (1 + nd) 11 = .inl (kA 2, 5, .inl (fun _ => 0)) := (fE295 (1 + nd) 11 (by omega)).trans p_254
              have c_309 : E293 (1 + nd) 12 = .inl (kA 2, 5, .inl (fun _ => 0)) := (fE295 (1 + nd) 12 (by omega)).trans p_255
              have c_310 : E293 0 0 = .inr (0, [.ref (ad240 0 1), .ref (ad240 0 5), .ref (ad240 0 7), .ref (ad240 0 9), .int (nI ml), .int lf_1]) := (fE295 0 0 (by omega)).trans c_283
              have c_311 : E293 0 1 = .inr (1, [.ref (ad240 0 2), .ref (ad240 0 3), .ref (ad240 0 4), .int (nI len), .int (nI (wl.length))]) := (fE295 0 1 (by omega)).trans c_284
              have c_312 : E293 0 2 = .inl (kA 1, 40, .inl tx_4) := (fE295 0 2 (by omega)).trans c_285
              have c_313 : E293 0 3 = .inl (kA 0, 20, .inl fb_4) := (fE295 0 3 (by omega)).trans c_286
              have c_314 : E293 0 4 = .inl (kA 0, 20, .inl fe_4) := (fE295 0 4 (by omega)).trans c_287
              have c_315 : E293 0 5 = .inr (2, [.ref (ad240 0 6), .int (nI nd)]) := (fE295 0 5 (by omega)).trans c_288
              have c_316 : E293 0 7 = .inr (3, [.ref (ad240 0 5), .ref (ad240 0 8), .int (nI cs), .int cf_18, pv_18]) := (fE295 0 7 (by omega)).trans c_290
              have c_317 : E293 0 8 = .inl (kA 4, 12, .inr (.inr (.inr (.inr fc_18)))) := (fE295 0 8 (by omega)).trans c_291
              have c_318 : E293 0 9 = .inl (kA 5, 5, .inr (.inr (.inr (.inr fl_23)))) := (fE295 0 9 (by omega)).trans c_292
              refine lv_aload_n hx hb xd_Sh_acceptDescriptor_110 rfl (lv_at hl 3 rfl) ?_
              refine lv_dup hx hb xd_Sh_acceptDescriptor_111 rfl ?_
              refine px_get (D := D) (ci := 2) (v := .int (nI nd)) (C := xR_Sh) (T := xT_Sh) (N := 2) hx hb hT xi_Sh hown hK.1 hP m_277 c_315 rfl 1 (by decide) (hT _ k5e_15) (fun _ h9 => h9) rfl xd_Sh_acceptDescriptor_112 ?_
              refine lv_iconst (v := 1) hx hb xd_Sh_acceptDescriptor_115 (by decide) ?_
              refine lv_iadd hx hb xd_Sh_acceptDescriptor_116 ?_
              refine xn_top (y := nI (nd + 1)) (nI_add nd 1) ?_
              refine px_put (D := D) (ci := 2) (v := .int (nI (nd + 1))) (ty := .int) (C := xR_Sh) (T := xT_Sh) (N := 2) hx hb hT xi_Sh xt_Sh xt_Sh_ok xn_Sh hown hK.1 hP hD hS m_277 c_315 rfl 1 (by decide) (hT _ k5e_15) (fun _ h9 => h9) rfl (by decide +kernel) rfl rfl (Nat.le_of_ble_eq_true rfl) xd_Sh_acceptDescriptor_117 (fun H locs hP hD hS => ?_)
              have hP : va_P D xcl (rp ad240 (up2 E293 0 5 (.inr (2, [.ref (ad240 0 6), .int (nI (nd + 1))]))) RL242) H := hP
              have hD : va_D A (rp ad240 (up2 E293 0 5 (.inr (2, [.ref (ad240 0 6), .int (nI (nd + 1))]))) RL242) := hD
              generalize hE320 : up2 E293 0 5 (.inr (2, [.ref (ad240 0 6), .int (nI (nd + 1))])) = E319 at hP hD
              have fE321 : ∀ b2 o2, ¬ (b2 = 0 ∧ o2 = 5) → E319 b2 o2 = E293 b2 o2 := fun b2 o2 h9 => by rw [← hE320]; exact up2_ne (by omega)
              have c_322 : E319 0 5 = .inr (2, [.ref (ad240 0 6), .int (nI (nd + 1))]) := by rw [← hE320]; exact up2_eq
              have c_323 : E319 0 6 = .inl (kA 4, 12, .inr (.inr (.inr (.inr (va_up fd_13 nd (some (ad240 (1 + nd) 0))))))) := (fE321 0 6 (by omega)).trans c_296
              have c_324 : E319 (1 + nd) 0 = .inr (7, [.int (nI nd), .int 1, .int (wN (g 0) wl 2), .ref (ad240 (1 + nd) 1), .ref (ad240 (1 + nd) 9), .ref (ad240 (1 + nd) 10), .ref (ad240 (1 + nd) 2), .ref (ad240 (1 + nd) 11), .ref (ad240 (1 + nd) 12), .ref (ad240 (1 + nd) 3), .ref (ad240 (1 + nd) 4), .int 0]) := (fE321 (1 + nd) 0 (by omega)).trans c_297
              have c_325 : E319 (1 + nd) 1 = .inr (8, [.ref (ad240 (1 + nd) 5), .int 0]) := (fE321 (1 + nd) 1 (by omega)).trans c_298
              have c_326 : E319 (1 + nd) 2 = .inr (8, [.ref (ad240 (1 + nd) 6), .int 0]) := (fE321 (1 + nd) 2 (by omega)).trans c_299
              have c_327 : E319 (1 + nd) 3 = .inr (8, [.ref (ad240 (1 + nd) 7), .int 0]) := (fE321 (1 + nd) 3 (by omega)).trans c_300
              have c_328 : E319 (1 + nd) 4 = .inr (8, [.ref (ad240 (1 + nd) 8), .int 0]) := (fE321 (1 + nd) 4 (by omega)).trans c_301
              have c_329 : E319 (1 + nd) 5 = .inl (kA 0, 6, .inl (fun _ => 0)) := (fE321 (1 + nd) 5 (by omega)).trans c_302
              have c_330 : E319 (1 + nd) 6 = .inl (kA 0, 5, .inl (fun _ => 0)) := (fE321 (1 + nd) 6 (by omega)).trans c_303
              have c_331 : E319 (1 + nd) 7 = .inl (kA 0, 3, .inl (fun _ => 0)) := (fE321 (1 + nd) 7 (by omega)).trans c_304
              have c_332 : E319 (1 + nd) 8 = .inl (kA 0, 3, .inl (fun _ => 0)) := (fE321 (1 + nd) 8 (by omega)).trans c_305
              have c_333 : E319 (1 + nd) 9 = .inl (kA 8, 6, .inr (.inr (.inr (.inr (fun _ => none))))) := (fE321 (1 + nd) 9 (by omega)).trans c_306
              have c_334 : E319 (1 + nd) 10 = .inl (kA 8, 6, .inr (.inr (.inr (.inr (fun _ => none))))) := (fE321 (1 + nd) 10 (by omega)).trans c_307
              have c_335 : E319 (1 + nd) 11 = .inl (kA 2, 5, .inl (fun _ => 0)) := (fE321 (1 + nd) 11 (by omega)).trans c_308
              have c_336 : E319 (1 + nd) 12 = .inl (kA 2, 5, .inl (fun _ => 0)) := (fE321 (1 + nd) 12 (by omega)).trans c_309
              have c_337 : E319 0 0 = .inr (0, [.ref (ad240 0 1), .ref (ad240 0 5), .ref (ad240 0 7), .ref (ad240 0 9), .int (nI ml), .int lf_1]) := (fE321 0 0 (by omega)).trans c_310
              have c_338 : E319 0 1 = .inr (1, [.ref (ad240 0 2), .ref (ad240 0 3), .ref (ad240 0 4), .int (nI len), .int (nI (wl.length))]) := (fE321 0 1 (by omega)).trans c_311
              have c_339 : E319 0 2 = .inl (kA 1, 40, .inl tx_4) := (fE321 0 2 (by omega)).trans c_312
              have c_340 : E319 0 3 = .inl (kA 0, 20, .inl fb_4) := (fE321 0 3 (by omega)).trans c_313
              have c_341 : E319 0 4 = .inl (kA 0, 20, .inl fe_4) := (fE321 0 4 (by omega)).trans c_314
              have c_342 : E319 0 7 = .inr (3, [.ref (ad240 0 5), .ref (ad240 0 8), .int (nI cs), .int cf_18, pv_18]) := (fE321 0 7 (by omega)).trans c_316
              have c_343 : E319 0 8 = .inl (kA 4, 12, .inr (.inr (.inr (.inr fc_18)))) := (fE321 0 8 (by omega)).trans c_317
              have c_344 : E319 0 9 = .inl (kA 5, 5, .inr (.inr (.inr (.inr fl_23)))) := (fE321 0 9 (by omega)).trans c_318
              have hTDn : TD (va_up (va_up g 3 (upd (g 3) nd 1)) 4 (upd (g 4) nd (wN (g 0) wl 2))) (E319 (1 + nd)) nd := TD_mk (k0 := 0) (k1 := 0) (k2 := 0) (k3 := 0) (by omega) (by omega) (by omega) (by omega) c_324 c_325 c_326 c_327 c_328 c_329 c_330 c_331 c_332 c_335 c_336 (TT_D ((hZI nd (by omega)).1 (Nat.le_refl _))) (fun i9 hi9 => absurd hi9 (by omega))
              have hTD2 : TDs (va_up (va_up g 3 (upd (g 3) nd 1)) 4 (upd (g 4) nd (wN (g 0) wl 2))) E319 (nd + 1) := TDs_add hDIs (fun d9 hd9 => fun2 fun o9 => by show E319 (1 + d9) o9 = _; rw [fE321 (1 + d9) o9 (by omega), fE295 (1 + d9) o9 (by omega), p_256 (1 + d9) o9 (by omega) (by omega) (by omega) (by omega) (by omega) (by omega) (by omega) (by omega) (by omega) (by omega) (by omega) (by omega) (by omega), fE212 (1 + d9) o9 (by omega)]) (fun d9 hd9 => AG_D (by omega)) hTDn hTD
              have hFRL : FRL ml nd ad ad240 E E319 := ⟨fun n9 hn9 => ⟨fun2 fun o9 => by show E319 (20 + n9) o9 = _; rw [fE321 (20 + n9) o9 (by omega), fE295 (20 + n9) o9 (by omega), p_256 (20 + n9) o9 (by omega) (by omega) (by omega) (by omega) (by omega) (by omega) (by omega) (by omega) (by omega) (by omega) (by omega) (by omega) (by omega), fE212 (20 + n9) o9 (by omega)], fun2 fun o9 => by show ad240 (20 + n9) o9 = _; rw [p_257 (20 + n9) o9 (by omega) (by omega) (by omega) (by omega) (by omega) (by omega) (by omega) (by omega) (by omega) (by omega) (by omega) (by omega), fA213 (20 + n9) o9 (by omega)]⟩, fun d9 hd9 => by show ad240 (1 + d9) 0 = _; rw [p_257 (1 + d9) 0 (by omega) (by omega) (by omega) (by omega) (by omega) (by omega) (by omega) (by omega) (by omega) (by omega) (by omega) (by omega), fA213 (1 + d9) 0 (by omega)], by show E319 0 0 = _; rw [fE321 0 0 (by omega), fE295 0 0 (by omega), p_256 0 0 (by omega) (by omega) (by omega) (by omega) (by omega) (by omega) (by omega) (by omega) (by omega) (by omega) (by omega) (by omega) (by omega), fE212 0 0 (by omega)]⟩
              have hCI : CI kA ad240 E319 RL242 ml (nd + 1) len wl.length cs := ⟨(fun o9 h9 => p_258 _ (hs214 _ (hmB o9 h9))), ⟨lf_1, c_337⟩, ⟨tx_4, fb_4, fe_4, (by omega), (by omega), c_338, c_339, c_340, c_341, hws_4⟩, ⟨(va_up fd_13 nd (some (ad240 (1 + nd) 0))), (by omega), c_322, c_323, (DS_add hds_13 (fun d9 hd9 => by show ad240 (1 + d9) 0 = _; rw [p_257 (1 + d9) 0 (by omega) (by omega) (by omega) (by omega) (by omega) (by omega) (by omega) (by omega) (by omega) (by omega) (by omega) (by omega), fA213 (1 + d9) 0 (by omega)]))⟩, ⟨cf_18, pv_18, fc_18, (by omega), (PV_ad hpv_18 (fun n9 hn9 => by show ad240 (20 + n9) 0 = _; rw [p_257 (20 + n9) 0 (by omega) (by omega) (by omega) (by omega) (by omega) (by omega) (by omega) (by omega) (by omega) (by omega) (by omega) (by omega), fA213 (20 + n9) 0 (by omega)])), c_342, c_343, (FC_ad hfc_18 (fun d9 hd9 => by show ad240 (1 + d9) 0 = _; rw [p_257 (1 + d9) 0 (by omega) (by omega) (by omega) (by omega) (by omega) (by omega) (by omega) (by omega) (by omega) (by omega) (by omega) (by omega), fA213 (1 + d9) 0 (by omega)]) (by omega))⟩, ⟨fl_23, (by omega), c_344, (LA_ad hla_23 (fun n9 hn9 => by show ad240 (20 + n9) 0 = _; rw [p_257 (20 + n9) 0 (by omega) (by omega) (by omega) (by omega) (by omega) (by omega) (by omega) (by omega) (by omega) (by omega) (by omega) (by omega), fA213 (20 + n9) 0 (by omega)]))⟩, (DIs_add (fun d9 hd9 => fun2 fun o9 => by show E319 (1 + d9) o9 = _; rw [fE321 (1 + d9) o9 (by omega), fE295 (1 + d9) o9 (by omega), p_256 (1 + d9) o9 (by omega) (by omega) (by omega) (by omega) (by omega) (by omega) (by omega) (by omega) (by omega) (by omega) (by omega) (by omega) (by omega), fE212 (1 + d9) o9 (by omega)]) (fun d9 hd9 => fun2 fun o9 => by show ad240 (1 + d9) o9 = _; rw [p_257 (1 + d9) o9 (by omega) (by omega) (by omega) (by omega) (by omega) (by omega) (by omega) (by omega) (by omega) (by omega) (by omega) (by omega), fA213 (1 + d9) o9 (by omega)]) (fun _ h9 => p_258 _ (hs214 _ h9)) ⟨(fun o9 ho9 => by
          have ho8 : o9 = 0 ∨ o9 = 1 ∨ o9 = 2 ∨ o9 = 3 ∨ o9 = 4 ∨ o9 = 5 ∨ o9 = 6 ∨ o9 = 7 ∨ o9 = 8 ∨ o9 = 9 ∨ o9 = 10 ∨ o9 = 11 ∨ o9 = 12 := by omega
          rcases ho8 with rfl | rfl | rfl | rfl | rfl | rfl | rfl | rfl | rfl | rfl | rfl | rfl | rfl
          · exact m_282
          · exact p_259
          · exact p_260
          · exact p_261
          · exact p_262
          · exact p_263
          · exact p_264
          · exact p_265
          · exact p_266
          · exact p_267
          · exact p_268
          · exact p_269
          · exact p_270), 1, (wN (g 0) wl 2), 0, 0, 0, 0, 0, (fun _ => 0), (fun _ => 0), (fun _ => 0), (fun _ => 0), (fun _ => none), (fun _ => none), (fun _ => 0), (fun _ => 0), (by omega), (by omega), (by omega), (by omega), c_324, c_325, c_326, c_327, c_328, c_329, c_330, c_331, c_332, c_333, c_334, c_335, c_336, fun i9 hi9 => absurd hi9 (by omega)⟩ hDIs), (LIs_same (by omega) (fun n9 hn9 => fun2 fun o9 => by show E319 (20 + n9) o9 = _; rw [fE321 (20 + n9) o9 (by omega), fE295 (20 + n9) o9 (by omega), p_256 (20 + n9) o9 (by omega) (by omega) (by omega) (by omega) (by omega) (by omega) (by omega) (by omega) (by omega) (by omega) (by omega) (by omega) (by omega), fE212 (20 + n9) o9 (by omega)]) (fun n9 hn9 => fun2 fun o9 => by show ad240 (20 + n9) o9 = _; rw [p_257 (20 + n9) o9 (by omega) (by omega) (by omega) (by omega) (by omega) (by omega) (by omega) (by omega) (by omega) (by omega) (by omega) (by omega), fA213 (20 + n9) o9 (by omega)]) (fun d9 hd9 => by show ad240 (1 + d9) 0 = _; rw [p_257 (1 + d9) 0 (by omega) (by omega) (by omega) (by omega) (by omega) (by omega) (by omega) (by omega) (by omega) (by omega) (by omega) (by omega), fA213 (1 + d9) 0 (by omega)]) (fun _ h9 => p_258 _ (hs214 _ h9)) hLIs)⟩
              have hA00 : ad240 0 0 = ad 0 0 := by show ad240 0 0 = _; rw [p_257 0 0 (by omega) (by omega) (by omega) (by omega) (by omega) (by omega) (by omega) (by omega) (by omega) (by omega) (by omega) (by omega), fA213 0 0 (by omega)]
              obtain ⟨hmB, hDk, hLi, hSh, hCh, hLa, hDIs, hLIs⟩ := id hCI
              refine lv_iconst (v := 1) hx hb xd_Sh_acceptDescriptor_120 (by decide) ?_
              refine W.widen (k := 13) (n := 66) (Nat.le_of_ble_eq_true rfl) (Nat.le_of_ble_eq_true rfl) ?_
              exact W.iret (v := 1) hx hb hr (fun t ht hW => ⟨⟨1, (ad240, E319, RL242), rfl, (by
        rw [lD_y (fF_1 hw7) rfl ⟨by omega, Or.inr hw8, hc198, fun j hj q => ff_no z204 j hj ⟨q.1.trans (fF_1 hw7).symm, q.2⟩, by omega⟩]
        exact ⟨hCI, hTD2, hA00, hFRL⟩), by rw [ht]; exact hP, hD⟩, hS.F ht⟩) hS.2.2 xd_Sh_acceptDescriptor_121
            · refine lv_bipush (v := (-2)) hx hb xd_Sh_acceptDescriptor_85 (by decide) ?_
              refine W.widen (k := 13) (n := 66) (Nat.le_of_ble_eq_true rfl) (Nat.le_of_ble_eq_true rfl) ?_
              exact W.iret (v := (-2)) hx hb hr (fun t ht hW => ⟨⟨(-2), (ad, E, RL), rfl, (by rw [lD_n (fun q => absurd q.2.2.2.2 (by omega))]; exact ⟨hCI, hTD, rfl, FRL_rf⟩), by rw [ht]; exact hP, hD⟩, hS.F ht⟩) hS.2.2 xd_Sh_acceptDescriptor_87
          · refine W.eq (g2 := F0 m 71 ls [.ref (ad (1 + z205) 0)]) rfl ?_
            refine lv_ifnull hx hb xd_Sh_acceptDescriptor_71 ?_
            refine lv_iconst (v := (-1)) hx hb xd_Sh_acceptDescriptor_74 (by decide) ?_
            refine W.widen (k := 13) (n := 66) (Nat.le_of_ble_eq_true rfl) (Nat.le_of_ble_eq_true rfl) ?_
            exact W.iret (v := (-1)) hx hb hr (fun t ht hW => ⟨⟨(-1), (ad, E, RL), rfl, (by rw [lD_n (fun q => q.2.2.2.1 z205 z206 ⟨(ff_is z207).2.1.1.trans (fF_1 hw7), (ff_is z207).2.1.2⟩)]; exact ⟨hCI, hTD, rfl, FRL_rf⟩), by rw [ht]; exact hP, hD⟩, hS.F ht⟩) hS.2.2 xd_Sh_acceptDescriptor_75
    · have hw8 : ¬ wS (g 0) wl 1 [49] := by have q := z190; rw [zw8] at q; exact q
      refine W.eq (g2 := F0 m 21 ls [.int 0]) rfl ?_
      refine lv_if_eq (tgt := 28) hx hb xd_Sh_acceptDescriptor_21 (by decide) (fun _ => ?_) (fun hc345 => absurd (by decide) hc345)
      refine lv_iconst (v := (-1)) hx hb xd_Sh_acceptDescriptor_28 (by decide) ?_
      refine lv_istore_n hx hb xd_Sh_acceptDescriptor_29 rfl hl (Nat.le_of_ble_eq_true rfl) rfl (fun ls hl => ?_)
      have hl : lv_has ls 5 [(2, .int (-1)), (0, .ref (ad 0 5)), (1, .ref (ad 0 1))] := hl
      refine lv_aload_n hx hb xd_Sh_acceptDescriptor_30 rfl (lv_at hl 2 rfl) ?_
      refine lv_iconst (v := 2) hx hb xd_Sh_acceptDescriptor_31 (by decide) ?_
      have hFc := px_free hD hS hA
      refine va_calli (va_runV (As := [.int 2]) (rest := []) ⟨hx, hb, hml, hown, hT⟩ (xc_Li_nameAtX l D kA H.size ad E RL g ml nd len lt wl cs 2 (by first | assumption | omega) (by first | assumption | omega) (by first | assumption | omega)) (cwV 1 hT (wT_V k5e_6 k5e_7 k5e_8 k5e_4 k5e_5) rfl rfl rfl (by decide +kernel) ⟨Nat.le_of_ble_eq_true rfl, Nat.le_of_ble_eq_true rfl⟩) (px_preV hK hP hD m_6 c_5 rfl) rfl rfl hl.1 rfl (lv_room (Nat.le_of_ble_eq_true rfl)) xd_Sh_acceptDescriptor_32 ⟨(Nat.le_of_ble_eq_true rfl), (Nat.le_of_ble_eq_true rfl)⟩) hS (fun q _ h => hFc q h) hFc (fun r346 u347 t H1 locs ht hvm hp348 hB hz1 hk1 hS => ?_)
      obtain ⟨hP1, hD1⟩ := hB
      rw [ht] at hP1
      have hD1 := hD1.weaken (fun _ _ _ h => hFc _ h)
      generalize H1 = H at hP1 hS ⊢
      have hP := hP1
      have hD := hD1
      have hP : va_P D xcl (rp ad E RL) H := hP
      have hD : va_D A (rp ad E RL) := hD
      have hp348 : r346 = wN (g 0) wl 2 := hp348
      subst hp348
      have hP : va_P D xcl (rp ad E RL) H := hP
      have hD : va_D A (rp ad E RL) := hD
      refine lv_istore_n hx hb xd_Sh_acceptDescriptor_35 rfl hl (Nat.le_of_ble_eq_true rfl) rfl (fun ls hl => ?_)
      have hl : lv_has ls 5 [(3, .int (wN (g 0) wl 2)), (2, .int (-1)), (0, .ref (ad 0 5)), (1, .ref (ad 0 1))] := hl
      refine lv_aload_n hx hb xd_Sh_acceptDescriptor_36 rfl (lv_at hl 3 rfl) ?_
      refine px_get (D := D) (ci := 1) (v := .int (nI (wl.length))) (C := xR_Li) (T := xT_Li) (N := 5) hx hb hT xi_Li hown hK.1 hP m_6 c_5 rfl 4 (by decide) (hT _ k5e_9) (fun _ h9 => h9) rfl xd_Sh_acceptDescriptor_37 ?_
      refine lv_iconst (v := 3) hx hb xd_Sh_acceptDescriptor_40 (by decide) ?_
      refine xn_ne (a := wl.length) (b := 3) (tgt := 57) hx hb xd_Sh_acceptDescriptor_41 (by decide) (by omega) (by omega) (fun hc349 => ?_) (fun hc349 => ?_)
      · refine lv_iconst (v := 0) hx hb xd_Sh_acceptDescriptor_57 (by decide) ?_
        refine lv_istore hx hb xd_Sh_acceptDescriptor_58 hl (Nat.le_of_ble_eq_true rfl) rfl (fun ls hl => ?_)
        have hl : lv_has ls 5 [(4, .int 0), (3, .int (wN (g 0) wl 2)), (2, .int (-1)), (0, .ref (ad 0 5)), (1, .ref (ad 0 1))] := hl
        refine lv_iload hx hb xd_Sh_acceptDescriptor_60 (lv_at hl 0 rfl) ?_
        refine lv_if_eq (tgt := 74) hx hb xd_Sh_acceptDescriptor_62 (by decide) (fun _ => ?_) (fun hc350 => absurd (by decide) hc350)
        refine lv_iconst (v := (-1)) hx hb xd_Sh_acceptDescriptor_74 (by decide) ?_
        refine W.widen (k := 13) (n := 66) (Nat.le_of_ble_eq_true rfl) (Nat.le_of_ble_eq_true rfl) ?_
        exact W.iret (v := (-1)) hx hb hr (fun t ht hW => ⟨⟨(-1), (ad, E, RL), rfl, (by rw [lD_n (fun q => absurd q.1 (by omega))]; exact ⟨hCI, hTD, rfl, FRL_rf⟩), by rw [ht]; exact hP, hD⟩, hS.F ht⟩) hS.2.2 xd_Sh_acceptDescriptor_75
      · refine lv_iload_n hx hb xd_Sh_acceptDescriptor_44 rfl (lv_at hl 1 rfl) ?_
        refine lv_iconst (v := (-1)) hx hb xd_Sh_acceptDescriptor_45 (by decide) ?_
        refine lv_icmp_eq (tgt := 57) hx hb xd_Sh_acceptDescriptor_46 (by decide) (fun _ => ?_) (fun hc351 => absurd (by decide) hc351)
        refine lv_iconst (v := 0) hx hb xd_Sh_acceptDescriptor_57 (by decide) ?_
        refine lv_istore hx hb xd_Sh_acceptDescriptor_58 hl (Nat.le_of_ble_eq_true rfl) rfl (fun ls hl => ?_)
        have hl : lv_has ls 5 [(4, .int 0), (3, .int (wN (g 0) wl 2)), (2, .int (-1)), (0, .ref (ad 0 5)), (1, .ref (ad 0 1))] := hl
        refine lv_iload hx hb xd_Sh_acceptDescriptor_60 (lv_at hl 0 rfl) ?_
        refine lv_if_eq (tgt := 74) hx hb xd_Sh_acceptDescriptor_62 (by decide) (fun _ => ?_) (fun hc352 => absurd (by decide) hc352)
        refine lv_iconst (v := (-1)) hx hb xd_Sh_acceptDescriptor_74 (by decide) ?_
        refine W.widen (k := 13) (n := 66) (Nat.le_of_ble_eq_true rfl) (Nat.le_of_ble_eq_true rfl) ?_
        exact W.iret (v := (-1)) hx hb hr (fun t ht hW => ⟨⟨(-1), (ad, E, RL), rfl, (by rw [lD_n (fun q => q.2.1.elim hw7 hw8)]; exact ⟨hCI, hTD, rfl, FRL_rf⟩), by rw [ht]; exact hP, hD⟩, hS.F ht⟩) hS.2.2 xd_Sh_acceptDescriptor_75
theorem k5f_0 : (Cond.code xy_Li_nameAt xb_Li_nameAt 4 (some .int)) ∈ wT := wT_t (List.mem_append_right _ (List.mem_append_left _ (List.mem_of_getElem? (i := 17) rfl))) rfl
theorem k5f_1 : (Cond.methodLink "LayerDesk$Shelf" 70 xy_Li_nameAt) ∈ wT := wT_t (List.mem_append_right _ (List.mem_append_left _ (List.mem_of_getElem? (i := 14) rfl))) rfl
theorem k5f_2 : (Cond.instanceMethod xy_Li_nameAt) ∈ wT := wT_t (List.mem_append_right _ (List.mem_append_left _ (List.mem_of_getElem? (i := 15) rfl))) rfl
theorem k5f_3 : (Cond.selects "LayerDesk$Line" xy_Li_nameAt xy_Li_nameAt) ∈ wT := wT_t (List.mem_append_right _ (List.mem_append_left _ (List.mem_of_getElem? (i := 16) rfl))) rfl
theorem k5f_4 : (Cond.initialized "LayerDesk$Line") ∈ wT := wT_t (List.mem_append_left _ (List.mem_of_getElem? (i := 2) rfl)) rfl
theorem k5f_5 : (Cond.fieldLink "LayerDesk$Shelf" 27 "LayerDesk$Line" "words" "I") ∈ wT := wT_t (List.mem_append_left _ (List.mem_of_getElem? (i := 41) rfl)) rfl
theorem k5f_6 : (Cond.code xy_Sh_latest xb_Sh_latest 1 (some (.object "LayerDesk$Descriptor"))) ∈ wT := wT_t (List.mem_append_right _ (List.mem_append_left _ (List.mem_of_getElem? (i := 119) rfl))) rfl
theorem k5f_7 : (Cond.methodLink "LayerDesk$Shelf" 81 xy_Sh_latest) ∈ wT := wT_t (List.mem_append_right _ (List.mem_append_left _ (List.mem_of_getElem? (i := 116) rfl))) rfl
theorem k5f_8 : (Cond.instanceMethod xy_Sh_latest) ∈ wT := wT_t (List.mem_append_right _ (List.mem_append_left _ (List.mem_of_getElem? (i := 118) rfl))) rfl
theorem k5f_9 : (Cond.selects "LayerDesk$Shelf" xy_Sh_latest xy_Sh_latest) ∈ wT := wT_s (q := (xy_Sh_latest, 2)) (by decide +kernel) rfl
theorem k5f_10 : (Cond.initialized "LayerDesk$Shelf") ∈ wT := wT_t (List.mem_append_left _ (List.mem_of_getElem? (i := 3) rfl)) rfl
theorem k5f_11 : (Cond.fieldLink "LayerDesk$Shelf" 85 "LayerDesk$Descriptor" "packages" "LLayerDesk$Names;") ∈ wT := wT_t (List.mem_append_right _ (List.mem_append_left _ (List.mem_of_getElem? (i := 62) rfl))) rfl
theorem k5f_12 : (Cond.code xy_Na_holds xb_Na_holds 2 (some .boolean)) ∈ wT := wT_t (List.mem_append_right _ (List.mem_append_left _ (List.mem_of_getElem? (i := 123) rfl))) rfl
theorem k5f_13 : (Cond.methodLink "LayerDesk$Shelf" 89 xy_Na_holds) ∈ wT := wT_t (List.mem_append_right _ (List.mem_append_left _ (List.mem_of_getElem? (i := 120) rfl))) rfl
theorem k5f_14 : (Cond.instanceMethod xy_Na_holds) ∈ wT := wT_t (List.mem_append_right _ (List.mem_append_left _ (List.mem_of_getElem? (i := 121) rfl))) rfl
theorem k5f_15 : (Cond.selects "LayerDesk$Names" xy_Na_holds xy_Na_holds) ∈ wT := wT_t (List.mem_append_right _ (List.mem_append_left _ (List.mem_of_getElem? (i := 122) rfl))) rfl
theorem k5f_16 : (Cond.initialized "LayerDesk$Names") ∈ wT := wT_t (List.mem_append_left _ (List.mem_of_getElem? (i := 11) rfl)) rfl
theorem k5f_17 : (Cond.fieldLink "LayerDesk$Shelf" 95 "LayerDesk$Descriptor" "settled" "Z") ∈ wT := wT_t (List.mem_append_right _ (List.mem_append_left _ (List.mem_of_getElem? (i := 83) rfl))) rfl
theorem k5f_18 : (Cond.code xy_Na_isFull xb_Na_isFull 1 (some .boolean)) ∈ wT := wT_t (List.mem_append_right _ (List.mem_append_left _ (List.mem_of_getElem? (i := 131) rfl))) rfl
theorem k5f_19 : (Cond.methodLink "LayerDesk$Shelf" 99 xy_Na_isFull) ∈ wT := wT_t (List.mem_append_right _ (List.mem_append_left _ (List.mem_of_getElem? (i := 128) rfl))) rfl
theorem k5f_20 : (Cond.instanceMethod xy_Na_isFull) ∈ wT := wT_t (List.mem_append_right _ (List.mem_append_left _ (List.mem_of_getElem? (i := 129) rfl))) rfl
theorem k5f_21 : (Cond.selects "LayerDesk$Names" xy_Na_isFull xy_Na_isFull) ∈ wT := wT_t (List.mem_append_right _ (List.mem_append_left _ (List.mem_of_getElem? (i := 130) rfl))) rfl
theorem k5f_22 : (Cond.code xy_Ds_addPackage xb_Ds_addPackage 2 none) ∈ wT := wT_t (List.mem_append_right _ (List.mem_append_left _ (List.mem_of_getElem? (i := 135) rfl))) rfl
theorem k5f_23 : (Cond.methodLink "LayerDesk$Shelf" 103 xy_Ds_addPackage) ∈ wT := wT_t (List.mem_append_right _ (List.mem_append_left _ (List.mem_of_getElem? (i := 132) rfl))) rfl
theorem k5f_24 : (Cond.instanceMethod xy_Ds_addPackage) ∈ wT := wT_t (List.mem_append_right _ (List.mem_append_left _ (List.mem_of_getElem? (i := 133) rfl))) rfl
theorem k5f_25 : (Cond.selects "LayerDesk$Descriptor" xy_Ds_addPackage xy_Ds_addPackage) ∈ wT := wT_t (List.mem_append_right _ (List.mem_append_left _ (List.mem_of_getElem? (i := 134) rfl))) rfl
theorem k5f_26 : (Cond.initialized "LayerDesk$Descriptor") ∈ wT := wT_t (List.mem_append_left _ (List.mem_of_getElem? (i := 10) rfl)) rfl
set_option maxHeartbeats 4000000 in
set_option maxRecDepth 100000 in
theorem xc_Sh_acceptPackageX (l : Launch) (D : va_G) (kA : Nat → ClassId) (sz : Nat) (ad : Nat → Nat → Nat) (E : Nat → Nat → va_E) (RL : List (Nat × Nat)) (Z : zT) (g : Nat → Nat → Int32) (ml : Nat) (nd : Nat) (len : Nat) (lt : Nat) (wl : List (Nat × Nat)) (cs : Nat) (hCI : CI kA ad E RL ml nd len wl.length cs) (hLW : LW g E lt wl) (hTD : TDs g E nd) (hZI : ZI g nd) : Met l xy_Sh_acceptPackage (.code xy_Sh_acceptPackage xb_Sh_acceptPackage 4 (some .int) :: wT) { frames := 4, cells := 6, slots := 20, locals := 76 } (va_Pc [.ref (ad 0 5), .ref (ad 0 1)] (xPreZ D kA sz (rp ad E RL) Z)) (va_Qi (fun (r : Int32) (u : (Nat → Nat → Nat) × (Nat → Nat → va_E) × List (Nat × Nat)) => CI kA u.1 u.2.1 u.2.2 ml nd len wl.length cs ∧ TDs (lP (g 0) wl nd g) u.2.1 nd ∧ u.1 0 0 = ad 0 0 ∧ FRL ml nd ad u.1 E u.2.1) (fun (u : (Nat → Nat → Nat) × (Nat → Nat → va_E) × List (Nat × Nat)) t => va_P D xcl (rp u.1 u.2.1 u.2.2) t.heap ∧ va_D (va_A (rp ad E RL) sz) (rp u.1 u.2.1 u.2.2)) (va_A (rp ad E RL) sz)) 6 20 (va_A (rp ad E RL) sz) := by
  refine Met.ofW (cc := xb_Sh_acceptPackage) (maxL := 4) (ret := (some .int)) (by decide) rfl ?_
  intro p e s m args below meth c s₁ B hml hv
  obtain ⟨rfl, ⟨hsz, hP, hK, hD0⟩, hZ⟩ := hv
  have hx := B.exec
  have hb := B.bytes
  have hr := B.returns
  have hT := x_hT B.pre
  have hown : s.vm.findClass xR_Sh = some m.cls := findClass_of_methodNamed B.named
  have hlocks := B.notSynchronized
  subst hsz
  have hD := hD0.self (sz := s.heap.size)
  generalize hAe : va_A (rp ad E RL) s.heap.size = A at hD hZ ⊢
  have hA : ∀ q : Nat, s.heap.size ≤ q → A q := fun q h => by rw [← hAe]; exact Or.inr h
  have hS : va_S A s.heap s.heap [] := va_S.rf
  have hl := lv_entry ([.ref (ad 0 5), .ref (ad 0 1)]) (n := 4) (Nat.le_of_ble_eq_true rfl)
  rw [lg_entry_eq]
  generalize (lg_sl ([.ref (ad 0 5), .ref (ad 0 1)]) ++ List.replicate (4 - (lg_sl ([.ref (ad 0 5), .ref (ad 0 1)])).length) Slot.unset).toArray = ls at hl ⊢
  have hl : lv_has ls 4 [(0, .ref (ad 0 5)), (1, .ref (ad 0 1))] := hl
  have hP : va_P D xcl (rp ad E RL) s.heap := hP
  obtain ⟨hmB, hDk, hLi, hSh, hCh, hLa, hDIs, hLIs⟩ := id hCI
  obtain ⟨hWL, hlt40, hLwd, hLtx⟩ := id hLW
  obtain ⟨lf_1, q_1⟩ := id (hDk)
  have c_2 : E 0 0 = .inr (0, [.ref (ad 0 1), .ref (ad 0 5), .ref (ad 0 7), .ref (ad 0 9), .int (nI ml), .int lf_1]) := q_1
  have m_3 : (0, 0) ∈ RL := hmB 0 (by omega)
  obtain ⟨tx_4, fb_4, fe_4, hl1_4, hw2_4, q1_4, q2_4, q3_4, q4_4, hws_4⟩ := id (hLi)
  have c_5 : E 0 1 = .inr (1, [.ref (ad 0 2), .ref (ad 0 3), .ref (ad 0 4), .int (nI len), .int (nI (wl.length))]) := q1_4
  have m_6 : (0, 1) ∈ RL := hmB 1 (by omega)
  have c_7 : E 0 2 = .inl (kA 1, 40, .inl tx_4) := q2_4
  have m_8 : (0, 2) ∈ RL := hmB 2 (by omega)
  have c_9 : E 0 3 = .inl (kA 0, 20, .inl fb_4) := q3_4
  have m_10 : (0, 3) ∈ RL := hmB 3 (by omega)
  have c_11 : E 0 4 = .inl (kA 0, 20, .inl fe_4) := q4_4
  have m_12 : (0, 4) ∈ RL := hmB 4 (by omega)
  obtain ⟨fd_13, hnd_13, q5_13, q6_13, hds_13⟩ := id (hSh)
  have c_14 : E 0 5 = .inr (2, [.ref (ad 0 6), .int (nI nd)]) := q5_13
  have m_15 : (0, 5) ∈ RL := hmB 5 (by omega)
  have c_16 : E 0 6 = .inl (kA 4, 12, .inr (.inr (.inr (.inr fd_13)))) := q6_13
  have m_17 : (0, 6) ∈ RL := hmB 6 (by omega)
  obtain ⟨cf_18, pv_18, fc_18, hcs_18, hpv_18, q7_18, q8_18, hfc_18⟩ := id (hCh)
  have c_19 : E 0 7 = .inr (3, [.ref (ad 0 5), .ref (ad 0 8), .int (nI cs), .int cf_18, pv_18]) := q7_18
  have m_20 : (0, 7) ∈ RL := hmB 7 (by omega)
  have c_21 : E 0 8 = .inl (kA 4, 12, .inr (.inr (.inr (.inr fc_18)))) := q8_18
  have m_22 : (0, 8) ∈ RL := hmB 8 (by omega)
  obtain ⟨fl_23, hml_23, q9_23, hla_23⟩ := id (hLa)
  have c_24 : E 0 9 = .inl (kA 5, 5, .inr (.inr (.inr (.inr fl_23)))) := q9_23
  have m_25 : (0, 9) ∈ RL := hmB 9 (by omega)
  obtain ⟨zw0, zw1, zw2, zw3, zw4, zw5, zw6, zw7, zw8, zw9, zw10, zw11⟩ := zW_all
  refine lv_aload_n hx hb xd_Sh_acceptPackage_0 rfl (lv_at hl 1 rfl) ?_
  refine lv_iconst (v := 1) hx hb xd_Sh_acceptPackage_1 (by decide) ?_
  have hFc := px_free hD hS hA
  refine va_calli (va_runV (As := [.int 1]) (rest := []) ⟨hx, hb, hml, hown, hT⟩ (xc_Li_nameAtX l D kA s.heap.size ad E RL g ml nd len lt wl cs 1 (by first | assumption | omega) (by first | assumption | omega) (by first | assumption | omega)) (cwV 1 hT (wT_V k5f_1 k5f_2 k5f_3 k5f_4 k5f_0) rfl rfl rfl (by decide +kernel) ⟨Nat.le_of_ble_eq_true rfl, Nat.le_of_ble_eq_true rfl⟩) (px_preV hK hP hD m_6 c_5 rfl) rfl rfl hl.1 rfl (lv_room (Nat.le_of_ble_eq_true rfl)) xd_Sh_acceptPackage_2 ⟨(Nat.le_of_ble_eq_true rfl), (Nat.le_of_ble_eq_true rfl)⟩) hS (fun q _ h => hFc q h) hFc (fun r26 u27 t H1 locs ht hvm hp28 hB hz1 hk1 hS => ?_)
  obtain ⟨hP1, hD1⟩ := hB
  rw [ht] at hP1
  have hD1 := hD1.weaken (fun _ _ _ h => hFc _ h)
  generalize H1 = H at hP1 hS ⊢
  have hP := hP1
  have hD := hD1
  have hP : va_P D xcl (rp ad E RL) H := hP
  have hD : va_D A (rp ad E RL) := hD
  have hp28 : r26 = wN (g 0) wl 1 := hp28
  subst hp28
  have hP : va_P D xcl (rp ad E RL) H := hP
  have hD : va_D A (rp ad E RL) := hD
  refine lv_istore_n hx hb xd_Sh_acceptPackage_5 rfl hl (Nat.le_of_ble_eq_true rfl) rfl (fun ls hl => ?_)
  have hl : lv_has ls 4 [(2, .int (wN (g 0) wl 1)), (0, .ref (ad 0 5)), (1, .ref (ad 0 1))] := hl
  refine lv_aload_n hx hb xd_Sh_acceptPackage_6 rfl (lv_at hl 2 rfl) ?_
  refine px_get (D := D) (ci := 1) (v := .int (nI (wl.length))) (C := xR_Li) (T := xT_Li) (N := 5) hx hb hT xi_Li hown hK.1 hP m_6 c_5 rfl 4 (by decide) (hT _ k5f_5) (fun _ h9 => h9) rfl xd_Sh_acceptPackage_7 ?_
  refine lv_iconst (v := 2) hx hb xd_Sh_acceptPackage_10 (by decide) ?_
  refine xn_ne (a := wl.length) (b := 2) (tgt := 18) hx hb xd_Sh_acceptPackage_11 (by decide) (by omega) (by omega) (fun hc29 => ?_) (fun hc29 => ?_)
  · refine lv_iconst (v := (-1)) hx hb xd_Sh_acceptPackage_18 (by decide) ?_
    refine W.widen (k := 6) (n := 20) (Nat.le_of_ble_eq_true rfl) (Nat.le_of_ble_eq_true rfl) ?_
    exact W.iret (v := (-1)) hx hb hr (fun t ht hW => ⟨⟨(-1), (ad, E, RL), rfl, ⟨hCI, by rw [← lP_no (fun q => absurd q.1 (by omega))]; exact hTD, rfl, FRL_rf⟩, by rw [ht]; exact hP, hD⟩, hS.F ht⟩) hS.2.2 xd_Sh_acceptPackage_19
  · refine lv_iload_n hx hb xd_Sh_acceptPackage_14 rfl (lv_at hl 0 rfl) ?_
    refine lv_if_ne (tgt := 20) hx hb xd_Sh_acceptPackage_15 (by decide) (fun hc30 => ?_) (fun hc30 => ?_)
    · refine lv_aload_n hx hb xd_Sh_acceptPackage_20 rfl (lv_at hl 1 rfl) ?_
      have hFc := px_free hD hS hA
      refine va_callq (va_runV (As := []) (rest := []) ⟨hx, hb, hml, hown, hT⟩ (xc_Sh_latestX l D kA H.size ad E RL ml nd len wl.length cs (by first | assumption | omega)) (cwV 0 hT (wT_V k5f_7 k5f_8 k5f_9 k5f_10 k5f_6) rfl rfl rfl (by decide +kernel) ⟨Nat.le_of_ble_eq_true rfl, Nat.le_of_ble_eq_true rfl⟩) (px_preV hK hP hD m_15 c_14 rfl) rfl rfl hl.1 rfl (lv_room (Nat.le_of_ble_eq_true rfl)) xd_Sh_acceptPackage_21 ⟨(Nat.le_of_ble_eq_true rfl), (Nat.le_of_ble_eq_true rfl)⟩) hS (fun q _ h => hFc q h) hFc (fun r31 u32 t H1 locs ht hvm hp33 hB hz1 hk1 hS => ?_)
      obtain ⟨hP1, hD1⟩ := hB
      rw [ht] at hP1
      have hD1 := hD1.weaken (fun _ _ _ h => hFc _ h)
      generalize H1 = H at hP1 hS ⊢
      have hP := hP1
      have hD := hD1
      have hP : va_P D xcl (rp ad E RL) H := hP
      have hD : va_D A (rp ad E RL) := hD
      rcases hp33 with ⟨rfl, z34⟩ | ⟨z35, rfl⟩
      · refine W.eq (g2 := F0 m 24 ls [.null]) rfl ?_
        refine lv_astore_nN hx hb xd_Sh_acceptPackage_24 rfl hl (Nat.le_of_ble_eq_true rfl) rfl (fun ls hl => ?_)
        have hl : lv_has ls 4 [(3, .null), (2, .int (wN (g 0) wl 1)), (0, .ref (ad 0 5)), (1, .ref (ad 0 1))] := hl
        refine lv_aload_nN hx hb xd_Sh_acceptPackage_25 rfl (lv_at hl 0 rfl) ?_
        refine lv_ifnonnullN hx hb xd_Sh_acceptPackage_26 ?_
        refine lv_bipush (v := (-2)) hx hb xd_Sh_acceptPackage_29 (by decide) ?_
        refine W.widen (k := 6) (n := 20) (Nat.le_of_ble_eq_true rfl) (Nat.le_of_ble_eq_true rfl) ?_
        exact W.iret (v := (-2)) hx hb hr (fun t ht hW => ⟨⟨(-2), (ad, E, RL), rfl, ⟨hCI, by rw [← lP_no (fun q => absurd q.2.2.1 (by omega))]; exact hTD, rfl, FRL_rf⟩, by rw [ht]; exact hP, hD⟩, hS.F ht⟩) hS.2.2 xd_Sh_acceptPackage_31
      · refine W.eq (g2 := F0 m 24 ls [.ref (ad (1 + (nd - 1)) 0)]) rfl ?_
        refine lv_astore_n hx hb xd_Sh_acceptPackage_24 rfl hl (Nat.le_of_ble_eq_true rfl) rfl (fun ls hl => ?_)
        have hl : lv_has ls 4 [(3, .ref (ad (1 + (nd - 1)) 0)), (2, .int (wN (g 0) wl 1)), (0, .ref (ad 0 5)), (1, .ref (ad 0 1))] := hl
        refine lv_aload_n hx hb xd_Sh_acceptPackage_25 rfl (lv_at hl 0 rfl) ?_
        refine lv_ifnonnull (tgt := 32) hx hb xd_Sh_acceptPackage_26 (by decide) ?_
        refine lv_aload_n hx hb xd_Sh_acceptPackage_32 rfl (lv_at hl 0 rfl) ?_
        obtain ⟨hm_36, fd_36, nm_36, sd_36, k0_36, k1_36, k2_36, k3_36, f0_36, f1_36, f2_36, f3_36, fe_36, fo_36, tr_36, op_36, hk0_36, hk1_36, hk2_36, hk3_36, q0_36, q1_36, q2_36, q3_36, q4_36, q5_36, q6_36, q7_36, q8_36, q9_36, q10_36, q11_36, q12_36, hg_36⟩ := id (hDIs (nd - 1) (by omega))
        have c_37 : E (1 + (nd - 1)) 0 = .inr (7, [.int (nI ((nd - 1))), .int fd_36, .int nm_36, .ref (ad (1 + (nd - 1)) 1), .ref (ad (1 + (nd - 1)) 9), .ref (ad (1 + (nd - 1)) 10), .ref (ad (1 + (nd - 1)) 2), .ref (ad (1 + (nd - 1)) 11), .ref (ad (1 + (nd - 1)) 12), .ref (ad (1 + (nd - 1)) 3), .ref (ad (1 + (nd - 1)) 4), .int sd_36]) := q0_36
        have m_38 : (1 + (nd - 1), 0) ∈ RL := hm_36 0 (by omega)
        have c_39 : E (1 + (nd - 1)) 1 = .inr (8, [.ref (ad (1 + (nd - 1)) 5), .int (nI k0_36)]) := q1_36
        have m_40 : (1 + (nd - 1), 1) ∈ RL := hm_36 1 (by omega)
        have c_41 : E (1 + (nd - 1)) 2 = .inr (8, [.ref (ad (1 + (nd - 1)) 6), .int (nI k1_36)]) := q2_36
        have m_42 : (1 + (nd - 1), 2) ∈ RL := hm_36 2 (by omega)
        have c_43 : E (1 + (nd - 1)) 3 = .inr (8, [.ref (ad (1 + (nd - 1)) 7), .int (nI k2_36)]) := q3_36
        have m_44 : (1 + (nd - 1), 3) ∈ RL := hm_36 3 (by omega)
        have c_45 : E (1 + (nd - 1)) 4 = .inr (8, [.ref (ad (1 + (nd - 1)) 8), .int (nI k3_36)]) := q4_36
        have m_46 : (1 + (nd - 1), 4) ∈ RL := hm_36 4 (by omega)
        have c_47 : E (1 + (nd - 1)) 5 = .inl (kA 0, 6, .inl f0_36) := q5_36
        have m_48 : (1 + (nd - 1), 5) ∈ RL := hm_36 5 (by omega)
        have c_49 : E (1 + (nd - 1)) 6 = .inl (kA 0, 5, .inl f1_36) := q6_36
        have m_50 : (1 + (nd - 1), 6) ∈ RL := hm_36 6 (by omega)
        have c_51 : E (1 + (nd - 1)) 7 = .inl (kA 0, 3, .inl f2_36) := q7_36
        have m_52 : (1 + (nd - 1), 7) ∈ RL := hm_36 7 (by omega)
        have c_53 : E (1 + (nd - 1)) 8 = .inl (kA 0, 3, .inl f3_36) := q8_36
        have m_54 : (1 + (nd - 1), 8) ∈ RL := hm_36 8 (by omega)
        have c_55 : E (1 + (nd - 1)) 9 = .inl (kA 8, 6, .inr (.inr (.inr (.inr fe_36)))) := q9_36
        have m_56 : (1 + (nd - 1), 9) ∈ RL := hm_36 9 (by omega)
        have c_57 : E (1 + (nd - 1)) 10 = .inl (kA 8, 6, .inr (.inr (.inr (.inr fo_36)))) := q10_36
        have m_58 : (1 + (nd - 1), 10) ∈ RL := hm_36 10 (by omega)
        have c_59 : E (1 + (nd - 1)) 11 = .inl (kA 2, 5, .inl tr_36) := q11_36
        have m_60 : (1 + (nd - 1), 11) ∈ RL := hm_36 11 (by omega)
        have c_61 : E (1 + (nd - 1)) 12 = .inl (kA 2, 5, .inl op_36) := q12_36
        have m_62 : (1 + (nd - 1), 12) ∈ RL := hm_36 12 (by omega)
        have hg_36 : ∀ w9, w9 < k0_36 → fe_36 w9 = some (ad (1 + (nd - 1)) (20 + 3 * w9)) ∧ fo_36 w9 = some (ad (1 + (nd - 1)) (38 + 3 * w9)) ∧ GI kA (ad (1 + (nd - 1))) (E (1 + (nd - 1))) (fun o => (1 + (nd - 1), o) ∈ RL) (20 + 3 * w9) (21 + 3 * w9) (22 + 3 * w9) ∧ GI kA (ad (1 + (nd - 1))) (E (1 + (nd - 1))) (fun o => (1 + (nd - 1), o) ∈ RL) (38 + 3 * w9) (39 + 3 * w9) (40 + 3 * w9) := hg_36
        obtain ⟨hTT_36, tgr_36⟩ := TD_get hk0_36 hk1_36 hk2_36 hk3_36 c_37 c_39 c_41 c_43 c_45 c_47 c_49 c_51 c_53 c_59 c_61 (hTD (nd - 1) (by omega))
        obtain ⟨tfd_36, tnm_36, tsd_36, tk0_36, tf0_36, tk1_36, tf1_36, tk2_36, tk3_36⟩ := id hTT_36
        have ik0_36 : iN (g 5 (nd - 1)) = k0_36 := by rw [← tk0_36, iN_nI (by omega)]
        have ik1_36 : iN (g 12 (nd - 1)) = k1_36 := by rw [← tk1_36, iN_nI (by omega)]
        refine px_get (D := D) (ci := 7) (v := .ref (ad (1 + (nd - 1)) 1)) (C := xR_Ds) (T := xT_Ds) (N := 12) hx hb hT xi_Ds hown hK.1 hP m_38 c_37 rfl 3 (by decide) (hT _ k5f_11) (fun _ h9 => h9) rfl xd_Sh_acceptPackage_33 ?_
        refine lv_iload_n hx hb xd_Sh_acceptPackage_36 rfl (lv_at hl 1 rfl) ?_
        have hFc := px_free hD hS hA
        refine va_calli (va_runV (As := [.int (wN (g 0) wl 1)]) (rest := []) ⟨hx, hb, hml, hown, hT⟩ (xc_Na_holds l D kA H.size ad E RL (1 + (nd - 1)) 1 5 6 k0_36 f0_36 (wN (g 0) wl 1) m_40 c_39 m_48 c_47 (by first | assumption | omega) (by first | assumption | omega)) (cwV 1 hT (wT_V k5f_13 k5f_14 k5f_15 k5f_16 k5f_12) rfl rfl rfl (by decide +kernel) ⟨Nat.le_of_ble_eq_true rfl, Nat.le_of_ble_eq_true rfl⟩) (px_preV hK hP hD m_40 c_39 rfl) rfl rfl hl.1 rfl (lv_room (Nat.le_of_ble_eq_true rfl)) xd_Sh_acceptPackage_37 ⟨(Nat.le_of_ble_eq_true rfl), (Nat.le_of_ble_eq_true rfl)⟩) hS (fun q _ h => hFc q h) hFc (fun r63 u64 t H1 locs ht hvm hp65 hB hz1 hk1 hS => ?_)
        obtain ⟨hP1, hD1⟩ := hB
        rw [ht] at hP1
        have hD1 := hD1.weaken (fun _ _ _ h => hFc _ h)
        generalize H1 = H at hP1 hS ⊢
        have hP := hP1
        have hD := hD1
        have hP : va_P D xcl (rp ad E RL) H := hP
        have hD : va_D A (rp ad E RL) := hD
        rcases hp65 with ⟨rfl, z66, z67, z68⟩ | ⟨rfl, z69⟩
        · refine W.eq (g2 := F0 m 40 ls [.int 1]) rfl ?_
          refine lv_if_eq (tgt := 45) hx hb xd_Sh_acceptPackage_40 (by decide) (fun hc70 => absurd hc70 (by decide)) (fun _ => ?_)
          refine lv_iconst (v := (-1)) hx hb xd_Sh_acceptPackage_43 (by decide) ?_
          refine W.widen (k := 6) (n := 20) (Nat.le_of_ble_eq_true rfl) (Nat.le_of_ble_eq_true rfl) ?_
          exact W.iret (v := (-1)) hx hb hr (fun t ht hW => ⟨⟨(-1), (ad, E, RL), rfl, ⟨hCI, by rw [← lP_no (fun q => q.2.2.2.1 (6 * (nd - 1) + z66) (by omega) (by omega) (by rw [← tf0_36 _ z67]; exact z68))]; exact hTD, rfl, FRL_rf⟩, by rw [ht]; exact hP, hD⟩, hS.F ht⟩) hS.2.2 xd_Sh_acceptPackage_44
        · refine W.eq (g2 := F0 m 40 ls [.int 0]) rfl ?_
          refine lv_if_eq (tgt := 45) hx hb xd_Sh_acceptPackage_40 (by decide) (fun _ => ?_) (fun hc71 => absurd (by decide) hc71)
          refine lv_aload_n hx hb xd_Sh_acceptPackage_45 rfl (lv_at hl 0 rfl) ?_
          refine px_get (D := D) (ci := 7) (v := .int sd_36) (C := xR_Ds) (T := xT_Ds) (N := 12) hx hb hT xi_Ds hown hK.1 hP m_38 c_37 rfl 11 (by decide) (hT _ k5f_17) (fun _ h9 => h9) rfl xd_Sh_acceptPackage_46 ?_
          refine lv_if_ne (tgt := 62) hx hb xd_Sh_acceptPackage_49 (by decide) (fun hc72 => ?_) (fun hc72 => ?_)
          · refine lv_bipush (v := (-2)) hx hb xd_Sh_acceptPackage_62 (by decide) ?_
            refine W.widen (k := 6) (n := 20) (Nat.le_of_ble_eq_true rfl) (Nat.le_of_ble_eq_true rfl) ?_
            exact W.iret (v := (-2)) hx hb hr (fun t ht hW => ⟨⟨(-2), (ad, E, RL), rfl, ⟨hCI, by rw [← lP_no (fun q => hc72 (by rw [tsd_36]; exact q.2.2.2.2.1))]; exact hTD, rfl, FRL_rf⟩, by rw [ht]; exact hP, hD⟩, hS.F ht⟩) hS.2.2 xd_Sh_acceptPackage_64
          · refine lv_aload_n hx hb xd_Sh_acceptPackage_52 rfl (lv_at hl 0 rfl) ?_
            refine px_get (D := D) (ci := 7) (v := .ref (ad (1 + (nd - 1)) 1)) (C := xR_Ds) (T := xT_Ds) (N := 12) hx hb hT xi_Ds hown hK.1 hP m_38 c_37 rfl 3 (by decide) (hT _ k5f_11) (fun _ h9 => h9) rfl xd_Sh_acceptPackage_53 ?_
            have hFc := px_free hD hS hA
            refine va_calli (va_runV (As := []) (rest := []) ⟨hx, hb, hml, hown, hT⟩ (xc_Na_isFull l D kA H.size ad E RL (1 + (nd - 1)) 1 5 6 k0_36 f0_36 m_40 c_39 m_48 c_47 (by first | assumption | omega) (by first | assumption | omega)) (cwV 0 hT (wT_V k5f_19 k5f_20 k5f_21 k5f_16 k5f_18) rfl rfl rfl (by decide +kernel) ⟨Nat.le_of_ble_eq_true rfl, Nat.le_of_ble_eq_true rfl⟩) (px_preV hK hP hD m_40 c_39 rfl) rfl rfl hl.1 rfl (lv_room (Nat.le_of_ble_eq_true rfl)) xd_Sh_acceptPackage_56 ⟨(Nat.le_of_ble_eq_true rfl), (Nat.le_of_ble_eq_true rfl)⟩) hS (fun q _ h => hFc q h) hFc (fun r73 u74 t H1 locs ht hvm hp75 hB hz1 hk1 hS => ?_)
            obtain ⟨hP1, hD1⟩ := hB
            rw [ht] at hP1
            have hD1 := hD1.weaken (fun _ _ _ h => hFc _ h)
            generalize H1 = H at hP1 hS ⊢
            have hP := hP1
            have hD := hD1
            have hP : va_P D xcl (rp ad E RL) H := hP
            have hD : va_D A (rp ad E RL) := hD
            rcases hp75 with ⟨rfl, z76⟩ | ⟨rfl, z77⟩
            · refine W.eq (g2 := F0 m 59 ls [.int 1]) rfl ?_
              refine lv_if_eq (tgt := 65) hx hb xd_Sh_acceptPackage_59 (by decide) (fun hc78 => absurd hc78 (by decide)) (fun _ => ?_)
              refine lv_bipush (v := (-2)) hx hb xd_Sh_acceptPackage_62 (by decide) ?_
              refine W.widen (k := 6) (n := 20) (Nat.le_of_ble_eq_true rfl) (Nat.le_of_ble_eq_true rfl) ?_
              exact W.iret (v := (-2)) hx hb hr (fun t ht hW => ⟨⟨(-2), (ad, E, RL), rfl, ⟨hCI, by rw [← lP_no (fun q => absurd q.2.2.2.2.2 (by have := z76; omega))]; exact hTD, rfl, FRL_rf⟩, by rw [ht]; exact hP, hD⟩, hS.F ht⟩) hS.2.2 xd_Sh_acceptPackage_64
            · refine W.eq (g2 := F0 m 59 ls [.int 0]) rfl ?_
              refine lv_if_eq (tgt := 65) hx hb xd_Sh_acceptPackage_59 (by decide) (fun _ => ?_) (fun hc79 => absurd (by decide) hc79)
              refine lv_aload_n hx hb xd_Sh_acceptPackage_65 rfl (lv_at hl 0 rfl) ?_
              refine lv_iload_n hx hb xd_Sh_acceptPackage_66 rfl (lv_at hl 1 rfl) ?_
              have hl := lv_sub hl [1, 2, 3] rfl
              have hl : lv_has ls 4 [(2, .int (wN (g 0) wl 1)), (0, .ref (ad 0 5)), (1, .ref (ad 0 1))] := hl
              have hFc := px_free hD hS hA
              refine va_callv (va_runV (As := [.int (wN (g 0) wl 1)]) (rest := []) ⟨hx, hb, hml, hown, hT⟩ (xc_Ds_addPackageX l D kA H.size ad E RL g (nd - 1) (wN (g 0) wl 1) (hDIs (nd - 1) (by omega)) (hTD (nd - 1) (by omega)) (by have := z77; omega) ((hZI (nd - 1) (by omega)).2 (iN (g 5 (nd - 1))) (by omega) (Or.inr (Nat.le_refl _)))) (cwV 1 hT (wT_V k5f_23 k5f_24 k5f_25 k5f_26 k5f_22) rfl rfl rfl (by decide +kernel) ⟨Nat.le_of_ble_eq_true rfl, Nat.le_of_ble_eq_true rfl⟩) (px_preV hK hP hD m_38 c_37 rfl) rfl rfl hl.1 rfl (lv_room (Nat.le_of_ble_eq_true rfl)) xd_Sh_acceptPackage_67 ⟨(Nat.le_of_ble_eq_true rfl), (Nat.le_of_ble_eq_true rfl)⟩) hS (fun q _ h => hFc q h) hFc (fun u81 t H1 locs ht hvm hp82 hB hz1 hk1 hS => ?_)
              obtain ⟨hP1, hD1⟩ := hB
              rw [ht] at hP1
              have hD1 := hD1.weaken (fun _ _ _ h => hFc _ h)
              generalize H1 = H at hP1 hS ⊢
              have hP := hP1
              have hD := hD1
              obtain ⟨ad83, E84, RL85⟩ := u81
              obtain ⟨hp89, p_86, p_87, p_88⟩ := hp82
              have p_86 : (∀ b2 o2, ¬ (b2 = 1 + (nd - 1)) → E84 b2 o2 = E b2 o2) := p_86
              have p_87 : (∀ b2 o2, ¬ (b2 = 1 + (nd - 1)) → ad83 b2 o2 = ad b2 o2) := p_87
              have p_88 : (∀ x ∈ RL, x ∈ RL85) := p_88
              have hl : lv_has ls 4 [(2, .int (wN (g 0) wl 1)), (0, .ref (ad83 0 5)), (1, .ref (ad83 0 1))] := by
                rw [p_87 0 5 (by omega), p_87 0 1 (by omega)]; exact hl
              have m_90 : (0, 0) ∈ RL85 := p_88 _ m_3
              have m_91 : (0, 1) ∈ RL85 := p_88 _ m_6
              have m_92 : (0, 2) ∈ RL85 := p_88 _ m_8
              have m_93 : (0, 3) ∈ RL85 := p_88 _ m_10
              have m_94 : (0, 4) ∈ RL85 := p_88 _ m_12
              have m_95 : (0, 5) ∈ RL85 := p_88 _ m_15
              have m_96 : (0, 6) ∈ RL85 := p_88 _ m_17
              have m_97 : (0, 7) ∈ RL85 := p_88 _ m_20
              have m_98 : (0, 8) ∈ RL85 := p_88 _ m_22
              have m_99 : (0, 9) ∈ RL85 := p_88 _ m_25
              have m_100 : (1 + (nd - 1), 0) ∈ RL85 := p_88 _ m_38
              have m_101 : (1 + (nd - 1), 1) ∈ RL85 := p_88 _ m_40
              have m_102 : (1 + (nd - 1), 2) ∈ RL85 := p_88 _ m_42
              have m_103 : (1 + (nd - 1), 3) ∈ RL85 := p_88 _ m_44
              have m_104 : (1 + (nd - 1), 4) ∈ RL85 := p_88 _ m_46
              have m_105 : (1 + (nd - 1), 5) ∈ RL85 := p_88 _ m_48
              have m_106 : (1 + (nd - 1), 6) ∈ RL85 := p_88 _ m_50
              have m_107 : (1 + (nd - 1), 7) ∈ RL85 := p_88 _ m_52
              have m_108 : (1 + (nd - 1), 8) ∈ RL85 := p_88 _ m_54
              have m_109 : (1 + (nd - 1), 9) ∈ RL85 := p_88 _ m_56
              have m_110 : (1 + (nd - 1), 10) ∈ RL85 := p_88 _ m_58
              have m_111 : (1 + (nd - 1), 11) ∈ RL85 := p_88 _ m_60
              have m_112 : (1 + (nd - 1), 12) ∈ RL85 := p_88 _ m_62
              have c_113 : E84 0 0 = .inr (0, [.ref (ad83 0 1), .ref (ad83 0 5), .ref (ad83 0 7), .ref (ad83 0 9), .int (nI ml), .int lf_1]) := by rw [p_86 0 0 (by omega), p_87 0 1 (by omega), p_87 0 5 (by omega), p_87 0 7 (by omega), p_87 0 9 (by omega)]; exact c_2
              have c_114 : E84 0 1 = .inr (1, [.ref (ad83 0 2), .ref (ad83 0 3), .ref (ad83 0 4), .int (nI len), .int (nI (wl.length))]) := by rw [p_86 0 1 (by omega), p_87 0 2 (by omega), p_87 0 3 (by omega), p_87 0 4 (by omega)]; exact c_5
              have c_115 : E84 0 2 = .inl (kA 1, 40, .inl tx_4) := by rw [p_86 0 2 (by omega)]; exact c_7
              have c_116 : E84 0 3 = .inl (kA 0, 20, .inl fb_4) := by rw [p_86 0 3 (by omega)]; exact c_9
              have c_117 : E84 0 4 = .inl (kA 0, 20, .inl fe_4) := by rw [p_86 0 4 (by omega)]; exact c_11
              have c_118 : E84 0 5 = .inr (2, [.ref (ad83 0 6), .int (nI nd)]) := by rw [p_86 0 5 (by omega), p_87 0 6 (by omega)]; exact c_14
              have c_119 : E84 0 6 = .inl (kA 4, 12, .inr (.inr (.inr (.inr fd_13)))) := by rw [p_86 0 6 (by omega)]; exact c_16
              have c_120 : E84 0 7 = .inr (3, [.ref (ad83 0 5), .ref (ad83 0 8), .int (nI cs), .int cf_18, pv_18]) := by rw [p_86 0 7 (by omega), p_87 0 5 (by omega), p_87 0 8 (by omega)]; exact c_19
              have c_121 : E84 0 8 = .inl (kA 4, 12, .inr (.inr (.inr (.inr fc_18)))) := by rw [p_86 0 8 (by omega)]; exact c_21
              have c_122 : E84 0 9 = .inl (kA 5, 5, .inr (.inr (.inr (.inr fl_23)))) := by rw [p_86 0 9 (by omega)]; exact c_24
              have hP : va_P D xcl (rp ad83 E84 RL85) H := hP
              have hD : va_D A (rp ad83 E84 RL85) := hD
              obtain ⟨hDI9, hA9, hTD9⟩ := hp89
              have hA0 : ∀ d9, d9 < nd → ad83 (1 + d9) 0 = ad (1 + d9) 0 := fun d9 hd9 => by
                  by_cases q : d9 = nd - 1
                  · subst q; exact hA9 0 (by omega)
                  · exact p_87 (1 + d9) 0 (by omega)
              have hTD2 : TDs (pkU g (nd - 1) (wN (g 0) wl 1)) E84 nd := TDs_upd (x := nd - 1) hDIs (fun d9 hd9 hx9 => fun2 fun o9 => by show E84 (1 + d9) o9 = _; rw [p_86 (1 + d9) o9 (by omega)]) (fun d9 hd9 hx9 => AG_P (by omega) hx9) hTD9 hTD
              have hFRL : FRL ml nd ad ad83 E E84 := ⟨fun n9 hn9 => ⟨fun2 fun o9 => by show E84 (20 + n9) o9 = _; rw [p_86 (20 + n9) o9 (by omega)], fun2 fun o9 => by show ad83 (20 + n9) o9 = _; rw [p_87 (20 + n9) o9 (by omega)]⟩, hA0, by show E84 0 0 = _; rw [p_86 0 0 (by omega)]⟩
              have hCI : CI kA ad83 E84 RL85 ml nd len wl.length cs := ⟨(fun o9 h9 => p_88 _ (hmB o9 h9)), ⟨lf_1, c_113⟩, ⟨tx_4, fb_4, fe_4, (by omega), (by omega), c_114, c_115, c_116, c_117, hws_4⟩, ⟨fd_13, (by omega), c_118, c_119, (DS_ad hds_13 hA0)⟩, ⟨cf_18, pv_18, fc_18, (by omega), (PV_ad hpv_18 (fun n9 hn9 => by show ad83 (20 + n9) 0 = _; rw [p_87 (20 + n9) 0 (by omega)])), c_120, c_121, (FC_ad hfc_18 hA0 (by omega))⟩, ⟨fl_23, (by omega), c_122, (LA_ad hla_23 (fun n9 hn9 => by show ad83 (20 + n9) 0 = _; rw [p_87 (20 + n9) 0 (by omega)]))⟩, (DIs_set (x := nd - 1) (fun d9 hd9 hx9 => fun2 fun o9 => by show E84 (1 + d9) o9 = _; rw [p_86 (1 + d9) o9 (by omega)]) (fun d9 hd9 hx9 => fun2 fun o9 => by show ad83 (1 + d9) o9 = _; rw [p_87 (1 + d9) o9 (by omega)]) (fun _ h9 => p_88 _ h9) hDI9 hDIs), (LIs_same (Nat.le_refl _) (fun n9 hn9 => fun2 fun o9 => by show E84 (20 + n9) o9 = _; rw [p_86 (20 + n9) o9 (by omega)]) (fun n9 hn9 => fun2 fun o9 => by show ad83 (20 + n9) o9 = _; rw [p_87 (20 + n9) o9 (by omega)]) hA0 (fun _ h9 => p_88 _ h9) hLIs)⟩
              have hA00 : ad83 0 0 = ad 0 0 := by show ad83 0 0 = _; rw [p_87 0 0 (by omega)]
              obtain ⟨hmB, hDk, hLi, hSh, hCh, hLa, hDIs, hLIs⟩ := id hCI
              refine lv_iconst (v := 2) hx hb xd_Sh_acceptPackage_70 (by decide) ?_
              refine W.widen (k := 6) (n := 20) (Nat.le_of_ble_eq_true rfl) (Nat.le_of_ble_eq_true rfl) ?_
              exact W.iret (v := 2) hx hb hr (fun t ht hW => ⟨⟨2, (ad83, E84, RL85), rfl, (by
        rw [lP_y ⟨by omega, hc30, by omega, fun j a9 b9 q => by
          have q2 := z69 (j - 6 * (nd - 1)) (by omega)
          rw [tf0_36 _ (by omega), show 6 * (nd - 1) + (j - 6 * (nd - 1)) = j by omega] at q2
          exact q2 q, by rw [← tsd_36]; exact hc72, by omega⟩]
        exact ⟨hCI, hTD2, hA00, hFRL⟩), by rw [ht]; exact hP, hD⟩, hS.F ht⟩) hS.2.2 xd_Sh_acceptPackage_71
    · refine lv_iconst (v := (-1)) hx hb xd_Sh_acceptPackage_18 (by decide) ?_
      refine W.widen (k := 6) (n := 20) (Nat.le_of_ble_eq_true rfl) (Nat.le_of_ble_eq_true rfl) ?_
      exact W.iret (v := (-1)) hx hb hr (fun t ht hW => ⟨⟨(-1), (ad, E, RL), rfl, ⟨hCI, by rw [← lP_no (fun q => q.2.1 hc30)]; exact hTD, rfl, FRL_rf⟩, by rw [ht]; exact hP, hD⟩, hS.F ht⟩) hS.2.2 xd_Sh_acceptPackage_19
theorem cif_eq {α : Type} {C : Prop} {a b c : α} (h1 : a = c) (h2 : b = c) : cif C a b = c := by
  by_cases q : C
  · rw [cif_pos q]; exact h1
  · rw [cif_neg q]; exact h2
theorem gr_all7 {g g' : gT} {e e' : Nat → va_E} {d i k0 : Nat} (hk0 : k0 ≤ 6) (h8 : g' 8 = g 8) (h10 : g' 10 = g 10) (h7 : ∀ i9, i9 < 6 → ¬ i9 = i → g' 9 (6 * d + i9) = g 9 (6 * d + i9) ∧ ∀ j, j < 3 → g' 7 (3 * (6 * d + i9) + j) = g 7 (3 * (6 * d + i9) + j)) (hi : i < 6) (he : ∀ o, ¬ o = 20 + 3 * i → ¬ o = 21 + 3 * i → ¬ o = 22 + 3 * i → e' o = e o) (hn : TG (e' (20 + 3 * i)) (e' (21 + 3 * i)) (e' (22 + 3 * i)) (g' 9 (6 * d + i)) (fun j => g' 7 (3 * (6 * d + i) + j))) (h : ∀ i, i < k0 → TG (e (20 + 3 * i)) (e (21 + 3 * i)) (e (22 + 3 * i)) (g 9 (6 * d + i)) (fun j => g 7 (3 * (6 * d + i) + j)) ∧ TG (e (38 + 3 * i)) (e (39 + 3 * i)) (e (40 + 3 * i)) (g 10 (6 * d + i)) (fun j => g 8 (3 * (6 * d + i) + j))) : ∀ i, i < k0 → TG (e' (20 + 3 * i)) (e' (21 + 3 * i)) (e' (22 + 3 * i)) (g' 9 (6 * d + i)) (fun j => g' 7 (3 * (6 * d + i) + j)) ∧ TG (e' (38 + 3 * i)) (e' (39 + 3 * i)) (e' (40 + 3 * i)) (g' 10 (6 * d + i)) (fun j => g' 8 (3 * (6 * d + i) + j)) := fun i9 hi9 => by
  obtain ⟨q1, q2⟩ := h i9 hi9
  rw [h8, h10, he (38 + 3 * i9) (by omega) (by omega) (by omega), he (39 + 3 * i9) (by omega) (by omega) (by omega), he (40 + 3 * i9) (by omega) (by omega) (by omega)]
  refine ⟨?_, q2⟩
  by_cases q : i9 = i
  · rw [q]; exact hn
  · rw [he (20 + 3 * i9) (by omega) (by omega) (by omega), he (21 + 3 * i9) (by omega) (by omega) (by omega), he (22 + 3 * i9) (by omega) (by omega) (by omega), (h7 i9 (by omega) q).1]
    exact TG_congr (h7 i9 (by omega) q).2 q1
theorem gr_all8 {g g' : gT} {e e' : Nat → va_E} {d i k0 : Nat} (hk0 : k0 ≤ 6) (h7 : g' 7 = g 7) (h9 : g' 9 = g 9) (h8 : ∀ i9, i9 < 6 → ¬ i9 = i → g' 10 (6 * d + i9) = g 10 (6 * d + i9) ∧ ∀ j, j < 3 → g' 8 (3 * (6 * d + i9) + j) = g 8 (3 * (6 * d + i9) + j)) (hi : i < 6) (he : ∀ o, ¬ o = 38 + 3 * i → ¬ o = 39 + 3 * i → ¬ o = 40 + 3 * i → e' o = e o) (hn : TG (e' (38 + 3 * i)) (e' (39 + 3 * i)) (e' (40 + 3 * i)) (g' 10 (6 * d + i)) (fun j => g' 8 (3 * (6 * d + i) + j))) (h : ∀ i, i < k0 → TG (e (20 + 3 * i)) (e (21 + 3 * i)) (e (22 + 3 * i)) (g 9 (6 * d + i)) (fun j => g 7 (3 * (6 * d + i) + j)) ∧ TG (e (38 + 3 * i)) (e (39 + 3 * i)) (e (40 + 3 * i)) (g 10 (6 * d + i)) (fun j => g 8 (3 * (6 * d + i) + j))) : ∀ i, i < k0 → TG (e' (20 + 3 * i)) (e' (21 + 3 * i)) (e' (22 + 3 * i)) (g' 9 (6 * d + i)) (fun j => g' 7 (3 * (6 * d + i) + j)) ∧ TG (e' (38 + 3 * i)) (e' (39 + 3 * i)) (e' (40 + 3 * i)) (g' 10 (6 * d + i)) (fun j => g' 8 (3 * (6 * d + i) + j)) := fun i9 hi9 => by
  obtain ⟨q1, q2⟩ := h i9 hi9
  rw [h7, h9, he (20 + 3 * i9) (by omega) (by omega) (by omega), he (21 + 3 * i9) (by omega) (by omega) (by omega), he (22 + 3 * i9) (by omega) (by omega) (by omega)]
  refine ⟨q1, ?_⟩
  by_cases q : i9 = i
  · rw [q]; exact hn
  · rw [he (38 + 3 * i9) (by omega) (by omega) (by omega), he (39 + 3 * i9) (by omega) (by omega) (by omega), he (40 + 3 * i9) (by omega) (by omega) (by omega), (h8 i9 (by omega) q).1]
    exact TG_congr (h8 i9 (by omega) q).2 q2
theorem lG_oth {a a2 i : Nat} {t : Nat → Int32} {wl : List (Nat × Nat)} {nd : Nat} {g : gT} (haa : a ≠ a2) (hp : pI g (nd - 1) (wN t wl 1) = some i) (hi : i < 6) : ∀ i9, i9 < 6 → ¬ i9 = i → lG a a2 t wl nd g a2 (6 * (nd - 1) + i9) = g a2 (6 * (nd - 1) + i9) ∧ ∀ j, j < 3 → lG a a2 t wl nd g a (3 * (6 * (nd - 1) + i9) + j) = g a (3 * (6 * (nd - 1) + i9) + j) := fun i9 h9 hne => by
  refine ⟨lG_a2 haa (fun i2 q z => ?_), fun j hj => lG_a haa (fun i2 k q hk z => ?_)⟩
  · rw [hp] at q
    have := Option.some.inj q
    omega
  · rw [hp] at q
    have := Option.some.inj q
    omega
theorem gr_up2 {a a2 p n n2 : Nat} {g : gT} {ta ta2 x : Int32} {f f2 : Nat → Int32} (hx : x = 0) (h : (x = 0 ∧ ta2 = 1 ∧ n2 = n ∧ f2 = f) ∨ (¬ x = 0 ∧ COV ta n f x ∧ ta2 = ta ∧ n2 = n ∧ f2 = f) ∨ (¬ x = 0 ∧ ¬ COV ta n f x ∧ ta2 = ta ∧ ((n < 3 ∧ n2 = n + 1 ∧ f2 = upd f n x) ∨ (3 ≤ n ∧ n2 = n ∧ f2 = f)))) : ta2 = va_up g a2 (upd (g a2) p 1) a2 p ∧ (ta2 = 0 → NT n2 f2 (fun j => va_up g a2 (upd (g a2) p 1) a (3 * p + j))) := by
  rcases h with ⟨_, q1, _⟩ | ⟨q, _⟩ | ⟨q, _⟩
  · refine ⟨?_, fun z => ?_⟩
    · rw [q1, show va_up g a2 (upd (g a2) p 1) a2 = upd (g a2) p 1 by simp [va_up], pk_us]
    · rw [q1] at z; exact absurd z (by decide)
  · exact absurd hx q
  · exact absurd hx q
theorem k5g_0 : (Cond.code xy_Li_nameAt xb_Li_nameAt 4 (some .int)) ∈ wT := wT_t (List.mem_append_right _ (List.mem_append_left _ (List.mem_of_getElem? (i := 17) rfl))) rfl
theorem k5g_1 : (Cond.methodLink "LayerDesk$Shelf" 70 xy_Li_nameAt) ∈ wT := wT_t (List.mem_append_right _ (List.mem_append_left _ (List.mem_of_getElem? (i := 14) rfl))) rfl
theorem k5g_2 : (Cond.instanceMethod xy_Li_nameAt) ∈ wT := wT_t (List.mem_append_right _ (List.mem_append_left _ (List.mem_of_getElem? (i := 15) rfl))) rfl
theorem k5g_3 : (Cond.selects "LayerDesk$Line" xy_Li_nameAt xy_Li_nameAt) ∈ wT := wT_t (List.mem_append_right _ (List.mem_append_left _ (List.mem_of_getElem? (i := 16) rfl))) rfl
theorem k5g_4 : (Cond.initialized "LayerDesk$Line") ∈ wT := wT_t (List.mem_append_left _ (List.mem_of_getElem? (i := 2) rfl)) rfl
theorem k5g_5 : (Cond.fieldLink "LayerDesk$Shelf" 27 "LayerDesk$Line" "words" "I") ∈ wT := wT_t (List.mem_append_left _ (List.mem_of_getElem? (i := 41) rfl)) rfl
theorem k5g_6 : (Cond.code xy_Sh_latest xb_Sh_latest 1 (some (.object "LayerDesk$Descriptor"))) ∈ wT := wT_t (List.mem_append_right _ (List.mem_append_left _ (List.mem_of_getElem? (i := 119) rfl))) rfl
theorem k5g_7 : (Cond.methodLink "LayerDesk$Shelf" 81 xy_Sh_latest) ∈ wT := wT_t (List.mem_append_right _ (List.mem_append_left _ (List.mem_of_getElem? (i := 116) rfl))) rfl
theorem k5g_8 : (Cond.instanceMethod xy_Sh_latest) ∈ wT := wT_t (List.mem_append_right _ (List.mem_append_left _ (List.mem_of_getElem? (i := 118) rfl))) rfl
theorem k5g_9 : (Cond.selects "LayerDesk$Shelf" xy_Sh_latest xy_Sh_latest) ∈ wT := wT_s (q := (xy_Sh_latest, 2)) (by decide +kernel) rfl
theorem k5g_10 : (Cond.initialized "LayerDesk$Shelf") ∈ wT := wT_t (List.mem_append_left _ (List.mem_of_getElem? (i := 3) rfl)) rfl
theorem k5g_11 : (Cond.code xy_Li_wordIs xb_Li_wordIs 4 (some .boolean)) ∈ wT := wT_t (List.mem_append_left _ (List.mem_of_getElem? (i := 199) rfl)) rfl
theorem k5g_12 : (Cond.methodLink "LayerDesk$Shelf" 34 xy_Li_wordIs) ∈ wT := wT_t (List.mem_append_left _ (List.mem_of_getElem? (i := 196) rfl)) rfl
theorem k5g_13 : (Cond.instanceMethod xy_Li_wordIs) ∈ wT := wT_t (List.mem_append_left _ (List.mem_of_getElem? (i := 197) rfl)) rfl
theorem k5g_14 : (Cond.selects "LayerDesk$Line" xy_Li_wordIs xy_Li_wordIs) ∈ wT := wT_t (List.mem_append_left _ (List.mem_of_getElem? (i := 198) rfl)) rfl
theorem k5g_15 : (Cond.fieldLink "LayerDesk$Shelf" 135 "LayerDesk$Descriptor" "used" "LLayerDesk$Names;") ∈ wT := wT_t (List.mem_append_right _ (List.mem_append_left _ (List.mem_of_getElem? (i := 77) rfl))) rfl
theorem k5g_16 : (Cond.code xy_Na_holds xb_Na_holds 2 (some .boolean)) ∈ wT := wT_t (List.mem_append_right _ (List.mem_append_left _ (List.mem_of_getElem? (i := 123) rfl))) rfl
theorem k5g_17 : (Cond.methodLink "LayerDesk$Shelf" 89 xy_Na_holds) ∈ wT := wT_t (List.mem_append_right _ (List.mem_append_left _ (List.mem_of_getElem? (i := 120) rfl))) rfl
theorem k5g_18 : (Cond.instanceMethod xy_Na_holds) ∈ wT := wT_t (List.mem_append_right _ (List.mem_append_left _ (List.mem_of_getElem? (i := 121) rfl))) rfl
theorem k5g_19 : (Cond.selects "LayerDesk$Names" xy_Na_holds xy_Na_holds) ∈ wT := wT_t (List.mem_append_right _ (List.mem_append_left _ (List.mem_of_getElem? (i := 122) rfl))) rfl
theorem k5g_20 : (Cond.initialized "LayerDesk$Names") ∈ wT := wT_t (List.mem_append_left _ (List.mem_of_getElem? (i := 11) rfl)) rfl
theorem k5g_21 : (Cond.fieldLink "LayerDesk$Shelf" 95 "LayerDesk$Descriptor" "settled" "Z") ∈ wT := wT_t (List.mem_append_right _ (List.mem_append_left _ (List.mem_of_getElem? (i := 83) rfl))) rfl
theorem k5g_22 : (Cond.code xy_Na_isFull xb_Na_isFull 1 (some .boolean)) ∈ wT := wT_t (List.mem_append_right _ (List.mem_append_left _ (List.mem_of_getElem? (i := 131) rfl))) rfl
theorem k5g_23 : (Cond.methodLink "LayerDesk$Shelf" 99 xy_Na_isFull) ∈ wT := wT_t (List.mem_append_right _ (List.mem_append_left _ (List.mem_of_getElem? (i := 128) rfl))) rfl
theorem k5g_24 : (Cond.instanceMethod xy_Na_isFull) ∈ wT := wT_t (List.mem_append_right _ (List.mem_append_left _ (List.mem_of_getElem? (i := 129) rfl))) rfl
theorem k5g_25 : (Cond.selects "LayerDesk$Names" xy_Na_isFull xy_Na_isFull) ∈ wT := wT_t (List.mem_append_right _ (List.mem_append_left _ (List.mem_of_getElem? (i := 130) rfl))) rfl
theorem k5g_26 : (Cond.code xy_Na_append xb_Na_append 2 none) ∈ wT := wT_t (List.mem_append_right _ (List.mem_append_left _ (List.mem_of_getElem? (i := 154) rfl))) rfl
theorem k5g_27 : (Cond.methodLink "LayerDesk$Shelf" 141 xy_Na_append) ∈ wT := wT_t (List.mem_append_right _ (List.mem_append_left _ (List.mem_of_getElem? (i := 204) rfl))) rfl
theorem k5g_28 : (Cond.instanceMethod xy_Na_append) ∈ wT := wT_t (List.mem_append_right _ (List.mem_append_left _ (List.mem_of_getElem? (i := 152) rfl))) rfl
theorem k5g_29 : (Cond.selects "LayerDesk$Names" xy_Na_append xy_Na_append) ∈ wT := wT_t (List.mem_append_right _ (List.mem_append_left _ (List.mem_of_getElem? (i := 153) rfl))) rfl
theorem k5g_30 : (Cond.fieldLink "LayerDesk$Shelf" 138 "LayerDesk$Descriptor" "provided" "LLayerDesk$Names;") ∈ wT := wT_t (List.mem_append_right _ (List.mem_append_left _ (List.mem_of_getElem? (i := 81) rfl))) rfl
set_option maxHeartbeats 4000000 in
set_option maxRecDepth 100000 in
theorem xc_Sh_acceptServiceX (l : Launch) (D : va_G) (kA : Nat → ClassId) (sz : Nat) (ad : Nat → Nat → Nat) (E : Nat → Nat → va_E) (RL : List (Nat × Nat)) (Z : zT) (g : Nat → Nat → Int32) (ml : Nat) (nd : Nat) (len : Nat) (lt : Nat) (wl : List (Nat × Nat)) (cs : Nat) (hCI : CI kA ad E RL ml nd len wl.length cs) (hLW : LW g E lt wl) (hTD : TDs g E nd) (hZI : ZI g nd) : Met l xy_Sh_acceptService (.code xy_Sh_acceptService xb_Sh_acceptService 5 (some .int) :: wT) { frames := 5, cells := 0, slots := 0, locals := 108 } (va_Pc [.ref (ad 0 5), .ref (ad 0 1)] (xPreZ D kA sz (rp ad E RL) Z)) (va_Qi (fun (r : Int32) (u : (Nat → Nat → Nat) × (Nat → Nat → va_E) × List (Nat × Nat)) => CI kA u.1 u.2.1 u.2.2 ml nd len wl.length cs ∧ TDs (cif (wS (g 0) wl 0 zUs) (lS 14 (g 0) wl nd g) (lS 15 (g 0) wl nd g)) u.2.1 nd ∧ u.1 0 0 = ad 0 0 ∧ FRL ml nd ad u.1 E u.2.1) (fun (u : (Nat → Nat → Nat) × (Nat → Nat → va_E) × List (Nat × Nat)) t => va_P D xcl (rp u.1 u.2.1 u.2.2) t.heap ∧ va_D (va_A (rp ad E RL) sz) (rp u.1 u.2.1 u.2.2)) (va_A (rp ad E RL) sz)) 0 0 (va_A (rp ad E RL) sz) := by
  refine Met.ofW (cc := xb_Sh_acceptService) (maxL := 5) (ret := (some .int)) (by decide) rfl ?_
  intro p e s m args below meth c s₁ B hml hv
  obtain ⟨rfl, ⟨hsz, hP, hK, hD0⟩, hZ⟩ := hv
  have hx := B.exec
  have hb := B.bytes
  have hr := B.returns
  have hT := x_hT B.pre
  have hown : s.vm.findClass xR_Sh = some m.cls := findClass_of_methodNamed B.named
  have hlocks := B.notSynchronized
  subst hsz
  have hD := hD0.self (sz := s.heap.size)
  generalize hAe : va_A (rp ad E RL) s.heap.size = A at hD hZ ⊢
  have hA : ∀ q : Nat, s.heap.size ≤ q → A q := fun q h => by rw [← hAe]; exact Or.inr h
  have hS : va_S A s.heap s.heap [] := va_S.rf
  have hl := lv_entry ([.ref (ad 0 5), .ref (ad 0 1)]) (n := 5) (Nat.le_of_ble_eq_true rfl)
  rw [lg_entry_eq]
  generalize (lg_sl ([.ref (ad 0 5), .ref (ad 0 1)]) ++ List.replicate (5 - (lg_sl ([.ref (ad 0 5), .ref (ad 0 1)])).length) Slot.unset).toArray = ls at hl ⊢
  have hl : lv_has ls 5 [(0, .ref (ad 0 5)), (1, .ref (ad 0 1))] := hl
  have hP : va_P D xcl (rp ad E RL) s.heap := hP
  obtain ⟨hmB, hDk, hLi, hSh, hCh, hLa, hDIs, hLIs⟩ := id hCI
  obtain ⟨hWL, hlt40, hLwd, hLtx⟩ := id hLW
  obtain ⟨lf_1, q_1⟩ := id (hDk)
  have c_2 : E 0 0 = .inr (0, [.ref (ad 0 1), .ref (ad 0 5), .ref (ad 0 7), .ref (ad 0 9), .int (nI ml), .int lf_1]) := q_1
  have m_3 : (0, 0) ∈ RL := hmB 0 (by omega)
  obtain ⟨tx_4, fb_4, fe_4, hl1_4, hw2_4, q1_4, q2_4, q3_4, q4_4, hws_4⟩ := id (hLi)
  have c_5 : E 0 1 = .inr (1, [.ref (ad 0 2), .ref (ad 0 3), .ref (ad 0 4), .int (nI len), .int (nI (wl.length))]) := q1_4
  have m_6 : (0, 1) ∈ RL := hmB 1 (by omega)
  have c_7 : E 0 2 = .inl (kA 1, 40, .inl tx_4) := q2_4
  have m_8 : (0, 2) ∈ RL := hmB 2 (by omega)
  have c_9 : E 0 3 = .inl (kA 0, 20, .inl fb_4) := q3_4
  have m_10 : (0, 3) ∈ RL := hmB 3 (by omega)
  have c_11 : E 0 4 = .inl (kA 0, 20, .inl fe_4) := q4_4
  have m_12 : (0, 4) ∈ RL := hmB 4 (by omega)
  obtain ⟨fd_13, hnd_13, q5_13, q6_13, hds_13⟩ := id (hSh)
  have c_14 : E 0 5 = .inr (2, [.ref (ad 0 6), .int (nI nd)]) := q5_13
  have m_15 : (0, 5) ∈ RL := hmB 5 (by omega)
  have c_16 : E 0 6 = .inl (kA 4, 12, .inr (.inr (.inr (.inr fd_13)))) := q6_13
  have m_17 : (0, 6) ∈ RL := hmB 6 (by omega)
  obtain ⟨cf_18, pv_18, fc_18, hcs_18, hpv_18, q7_18, q8_18, hfc_18⟩ := id (hCh)
  have c_19 : E 0 7 = .inr (3, [.ref (ad 0 5), .ref (ad 0 8), .int (nI cs), .int cf_18, pv_18]) := q7_18
  have m_20 : (0, 7) ∈ RL := hmB 7 (by omega)
  have c_21 : E 0 8 = .inl (kA 4, 12, .inr (.inr (.inr (.inr fc_18)))) := q8_18
  have m_22 : (0, 8) ∈ RL := hmB 8 (by omega)
  obtain ⟨fl_23, hml_23, q9_23, hla_23⟩ := id (hLa)
  have c_24 : E 0 9 = .inl (kA 5, 5, .inr (.inr (.inr (.inr fl_23)))) := q9_23
  have m_25 : (0, 9) ∈ RL := hmB 9 (by omega)
  obtain ⟨zw0, zw1, zw2, zw3, zw4, zw5, zw6, zw7, zw8, zw9, zw10, zw11⟩ := zW_all
  refine lv_aload_n hx hb xd_Sh_acceptService_0 rfl (lv_at hl 1 rfl) ?_
  refine lv_iconst (v := 1) hx hb xd_Sh_acceptService_1 (by decide) ?_
  have hFc := px_free hD hS hA
  refine va_calli (va_runV (As := [.int 1]) (rest := []) ⟨hx, hb, hml, hown, hT⟩ (xc_Li_nameAtX l D kA s.heap.size ad E RL g ml nd len lt wl cs 1 (by first | assumption | omega) (by first | assumption | omega) (by first | assumption | omega)) (cwV 1 hT (wT_V k5g_1 k5g_2 k5g_3 k5g_4 k5g_0) rfl rfl rfl (by decide +kernel) ⟨Nat.le_of_ble_eq_true rfl, Nat.le_of_ble_eq_true rfl⟩) (px_preV hK hP hD m_6 c_5 rfl) rfl rfl hl.1 rfl (lv_room (Nat.le_of_ble_eq_true rfl)) xd_Sh_acceptService_2 ⟨(Nat.le_of_ble_eq_true rfl), (Nat.le_of_ble_eq_true rfl)⟩) hS (fun q _ h => hFc q h) hFc (fun r26 u27 t H1 locs ht hvm hp28 hB hz1 hk1 hS => ?_)
  obtain ⟨hP1, hD1⟩ := hB
  rw [ht] at hP1
  have hD1 := hD1.weaken (fun _ _ _ h => hFc _ h)
  generalize H1 = H at hP1 hS ⊢
  have hP := hP1
  have hD := hD1
  have hP : va_P D xcl (rp ad E RL) H := hP
  have hD : va_D A (rp ad E RL) := hD
  have hp28 : r26 = wN (g 0) wl 1 := hp28
  subst hp28
  have hP : va_P D xcl (rp ad E RL) H := hP
  have hD : va_D A (rp ad E RL) := hD
  refine lv_istore_n hx hb xd_Sh_acceptService_5 rfl hl (Nat.le_of_ble_eq_true rfl) rfl (fun ls hl => ?_)
  have hl : lv_has ls 5 [(2, .int (wN (g 0) wl 1)), (0, .ref (ad 0 5)), (1, .ref (ad 0 1))] := hl
  refine lv_aload_n hx hb xd_Sh_acceptService_6 rfl (lv_at hl 2 rfl) ?_
  refine px_get (D := D) (ci := 1) (v := .int (nI (wl.length))) (C := xR_Li) (T := xT_Li) (N := 5) hx hb hT xi_Li hown hK.1 hP m_6 c_5 rfl 4 (by decide) (hT _ k5g_5) (fun _ h9 => h9) rfl xd_Sh_acceptService_7 ?_
  refine lv_iconst (v := 2) hx hb xd_Sh_acceptService_10 (by decide) ?_
  refine xn_ne (a := wl.length) (b := 2) (tgt := 18) hx hb xd_Sh_acceptService_11 (by decide) (by omega) (by omega) (fun hc29 => ?_) (fun hc29 => ?_)
  · refine lv_iconst (v := (-1)) hx hb xd_Sh_acceptService_18 (by decide) ?_
    refine W.widen (k := 0) (n := 0) (Nat.le_of_ble_eq_true rfl) (Nat.le_of_ble_eq_true rfl) ?_
    exact W.iret (v := (-1)) hx hb hr (fun t ht hW => ⟨⟨(-1), (ad, E, RL), rfl, ⟨hCI, by rw [cif_eq (lS_no1 (a := 14) (fun q => absurd q.1 (by omega))).symm (lS_no1 (a := 15) (fun q => absurd q.1 (by omega))).symm]; exact hTD, rfl, FRL_rf⟩, by rw [ht]; exact hP, hD⟩, hS.F ht⟩) hS.2.2 xd_Sh_acceptService_19
  · refine lv_iload_n hx hb xd_Sh_acceptService_14 rfl (lv_at hl 0 rfl) ?_
    refine lv_if_ne (tgt := 20) hx hb xd_Sh_acceptService_15 (by decide) (fun hc30 => ?_) (fun hc30 => ?_)
    · refine lv_aload_n hx hb xd_Sh_acceptService_20 rfl (lv_at hl 1 rfl) ?_
      have hFc := px_free hD hS hA
      refine va_callq (va_runV (As := []) (rest := []) ⟨hx, hb, hml, hown, hT⟩ (xc_Sh_latestX l D kA H.size ad E RL ml nd len wl.length cs (by first | assumption | omega)) (cwV 0 hT (wT_V k5g_7 k5g_8 k5g_9 k5g_10 k5g_6) rfl rfl rfl (by decide +kernel) ⟨Nat.le_of_ble_eq_true rfl, Nat.le_of_ble_eq_true rfl⟩) (px_preV hK hP hD m_15 c_14 rfl) rfl rfl hl.1 rfl (lv_room (Nat.le_of_ble_eq_true rfl)) xd_Sh_acceptService_21 ⟨(Nat.le_of_ble_eq_true rfl), (Nat.le_of_ble_eq_true rfl)⟩) hS (fun q _ h => hFc q h) hFc (fun r31 u32 t H1 locs ht hvm hp33 hB hz1 hk1 hS => ?_)
      obtain ⟨hP1, hD1⟩ := hB
      rw [ht] at hP1
      have hD1 := hD1.weaken (fun _ _ _ h => hFc _ h)
      generalize H1 = H at hP1 hS ⊢
      have hP := hP1
      have hD := hD1
      have hP : va_P D xcl (rp ad E RL) H := hP
      have hD : va_D A (rp ad E RL) := hD
      rcases hp33 with ⟨rfl, z34⟩ | ⟨z35, rfl⟩
      · refine W.eq (g2 := F0 m 24 ls [.null]) rfl ?_
        refine lv_astore_nN hx hb xd_Sh_acceptService_24 rfl hl (Nat.le_of_ble_eq_true rfl) rfl (fun ls hl => ?_)
        have hl : lv_has ls 5 [(3, .null), (2, .int (wN (g 0) wl 1)), (0, .ref (ad 0 5)), (1, .ref (ad 0 1))] := hl
        refine lv_aload_nN hx hb xd_Sh_acceptService_25 rfl (lv_at hl 0 rfl) ?_
        refine lv_ifnonnullN hx hb xd_Sh_acceptService_26 ?_
        refine lv_bipush (v := (-2)) hx hb xd_Sh_acceptService_29 (by decide) ?_
        refine W.widen (k := 0) (n := 0) (Nat.le_of_ble_eq_true rfl) (Nat.le_of_ble_eq_true rfl) ?_
        exact W.iret (v := (-2)) hx hb hr (fun t ht hW => ⟨⟨(-2), (ad, E, RL), rfl, ⟨hCI, by rw [cif_eq (lS_no1 (a := 14) (fun q => absurd q.2.2.1 (by omega))).symm (lS_no1 (a := 15) (fun q => absurd q.2.2.1 (by omega))).symm]; exact hTD, rfl, FRL_rf⟩, by rw [ht]; exact hP, hD⟩, hS.F ht⟩) hS.2.2 xd_Sh_acceptService_31
      · refine W.eq (g2 := F0 m 24 ls [.ref (ad (1 + (nd - 1)) 0)]) rfl ?_
        refine lv_astore_n hx hb xd_Sh_acceptService_24 rfl hl (Nat.le_of_ble_eq_true rfl) rfl (fun ls hl => ?_)
        have hl : lv_has ls 5 [(3, .ref (ad (1 + (nd - 1)) 0)), (2, .int (wN (g 0) wl 1)), (0, .ref (ad 0 5)), (1, .ref (ad 0 1))] := hl
        refine lv_aload_n hx hb xd_Sh_acceptService_25 rfl (lv_at hl 0 rfl) ?_
        refine lv_ifnonnull (tgt := 32) hx hb xd_Sh_acceptService_26 (by decide) ?_
        refine lv_aload_n hx hb xd_Sh_acceptService_32 rfl (lv_at hl 3 rfl) ?_
        refine lv_iconst (v := 0) hx hb xd_Sh_acceptService_33 (by decide) ?_
        refine va_ldcS (q := Z.1 5) hx hb hown hZ.2.2.2.1.2.2.2.2.2.1 xd_Sh_acceptService_34 ?_
        have hFc := px_free hD hS hA
        refine va_calli (va_runV (As := [.int 0, .ref (Z.1 5)]) (rest := []) ⟨hx, hb, hml, hown, hT⟩ (xc_Li_wordIsX l D kA H.size ad E RL Z g ml nd len lt wl cs 0 5 (by first | assumption | omega) (by first | assumption | omega) (by first | assumption | omega) (by first | assumption | omega)) (cwV 2 hT (wT_V k5g_12 k5g_13 k5g_14 k5g_4 k5g_11) rfl rfl rfl (by decide +kernel) ⟨Nat.le_of_ble_eq_true rfl, Nat.le_of_ble_eq_true rfl⟩) (px_preVZ hK hP hD m_6 c_5 rfl hFc (hZ.kept hS)) rfl rfl hl.1 rfl (lv_room (Nat.le_of_ble_eq_true rfl)) xd_Sh_acceptService_36 ⟨(Nat.le_of_ble_eq_true rfl), (Nat.le_of_ble_eq_true rfl)⟩) hS (fun q _ h => hFc q h) hFc (fun r36 u37 t H1 locs ht hvm hp38 hB hz1 hk1 hS => ?_)
        obtain ⟨hP1, hD1⟩ := hB
        rw [ht] at hP1
        have hD1 := hD1.weaken (fun _ _ _ h => hFc _ h)
        generalize H1 = H at hP1 hS ⊢
        have hP := hP1
        have hD := hD1
        have hP : va_P D xcl (rp ad E RL) H := hP
        have hD : va_D A (rp ad E RL) := hD
        rcases hp38 with ⟨rfl, z39⟩ | ⟨rfl, z40⟩
        · have hw5 : wS (g 0) wl 0 zUs := by have q := z39; rw [zw5] at q; exact q
          refine W.eq (g2 := F0 m 39 ls [.int 1]) rfl ?_
          refine lv_if_eq (tgt := 49) hx hb xd_Sh_acceptService_39 (by decide) (fun hc41 => absurd hc41 (by decide)) (fun _ => ?_)
          refine lv_aload_n hx hb xd_Sh_acceptService_42 rfl (lv_at hl 0 rfl) ?_
          obtain ⟨hm_42, fd_42, nm_42, sd_42, k0_42, k1_42, k2_42, k3_42, f0_42, f1_42, f2_42, f3_42, fe_42, fo_42, tr_42, op_42, hk0_42, hk1_42, hk2_42, hk3_42, q0_42, q1_42, q2_42, q3_42, q4_42, q5_42, q6_42, q7_42, q8_42, q9_42, q10_42, q11_42, q12_42, hg_42⟩ := id (hDIs (nd - 1) (by omega))
          have c_43 : E (1 + (nd - 1)) 0 = .inr (7, [.int (nI ((nd - 1))), .int fd_42, .int nm_42, .ref (ad (1 + (nd - 1)) 1), .ref (ad (1 + (nd - 1)) 9), .ref (ad (1 + (nd - 1)) 10), .ref (ad (1 + (nd - 1)) 2), .ref (ad (1 + (nd - 1)) 11), .ref (ad (1 + (nd - 1)) 12), .ref (ad (1 + (nd - 1)) 3), .ref (ad (1 + (nd - 1)) 4), .int sd_42]) := q0_42
          have m_44 : (1 + (nd - 1), 0) ∈ RL := hm_42 0 (by omega)
          have c_45 : E (1 + (nd - 1)) 1 = .inr (8, [.ref (ad (1 + (nd - 1)) 5), .int (nI k0_42)]) := q1_42
          have m_46 : (1 + (nd - 1), 1) ∈ RL := hm_42 1 (by omega)
          have c_47 : E (1 + (nd - 1)) 2 = .inr (8, [.ref (ad (1 + (nd - 1)) 6), .int (nI k1_42)]) := q2_42
          have m_48 : (1 + (nd - 1), 2) ∈ RL := hm_42 2 (by omega)
          have c_49 : E (1 + (nd - 1)) 3 = .inr (8, [.ref (ad (1 + (nd - 1)) 7), .int (nI k2_42)]) := q3_42
          have m_50 : (1 + (nd - 1), 3) ∈ RL := hm_42 3 (by omega)
          have c_51 : E (1 + (nd - 1)) 4 = .inr (8, [.ref (ad (1 + (nd - 1)) 8), .int (nI k3_42)]) := q4_42
          have m_52 : (1 + (nd - 1), 4) ∈ RL := hm_42 4 (by omega)
          have c_53 : E (1 + (nd - 1)) 5 = .inl (kA 0, 6, .inl f0_42) := q5_42
          have m_54 : (1 + (nd - 1), 5) ∈ RL := hm_42 5 (by omega)
          have c_55 : E (1 + (nd - 1)) 6 = .inl (kA 0, 5, .inl f1_42) := q6_42
          have m_56 : (1 + (nd - 1), 6) ∈ RL := hm_42 6 (by omega)
          have c_57 : E (1 + (nd - 1)) 7 = .inl (kA 0, 3, .inl f2_42) := q7_42
          have m_58 : (1 + (nd - 1), 7) ∈ RL := hm_42 7 (by omega)
          have c_59 : E (1 + (nd - 1)) 8 = .inl (kA 0, 3, .inl f3_42) := q8_42
          have m_60 : (1 + (nd - 1), 8) ∈ RL := hm_42 8 (by omega)
          have c_61 : E (1 + (nd - 1)) 9 = .inl (kA 8, 6, .inr (.inr (.inr (.inr fe_42)))) := q9_42
          have m_62 : (1 + (nd - 1), 9) ∈ RL := hm_42 9 (by omega)
          have c_63 : E (1 + (nd - 1)) 10 = .inl (kA 8, 6, .inr (.inr (.inr (.inr fo_42)))) := q10_42
          have m_64 : (1 + (nd - 1), 10) ∈ RL := hm_42 10 (by omega)
          have c_65 : E (1 + (nd - 1)) 11 = .inl (kA 2, 5, .inl tr_42) := q11_42
          have m_66 : (1 + (nd - 1), 11) ∈ RL := hm_42 11 (by omega)
          have c_67 : E (1 + (nd - 1)) 12 = .inl (kA 2, 5, .inl op_42) := q12_42
          have m_68 : (1 + (nd - 1), 12) ∈ RL := hm_42 12 (by omega)
          have hg_42 : ∀ w9, w9 < k0_42 → fe_42 w9 = some (ad (1 + (nd - 1)) (20 + 3 * w9)) ∧ fo_42 w9 = some (ad (1 + (nd - 1)) (38 + 3 * w9)) ∧ GI kA (ad (1 + (nd - 1))) (E (1 + (nd - 1))) (fun o => (1 + (nd - 1), o) ∈ RL) (20 + 3 * w9) (21 + 3 * w9) (22 + 3 * w9) ∧ GI kA (ad (1 + (nd - 1))) (E (1 + (nd - 1))) (fun o => (1 + (nd - 1), o) ∈ RL) (38 + 3 * w9) (39 + 3 * w9) (40 + 3 * w9) := hg_42
          obtain ⟨hTT_42, tgr_42⟩ := TD_get hk0_42 hk1_42 hk2_42 hk3_42 c_43 c_45 c_47 c_49 c_51 c_53 c_55 c_57 c_59 c_65 c_67 (hTD (nd - 1) (by omega))
          obtain ⟨tfd_42, tnm_42, tsd_42, tk0_42, tf0_42, tk1_42, tf1_42, tk2_42, tk3_42⟩ := id hTT_42
          have ik0_42 : iN (g 5 (nd - 1)) = k0_42 := by rw [← tk0_42, iN_nI (by omega)]
          have ik1_42 : iN (g 12 (nd - 1)) = k1_42 := by rw [← tk1_42, iN_nI (by omega)]
          refine px_get (D := D) (ci := 7) (v := .ref (ad (1 + (nd - 1)) 3)) (C := xR_Ds) (T := xT_Ds) (N := 12) hx hb hT xi_Ds hown hK.1 hP m_44 c_43 rfl 9 (by decide) (hT _ k5g_15) (fun _ h9 => h9) rfl xd_Sh_acceptService_43 ?_
          refine lv_goto (tgt := 53) hx hb xd_Sh_acceptService_46 (by decide) ?_
          refine lv_astore hx hb xd_Sh_acceptService_53 hl (Nat.le_of_ble_eq_true rfl) rfl (fun ls hl => ?_)
          have hl : lv_has ls 5 [(4, .ref (ad (1 + (nd - 1)) 3)), (3, .ref (ad (1 + (nd - 1)) 0)), (2, .int (wN (g 0) wl 1)), (0, .ref (ad 0 5)), (1, .ref (ad 0 1))] := hl
          refine lv_aload hx hb xd_Sh_acceptService_55 (lv_at hl 0 rfl) ?_
          refine lv_iload_n hx hb xd_Sh_acceptService_57 rfl (lv_at hl 2 rfl) ?_
          have hFc := px_free hD hS hA
          refine va_calli (va_runV (As := [.int (wN (g 0) wl 1)]) (rest := []) ⟨hx, hb, hml, hown, hT⟩ (xc_Na_holds l D kA H.size ad E RL (1 + (nd - 1)) 3 7 3 k2_42 f2_42 (wN (g 0) wl 1) m_50 c_49 m_58 c_57 (by first | assumption | omega) (by first | assumption | omega)) (cwV 1 hT (wT_V k5g_17 k5g_18 k5g_19 k5g_20 k5g_16) rfl rfl rfl (by decide +kernel) ⟨Nat.le_of_ble_eq_true rfl, Nat.le_of_ble_eq_true rfl⟩) (px_preV hK hP hD m_50 c_49 rfl) rfl rfl hl.1 rfl (lv_room (Nat.le_of_ble_eq_true rfl)) xd_Sh_acceptService_58 ⟨(Nat.le_of_ble_eq_true rfl), (Nat.le_of_ble_eq_true rfl)⟩) hS (fun q _ h => hFc q h) hFc (fun r69 u70 t H1 locs ht hvm hp71 hB hz1 hk1 hS => ?_)
          obtain ⟨hP1, hD1⟩ := hB
          rw [ht] at hP1
          have hD1 := hD1.weaken (fun _ _ _ h => hFc _ h)
          generalize H1 = H at hP1 hS ⊢
          have hP := hP1
          have hD := hD1
          have hP : va_P D xcl (rp ad E RL) H := hP
          have hD : va_D A (rp ad E RL) := hD
          rcases hp71 with ⟨rfl, z72, z73, z74⟩ | ⟨rfl, z75⟩
          · refine W.eq (g2 := F0 m 61 ls [.int 1]) rfl ?_
            refine lv_if_eq (tgt := 66) hx hb xd_Sh_acceptService_61 (by decide) (fun hc76 => absurd hc76 (by decide)) (fun _ => ?_)
            refine lv_iconst (v := (-1)) hx hb xd_Sh_acceptService_64 (by decide) ?_
            refine W.widen (k := 0) (n := 0) (Nat.le_of_ble_eq_true rfl) (Nat.le_of_ble_eq_true rfl) ?_
            exact W.iret (v := (-1)) hx hb hr (fun t ht hW => ⟨⟨(-1), (ad, E, RL), rfl, ⟨hCI, by rw [cif_pos hw5, ← lS_no1 (fun q => q.2.2.2.1 z72 (by omega) (((tk2_42 z72 (by omega)).1 z73).1.symm.trans z74))]; exact hTD, rfl, FRL_rf⟩, by rw [ht]; exact hP, hD⟩, hS.F ht⟩) hS.2.2 xd_Sh_acceptService_65
          · refine W.eq (g2 := F0 m 61 ls [.int 0]) rfl ?_
            refine lv_if_eq (tgt := 66) hx hb xd_Sh_acceptService_61 (by decide) (fun _ => ?_) (fun hc77 => absurd (by decide) hc77)
            refine lv_aload_n hx hb xd_Sh_acceptService_66 rfl (lv_at hl 1 rfl) ?_
            refine px_get (D := D) (ci := 7) (v := .int sd_42) (C := xR_Ds) (T := xT_Ds) (N := 12) hx hb hT xi_Ds hown hK.1 hP m_44 c_43 rfl 11 (by decide) (hT _ k5g_21) (fun _ h9 => h9) rfl xd_Sh_acceptService_67 ?_
            refine lv_if_ne (tgt := 81) hx hb xd_Sh_acceptService_70 (by decide) (fun hc78 => ?_) (fun hc78 => ?_)
            · refine lv_bipush (v := (-2)) hx hb xd_Sh_acceptService_81 (by decide) ?_
              refine W.widen (k := 0) (n := 0) (Nat.le_of_ble_eq_true rfl) (Nat.le_of_ble_eq_true rfl) ?_
              exact W.iret (v := (-2)) hx hb hr (fun t ht hW => ⟨⟨(-2), (ad, E, RL), rfl, ⟨hCI, by rw [cif_pos hw5, ← lS_no1 (fun q => hc78 (by rw [tsd_42]; exact q.2.2.2.2))]; exact hTD, rfl, FRL_rf⟩, by rw [ht]; exact hP, hD⟩, hS.F ht⟩) hS.2.2 xd_Sh_acceptService_83
            · refine lv_aload hx hb xd_Sh_acceptService_73 (lv_at hl 0 rfl) ?_
              have hFc := px_free hD hS hA
              refine va_calli (va_runV (As := []) (rest := []) ⟨hx, hb, hml, hown, hT⟩ (xc_Na_isFull l D kA H.size ad E RL (1 + (nd - 1)) 3 7 3 k2_42 f2_42 m_50 c_49 m_58 c_57 (by first | assumption | omega) (by first | assumption | omega)) (cwV 0 hT (wT_V k5g_23 k5g_24 k5g_25 k5g_20 k5g_22) rfl rfl rfl (by decide +kernel) ⟨Nat.le_of_ble_eq_true rfl, Nat.le_of_ble_eq_true rfl⟩) (px_preV hK hP hD m_50 c_49 rfl) rfl rfl hl.1 rfl (lv_room (Nat.le_of_ble_eq_true rfl)) xd_Sh_acceptService_75 ⟨(Nat.le_of_ble_eq_true rfl), (Nat.le_of_ble_eq_true rfl)⟩) hS (fun q _ h => hFc q h) hFc (fun r79 u80 t H1 locs ht hvm hp81 hB hz1 hk1 hS => ?_)
              obtain ⟨hP1, hD1⟩ := hB
              rw [ht] at hP1
              have hD1 := hD1.weaken (fun _ _ _ h => hFc _ h)
              generalize H1 = H at hP1 hS ⊢
              have hP := hP1
              have hD := hD1
              have hP : va_P D xcl (rp ad E RL) H := hP
              have hD : va_D A (rp ad E RL) := hD
              rcases hp81 with ⟨rfl, z82⟩ | ⟨rfl, z83⟩
              · refine W.eq (g2 := F0 m 78 ls [.int 1]) rfl ?_
                refine lv_if_eq (tgt := 84) hx hb xd_Sh_acceptService_78 (by decide) (fun hc84 => absurd hc84 (by decide)) (fun _ => ?_)
                refine lv_bipush (v := (-2)) hx hb xd_Sh_acceptService_81 (by decide) ?_
                refine W.widen (k := 0) (n := 0) (Nat.le_of_ble_eq_true rfl) (Nat.le_of_ble_eq_true rfl) ?_
                exact W.iret (v := (-2)) hx hb hr (fun t ht hW => ⟨⟨(-2), (ad, E, RL), rfl, ⟨hCI, by rw [cif_pos hw5, ← lS_no2 (NT_sn z82 tk2_42)]; exact hTD, rfl, FRL_rf⟩, by rw [ht]; exact hP, hD⟩, hS.F ht⟩) hS.2.2 xd_Sh_acceptService_83
              · refine W.eq (g2 := F0 m 78 ls [.int 0]) rfl ?_
                refine lv_if_eq (tgt := 84) hx hb xd_Sh_acceptService_78 (by decide) (fun _ => ?_) (fun hc85 => absurd (by decide) hc85)
                refine lv_aload hx hb xd_Sh_acceptService_84 (lv_at hl 0 rfl) ?_
                refine lv_iload_n hx hb xd_Sh_acceptService_86 rfl (lv_at hl 2 rfl) ?_
                have hFc := px_free hD hS hA
                refine va_callv (va_runV (As := [.int (wN (g 0) wl 1)]) (rest := []) ⟨hx, hb, hml, hown, hT⟩ (xc_Na_append l D kA H.size ad E RL (1 + (nd - 1)) 3 7 3 k2_42 f2_42 (wN (g 0) wl 1) m_50 c_49 m_58 c_57 (by first | assumption | omega) (by first | assumption | omega) (by first | assumption | omega)) (cwV 1 hT (wT_V k5g_27 k5g_28 k5g_29 k5g_20 k5g_26) rfl rfl rfl (by decide +kernel) ⟨Nat.le_of_ble_eq_true rfl, Nat.le_of_ble_eq_true rfl⟩) (px_preV hK hP hD m_50 c_49 rfl) rfl rfl hl.1 rfl (lv_room (Nat.le_of_ble_eq_true rfl)) xd_Sh_acceptService_87 ⟨(Nat.le_of_ble_eq_true rfl), (Nat.le_of_ble_eq_true rfl)⟩) hS (fun q _ h => hFc q h) hFc (fun u87 t H1 locs ht hvm hp88 hB hz1 hk1 hS => ?_)
                obtain ⟨hP1, hD1⟩ := hB
                rw [ht] at hP1
                have hD1 := hD1.weaken (fun _ _ _ h => hFc _ h)
                generalize H1 = H at hP1 hS ⊢
                have hP := hP1
                have hD := hD1
                obtain ⟨E89, rfl⟩ : ∃ z, z = u87 := ⟨_, rfl⟩
                obtain ⟨w90, w91, hp95, p_92, p_93, p_94⟩ := hp88
                have p_92 : E89 (1 + (nd - 1)) 3 = .inr (8, [.ref (ad (1 + (nd - 1)) 7), .int (nI w90)]) := p_92
                have p_93 : E89 (1 + (nd - 1)) 7 = .inl (kA 0, 3, .inl w91) := p_93
                have p_94 : (∀ b2 o2, ¬ (b2 = (1 + (nd - 1)) ∧ o2 = 3) → ¬ (b2 = (1 + (nd - 1)) ∧ o2 = 7) → E89 b2 o2 = E b2 o2) := p_94
                have c_96 : E89 0 0 = .inr (0, [.ref (ad 0 1), .ref (ad 0 5), .ref (ad 0 7), .ref (ad 0 9), .int (nI ml), .int lf_1]) := (p_94 0 0 (by omega) (by omega)).trans c_2
                have c_97 : E89 0 1 = .inr (1, [.ref (ad 0 2), .ref (ad 0 3), .ref (ad 0 4), .int (nI len), .int (nI (wl.length))]) := (p_94 0 1 (by omega) (by omega)).trans c_5
                have c_98 : E89 0 2 = .inl (kA 1, 40, .inl tx_4) := (p_94 0 2 (by omega) (by omega)).trans c_7
                have c_99 : E89 0 3 = .inl (kA 0, 20, .inl fb_4) := (p_94 0 3 (by omega) (by omega)).trans c_9
                have c_100 : E89 0 4 = .inl (kA 0, 20, .inl fe_4) := (p_94 0 4 (by omega) (by omega)).trans c_11
                have c_101 : E89 0 5 = .inr (2, [.ref (ad 0 6), .int (nI nd)]) := (p_94 0 5 (by omega) (by omega)).trans c_14
                have c_102 : E89 0 6 = .inl (kA 4, 12, .inr (.inr (.inr (.inr fd_13)))) := (p_94 0 6 (by omega) (by omega)).trans c_16
                have c_103 : E89 0 7 = .inr (3, [.ref (ad 0 5), .ref (ad 0 8), .int (nI cs), .int cf_18, pv_18]) := (p_94 0 7 (by omega) (by omega)).trans c_19
                have c_104 : E89 0 8 = .inl (kA 4, 12, .inr (.inr (.inr (.inr fc_18)))) := (p_94 0 8 (by omega) (by omega)).trans c_21
                have c_105 : E89 0 9 = .inl (kA 5, 5, .inr (.inr (.inr (.inr fl_23)))) := (p_94 0 9 (by omega) (by omega)).trans c_24
                have c_106 : E89 (1 + (nd - 1)) 0 = .inr (7, [.int (nI ((nd - 1))), .int fd_42, .int nm_42, .ref (ad (1 + (nd - 1)) 1), .ref (ad (1 + (nd - 1)) 9), .ref (ad (1 + (nd - 1)) 10), .ref (ad (1 + (nd - 1)) 2), .ref (ad (1 + (nd - 1)) 11), .ref (ad (1 + (nd - 1)) 12), .ref (ad (1 + (nd - 1)) 3), .ref (ad (1 + (nd - 1)) 4), .int sd_42]) := (p_94 (1 + (nd - 1)) 0 (by omega) (by omega)).trans c_43
                have c_107 : E89 (1 + (nd - 1)) 1 = .inr (8, [.ref (ad (1 + (nd - 1)) 5), .int (nI k0_42)]) := (p_94 (1 + (nd - 1)) 1 (by omega) (by omega)).trans c_45
                have c_108 : E89 (1 + (nd - 1)) 2 = .inr (8, [.ref (ad (1 + (nd - 1)) 6), .int (nI k1_42)]) := (p_94 (1 + (nd - 1)) 2 (by omega) (by omega)).trans c_47
                have c_109 : E89 (1 + (nd - 1)) 4 = .inr (8, [.ref (ad (1 + (nd - 1)) 8), .int (nI k3_42)]) := (p_94 (1 + (nd - 1)) 4 (by omega) (by omega)).trans c_51
                have c_110 : E89 (1 + (nd - 1)) 5 = .inl (kA 0, 6, .inl f0_42) := (p_94 (1 + (nd - 1)) 5 (by omega) (by omega)).trans c_53
                have c_111 : E89 (1 + (nd - 1)) 6 = .inl (kA 0, 5, .inl f1_42) := (p_94 (1 + (nd - 1)) 6 (by omega) (by omega)).trans c_55
                have c_112 : E89 (1 + (nd - 1)) 8 = .inl (kA 0, 3, .inl f3_42) := (p_94 (1 + (nd - 1)) 8 (by omega) (by omega)).trans c_59
                have c_113 : E89 (1 + (nd - 1)) 9 = .inl (kA 8, 6, .inr (.inr (.inr (.inr fe_42)))) := (p_94 (1 + (nd - 1)) 9 (by omega) (by omega)).trans c_61
                have c_114 : E89 (1 + (nd - 1)) 10 = .inl (kA 8, 6, .inr (.inr (.inr (.inr fo_42)))) := (p_94 (1 + (nd - 1)) 10 (by omega) (by omega)).trans c_63
                have c_115 : E89 (1 + (nd - 1)) 11 = .inl (kA 2, 5, .inl tr_42) := (p_94 (1 + (nd - 1)) 11 (by omega) (by omega)).trans c_65
                have c_116 : E89 (1 + (nd - 1)) 12 = .inl (kA 2, 5, .inl op_42) := (p_94 (1 + (nd - 1)) 12 (by omega) (by omega)).trans c_67
                have hP : va_P D xcl (rp ad E89 RL) H := hP
                have hD : va_D A (rp ad E89 RL) := hD
                have hap : w90 = k2_42 + 1 ∧ w91 = upd f2_42 k2_42 (wN (g 0) wl 1) := by
                  rcases hp95.2 with ⟨_, q1, q2⟩ | ⟨q, _⟩
                  · exact ⟨q1, q2⟩
                  · omega
                obtain ⟨hap1, hap2⟩ := hap
                have hTD9 := (show TD (va_up g 14 (upd (g 14) (3 * (nd - 1) + k2_42) (wN (g 0) wl 1))) (E89 (1 + (nd - 1))) (nd - 1) from TD_mk (by omega) (by omega) (by omega) (by omega) c_106 c_107 c_108 p_92 c_109 c_110 c_111 p_93 c_112 c_115 c_116 (by rw [hap1, hap2]; exact TT_S2 (by omega) (wN_pos.mp hc30) hTT_42) (fun i9 hi9 => by
          have q := tgr_42 i9 hi9
          rw [← (show E89 (1 + (nd - 1)) (20 + 3 * i9) = E (1 + (nd - 1)) (20 + 3 * i9) from by show E89 (1 + (nd - 1)) (20 + 3 * i9) = _; rw [p_94 (1 + (nd - 1)) (20 + 3 * i9) (by omega) (by omega)]), ← (show E89 (1 + (nd - 1)) (21 + 3 * i9) = E (1 + (nd - 1)) (21 + 3 * i9) from by show E89 (1 + (nd - 1)) (21 + 3 * i9) = _; rw [p_94 (1 + (nd - 1)) (21 + 3 * i9) (by omega) (by omega)]), ← (show E89 (1 + (nd - 1)) (22 + 3 * i9) = E (1 + (nd - 1)) (22 + 3 * i9) from by show E89 (1 + (nd - 1)) (22 + 3 * i9) = _; rw [p_94 (1 + (nd - 1)) (22 + 3 * i9) (by omega) (by omega)]), ← (show E89 (1 + (nd - 1)) (38 + 3 * i9) = E (1 + (nd - 1)) (38 + 3 * i9) from by show E89 (1 + (nd - 1)) (38 + 3 * i9) = _; rw [p_94 (1 + (nd - 1)) (38 + 3 * i9) (by omega) (by omega)]), ← (show E89 (1 + (nd - 1)) (39 + 3 * i9) = E (1 + (nd - 1)) (39 + 3 * i9) from by show E89 (1 + (nd - 1)) (39 + 3 * i9) = _; rw [p_94 (1 + (nd - 1)) (39 + 3 * i9) (by omega) (by omega)]), ← (show E89 (1 + (nd - 1)) (40 + 3 * i9) = E (1 + (nd - 1)) (40 + 3 * i9) from by show E89 (1 + (nd - 1)) (40 + 3 * i9) = _; rw [p_94 (1 + (nd - 1)) (40 + 3 * i9) (by omega) (by omega)])] at q
          exact q))
                have hTD2 : TDs (va_up g 14 (upd (g 14) (3 * (nd - 1) + k2_42) (wN (g 0) wl 1))) E89 nd := TDs_upd (x := nd - 1) hDIs (fun d9 hd9 hx9 => fun2 fun o9 => by show E89 (1 + d9) o9 = _; rw [p_94 (1 + d9) o9 (by omega) (by omega)]) (fun d9 hd9 hx9 => AG_S (by omega) (by omega) hx9) hTD9 hTD
                have hFRL : FRL ml nd ad ad E E89 := ⟨fun n9 hn9 => ⟨fun2 fun o9 => by show E89 (20 + n9) o9 = _; rw [p_94 (20 + n9) o9 (by omega) (by omega)], fun2 fun o9 => rfl⟩, fun d9 hd9 => rfl, by show E89 0 0 = _; rw [p_94 0 0 (by omega) (by omega)]⟩
                have hCI : CI kA ad E89 RL ml nd len wl.length cs := ⟨hmB, ⟨lf_1, c_96⟩, ⟨tx_4, fb_4, fe_4, (by omega), (by omega), c_97, c_98, c_99, c_100, hws_4⟩, ⟨fd_13, (by omega), c_101, c_102, hds_13⟩, ⟨cf_18, pv_18, fc_18, (by omega), hpv_18, c_103, c_104, hfc_18⟩, ⟨fl_23, (by omega), c_105, hla_23⟩, (DIs_set (x := nd - 1) (fun d9 hd9 hx9 => fun2 fun o9 => by show E89 (1 + d9) o9 = _; rw [p_94 (1 + d9) o9 (by omega) (by omega)]) (fun _ _ _ => rfl) (fun _ h => h) ⟨hm_42, fd_42, nm_42, sd_42, k0_42, k1_42, w90, k3_42, f0_42, f1_42, w91, f3_42, fe_42, fo_42, tr_42, op_42, (by omega), (by omega), (by omega), (by omega), c_106, c_107, c_108, p_92, c_109, c_110, c_111, p_93, c_112, c_113, c_114, c_115, c_116, (fun i9 hi9 => ⟨(hg_42 i9 (by omega)).1, (hg_42 i9 (by omega)).2.1, (GI_at (by show E89 (1 + (nd - 1)) (20 + 3 * i9) = _; rw [p_94 (1 + (nd - 1)) (20 + 3 * i9) (by omega) (by omega)]) (by show E89 (1 + (nd - 1)) (21 + 3 * i9) = _; rw [p_94 (1 + (nd - 1)) (21 + 3 * i9) (by omega) (by omega)]) (by show E89 (1 + (nd - 1)) (22 + 3 * i9) = _; rw [p_94 (1 + (nd - 1)) (22 + 3 * i9) (by omega) (by omega)]) (rfl) (rfl) (fun _ h9 => h9) (hg_42 i9 (by omega)).2.2.1), (GI_at (by show E89 (1 + (nd - 1)) (38 + 3 * i9) = _; rw [p_94 (1 + (nd - 1)) (38 + 3 * i9) (by omega) (by omega)]) (by show E89 (1 + (nd - 1)) (39 + 3 * i9) = _; rw [p_94 (1 + (nd - 1)) (39 + 3 * i9) (by omega) (by omega)]) (by show E89 (1 + (nd - 1)) (40 + 3 * i9) = _; rw [p_94 (1 + (nd - 1)) (40 + 3 * i9) (by omega) (by omega)]) (rfl) (rfl) (fun _ h9 => h9) (hg_42 i9 (by omega)).2.2.2)⟩)⟩ hDIs), (LIs_same (Nat.le_refl _) (fun n9 hn9 => fun2 fun o9 => by show E89 (20 + n9) o9 = _; rw [p_94 (20 + n9) o9 (by omega) (by omega)]) (fun _ _ => rfl) (fun _ _ => rfl) (fun _ h9 => h9) hLIs)⟩
                obtain ⟨hmB, hDk, hLi, hSh, hCh, hLa, hDIs, hLIs⟩ := id hCI
                refine lv_iconst (v := 2) hx hb xd_Sh_acceptService_90 (by decide) ?_
                refine W.widen (k := 0) (n := 0) (Nat.le_of_ble_eq_true rfl) (Nat.le_of_ble_eq_true rfl) ?_
                exact W.iret (v := 2) hx hb hr (fun t ht hW => ⟨⟨2, (ad, E89, RL), rfl, (by
        rw [cif_pos hw5, lS_y (NT_sv z83 tk2_42) ⟨by omega, hc30, by omega, fun k9 hk9 q => by
          rcases Nat.lt_or_ge k9 k2_42 with z | z
          · exact z75 k9 z (((tk2_42 k9 hk9).1 z).1.trans q)
          · exact hc30 (q.symm.trans ((tk2_42 k9 hk9).2 z)), by rw [← tsd_42]; exact hc78⟩]
        exact ⟨hCI, hTD2, rfl, hFRL⟩), by rw [ht]; exact hP, hD⟩, hS.F ht⟩) hS.2.2 xd_Sh_acceptService_91
        · have hw5 : ¬ wS (g 0) wl 0 zUs := by have q := z40; rw [zw5] at q; exact q
          refine W.eq (g2 := F0 m 39 ls [.int 0]) rfl ?_
          refine lv_if_eq (tgt := 49) hx hb xd_Sh_acceptService_39 (by decide) (fun _ => ?_) (fun hc117 => absurd (by decide) hc117)
          refine lv_aload_n hx hb xd_Sh_acceptService_49 rfl (lv_at hl 0 rfl) ?_
          obtain ⟨hm_118, fd_118, nm_118, sd_118, k0_118, k1_118, k2_118, k3_118, f0_118, f1_118, f2_118, f3_118, fe_118, fo_118, tr_118, op_118, hk0_118, hk1_118, hk2_118, hk3_118, q0_118, q1_118, q2_118, q3_118, q4_118, q5_118, q6_118, q7_118, q8_118, q9_118, q10_118, q11_118, q12_118, hg_118⟩ := id (hDIs (nd - 1) (by omega))
          have c_119 : E (1 + (nd - 1)) 0 = .inr (7, [.int (nI ((nd - 1))), .int fd_118, .int nm_118, .ref (ad (1 + (nd - 1)) 1), .ref (ad (1 + (nd - 1)) 9), .ref (ad (1 + (nd - 1)) 10), .ref (ad (1 + (nd - 1)) 2), .ref (ad (1 + (nd - 1)) 11), .ref (ad (1 + (nd - 1)) 12), .ref (ad (1 + (nd - 1)) 3), .ref (ad (1 + (nd - 1)) 4), .int sd_118]) := q0_118
          have m_120 : (1 + (nd - 1), 0) ∈ RL := hm_118 0 (by omega)
          have c_121 : E (1 + (nd - 1)) 1 = .inr (8, [.ref (ad (1 + (nd - 1)) 5), .int (nI k0_118)]) := q1_118
          have m_122 : (1 + (nd - 1), 1) ∈ RL := hm_118 1 (by omega)
          have c_123 : E (1 + (nd - 1)) 2 = .inr (8, [.ref (ad (1 + (nd - 1)) 6), .int (nI k1_118)]) := q2_118
          have m_124 : (1 + (nd - 1), 2) ∈ RL := hm_118 2 (by omega)
          have c_125 : E (1 + (nd - 1)) 3 = .inr (8, [.ref (ad (1 + (nd - 1)) 7), .int (nI k2_118)]) := q3_118
          have m_126 : (1 + (nd - 1), 3) ∈ RL := hm_118 3 (by omega)
          have c_127 : E (1 + (nd - 1)) 4 = .inr (8, [.ref (ad (1 + (nd - 1)) 8), .int (nI k3_118)]) := q4_118
          have m_128 : (1 + (nd - 1), 4) ∈ RL := hm_118 4 (by omega)
          have c_129 : E (1 + (nd - 1)) 5 = .inl (kA 0, 6, .inl f0_118) := q5_118
          have m_130 : (1 + (nd - 1), 5) ∈ RL := hm_118 5 (by omega)
          have c_131 : E (1 + (nd - 1)) 6 = .inl (kA 0, 5, .inl f1_118) := q6_118
          have m_132 : (1 + (nd - 1), 6) ∈ RL := hm_118 6 (by omega)
          have c_133 : E (1 + (nd - 1)) 7 = .inl (kA 0, 3, .inl f2_118) := q7_118
          have m_134 : (1 + (nd - 1), 7) ∈ RL := hm_118 7 (by omega)
          have c_135 : E (1 + (nd - 1)) 8 = .inl (kA 0, 3, .inl f3_118) := q8_118
          have m_136 : (1 + (nd - 1), 8) ∈ RL := hm_118 8 (by omega)
          have c_137 : E (1 + (nd - 1)) 9 = .inl (kA 8, 6, .inr (.inr (.inr (.inr fe_118)))) := q9_118
          have m_138 : (1 + (nd - 1), 9) ∈ RL := hm_118 9 (by omega)
          have c_139 : E (1 + (nd - 1)) 10 = .inl (kA 8, 6, .inr (.inr (.inr (.inr fo_118)))) := q10_118
          have m_140 : (1 + (nd - 1), 10) ∈ RL := hm_118 10 (by omega)
          have c_141 : E (1 + (nd - 1)) 11 = .inl (kA 2, 5, .inl tr_118) := q11_118
          have m_142 : (1 + (nd - 1), 11) ∈ RL := hm_118 11 (by omega)
          have c_143 : E (1 + (nd - 1)) 12 = .inl (kA 2, 5, .inl op_118) := q12_118
          have m_144 : (1 + (nd - 1), 12) ∈ RL := hm_118 12 (by omega)
          have hg_118 : ∀ w9, w9 < k0_118 → fe_118 w9 = some (ad (1 + (nd - 1)) (20 + 3 * w9)) ∧ fo_118 w9 = some (ad (1 + (nd - 1)) (38 + 3 * w9)) ∧ GI kA (ad (1 + (nd - 1))) (E (1 + (nd - 1))) (fun o => (1 + (nd - 1), o) ∈ RL) (20 + 3 * w9) (21 + 3 * w9) (22 + 3 * w9) ∧ GI kA (ad (1 + (nd - 1))) (E (1 + (nd - 1))) (fun o => (1 + (nd - 1), o) ∈ RL) (38 + 3 * w9) (39 + 3 * w9) (40 + 3 * w9) := hg_118
          obtain ⟨hTT_118, tgr_118⟩ := TD_get hk0_118 hk1_118 hk2_118 hk3_118 c_119 c_121 c_123 c_125 c_127 c_129 c_131 c_133 c_135 c_141 c_143 (hTD (nd - 1) (by omega))
          obtain ⟨tfd_118, tnm_118, tsd_118, tk0_118, tf0_118, tk1_118, tf1_118, tk2_118, tk3_118⟩ := id hTT_118
          have ik0_118 : iN (g 5 (nd - 1)) = k0_118 := by rw [← tk0_118, iN_nI (by omega)]
          have ik1_118 : iN (g 12 (nd - 1)) = k1_118 := by rw [← tk1_118, iN_nI (by omega)]
          refine px_get (D := D) (ci := 7) (v := .ref (ad (1 + (nd - 1)) 4)) (C := xR_Ds) (T := xT_Ds) (N := 12) hx hb hT xi_Ds hown hK.1 hP m_120 c_119 rfl 10 (by decide) (hT _ k5g_30) (fun _ h9 => h9) rfl xd_Sh_acceptService_50 ?_
          refine lv_astore hx hb xd_Sh_acceptService_53 hl (Nat.le_of_ble_eq_true rfl) rfl (fun ls hl => ?_)
          have hl : lv_has ls 5 [(4, .ref (ad (1 + (nd - 1)) 4)), (3, .ref (ad (1 + (nd - 1)) 0)), (2, .int (wN (g 0) wl 1)), (0, .ref (ad 0 5)), (1, .ref (ad 0 1))] := hl
          refine lv_aload hx hb xd_Sh_acceptService_55 (lv_at hl 0 rfl) ?_
          refine lv_iload_n hx hb xd_Sh_acceptService_57 rfl (lv_at hl 2 rfl) ?_
          have hFc := px_free hD hS hA
          refine va_calli (va_runV (As := [.int (wN (g 0) wl 1)]) (rest := []) ⟨hx, hb, hml, hown, hT⟩ (xc_Na_holds l D kA H.size ad E RL (1 + (nd - 1)) 4 8 3 k3_118 f3_118 (wN (g 0) wl 1) m_128 c_127 m_136 c_135 (by first | assumption | omega) (by first | assumption | omega)) (cwV 1 hT (wT_V k5g_17 k5g_18 k5g_19 k5g_20 k5g_16) rfl rfl rfl (by decide +kernel) ⟨Nat.le_of_ble_eq_true rfl, Nat.le_of_ble_eq_true rfl⟩) (px_preV hK hP hD m_128 c_127 rfl) rfl rfl hl.1 rfl (lv_room (Nat.le_of_ble_eq_true rfl)) xd_Sh_acceptService_58 ⟨(Nat.le_of_ble_eq_true rfl), (Nat.le_of_ble_eq_true rfl)⟩) hS (fun q _ h => hFc q h) hFc (fun r145 u146 t H1 locs ht hvm hp147 hB hz1 hk1 hS => ?_)
          obtain ⟨hP1, hD1⟩ := hB
          rw [ht] at hP1
          have hD1 := hD1.weaken (fun _ _ _ h => hFc _ h)
          generalize H1 = H at hP1 hS ⊢
          have hP := hP1
          have hD := hD1
          have hP : va_P D xcl (rp ad E RL) H := hP
          have hD : va_D A (rp ad E RL) := hD
          rcases hp147 with ⟨rfl, z148, z149, z150⟩ | ⟨rfl, z151⟩
          · refine W.eq (g2 := F0 m 61 ls [.int 1]) rfl ?_
            refine lv_if_eq (tgt := 66) hx hb xd_Sh_acceptService_61 (by decide) (fun hc152 => absurd hc152 (by decide)) (fun _ => ?_)
            refine lv_iconst (v := (-1)) hx hb xd_Sh_acceptService_64 (by decide) ?_
            refine W.widen (k := 0) (n := 0) (Nat.le_of_ble_eq_true rfl) (Nat.le_of_ble_eq_true rfl) ?_
            exact W.iret (v := (-1)) hx hb hr (fun t ht hW => ⟨⟨(-1), (ad, E, RL), rfl, ⟨hCI, by rw [cif_neg hw5, ← lS_no1 (fun q => q.2.2.2.1 z148 (by omega) (((tk3_118 z148 (by omega)).1 z149).1.symm.trans z150))]; exact hTD, rfl, FRL_rf⟩, by rw [ht]; exact hP, hD⟩, hS.F ht⟩) hS.2.2 xd_Sh_acceptService_65
          · refine W.eq (g2 := F0 m 61 ls [.int 0]) rfl ?_
            refine lv_if_eq (tgt := 66) hx hb xd_Sh_acceptService_61 (by decide) (fun _ => ?_) (fun hc153 => absurd (by decide) hc153)
            refine lv_aload_n hx hb xd_Sh_acceptService_66 rfl (lv_at hl 1 rfl) ?_
            refine px_get (D := D) (ci := 7) (v := .int sd_118) (C := xR_Ds) (T := xT_Ds) (N := 12) hx hb hT xi_Ds hown hK.1 hP m_120 c_119 rfl 11 (by decide) (hT _ k5g_21) (fun _ h9 => h9) rfl xd_Sh_acceptService_67 ?_
            refine lv_if_ne (tgt := 81) hx hb xd_Sh_acceptService_70 (by decide) (fun hc154 => ?_) (fun hc154 => ?_)
            · refine lv_bipush (v := (-2)) hx hb xd_Sh_acceptService_81 (by decide) ?_
              refine W.widen (k := 0) (n := 0) (Nat.le_of_ble_eq_true rfl) (Nat.le_of_ble_eq_true rfl) ?_
              exact W.iret (v := (-2)) hx hb hr (fun t ht hW => ⟨⟨(-2), (ad, E, RL), rfl, ⟨hCI, by rw [cif_neg hw5, ← lS_no1 (fun q => hc154 (by rw [tsd_118]; exact q.2.2.2.2))]; exact hTD, rfl, FRL_rf⟩, by rw [ht]; exact hP, hD⟩, hS.F ht⟩) hS.2.2 xd_Sh_acceptService_83
            · refine lv_aload hx hb xd_Sh_acceptService_73 (lv_at hl 0 rfl) ?_
              have hFc := px_free hD hS hA
              refine va_calli (va_runV (As := []) (rest := []) ⟨hx, hb, hml, hown, hT⟩ (xc_Na_isFull l D kA H.size ad E RL (1 + (nd - 1)) 4 8 3 k3_118 f3_118 m_128 c_127 m_136 c_135 (by first | assumption | omega) (by first | assumption | omega)) (cwV 0 hT (wT_V k5g_23 k5g_24 k5g_25 k5g_20 k5g_22) rfl rfl rfl (by decide +kernel) ⟨Nat.le_of_ble_eq_true rfl, Nat.le_of_ble_eq_true rfl⟩) (px_preV hK hP hD m_128 c_127 rfl) rfl rfl hl.1 rfl (lv_room (Nat.le_of_ble_eq_true rfl)) xd_Sh_acceptService_75 ⟨(Nat.le_of_ble_eq_true rfl), (Nat.le_of_ble_eq_true rfl)⟩) hS (fun q _ h => hFc q h) hFc (fun r155 u156 t H1 locs ht hvm hp157 hB hz1 hk1 hS => ?_)
              obtain ⟨hP1, hD1⟩ := hB
              rw [ht] at hP1
              have hD1 := hD1.weaken (fun _ _ _ h => hFc _ h)
              generalize H1 = H at hP1 hS ⊢
              have hP := hP1
              have hD := hD1
              have hP : va_P D xcl (rp ad E RL) H := hP
              have hD : va_D A (rp ad E RL) := hD
              rcases hp157 with ⟨rfl, z158⟩ | ⟨rfl, z159⟩
              · refine W.eq (g2 := F0 m 78 ls [.int 1]) rfl ?_
                refine lv_if_eq (tgt := 84) hx hb xd_Sh_acceptService_78 (by decide) (fun hc160 => absurd hc160 (by decide)) (fun _ => ?_)
                refine lv_bipush (v := (-2)) hx hb xd_Sh_acceptService_81 (by decide) ?_
                refine W.widen (k := 0) (n := 0) (Nat.le_of_ble_eq_true rfl) (Nat.le_of_ble_eq_true rfl) ?_
                exact W.iret (v := (-2)) hx hb hr (fun t ht hW => ⟨⟨(-2), (ad, E, RL), rfl, ⟨hCI, by rw [cif_neg hw5, ← lS_no2 (NT_sn z158 tk3_118)]; exact hTD, rfl, FRL_rf⟩, by rw [ht]; exact hP, hD⟩, hS.F ht⟩) hS.2.2 xd_Sh_acceptService_83
              · refine W.eq (g2 := F0 m 78 ls [.int 0]) rfl ?_
                refine lv_if_eq (tgt := 84) hx hb xd_Sh_acceptService_78 (by decide) (fun _ => ?_) (fun hc161 => absurd (by decide) hc161)
                refine lv_aload hx hb xd_Sh_acceptService_84 (lv_at hl 0 rfl) ?_
                refine lv_iload_n hx hb xd_Sh_acceptService_86 rfl (lv_at hl 2 rfl) ?_
                have hFc := px_free hD hS hA
                refine va_callv (va_runV (As := [.int (wN (g 0) wl 1)]) (rest := []) ⟨hx, hb, hml, hown, hT⟩ (xc_Na_append l D kA H.size ad E RL (1 + (nd - 1)) 4 8 3 k3_118 f3_118 (wN (g 0) wl 1) m_128 c_127 m_136 c_135 (by first | assumption | omega) (by first | assumption | omega) (by first | assumption | omega)) (cwV 1 hT (wT_V k5g_27 k5g_28 k5g_29 k5g_20 k5g_26) rfl rfl rfl (by decide +kernel) ⟨Nat.le_of_ble_eq_true rfl, Nat.le_of_ble_eq_true rfl⟩) (px_preV hK hP hD m_128 c_127 rfl) rfl rfl hl.1 rfl (lv_room (Nat.le_of_ble_eq_true rfl)) xd_Sh_acceptService_87 ⟨(Nat.le_of_ble_eq_true rfl), (Nat.le_of_ble_eq_true rfl)⟩) hS (fun q _ h => hFc q h) hFc (fun u163 t H1 locs ht hvm hp164 hB hz1 hk1 hS => ?_)
                obtain ⟨hP1, hD1⟩ := hB
                rw [ht] at hP1
                have hD1 := hD1.weaken (fun _ _ _ h => hFc _ h)
                generalize H1 = H at hP1 hS ⊢
                have hP := hP1
                have hD := hD1
                obtain ⟨E165, rfl⟩ : ∃ z, z = u163 := ⟨_, rfl⟩
                obtain ⟨w166, w167, hp171, p_168, p_169, p_170⟩ := hp164
                have p_168 : E165 (1 + (nd - 1)) 4 = .inr (8, [.ref (ad (1 + (nd - 1)) 8), .int (nI w166)]) := p_168
                have p_169 : E165 (1 + (nd - 1)) 8 = .inl (kA 0, 3, .inl w167) := p_169
                have p_170 : (∀ b2 o2, ¬ (b2 = (1 + (nd - 1)) ∧ o2 = 4) → ¬ (b2 = (1 + (nd - 1)) ∧ o2 = 8) → E165 b2 o2 = E b2 o2) := p_170
                have c_172 : E165 0 0 = .inr (0, [.ref (ad 0 1), .ref (ad 0 5), .ref (ad 0 7), .ref (ad 0 9), .int (nI ml), .int lf_1]) := (p_170 0 0 (by omega) (by omega)).trans c_2
                have c_173 : E165 0 1 = .inr (1, [.ref (ad 0 2), .ref (ad 0 3), .ref (ad 0 4), .int (nI len), .int (nI (wl.length))]) := (p_170 0 1 (by omega) (by omega)).trans c_5
                have c_174 : E165 0 2 = .inl (kA 1, 40, .inl tx_4) := (p_170 0 2 (by omega) (by omega)).trans c_7
                have c_175 : E165 0 3 = .inl (kA 0, 20, .inl fb_4) := (p_170 0 3 (by omega) (by omega)).trans c_9
                have c_176 : E165 0 4 = .inl (kA 0, 20, .inl fe_4) := (p_170 0 4 (by omega) (by omega)).trans c_11
                have c_177 : E165 0 5 = .inr (2, [.ref (ad 0 6), .int (nI nd)]) := (p_170 0 5 (by omega) (by omega)).trans c_14
                have c_178 : E165 0 6 = .inl (kA 4, 12, .inr (.inr (.inr (.inr fd_13)))) := (p_170 0 6 (by omega) (by omega)).trans c_16
                have c_179 : E165 0 7 = .inr (3, [.ref (ad 0 5), .ref (ad 0 8), .int (nI cs), .int cf_18, pv_18]) := (p_170 0 7 (by omega) (by omega)).trans c_19
                have c_180 : E165 0 8 = .inl (kA 4, 12, .inr (.inr (.inr (.inr fc_18)))) := (p_170 0 8 (by omega) (by omega)).trans c_21
                have c_181 : E165 0 9 = .inl (kA 5, 5, .inr (.inr (.inr (.inr fl_23)))) := (p_170 0 9 (by omega) (by omega)).trans c_24
                have c_182 : E165 (1 + (nd - 1)) 0 = .inr (7, [.int (nI ((nd - 1))), .int fd_118, .int nm_118, .ref (ad (1 + (nd - 1)) 1), .ref (ad (1 + (nd - 1)) 9), .ref (ad (1 + (nd - 1)) 10), .ref (ad (1 + (nd - 1)) 2), .ref (ad (1 + (nd - 1)) 11), .ref (ad (1 + (nd - 1)) 12), .ref (ad (1 + (nd - 1)) 3), .ref (ad (1 + (nd - 1)) 4), .int sd_118]) := (p_170 (1 + (nd - 1)) 0 (by omega) (by omega)).trans c_119
                have c_183 : E165 (1 + (nd - 1)) 1 = .inr (8, [.ref (ad (1 + (nd - 1)) 5), .int (nI k0_118)]) := (p_170 (1 + (nd - 1)) 1 (by omega) (by omega)).trans c_121
                have c_184 : E165 (1 + (nd - 1)) 2 = .inr (8, [.ref (ad (1 + (nd - 1)) 6), .int (nI k1_118)]) := (p_170 (1 + (nd - 1)) 2 (by omega) (by omega)).trans c_123
                have c_185 : E165 (1 + (nd - 1)) 3 = .inr (8, [.ref (ad (1 + (nd - 1)) 7), .int (nI k2_118)]) := (p_170 (1 + (nd - 1)) 3 (by omega) (by omega)).trans c_125
                have c_186 : E165 (1 + (nd - 1)) 5 = .inl (kA 0, 6, .inl f0_118) := (p_170 (1 + (nd - 1)) 5 (by omega) (by omega)).trans c_129
                have c_187 : E165 (1 + (nd - 1)) 6 = .inl (kA 0, 5, .inl f1_118) := (p_170 (1 + (nd - 1)) 6 (by omega) (by omega)).trans c_131
                have c_188 : E165 (1 + (nd - 1)) 7 = .inl (kA 0, 3, .inl f2_118) := (p_170 (1 + (nd - 1)) 7 (by omega) (by omega)).trans c_133
                have c_189 : E165 (1 + (nd - 1)) 9 = .inl (kA 8, 6, .inr (.inr (.inr (.inr fe_118)))) := (p_170 (1 + (nd - 1)) 9 (by omega) (by omega)).trans c_137
                have c_190 : E165 (1 + (nd - 1)) 10 = .inl (kA 8, 6, .inr (.inr (.inr (.inr fo_118)))) := (p_170 (1 + (nd - 1)) 10 (by omega) (by omega)).trans c_139
                have c_191 : E165 (1 + (nd - 1)) 11 = .inl (kA 2, 5, .inl tr_118) := (p_170 (1 + (nd - 1)) 11 (by omega) (by omega)).trans c_141
                have c_192 : E165 (1 + (nd - 1)) 12 = .inl (kA 2, 5, .inl op_118) := (p_170 (1 + (nd - 1)) 12 (by omega) (by omega)).trans c_143
                have hP : va_P D xcl (rp ad E165 RL) H := hP
                have hD : va_D A (rp ad E165 RL) := hD
                have hap : w166 = k3_118 + 1 ∧ w167 = upd f3_118 k3_118 (wN (g 0) wl 1) := by
                  rcases hp171.2 with ⟨_, q1, q2⟩ | ⟨q, _⟩
                  · exact ⟨q1, q2⟩
                  · omega
                obtain ⟨hap1, hap2⟩ := hap
                have hTD9 := (show TD (va_up g 15 (upd (g 15) (3 * (nd - 1) + k3_118) (wN (g 0) wl 1))) (E165 (1 + (nd - 1))) (nd - 1) from TD_mk (by omega) (by omega) (by omega) (by omega) c_182 c_183 c_184 c_185 p_168 c_186 c_187 c_188 p_169 c_191 c_192 (by rw [hap1, hap2]; exact TT_S3 (by omega) (wN_pos.mp hc30) hTT_118) (fun i9 hi9 => by
          have q := tgr_118 i9 hi9
          rw [← (show E165 (1 + (nd - 1)) (20 + 3 * i9) = E (1 + (nd - 1)) (20 + 3 * i9) from by show E165 (1 + (nd - 1)) (20 + 3 * i9) = _; rw [p_170 (1 + (nd - 1)) (20 + 3 * i9) (by omega) (by omega)]), ← (show E165 (1 + (nd - 1)) (21 + 3 * i9) = E (1 + (nd - 1)) (21 + 3 * i9) from by show E165 (1 + (nd - 1)) (21 + 3 * i9) = _; rw [p_170 (1 + (nd - 1)) (21 + 3 * i9) (by omega) (by omega)]), ← (show E165 (1 + (nd - 1)) (22 + 3 * i9) = E (1 + (nd - 1)) (22 + 3 * i9) from by show E165 (1 + (nd - 1)) (22 + 3 * i9) = _; rw [p_170 (1 + (nd - 1)) (22 + 3 * i9) (by omega) (by omega)]), ← (show E165 (1 + (nd - 1)) (38 + 3 * i9) = E (1 + (nd - 1)) (38 + 3 * i9) from by show E165 (1 + (nd - 1)) (38 + 3 * i9) = _; rw [p_170 (1 + (nd - 1)) (38 + 3 * i9) (by omega) (by omega)]), ← (show E165 (1 + (nd - 1)) (39 + 3 * i9) = E (1 + (nd - 1)) (39 + 3 * i9) from by show E165 (1 + (nd - 1)) (39 + 3 * i9) = _; rw [p_170 (1 + (nd - 1)) (39 + 3 * i9) (by omega) (by omega)]), ← (show E165 (1 + (nd - 1)) (40 + 3 * i9) = E (1 + (nd - 1)) (40 + 3 * i9) from by show E165 (1 + (nd - 1)) (40 + 3 * i9) = _; rw [p_170 (1 + (nd - 1)) (40 + 3 * i9) (by omega) (by omega)])] at q
          exact q))
                have hTD2 : TDs (va_up g 15 (upd (g 15) (3 * (nd - 1) + k3_118) (wN (g 0) wl 1))) E165 nd := TDs_upd (x := nd - 1) hDIs (fun d9 hd9 hx9 => fun2 fun o9 => by show E165 (1 + d9) o9 = _; rw [p_170 (1 + d9) o9 (by omega) (by omega)]) (fun d9 hd9 hx9 => AG_S (by omega) (by omega) hx9) hTD9 hTD
                have hFRL : FRL ml nd ad ad E E165 := ⟨fun n9 hn9 => ⟨fun2 fun o9 => by show E165 (20 + n9) o9 = _; rw [p_170 (20 + n9) o9 (by omega) (by omega)], fun2 fun o9 => rfl⟩, fun d9 hd9 => rfl, by show E165 0 0 = _; rw [p_170 0 0 (by omega) (by omega)]⟩
                have hCI : CI kA ad E165 RL ml nd len wl.length cs := ⟨hmB, ⟨lf_1, c_172⟩, ⟨tx_4, fb_4, fe_4, (by omega), (by omega), c_173, c_174, c_175, c_176, hws_4⟩, ⟨fd_13, (by omega), c_177, c_178, hds_13⟩, ⟨cf_18, pv_18, fc_18, (by omega), hpv_18, c_179, c_180, hfc_18⟩, ⟨fl_23, (by omega), c_181, hla_23⟩, (DIs_set (x := nd - 1) (fun d9 hd9 hx9 => fun2 fun o9 => by show E165 (1 + d9) o9 = _; rw [p_170 (1 + d9) o9 (by omega) (by omega)]) (fun _ _ _ => rfl) (fun _ h => h) ⟨hm_118, fd_118, nm_118, sd_118, k0_118, k1_118, k2_118, w166, f0_118, f1_118, f2_118, w167, fe_118, fo_118, tr_118, op_118, (by omega), (by omega), (by omega), (by omega), c_182, c_183, c_184, c_185, p_168, c_186, c_187, c_188, p_169, c_189, c_190, c_191, c_192, (fun i9 hi9 => ⟨(hg_118 i9 (by omega)).1, (hg_118 i9 (by omega)).2.1, (GI_at (by show E165 (1 + (nd - 1)) (20 + 3 * i9) = _; rw [p_170 (1 + (nd - 1)) (20 + 3 * i9) (by omega) (by omega)]) (by show E165 (1 + (nd - 1)) (21 + 3 * i9) = _; rw [p_170 (1 + (nd - 1)) (21 + 3 * i9) (by omega) (by omega)]) (by show E165 (1 + (nd - 1)) (22 + 3 * i9) = _; rw [p_170 (1 + (nd - 1)) (22 + 3 * i9) (by omega) (by omega)]) (rfl) (rfl) (fun _ h9 => h9) (hg_118 i9 (by omega)).2.2.1), (GI_at (by show E165 (1 + (nd - 1)) (38 + 3 * i9) = _; rw [p_170 (1 + (nd - 1)) (38 + 3 * i9) (by omega) (by omega)]) (by show E165 (1 + (nd - 1)) (39 + 3 * i9) = _; rw [p_170 (1 + (nd - 1)) (39 + 3 * i9) (by omega) (by omega)]) (by show E165 (1 + (nd - 1)) (40 + 3 * i9) = _; rw [p_170 (1 + (nd - 1)) (40 + 3 * i9) (by omega) (by omega)]) (rfl) (rfl) (fun _ h9 => h9) (hg_118 i9 (by omega)).2.2.2)⟩)⟩ hDIs), (LIs_same (Nat.le_refl _) (fun n9 hn9 => fun2 fun o9 => by show E165 (20 + n9) o9 = _; rw [p_170 (20 + n9) o9 (by omega) (by omega)]) (fun _ _ => rfl) (fun _ _ => rfl) (fun _ h9 => h9) hLIs)⟩
                obtain ⟨hmB, hDk, hLi, hSh, hCh, hLa, hDIs, hLIs⟩ := id hCI
                refine lv_iconst (v := 2) hx hb xd_Sh_acceptService_90 (by decide) ?_
                refine W.widen (k := 0) (n := 0) (Nat.le_of_ble_eq_true rfl) (Nat.le_of_ble_eq_true rfl) ?_
                exact W.iret (v := 2) hx hb hr (fun t ht hW => ⟨⟨2, (ad, E165, RL), rfl, (by
        rw [cif_neg hw5, lS_y (NT_sv z159 tk3_118) ⟨by omega, hc30, by omega, fun k9 hk9 q => by
          rcases Nat.lt_or_ge k9 k3_118 with z | z
          · exact z151 k9 z (((tk3_118 k9 hk9).1 z).1.trans q)
          · exact hc30 (q.symm.trans ((tk3_118 k9 hk9).2 z)), by rw [← tsd_118]; exact hc154⟩]
        exact ⟨hCI, hTD2, rfl, hFRL⟩), by rw [ht]; exact hP, hD⟩, hS.F ht⟩) hS.2.2 xd_Sh_acceptService_91
    · refine lv_iconst (v := (-1)) hx hb xd_Sh_acceptService_18 (by decide) ?_
      refine W.widen (k := 0) (n := 0) (Nat.le_of_ble_eq_true rfl) (Nat.le_of_ble_eq_true rfl) ?_
      exact W.iret (v := (-1)) hx hb hr (fun t ht hW => ⟨⟨(-1), (ad, E, RL), rfl, ⟨hCI, by rw [cif_eq (lS_no1 (a := 14) (fun q => q.2.1 hc30)).symm (lS_no1 (a := 15) (fun q => q.2.1 hc30)).symm]; exact hTD, rfl, FRL_rf⟩, by rw [ht]; exact hP, hD⟩, hS.F ht⟩) hS.2.2 xd_Sh_acceptService_19
