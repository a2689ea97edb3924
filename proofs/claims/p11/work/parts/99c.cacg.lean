theorem k5i_0 : (Cond.code xy_Li_nameAt xb_Li_nameAt 4 (some .int)) ∈ wT := wT_t (List.mem_append_right _ (List.mem_append_left _ (List.mem_of_getElem? (i := 17) rfl))) rfl
theorem k5i_1 : (Cond.methodLink "LayerDesk$Shelf" 70 xy_Li_nameAt) ∈ wT := wT_t (List.mem_append_right _ (List.mem_append_left _ (List.mem_of_getElem? (i := 14) rfl))) rfl
theorem k5i_2 : (Cond.instanceMethod xy_Li_nameAt) ∈ wT := wT_t (List.mem_append_right _ (List.mem_append_left _ (List.mem_of_getElem? (i := 15) rfl))) rfl
theorem k5i_3 : (Cond.selects "LayerDesk$Line" xy_Li_nameAt xy_Li_nameAt) ∈ wT := wT_t (List.mem_append_right _ (List.mem_append_left _ (List.mem_of_getElem? (i := 16) rfl))) rfl
theorem k5i_4 : (Cond.initialized "LayerDesk$Line") ∈ wT := wT_t (List.mem_append_left _ (List.mem_of_getElem? (i := 2) rfl)) rfl
theorem k5i_5 : (Cond.fieldLink "LayerDesk$Shelf" 27 "LayerDesk$Line" "words" "I") ∈ wT := wT_t (List.mem_append_left _ (List.mem_of_getElem? (i := 41) rfl)) rfl
theorem k5i_6 : (Cond.code xy_Li_wordIs xb_Li_wordIs 4 (some .boolean)) ∈ wT := wT_t (List.mem_append_left _ (List.mem_of_getElem? (i := 199) rfl)) rfl
theorem k5i_7 : (Cond.methodLink "LayerDesk$Shelf" 34 xy_Li_wordIs) ∈ wT := wT_t (List.mem_append_left _ (List.mem_of_getElem? (i := 196) rfl)) rfl
theorem k5i_8 : (Cond.instanceMethod xy_Li_wordIs) ∈ wT := wT_t (List.mem_append_left _ (List.mem_of_getElem? (i := 197) rfl)) rfl
theorem k5i_9 : (Cond.selects "LayerDesk$Line" xy_Li_wordIs xy_Li_wordIs) ∈ wT := wT_t (List.mem_append_left _ (List.mem_of_getElem? (i := 198) rfl)) rfl
theorem k5i_10 : (Cond.code xy_Sh_latest xb_Sh_latest 1 (some (.object "LayerDesk$Descriptor"))) ∈ wT := wT_t (List.mem_append_right _ (List.mem_append_left _ (List.mem_of_getElem? (i := 119) rfl))) rfl
theorem k5i_11 : (Cond.methodLink "LayerDesk$Shelf" 81 xy_Sh_latest) ∈ wT := wT_t (List.mem_append_right _ (List.mem_append_left _ (List.mem_of_getElem? (i := 116) rfl))) rfl
theorem k5i_12 : (Cond.instanceMethod xy_Sh_latest) ∈ wT := wT_t (List.mem_append_right _ (List.mem_append_left _ (List.mem_of_getElem? (i := 118) rfl))) rfl
theorem k5i_13 : (Cond.selects "LayerDesk$Shelf" xy_Sh_latest xy_Sh_latest) ∈ wT := wT_s (q := (xy_Sh_latest, 2)) (by decide +kernel) rfl
theorem k5i_14 : (Cond.initialized "LayerDesk$Shelf") ∈ wT := wT_t (List.mem_append_left _ (List.mem_of_getElem? (i := 3) rfl)) rfl
theorem k5i_15 : (Cond.code xy_Ds_exportOf xb_Ds_exportOf 3 (some (.object "LayerDesk$Grant"))) ∈ wT := wT_t (List.mem_append_right _ (List.mem_append_left _ (List.mem_of_getElem? (i := 166) rfl))) rfl
theorem k5i_16 : (Cond.methodLink "LayerDesk$Shelf" 111 xy_Ds_exportOf) ∈ wT := wT_t (List.mem_append_right _ (List.mem_append_left _ (List.mem_of_getElem? (i := 163) rfl))) rfl
theorem k5i_17 : (Cond.instanceMethod xy_Ds_exportOf) ∈ wT := wT_t (List.mem_append_right _ (List.mem_append_left _ (List.mem_of_getElem? (i := 164) rfl))) rfl
theorem k5i_18 : (Cond.selects "LayerDesk$Descriptor" xy_Ds_exportOf xy_Ds_exportOf) ∈ wT := wT_t (List.mem_append_right _ (List.mem_append_left _ (List.mem_of_getElem? (i := 165) rfl))) rfl
theorem k5i_19 : (Cond.initialized "LayerDesk$Descriptor") ∈ wT := wT_t (List.mem_append_left _ (List.mem_of_getElem? (i := 10) rfl)) rfl
theorem k5i_20 : (Cond.fieldLink "LayerDesk$Shelf" 95 "LayerDesk$Descriptor" "settled" "Z") ∈ wT := wT_t (List.mem_append_right _ (List.mem_append_left _ (List.mem_of_getElem? (i := 83) rfl))) rfl
theorem k5i_21 : (Cond.code xy_Gr_hasRoomFor xb_Gr_hasRoomFor 2 (some .boolean)) ∈ wT := wT_t (List.mem_append_right _ (List.mem_append_left _ (List.mem_of_getElem? (i := 175) rfl))) rfl
theorem k5i_22 : (Cond.methodLink "LayerDesk$Shelf" 118 xy_Gr_hasRoomFor) ∈ wT := wT_t (List.mem_append_right _ (List.mem_append_left _ (List.mem_of_getElem? (i := 172) rfl))) rfl
theorem k5i_23 : (Cond.instanceMethod xy_Gr_hasRoomFor) ∈ wT := wT_t (List.mem_append_right _ (List.mem_append_left _ (List.mem_of_getElem? (i := 173) rfl))) rfl
theorem k5i_24 : (Cond.selects "LayerDesk$Grant" xy_Gr_hasRoomFor xy_Gr_hasRoomFor) ∈ wT := wT_t (List.mem_append_right _ (List.mem_append_left _ (List.mem_of_getElem? (i := 174) rfl))) rfl
theorem k5i_25 : (Cond.initialized "LayerDesk$Grant") ∈ wT := wT_t (List.mem_append_left _ (List.mem_of_getElem? (i := 12) rfl)) rfl
theorem k5i_26 : (Cond.code xy_Gr_extendTo xb_Gr_extendTo 2 none) ∈ wT := wT_t (List.mem_append_right _ (List.mem_append_left _ (List.mem_of_getElem? (i := 185) rfl))) rfl
theorem k5i_27 : (Cond.methodLink "LayerDesk$Shelf" 121 xy_Gr_extendTo) ∈ wT := wT_t (List.mem_append_right _ (List.mem_append_left _ (List.mem_of_getElem? (i := 182) rfl))) rfl
theorem k5i_28 : (Cond.instanceMethod xy_Gr_extendTo) ∈ wT := wT_t (List.mem_append_right _ (List.mem_append_left _ (List.mem_of_getElem? (i := 183) rfl))) rfl
theorem k5i_29 : (Cond.selects "LayerDesk$Grant" xy_Gr_extendTo xy_Gr_extendTo) ∈ wT := wT_t (List.mem_append_right _ (List.mem_append_left _ (List.mem_of_getElem? (i := 184) rfl))) rfl
theorem k5i_30 : (Cond.code xy_Ds_openingOf xb_Ds_openingOf 3 (some (.object "LayerDesk$Grant"))) ∈ wT := wT_t (List.mem_append_right _ (List.mem_append_left _ (List.mem_of_getElem? (i := 171) rfl))) rfl
theorem k5i_31 : (Cond.methodLink "LayerDesk$Shelf" 115 xy_Ds_openingOf) ∈ wT := wT_t (List.mem_append_right _ (List.mem_append_left _ (List.mem_of_getElem? (i := 168) rfl))) rfl
theorem k5i_32 : (Cond.instanceMethod xy_Ds_openingOf) ∈ wT := wT_t (List.mem_append_right _ (List.mem_append_left _ (List.mem_of_getElem? (i := 169) rfl))) rfl
theorem k5i_33 : (Cond.selects "LayerDesk$Descriptor" xy_Ds_openingOf xy_Ds_openingOf) ∈ wT := wT_t (List.mem_append_right _ (List.mem_append_left _ (List.mem_of_getElem? (i := 170) rfl))) rfl
set_option maxHeartbeats 4000000 in
set_option maxRecDepth 100000 in
theorem xc_Sh_acceptGrantX (l : Launch) (D : va_G) (kA : Nat → ClassId) (sz : Nat) (ad : Nat → Nat → Nat) (E : Nat → Nat → va_E) (RL : List (Nat × Nat)) (Z : zT) (g : Nat → Nat → Int32) (ml : Nat) (nd : Nat) (len : Nat) (lt : Nat) (wl : List (Nat × Nat)) (cs : Nat) (hCI : CI kA ad E RL ml nd len wl.length cs) (hLW : LW g E lt wl) (hTD : TDs g E nd) (hZI : ZI g nd) : Met l xy_Sh_acceptGrant (.code xy_Sh_acceptGrant xb_Sh_acceptGrant 7 (some .int) :: wT) { frames := 5, cells := 0, slots := 0, locals := 108 } (va_Pc [.ref (ad 0 5), .ref (ad 0 1)] (xPreZ D kA sz (rp ad E RL) Z)) (va_Qi (fun (r : Int32) (u : (Nat → Nat → Nat) × (Nat → Nat → va_E) × List (Nat × Nat)) => CI kA u.1 u.2.1 u.2.2 ml nd len wl.length cs ∧ TDs (cif (wS (g 0) wl 0 zEx) (lG 7 9 (g 0) wl nd g) (lG 8 10 (g 0) wl nd g)) u.2.1 nd ∧ u.1 0 0 = ad 0 0 ∧ FRL ml nd ad u.1 E u.2.1) (fun (u : (Nat → Nat → Nat) × (Nat → Nat → va_E) × List (Nat × Nat)) t => va_P D xcl (rp u.1 u.2.1 u.2.2) t.heap ∧ va_D (va_A (rp ad E RL) sz) (rp u.1 u.2.1 u.2.2)) (va_A (rp ad E RL) sz)) 0 0 (va_A (rp ad E RL) sz) := by
  refine Met.ofW (cc := xb_Sh_acceptGrant) (maxL := 7) (ret := (some .int)) (by decide) rfl ?_
  intro p e s m args below meth c s₁ B hml hv
  obtain ⟨rfl, ⟨hsz, hP, hK, hD0⟩, hZ⟩ := hv
  have hx := B.exec
  have hb := B.bytes
  have hr := B.returns
  have hT := x_hT B.pre
  have hown : s.vm.findClass xR_Sh = some m.cls := findClass_of_methodNamed B.named
  have hlocks := B.notSynchronized
  subst hsz
  have hD := hD0.self (sz := s.heap.size)
  generalize hAe : va_A (rp ad E RL) s.heap.size = A at hD hZ ⊢
  have hA : ∀ q : Nat, s.heap.size ≤ q → A q := fun q h => by rw [← hAe]; exact Or.inr h
  have hS : va_S A s.heap s.heap [] := va_S.rf
  have hl := lv_entry ([.ref (ad 0 5), .ref (ad 0 1)]) (n := 7) (Nat.le_of_ble_eq_true rfl)
  rw [lg_entry_eq]
  generalize (lg_sl ([.ref (ad 0 5), .ref (ad 0 1)]) ++ List.replicate (7 - (lg_sl ([.ref (ad 0 5), .ref (ad 0 1)])).length) Slot.unset).toArray = ls at hl ⊢
  have hl : lv_has ls 7 [(0, .ref (ad 0 5)), (1, .ref (ad 0 1))] := hl
  have hP : va_P D xcl (rp ad E RL) s.heap := hP
  obtain ⟨hmB, hDk, hLi, hSh, hCh, hLa, hDIs, hLIs⟩ := id hCI
  obtain ⟨hWL, hlt40, hLwd, hLtx⟩ := id hLW
  obtain ⟨lf_1, q_1⟩ := id (hDk)
  have c_2 : E 0 0 = .inr (0, [.ref (ad 0 1), .ref (ad 0 5), .ref (ad 0 7), .ref (ad 0 9), .int (nI ml), .int lf_1]) := q_1
  have m_3 : (0, 0) ∈ RL := hmB 0 (by decide)
  obtain ⟨tx_4, fb_4, fe_4, hl1_4, hw2_4, q1_4, q2_4, q3_4, q4_4, hws_4⟩ := id (hLi)
  have c_5 : E 0 1 = .inr (1, [.ref (ad 0 2), .ref (ad 0 3), .ref (ad 0 4), .int (nI len), .int (nI (wl.length))]) := q1_4
  have m_6 : (0, 1) ∈ RL := hmB 1 (by decide)
  have c_7 : E 0 2 = .inl (kA 1, 40, .inl tx_4) := q2_4
  have m_8 : (0, 2) ∈ RL := hmB 2 (by decide)
  have c_9 : E 0 3 = .inl (kA 0, 20, .inl fb_4) := q3_4
  have m_10 : (0, 3) ∈ RL := hmB 3 (by decide)
  have c_11 : E 0 4 = .inl (kA 0, 20, .inl fe_4) := q4_4
  have m_12 : (0, 4) ∈ RL := hmB 4 (by decide)
  obtain ⟨fd_13, hnd_13, q5_13, q6_13, hds_13⟩ := id (hSh)
  have c_14 : E 0 5 = .inr (2, [.ref (ad 0 6), .int (nI nd)]) := q5_13
  have m_15 : (0, 5) ∈ RL := hmB 5 (by decide)
  have c_16 : E 0 6 = .inl (kA 4, 12, .inr (.inr (.inr (.inr fd_13)))) := q6_13
  have m_17 : (0, 6) ∈ RL := hmB 6 (by decide)
  obtain ⟨cf_18, pv_18, fc_18, hcs_18, hpv_18, q7_18, q8_18, hfc_18⟩ := id (hCh)
  have c_19 : E 0 7 = .inr (3, [.ref (ad 0 5), .ref (ad 0 8), .int (nI cs), .int cf_18, pv_18]) := q7_18
  have m_20 : (0, 7) ∈ RL := hmB 7 (by decide)
  have c_21 : E 0 8 = .inl (kA 4, 12, .inr (.inr (.inr (.inr fc_18)))) := q8_18
  have m_22 : (0, 8) ∈ RL := hmB 8 (by decide)
  obtain ⟨fl_23, hml_23, q9_23, hla_23⟩ := id (hLa)
  have c_24 : E 0 9 = .inl (kA 5, 5, .inr (.inr (.inr (.inr fl_23)))) := q9_23
  have m_25 : (0, 9) ∈ RL := hmB 9 (by decide)
  obtain ⟨zw0, zw1, zw2, zw3, zw4, zw5, zw6, zw7, zw8, zw9, zw10, zw11⟩ := zW_all
  refine lv_aload_n hx hb xd_Sh_acceptGrant_0 rfl (lv_at hl 1 rfl) ?_
  refine lv_iconst (v := 1) hx hb xd_Sh_acceptGrant_1 (by decide) ?_
  have hFc := px_free hD hS hA
  refine va_calli (va_runV (As := [.int 1]) (rest := []) ⟨hx, hb, hml, hown, hT⟩ (xc_Li_nameAtX l D kA s.heap.size ad E RL g ml nd len lt wl cs 1 (by first | assumption | omega) (by first | assumption | omega) (by first | assumption | omega)) (cwV 1 hT (wT_V k5i_1 k5i_2 k5i_3 k5i_4 k5i_0) rfl rfl rfl (by decide +kernel) ⟨Nat.le_of_ble_eq_true rfl, Nat.le_of_ble_eq_true rfl⟩) (px_preV hK hP hD m_6 c_5 rfl) rfl rfl hl.1 rfl (lv_room (Nat.le_of_ble_eq_true rfl)) xd_Sh_acceptGrant_2 ⟨(Nat.le_of_ble_eq_true rfl), (Nat.le_of_ble_eq_true rfl)⟩) hS (fun q _ h => hFc q h) hFc (fun r26 u27 t H1 locs ht hvm hp28 hB hz1 hk1 hS => ?_)
  obtain ⟨hP1, hD1⟩ := hB
  rw [ht] at hP1
  have hD1 := hD1.weaken (fun _ _ _ h => hFc _ h)
  generalize H1 = H at hP1 hS ⊢
  have hP := hP1
  have hD := hD1
  have hP : va_P D xcl (rp ad E RL) H := hP
  have hD : va_D A (rp ad E RL) := hD
  have hp28 : r26 = wN (g 0) wl 1 := hp28
  subst hp28
  have hP : va_P D xcl (rp ad E RL) H := hP
  have hD : va_D A (rp ad E RL) := hD
  refine lv_istore_n hx hb xd_Sh_acceptGrant_5 rfl hl (Nat.le_of_ble_eq_true rfl) rfl (fun ls hl => ?_)
  have hl : lv_has ls 7 [(2, .int (wN (g 0) wl 1)), (0, .ref (ad 0 5)), (1, .ref (ad 0 1))] := hl
  refine lv_aload_n hx hb xd_Sh_acceptGrant_6 rfl (lv_at hl 2 rfl) ?_
  refine px_get (D := D) (ci := 1) (v := .int (nI (wl.length))) (C := xR_Li) (T := xT_Li) (N := 5) hx hb hT xi_Li hown hK.1 hP m_6 c_5 rfl 4 (by decide) (hT _ k5i_5) (fun _ h9 => h9) rfl xd_Sh_acceptGrant_7 ?_
  refine lv_iconst (v := 2) hx hb xd_Sh_acceptGrant_10 (by decide) ?_
  refine xn_ne (a := wl.length) (b := 2) (tgt := 18) hx hb xd_Sh_acceptGrant_11 (by decide) (by omega) (by omega) (fun hc29 => ?_) (fun hc29 => ?_)
  · refine lv_aload_n hx hb xd_Sh_acceptGrant_18 rfl (lv_at hl 2 rfl) ?_
    refine lv_iconst (v := 3) hx hb xd_Sh_acceptGrant_19 (by decide) ?_
    have hFc := px_free hD hS hA
    refine va_calli (va_runV (As := [.int 3]) (rest := []) ⟨hx, hb, hml, hown, hT⟩ (xc_Li_nameAtX l D kA H.size ad E RL g ml nd len lt wl cs 3 (by first | assumption | omega) (by first | assumption | omega) (by first | assumption | omega)) (cwV 1 hT (wT_V k5i_1 k5i_2 k5i_3 k5i_4 k5i_0) rfl rfl rfl (by decide +kernel) ⟨Nat.le_of_ble_eq_true rfl, Nat.le_of_ble_eq_true rfl⟩) (px_preV hK hP hD m_6 c_5 rfl) rfl rfl hl.1 rfl (lv_room (Nat.le_of_ble_eq_true rfl)) xd_Sh_acceptGrant_20 ⟨(Nat.le_of_ble_eq_true rfl), (Nat.le_of_ble_eq_true rfl)⟩) hS (fun q _ h => hFc q h) hFc (fun r30 u31 t H1 locs ht hvm hp32 hB hz1 hk1 hS => ?_)
    obtain ⟨hP1, hD1⟩ := hB
    rw [ht] at hP1
    have hD1 := hD1.weaken (fun _ _ _ h => hFc _ h)
    generalize H1 = H at hP1 hS ⊢
    have hP := hP1
    have hD := hD1
    have hP : va_P D xcl (rp ad E RL) H := hP
    have hD : va_D A (rp ad E RL) := hD
    have hp32 : r30 = wN (g 0) wl 3 := hp32
    subst hp32
    have hP : va_P D xcl (rp ad E RL) H := hP
    have hD : va_D A (rp ad E RL) := hD
    refine lv_istore_n hx hb xd_Sh_acceptGrant_23 rfl hl (Nat.le_of_ble_eq_true rfl) rfl (fun ls hl => ?_)
    have hl : lv_has ls 7 [(3, .int (wN (g 0) wl 3)), (2, .int (wN (g 0) wl 1)), (0, .ref (ad 0 5)), (1, .ref (ad 0 1))] := hl
    refine lv_aload_n hx hb xd_Sh_acceptGrant_24 rfl (lv_at hl 3 rfl) ?_
    refine px_get (D := D) (ci := 1) (v := .int (nI (wl.length))) (C := xR_Li) (T := xT_Li) (N := 5) hx hb hT xi_Li hown hK.1 hP m_6 c_5 rfl 4 (by decide) (hT _ k5i_5) (fun _ h9 => h9) rfl xd_Sh_acceptGrant_25 ?_
    refine lv_iconst (v := 4) hx hb xd_Sh_acceptGrant_28 (by decide) ?_
    refine xn_ne (a := wl.length) (b := 4) (tgt := 50) hx hb xd_Sh_acceptGrant_29 (by decide) (by omega) (by omega) (fun hc33 => ?_) (fun hc33 => ?_)
    · refine lv_iconst (v := 0) hx hb xd_Sh_acceptGrant_50 (by decide) ?_
      refine lv_istore hx hb xd_Sh_acceptGrant_51 hl (Nat.le_of_ble_eq_true rfl) rfl (fun ls hl => ?_)
      have hl : lv_has ls 7 [(4, .int 0), (3, .int (wN (g 0) wl 3)), (2, .int (wN (g 0) wl 1)), (0, .ref (ad 0 5)), (1, .ref (ad 0 1))] := hl
      refine lv_iload_n hx hb xd_Sh_acceptGrant_53 rfl (lv_at hl 2 rfl) ?_
      refine lv_if_eq (tgt := 70) hx hb xd_Sh_acceptGrant_54 (by decide) (fun hc34 => ?_) (fun hc34 => ?_)
      · refine lv_iconst (v := (-1)) hx hb xd_Sh_acceptGrant_70 (by decide) ?_
        refine W.widen (k := 0) (n := 0) (Nat.le_of_ble_eq_true rfl) (Nat.le_of_ble_eq_true rfl) ?_
        exact W.iret (v := (-1)) hx hb hr (fun t ht hW => ⟨⟨(-1), (ad, E, RL), rfl, ⟨hCI, by rw [cif_eq (lG_no1 (a := 7) (a2 := 9) (fun q => q.2.1 hc34)).symm (lG_no1 (a := 8) (a2 := 10) (fun q => q.2.1 hc34)).symm]; exact hTD, rfl, FRL_rf⟩, by rw [ht]; exact hP, hD⟩, hS.F ht⟩) hS.2.2 xd_Sh_acceptGrant_71
      · refine lv_aload_n hx hb xd_Sh_acceptGrant_57 rfl (lv_at hl 4 rfl) ?_
        refine px_get (D := D) (ci := 1) (v := .int (nI (wl.length))) (C := xR_Li) (T := xT_Li) (N := 5) hx hb hT xi_Li hown hK.1 hP m_6 c_5 rfl 4 (by decide) (hT _ k5i_5) (fun _ h9 => h9) rfl xd_Sh_acceptGrant_58 ?_
        refine lv_iconst (v := 2) hx hb xd_Sh_acceptGrant_61 (by decide) ?_
        refine xn_eq (a := wl.length) (b := 2) (tgt := 72) hx hb xd_Sh_acceptGrant_62 (by decide) (by omega) (by omega) (fun hc35 => absurd hc35 (by omega)) (fun _ => ?_)
        refine lv_iload hx hb xd_Sh_acceptGrant_65 (lv_at hl 0 rfl) ?_
        refine lv_if_ne (tgt := 72) hx hb xd_Sh_acceptGrant_67 (by decide) (fun hc36 => absurd (by decide) hc36) (fun _ => ?_)
        refine lv_iconst (v := (-1)) hx hb xd_Sh_acceptGrant_70 (by decide) ?_
        refine W.widen (k := 0) (n := 0) (Nat.le_of_ble_eq_true rfl) (Nat.le_of_ble_eq_true rfl) ?_
        exact W.iret (v := (-1)) hx hb hr (fun t ht hW => ⟨⟨(-1), (ad, E, RL), rfl, ⟨hCI, by rw [cif_eq (lG_no1 (a := 7) (a2 := 9) (fun q => q.1.elim (fun z => absurd z (by omega)) (fun z => absurd z.1 (by omega)))).symm (lG_no1 (a := 8) (a2 := 10) (fun q => q.1.elim (fun z => absurd z (by omega)) (fun z => absurd z.1 (by omega)))).symm]; exact hTD, rfl, FRL_rf⟩, by rw [ht]; exact hP, hD⟩, hS.F ht⟩) hS.2.2 xd_Sh_acceptGrant_71
    · refine lv_aload_n hx hb xd_Sh_acceptGrant_32 rfl (lv_at hl 3 rfl) ?_
      refine lv_iconst (v := 2) hx hb xd_Sh_acceptGrant_33 (by decide) ?_
      refine va_ldcS (q := Z.1 9) hx hb hown hZ.2.2.2.1.2.2.2.2.2.2.2.2.2.1 xd_Sh_acceptGrant_34 ?_
      have hFc := px_free hD hS hA
      refine va_calli (va_runV (As := [.int 2, .ref (Z.1 9)]) (rest := []) ⟨hx, hb, hml, hown, hT⟩ (xc_Li_wordIsX l D kA H.size ad E RL Z g ml nd len lt wl cs 2 9 (by first | assumption | omega) (by first | assumption | omega) (by first | assumption | omega) (by first | assumption | omega)) (cwV 2 hT (wT_V k5i_7 k5i_8 k5i_9 k5i_4 k5i_6) rfl rfl rfl (by decide +kernel) ⟨Nat.le_of_ble_eq_true rfl, Nat.le_of_ble_eq_true rfl⟩) (px_preVZ hK hP hD m_6 c_5 rfl hFc (hZ.kept hS)) rfl rfl hl.1 rfl (lv_room (Nat.le_of_ble_eq_true rfl)) xd_Sh_acceptGrant_36 ⟨(Nat.le_of_ble_eq_true rfl), (Nat.le_of_ble_eq_true rfl)⟩) hS (fun q _ h => hFc q h) hFc (fun r37 u38 t H1 locs ht hvm hp39 hB hz1 hk1 hS => ?_)
      obtain ⟨hP1, hD1⟩ := hB
      rw [ht] at hP1
      have hD1 := hD1.weaken (fun _ _ _ h => hFc _ h)
      generalize H1 = H at hP1 hS ⊢
      have hP := hP1
      have hD := hD1
      have hP : va_P D xcl (rp ad E RL) H := hP
      have hD : va_D A (rp ad E RL) := hD
      rcases hp39 with ⟨rfl, z40⟩ | ⟨rfl, z41⟩
      · have hw9 : wS (g 0) wl 2 zTo := by have q := z40; rw [zw9] at q; exact q
        refine W.eq (g2 := F0 m 39 ls [.int 1]) rfl ?_
        refine lv_if_eq (tgt := 50) hx hb xd_Sh_acceptGrant_39 (by decide) (fun hc42 => absurd hc42 (by decide)) (fun _ => ?_)
        refine lv_iload_n hx hb xd_Sh_acceptGrant_42 rfl (lv_at hl 0 rfl) ?_
        refine lv_if_eq (tgt := 50) hx hb xd_Sh_acceptGrant_43 (by decide) (fun hc43 => ?_) (fun hc43 => ?_)
        · refine lv_iconst (v := 0) hx hb xd_Sh_acceptGrant_50 (by decide) ?_
          refine lv_istore hx hb xd_Sh_acceptGrant_51 hl (Nat.le_of_ble_eq_true rfl) rfl (fun ls hl => ?_)
          have hl : lv_has ls 7 [(4, .int 0), (3, .int (wN (g 0) wl 3)), (2, .int (wN (g 0) wl 1)), (0, .ref (ad 0 5)), (1, .ref (ad 0 1))] := hl
          refine lv_iload_n hx hb xd_Sh_acceptGrant_53 rfl (lv_at hl 2 rfl) ?_
          refine lv_if_eq (tgt := 70) hx hb xd_Sh_acceptGrant_54 (by decide) (fun hc44 => ?_) (fun hc44 => ?_)
          · refine lv_iconst (v := (-1)) hx hb xd_Sh_acceptGrant_70 (by decide) ?_
            refine W.widen (k := 0) (n := 0) (Nat.le_of_ble_eq_true rfl) (Nat.le_of_ble_eq_true rfl) ?_
            exact W.iret (v := (-1)) hx hb hr (fun t ht hW => ⟨⟨(-1), (ad, E, RL), rfl, ⟨hCI, by rw [cif_eq (lG_no1 (a := 7) (a2 := 9) (fun q => q.2.1 hc44)).symm (lG_no1 (a := 8) (a2 := 10) (fun q => q.2.1 hc44)).symm]; exact hTD, rfl, FRL_rf⟩, by rw [ht]; exact hP, hD⟩, hS.F ht⟩) hS.2.2 xd_Sh_acceptGrant_71
          · refine lv_aload_n hx hb xd_Sh_acceptGrant_57 rfl (lv_at hl 4 rfl) ?_
            refine px_get (D := D) (ci := 1) (v := .int (nI (wl.length))) (C := xR_Li) (T := xT_Li) (N := 5) hx hb hT xi_Li hown hK.1 hP m_6 c_5 rfl 4 (by decide) (hT _ k5i_5) (fun _ h9 => h9) rfl xd_Sh_acceptGrant_58 ?_
            refine lv_iconst (v := 2) hx hb xd_Sh_acceptGrant_61 (by decide) ?_
            refine xn_eq (a := wl.length) (b := 2) (tgt := 72) hx hb xd_Sh_acceptGrant_62 (by decide) (by omega) (by omega) (fun hc45 => absurd hc45 (by omega)) (fun _ => ?_)
            refine lv_iload hx hb xd_Sh_acceptGrant_65 (lv_at hl 0 rfl) ?_
            refine lv_if_ne (tgt := 72) hx hb xd_Sh_acceptGrant_67 (by decide) (fun hc46 => absurd (by decide) hc46) (fun _ => ?_)
            refine lv_iconst (v := (-1)) hx hb xd_Sh_acceptGrant_70 (by decide) ?_
            refine W.widen (k := 0) (n := 0) (Nat.le_of_ble_eq_true rfl) (Nat.le_of_ble_eq_true rfl) ?_
            exact W.iret (v := (-1)) hx hb hr (fun t ht hW => ⟨⟨(-1), (ad, E, RL), rfl, ⟨hCI, by rw [cif_eq (lG_no1 (a := 7) (a2 := 9) (fun q => q.1.elim (fun z => absurd z (by omega)) (fun z => z.2.2 hc43))).symm (lG_no1 (a := 8) (a2 := 10) (fun q => q.1.elim (fun z => absurd z (by omega)) (fun z => z.2.2 hc43))).symm]; exact hTD, rfl, FRL_rf⟩, by rw [ht]; exact hP, hD⟩, hS.F ht⟩) hS.2.2 xd_Sh_acceptGrant_71
        · refine lv_iconst (v := 1) hx hb xd_Sh_acceptGrant_46 (by decide) ?_
          refine lv_goto (tgt := 51) hx hb xd_Sh_acceptGrant_47 (by decide) ?_
          refine lv_istore hx hb xd_Sh_acceptGrant_51 hl (Nat.le_of_ble_eq_true rfl) rfl (fun ls hl => ?_)
          have hl : lv_has ls 7 [(4, .int 1), (3, .int (wN (g 0) wl 3)), (2, .int (wN (g 0) wl 1)), (0, .ref (ad 0 5)), (1, .ref (ad 0 1))] := hl
          refine lv_iload_n hx hb xd_Sh_acceptGrant_53 rfl (lv_at hl 2 rfl) ?_
          refine lv_if_eq (tgt := 70) hx hb xd_Sh_acceptGrant_54 (by decide) (fun hc47 => ?_) (fun hc47 => ?_)
          · refine lv_iconst (v := (-1)) hx hb xd_Sh_acceptGrant_70 (by decide) ?_
            refine W.widen (k := 0) (n := 0) (Nat.le_of_ble_eq_true rfl) (Nat.le_of_ble_eq_true rfl) ?_
            exact W.iret (v := (-1)) hx hb hr (fun t ht hW => ⟨⟨(-1), (ad, E, RL), rfl, ⟨hCI, by rw [cif_eq (lG_no1 (a := 7) (a2 := 9) (fun q => q.2.1 hc47)).symm (lG_no1 (a := 8) (a2 := 10) (fun q => q.2.1 hc47)).symm]; exact hTD, rfl, FRL_rf⟩, by rw [ht]; exact hP, hD⟩, hS.F ht⟩) hS.2.2 xd_Sh_acceptGrant_71
          · refine lv_aload_n hx hb xd_Sh_acceptGrant_57 rfl (lv_at hl 4 rfl) ?_
            refine px_get (D := D) (ci := 1) (v := .int (nI (wl.length))) (C := xR_Li) (T := xT_Li) (N := 5) hx hb hT xi_Li hown hK.1 hP m_6 c_5 rfl 4 (by decide) (hT _ k5i_5) (fun _ h9 => h9) rfl xd_Sh_acceptGrant_58 ?_
            refine lv_iconst (v := 2) hx hb xd_Sh_acceptGrant_61 (by decide) ?_
            refine xn_eq (a := wl.length) (b := 2) (tgt := 72) hx hb xd_Sh_acceptGrant_62 (by decide) (by omega) (by omega) (fun hc48 => absurd hc48 (by omega)) (fun _ => ?_)
            refine lv_iload hx hb xd_Sh_acceptGrant_65 (lv_at hl 0 rfl) ?_
            refine lv_if_ne (tgt := 72) hx hb xd_Sh_acceptGrant_67 (by decide) (fun _ => ?_) (fun hc49 => absurd hc49 (by decide))
            refine lv_aload_n hx hb xd_Sh_acceptGrant_72 rfl (lv_at hl 3 rfl) ?_
            have hFc := px_free hD hS hA
            refine va_callq (va_runV (As := []) (rest := []) ⟨hx, hb, hml, hown, hT⟩ (xc_Sh_latestX l D kA H.size ad E RL ml nd len wl.length cs (by first | assumption | omega)) (cwV 0 hT (wT_V k5i_11 k5i_12 k5i_13 k5i_14 k5i_10) rfl rfl rfl (by decide +kernel) ⟨Nat.le_of_ble_eq_true rfl, Nat.le_of_ble_eq_true rfl⟩) (px_preV hK hP hD m_15 c_14 rfl) rfl rfl hl.1 rfl (lv_room (Nat.le_of_ble_eq_true rfl)) xd_Sh_acceptGrant_73 ⟨(Nat.le_of_ble_eq_true rfl), (Nat.le_of_ble_eq_true rfl)⟩) hS (fun q _ h => hFc q h) hFc (fun r50 u51 t H1 locs ht hvm hp52 hB hz1 hk1 hS => ?_)
            obtain ⟨hP1, hD1⟩ := hB
            rw [ht] at hP1
            have hD1 := hD1.weaken (fun _ _ _ h => hFc _ h)
            generalize H1 = H at hP1 hS ⊢
            have hP := hP1
            have hD := hD1
            have hP : va_P D xcl (rp ad E RL) H := hP
            have hD : va_D A (rp ad E RL) := hD
            rcases hp52 with ⟨rfl, z53⟩ | ⟨z54, rfl⟩
            · refine W.eq (g2 := F0 m 76 ls [.null]) rfl ?_
              refine lv_astoreN hx hb xd_Sh_acceptGrant_76 hl (Nat.le_of_ble_eq_true rfl) rfl (fun ls hl => ?_)
              have hl : lv_has ls 7 [(5, .null), (4, .int 1), (3, .int (wN (g 0) wl 3)), (2, .int (wN (g 0) wl 1)), (0, .ref (ad 0 5)), (1, .ref (ad 0 1))] := hl
              refine lv_aloadN hx hb xd_Sh_acceptGrant_78 (lv_at hl 0 rfl) ?_
              refine lv_ifnonnullN hx hb xd_Sh_acceptGrant_80 ?_
              refine lv_bipush (v := (-2)) hx hb xd_Sh_acceptGrant_83 (by decide) ?_
              refine W.widen (k := 0) (n := 0) (Nat.le_of_ble_eq_true rfl) (Nat.le_of_ble_eq_true rfl) ?_
              exact W.iret (v := (-2)) hx hb hr (fun t ht hW => ⟨⟨(-2), (ad, E, RL), rfl, ⟨hCI, by rw [cif_eq (lG_no1 (a := 7) (a2 := 9) (fun q => absurd q.2.2.1 (by omega))).symm (lG_no1 (a := 8) (a2 := 10) (fun q => absurd q.2.2.1 (by omega))).symm]; exact hTD, rfl, FRL_rf⟩, by rw [ht]; exact hP, hD⟩, hS.F ht⟩) hS.2.2 xd_Sh_acceptGrant_85
            · refine W.eq (g2 := F0 m 76 ls [.ref (ad (1 + (nd - 1)) 0)]) rfl ?_
              refine lv_astore hx hb xd_Sh_acceptGrant_76 hl (Nat.le_of_ble_eq_true rfl) rfl (fun ls hl => ?_)
              have hl : lv_has ls 7 [(5, .ref (ad (1 + (nd - 1)) 0)), (4, .int 1), (3, .int (wN (g 0) wl 3)), (2, .int (wN (g 0) wl 1)), (0, .ref (ad 0 5)), (1, .ref (ad 0 1))] := hl
              refine lv_aload hx hb xd_Sh_acceptGrant_78 (lv_at hl 0 rfl) ?_
              refine lv_ifnonnull (tgt := 86) hx hb xd_Sh_acceptGrant_80 (by decide) ?_
              obtain ⟨hm_55, fd_55, nm_55, sd_55, k0_55, k1_55, k2_55, k3_55, f0_55, f1_55, f2_55, f3_55, fe_55, fo_55, tr_55, op_55, hk0_55, hk1_55, hk2_55, hk3_55, q0_55, q1_55, q2_55, q3_55, q4_55, q5_55, q6_55, q7_55, q8_55, q9_55, q10_55, q11_55, q12_55, hg_55⟩ := id (hDIs (nd - 1) (by omega))
              have c_56 : E (1 + (nd - 1)) 0 = .inr (7, [.int (nI ((nd - 1))), .int fd_55, .int nm_55, .ref (ad (1 + (nd - 1)) 1), .ref (ad (1 + (nd - 1)) 9), .ref (ad (1 + (nd - 1)) 10), .ref (ad (1 + (nd - 1)) 2), .ref (ad (1 + (nd - 1)) 11), .ref (ad (1 + (nd - 1)) 12), .ref (ad (1 + (nd - 1)) 3), .ref (ad (1 + (nd - 1)) 4), .int sd_55]) := q0_55
              have m_57 : (1 + (nd - 1), 0) ∈ RL := hm_55 0 (by decide)
              have c_58 : E (1 + (nd - 1)) 1 = .inr (8, [.ref (ad (1 + (nd - 1)) 5), .int (nI k0_55)]) := q1_55
              have m_59 : (1 + (nd - 1), 1) ∈ RL := hm_55 1 (by decide)
              have c_60 : E (1 + (nd - 1)) 2 = .inr (8, [.ref (ad (1 + (nd - 1)) 6), .int (nI k1_55)]) := q2_55
              have m_61 : (1 + (nd - 1), 2) ∈ RL := hm_55 2 (by decide)
              have c_62 : E (1 + (nd - 1)) 3 = .inr (8, [.ref (ad (1 + (nd - 1)) 7), .int (nI k2_55)]) := q3_55
              have m_63 : (1 + (nd - 1), 3) ∈ RL := hm_55 3 (by decide)
              have c_64 : E (1 + (nd - 1)) 4 = .inr (8, [.ref (ad (1 + (nd - 1)) 8), .int (nI k3_55)]) := q4_55
              have m_65 : (1 + (nd - 1), 4) ∈ RL := hm_55 4 (by decide)
              have c_66 : E (1 + (nd - 1)) 5 = .inl (kA 0, 6, .inl f0_55) := q5_55
              have m_67 : (1 + (nd - 1), 5) ∈ RL := hm_55 5 (by decide)
              have c_68 : E (1 + (nd - 1)) 6 = .inl (kA 0, 5, .inl f1_55) := q6_55
              have m_69 : (1 + (nd - 1), 6) ∈ RL := hm_55 6 (by decide)
              have c_70 : E (1 + (nd - 1)) 7 = .inl (kA 0, 3, .inl f2_55) := q7_55
              have m_71 : (1 + (nd - 1), 7) ∈ RL := hm_55 7 (by decide)
              have c_72 : E (1 + (nd - 1)) 8 = .inl (kA 0, 3, .inl f3_55) := q8_55
              have m_73 : (1 + (nd - 1), 8) ∈ RL := hm_55 8 (by decide)
              have c_74 : E (1 + (nd - 1)) 9 = .inl (kA 8, 6, .inr (.inr (.inr (.inr fe_55)))) := q9_55
              have m_75 : (1 + (nd - 1), 9) ∈ RL := hm_55 9 (by decide)
              have c_76 : E (1 + (nd - 1)) 10 = .inl (kA 8, 6, .inr (.inr (.inr (.inr fo_55)))) := q10_55
              have m_77 : (1 + (nd - 1), 10) ∈ RL := hm_55 10 (by decide)
              have c_78 : E (1 + (nd - 1)) 11 = .inl (kA 2, 5, .inl tr_55) := q11_55
              have m_79 : (1 + (nd - 1), 11) ∈ RL := hm_55 11 (by decide)
              have c_80 : E (1 + (nd - 1)) 12 = .inl (kA 2, 5, .inl op_55) := q12_55
              have m_81 : (1 + (nd - 1), 12) ∈ RL := hm_55 12 (by decide)
              have hg_55 : ∀ w9, w9 < k0_55 → fe_55 w9 = some (ad (1 + (nd - 1)) (20 + 3 * w9)) ∧ fo_55 w9 = some (ad (1 + (nd - 1)) (38 + 3 * w9)) ∧ GI kA (ad (1 + (nd - 1))) (E (1 + (nd - 1))) (fun o => (1 + (nd - 1), o) ∈ RL) (20 + 3 * w9) (21 + 3 * w9) (22 + 3 * w9) ∧ GI kA (ad (1 + (nd - 1))) (E (1 + (nd - 1))) (fun o => (1 + (nd - 1), o) ∈ RL) (38 + 3 * w9) (39 + 3 * w9) (40 + 3 * w9) := hg_55
              obtain ⟨hTT_55, tgr_55⟩ := TD_get hk0_55 hk1_55 hk2_55 hk3_55 c_56 c_58 c_60 c_62 c_64 c_66 c_68 c_70 c_72 c_78 c_80 (hTD (nd - 1) (by omega))
              obtain ⟨tfd_55, tnm_55, tsd_55, tk0_55, tf0_55, tk1_55, tf1_55, tk2_55, tk3_55⟩ := id hTT_55
              have ik0_55 : iN (g 5 (nd - 1)) = k0_55 := by rw [← tk0_55, iN_nI (by omega)]
              have ik1_55 : iN (g 12 (nd - 1)) = k1_55 := by rw [← tk1_55, iN_nI (by omega)]
              refine lv_aload_n hx hb xd_Sh_acceptGrant_86 rfl (lv_at hl 5 rfl) ?_
              refine lv_iconst (v := 0) hx hb xd_Sh_acceptGrant_87 (by decide) ?_
              refine va_ldcS (q := Z.1 2) hx hb hown hZ.2.2.2.1.2.2.1 xd_Sh_acceptGrant_88 ?_
              have hFc := px_free hD hS hA
              refine va_calli (va_runV (As := [.int 0, .ref (Z.1 2)]) (rest := []) ⟨hx, hb, hml, hown, hT⟩ (xc_Li_wordIsX l D kA H.size ad E RL Z g ml nd len lt wl cs 0 2 (by first | assumption | omega) (by first | assumption | omega) (by first | assumption | omega) (by first | assumption | omega)) (cwV 2 hT (wT_V k5i_7 k5i_8 k5i_9 k5i_4 k5i_6) rfl rfl rfl (by decide +kernel) ⟨Nat.le_of_ble_eq_true rfl, Nat.le_of_ble_eq_true rfl⟩) (px_preVZ hK hP hD m_6 c_5 rfl hFc (hZ.kept hS)) rfl rfl hl.1 rfl (lv_room (Nat.le_of_ble_eq_true rfl)) xd_Sh_acceptGrant_90 ⟨(Nat.le_of_ble_eq_true rfl), (Nat.le_of_ble_eq_true rfl)⟩) hS (fun q _ h => hFc q h) hFc (fun r82 u83 t H1 locs ht hvm hp84 hB hz1 hk1 hS => ?_)
              obtain ⟨hP1, hD1⟩ := hB
              rw [ht] at hP1
              have hD1 := hD1.weaken (fun _ _ _ h => hFc _ h)
              generalize H1 = H at hP1 hS ⊢
              have hP := hP1
              have hD := hD1
              have hP : va_P D xcl (rp ad E RL) H := hP
              have hD : va_D A (rp ad E RL) := hD
              rcases hp84 with ⟨rfl, z85⟩ | ⟨rfl, z86⟩
              · have hw2 : wS (g 0) wl 0 zEx := by have q := z85; rw [zw2] at q; exact q
                refine W.eq (g2 := F0 m 93 ls [.int 1]) rfl ?_
                refine lv_if_eq (tgt := 105) hx hb xd_Sh_acceptGrant_93 (by decide) (fun hc87 => absurd hc87 (by decide)) (fun _ => ?_)
                refine lv_aload hx hb xd_Sh_acceptGrant_96 (lv_at hl 0 rfl) ?_
                refine lv_iload_n hx hb xd_Sh_acceptGrant_98 rfl (lv_at hl 3 rfl) ?_
                have hFc := px_free hD hS hA
                refine va_callq (va_runV (As := [.int (wN (g 0) wl 1)]) (rest := []) ⟨hx, hb, hml, hown, hT⟩ (xc_Ds_exportOfX l D kA H.size ad E RL g nd (nd - 1) (wN (g 0) wl 1) (by first | assumption | omega) (by first | assumption | omega) (by first | assumption | omega)) (cwV 1 hT (wT_V k5i_16 k5i_17 k5i_18 k5i_19 k5i_15) rfl rfl rfl (by decide +kernel) ⟨Nat.le_of_ble_eq_true rfl, Nat.le_of_ble_eq_true rfl⟩) (px_preV hK hP hD m_57 c_56 rfl) rfl rfl hl.1 rfl (lv_room (Nat.le_of_ble_eq_true rfl)) xd_Sh_acceptGrant_99 ⟨(Nat.le_of_ble_eq_true rfl), (Nat.le_of_ble_eq_true rfl)⟩) hS (fun q _ h => hFc q h) hFc (fun r88 u89 t H1 locs ht hvm hp90 hB hz1 hk1 hS => ?_)
                obtain ⟨hP1, hD1⟩ := hB
                rw [ht] at hP1
                have hD1 := hD1.weaken (fun _ _ _ h => hFc _ h)
                generalize H1 = H at hP1 hS ⊢
                have hP := hP1
                have hD := hD1
                have hP : va_P D xcl (rp ad E RL) H := hP
                have hD : va_D A (rp ad E RL) := hD
                rcases hp90 with ⟨rfl, z91⟩ | ⟨z92, z93, rfl, z94, z95⟩
                · refine W.eq (g2 := F0 m 102 ls [.null]) rfl ?_
                  refine lv_goto (tgt := 111) hx hb xd_Sh_acceptGrant_102 (by decide) ?_
                  refine lv_astoreN hx hb xd_Sh_acceptGrant_111 hl (Nat.le_of_ble_eq_true rfl) rfl (fun ls hl => ?_)
                  have hl : lv_has ls 7 [(6, .null), (5, .ref (ad (1 + (nd - 1)) 0)), (4, .int 1), (3, .int (wN (g 0) wl 3)), (2, .int (wN (g 0) wl 1)), (0, .ref (ad 0 5)), (1, .ref (ad 0 1))] := hl
                  refine lv_aloadN hx hb xd_Sh_acceptGrant_113 (lv_at hl 0 rfl) ?_
                  refine lv_ifnonnullN hx hb xd_Sh_acceptGrant_115 ?_
                  refine lv_iconst (v := (-1)) hx hb xd_Sh_acceptGrant_118 (by decide) ?_
                  refine W.widen (k := 0) (n := 0) (Nat.le_of_ble_eq_true rfl) (Nat.le_of_ble_eq_true rfl) ?_
                  exact W.iret (v := (-1)) hx hb hr (fun t ht hW => ⟨⟨(-1), (ad, E, RL), rfl, ⟨hCI, by rw [cif_pos hw2, ← lG_no2 z91]; exact hTD, rfl, FRL_rf⟩, by rw [ht]; exact hP, hD⟩, hS.F ht⟩) hS.2.2 xd_Sh_acceptGrant_119
                · refine W.eq (g2 := F0 m 102 ls [.ref (ad (1 + (nd - 1)) (20 + 3 * z92))]) rfl ?_
                  obtain ⟨m0_96, m1_96, m2_96, ta_96, n_96, f_96, hn_96, q0_96, q1_96, q2_96⟩ := z94
                  have c_97 : E (1 + (nd - 1)) (20 + 3 * z92) = .inr (9, [.ref (ad (1 + (nd - 1)) (21 + 3 * z92)), .int ta_96]) := q0_96
                  have m_98 : (1 + (nd - 1), 20 + 3 * z92) ∈ RL := m0_96
                  have c_99 : E (1 + (nd - 1)) (21 + 3 * z92) = .inr (8, [.ref (ad (1 + (nd - 1)) (22 + 3 * z92)), .int (nI n_96)]) := q1_96
                  have m_100 : (1 + (nd - 1), 21 + 3 * z92) ∈ RL := m1_96
                  have c_101 : E (1 + (nd - 1)) (22 + 3 * z92) = .inl (kA 0, 3, .inl f_96) := q2_96
                  have m_102 : (1 + (nd - 1), 22 + 3 * z92) ∈ RL := m2_96
                  have hpi9 : pI g (nd - 1) (wN (g 0) wl 1) = some z92 := z95
                  have hik9 : z92 < k0_55 := by have q := (ff_is hpi9).1; rw [ik0_55] at q; exact q
                  have htg9 := TG_get hn_96 c_97 c_99 c_101 (tgr_55 z92 hik9).1
                  refine lv_goto (tgt := 111) hx hb xd_Sh_acceptGrant_102 (by decide) ?_
                  refine lv_astore hx hb xd_Sh_acceptGrant_111 hl (Nat.le_of_ble_eq_true rfl) rfl (fun ls hl => ?_)
                  have hl : lv_has ls 7 [(6, .ref (ad (1 + (nd - 1)) (20 + 3 * z92))), (5, .ref (ad (1 + (nd - 1)) 0)), (4, .int 1), (3, .int (wN (g 0) wl 3)), (2, .int (wN (g 0) wl 1)), (0, .ref (ad 0 5)), (1, .ref (ad 0 1))] := hl
                  refine lv_aload hx hb xd_Sh_acceptGrant_113 (lv_at hl 0 rfl) ?_
                  refine lv_ifnonnull (tgt := 120) hx hb xd_Sh_acceptGrant_115 (by decide) ?_
                  refine lv_aload hx hb xd_Sh_acceptGrant_120 (lv_at hl 1 rfl) ?_
                  refine px_get (D := D) (ci := 7) (v := .int sd_55) (C := xR_Ds) (T := xT_Ds) (N := 12) hx hb hT xi_Ds hown hK.1 hP m_57 c_56 rfl 11 (by decide) (hT _ k5i_20) (fun _ h9 => h9) rfl xd_Sh_acceptGrant_122 ?_
                  refine lv_if_ne (tgt := 137) hx hb xd_Sh_acceptGrant_125 (by decide) (fun hc103 => ?_) (fun hc103 => ?_)
                  · refine lv_bipush (v := (-2)) hx hb xd_Sh_acceptGrant_137 (by decide) ?_
                    refine W.widen (k := 0) (n := 0) (Nat.le_of_ble_eq_true rfl) (Nat.le_of_ble_eq_true rfl) ?_
                    exact W.iret (v := (-2)) hx hb hr (fun t ht hW => ⟨⟨(-2), (ad, E, RL), rfl, ⟨hCI, by rw [cif_pos hw2, ← lG_no1 (fun q => hc103 (by rw [tsd_55]; exact q.2.2.2))]; exact hTD, rfl, FRL_rf⟩, by rw [ht]; exact hP, hD⟩, hS.F ht⟩) hS.2.2 xd_Sh_acceptGrant_139
                  · refine lv_aload hx hb xd_Sh_acceptGrant_128 (lv_at hl 0 rfl) ?_
                    refine lv_iload_n hx hb xd_Sh_acceptGrant_130 rfl (lv_at hl 3 rfl) ?_
                    have hFc := px_free hD hS hA
                    refine va_calli (va_runV (As := [.int (wN (g 0) wl 3)]) (rest := []) ⟨hx, hb, hml, hown, hT⟩ (xc_Gr_hasRoomForX l D kA H.size ad E RL (1 + (nd - 1)) (20 + 3 * z92) (21 + 3 * z92) (22 + 3 * z92) ta_96 n_96 f_96 (wN (g 0) wl 3) m_98 c_97 m_100 c_99 m_102 c_101 (by first | assumption | omega)) (cwV 1 hT (wT_V k5i_22 k5i_23 k5i_24 k5i_25 k5i_21) rfl rfl rfl (by decide +kernel) ⟨Nat.le_of_ble_eq_true rfl, Nat.le_of_ble_eq_true rfl⟩) (px_preV hK hP hD m_98 c_97 rfl) rfl rfl hl.1 rfl (lv_room (Nat.le_of_ble_eq_true rfl)) xd_Sh_acceptGrant_131 ⟨(Nat.le_of_ble_eq_true rfl), (Nat.le_of_ble_eq_true rfl)⟩) hS (fun q _ h => hFc q h) hFc (fun r104 u105 t H1 locs ht hvm hp106 hB hz1 hk1 hS => ?_)
                    obtain ⟨hP1, hD1⟩ := hB
                    rw [ht] at hP1
                    have hD1 := hD1.weaken (fun _ _ _ h => hFc _ h)
                    generalize H1 = H at hP1 hS ⊢
                    have hP := hP1
                    have hD := hD1
                    have hP : va_P D xcl (rp ad E RL) H := hP
                    have hD : va_D A (rp ad E RL) := hD
                    rcases hp106 with ⟨rfl, z107⟩ | ⟨rfl, z108, z109, z110⟩
                    · refine W.eq (g2 := F0 m 134 ls [.int 1]) rfl ?_
                      refine lv_if_ne (tgt := 140) hx hb xd_Sh_acceptGrant_134 (by decide) (fun _ => ?_) (fun hc111 => absurd hc111 (by decide))
                      refine lv_aload hx hb xd_Sh_acceptGrant_140 (lv_at hl 0 rfl) ?_
                      refine lv_iload_n hx hb xd_Sh_acceptGrant_142 rfl (lv_at hl 3 rfl) ?_
                      have hFc := px_free hD hS hA
                      refine va_callv (va_runV (As := [.int (wN (g 0) wl 3)]) (rest := []) ⟨hx, hb, hml, hown, hT⟩ (xc_Gr_extendToX l D kA H.size ad E RL (1 + (nd - 1)) (20 + 3 * z92) (21 + 3 * z92) (22 + 3 * z92) ta_96 n_96 f_96 (wN (g 0) wl 3) m_98 c_97 m_100 c_99 m_102 c_101 (by first | assumption | omega) (by first | assumption | omega)) (cwV 1 hT (wT_V k5i_27 k5i_28 k5i_29 k5i_25 k5i_26) rfl rfl rfl (by decide +kernel) ⟨Nat.le_of_ble_eq_true rfl, Nat.le_of_ble_eq_true rfl⟩) (px_preV hK hP hD m_98 c_97 rfl) rfl rfl hl.1 rfl (lv_room (Nat.le_of_ble_eq_true rfl)) xd_Sh_acceptGrant_143 ⟨(Nat.le_of_ble_eq_true rfl), (Nat.le_of_ble_eq_true rfl)⟩) hS (fun q _ h => hFc q h) hFc (fun u113 t H1 locs ht hvm hp114 hB hz1 hk1 hS => ?_)
                      obtain ⟨hP1, hD1⟩ := hB
                      rw [ht] at hP1
                      have hD1 := hD1.weaken (fun _ _ _ h => hFc _ h)
                      generalize H1 = H at hP1 hS ⊢
                      have hP := hP1
                      have hD := hD1
                      obtain ⟨E115, rfl⟩ : ∃ z, z = u113 := ⟨_, rfl⟩
                      obtain ⟨w116, w117, w118, hp123, p_119, p_120, p_121, p_122⟩ := hp114
                      have p_119 : E115 (1 + (nd - 1)) (20 + 3 * z92) = .inr (9, [.ref (ad (1 + (nd - 1)) (21 + 3 * z92)), .int w116]) := p_119
                      have p_120 : E115 (1 + (nd - 1)) (21 + 3 * z92) = .inr (8, [.ref (ad (1 + (nd - 1)) (22 + 3 * z92)), .int (nI w117)]) := p_120
                      have p_121 : E115 (1 + (nd - 1)) (22 + 3 * z92) = .inl (kA 0, 3, .inl w118) := p_121
                      have p_122 : (∀ b2 o2, ¬ (b2 = (1 + (nd - 1)) ∧ o2 = (20 + 3 * z92)) → ¬ (b2 = (1 + (nd - 1)) ∧ o2 = (21 + 3 * z92)) → ¬ (b2 = (1 + (nd - 1)) ∧ o2 = (22 + 3 * z92)) → E115 b2 o2 = E b2 o2) := p_122
                      have c_124 : E115 0 0 = .inr (0, [.ref (ad 0 1), .ref (ad 0 5), .ref (ad 0 7), .ref (ad 0 9), .int (nI ml), .int lf_1]) := (p_122 0 0 (fun q9 => nr_z q9.2 (by decide)) (fun q9 => nr_z q9.2 (by decide)) (fun q9 => nr_z q9.2 (by decide))).trans c_2
                      have c_125 : E115 0 1 = .inr (1, [.ref (ad 0 2), .ref (ad 0 3), .ref (ad 0 4), .int (nI len), .int (nI (wl.length))]) := (p_122 0 1 (fun q9 => nr_z q9.2 (by decide)) (fun q9 => nr_z q9.2 (by decide)) (fun q9 => nr_z q9.2 (by decide))).trans c_5
                      have c_126 : E115 0 2 = .inl (kA 1, 40, .inl tx_4) := (p_122 0 2 (fun q9 => nr_z q9.2 (by decide)) (fun q9 => nr_z q9.2 (by decide)) (fun q9 => nr_z q9.2 (by decide))).trans c_7
                      have c_127 : E115 0 3 = .inl (kA 0, 20, .inl fb_4) := (p_122 0 3 (fun q9 => nr_z q9.2 (by decide)) (fun q9 => nr_z q9.2 (by decide)) (fun q9 => nr_z q9.2 (by decide))).trans c_9
                      have c_128 : E115 0 4 = .inl (kA 0, 20, .inl fe_4) := (p_122 0 4 (fun q9 => nr_z q9.2 (by decide)) (fun q9 => nr_z q9.2 (by decide)) (fun q9 => nr_z q9.2 (by decide))).trans c_11
                      have c_129 : E115 0 5 = .inr (2, [.ref (ad 0 6), .int (nI nd)]) := (p_122 0 5 (fun q9 => nr_z q9.2 (by decide)) (fun q9 => nr_z q9.2 (by decide)) (fun q9 => nr_z q9.2 (by decide))).trans c_14
                      have c_130 : E115 0 6 = .inl (kA 4, 12, .inr (.inr (.inr (.inr fd_13)))) := (p_122 0 6 (fun q9 => nr_z q9.2 (by decide)) (fun q9 => nr_z q9.2 (by decide)) (fun q9 => nr_z q9.2 (by decide))).trans c_16
                      have c_131 : E115 0 7 = .inr (3, [.ref (ad 0 5), .ref (ad 0 8), .int (nI cs), .int cf_18, pv_18]) := (p_122 0 7 (fun q9 => nr_z q9.2 (by decide)) (fun q9 => nr_z q9.2 (by decide)) (fun q9 => nr_z q9.2 (by decide))).trans c_19
                      have c_132 : E115 0 8 = .inl (kA 4, 12, .inr (.inr (.inr (.inr fc_18)))) := (p_122 0 8 (fun q9 => nr_z q9.2 (by decide)) (fun q9 => nr_z q9.2 (by decide)) (fun q9 => nr_z q9.2 (by decide))).trans c_21
                      have c_133 : E115 0 9 = .inl (kA 5, 5, .inr (.inr (.inr (.inr fl_23)))) := (p_122 0 9 (fun q9 => nr_z q9.2 (by decide)) (fun q9 => nr_z q9.2 (by decide)) (fun q9 => nr_z q9.2 (by decide))).trans c_24
                      have c_134 : E115 (1 + (nd - 1)) 0 = .inr (7, [.int (nI ((nd - 1))), .int fd_55, .int nm_55, .ref (ad (1 + (nd - 1)) 1), .ref (ad (1 + (nd - 1)) 9), .ref (ad (1 + (nd - 1)) 10), .ref (ad (1 + (nd - 1)) 2), .ref (ad (1 + (nd - 1)) 11), .ref (ad (1 + (nd - 1)) 12), .ref (ad (1 + (nd - 1)) 3), .ref (ad (1 + (nd - 1)) 4), .int sd_55]) := (p_122 (1 + (nd - 1)) 0 (fun q9 => nr_z q9.2 (by decide)) (fun q9 => nr_z q9.2 (by decide)) (fun q9 => nr_z q9.2 (by decide))).trans c_56
                      have c_135 : E115 (1 + (nd - 1)) 1 = .inr (8, [.ref (ad (1 + (nd - 1)) 5), .int (nI k0_55)]) := (p_122 (1 + (nd - 1)) 1 (fun q9 => nr_z q9.2 (by decide)) (fun q9 => nr_z q9.2 (by decide)) (fun q9 => nr_z q9.2 (by decide))).trans c_58
                      have c_136 : E115 (1 + (nd - 1)) 2 = .inr (8, [.ref (ad (1 + (nd - 1)) 6), .int (nI k1_55)]) := (p_122 (1 + (nd - 1)) 2 (fun q9 => nr_z q9.2 (by decide)) (fun q9 => nr_z q9.2 (by decide)) (fun q9 => nr_z q9.2 (by decide))).trans c_60
                      have c_137 : E115 (1 + (nd - 1)) 3 = .inr (8, [.ref (ad (1 + (nd - 1)) 7), .int (nI k2_55)]) := (p_122 (1 + (nd - 1)) 3 (fun q9 => nr_z q9.2 (by decide)) (fun q9 => nr_z q9.2 (by decide)) (fun q9 => nr_z q9.2 (by decide))).trans c_62
                      have c_138 : E115 (1 + (nd - 1)) 4 = .inr (8, [.ref (ad (1 + (nd - 1)) 8), .int (nI k3_55)]) := (p_122 (1 + (nd - 1)) 4 (fun q9 => nr_z q9.2 (by decide)) (fun q9 => nr_z q9.2 (by decide)) (fun q9 => nr_z q9.2 (by decide))).trans c_64
                      have c_139 : E115 (1 + (nd - 1)) 5 = .inl (kA 0, 6, .inl f0_55) := (p_122 (1 + (nd - 1)) 5 (fun q9 => nr_z q9.2 (by decide)) (fun q9 => nr_z q9.2 (by decide)) (fun q9 => nr_z q9.2 (by decide))).trans c_66
                      have c_140 : E115 (1 + (nd - 1)) 6 = .inl (kA 0, 5, .inl f1_55) := (p_122 (1 + (nd - 1)) 6 (fun q9 => nr_z q9.2 (by decide)) (fun q9 => nr_z q9.2 (by decide)) (fun q9 => nr_z q9.2 (by decide))).trans c_68
                      have c_141 : E115 (1 + (nd - 1)) 7 = .inl (kA 0, 3, .inl f2_55) := (p_122 (1 + (nd - 1)) 7 (fun q9 => nr_z q9.2 (by decide)) (fun q9 => nr_z q9.2 (by decide)) (fun q9 => nr_z q9.2 (by decide))).trans c_70
                      have c_142 : E115 (1 + (nd - 1)) 8 = .inl (kA 0, 3, .inl f3_55) := (p_122 (1 + (nd - 1)) 8 (fun q9 => nr_z q9.2 (by decide)) (fun q9 => nr_z q9.2 (by decide)) (fun q9 => nr_z q9.2 (by decide))).trans c_72
                      have c_143 : E115 (1 + (nd - 1)) 9 = .inl (kA 8, 6, .inr (.inr (.inr (.inr fe_55)))) := (p_122 (1 + (nd - 1)) 9 (fun q9 => nr_z q9.2 (by decide)) (fun q9 => nr_z q9.2 (by decide)) (fun q9 => nr_z q9.2 (by decide))).trans c_74
                      have c_144 : E115 (1 + (nd - 1)) 10 = .inl (kA 8, 6, .inr (.inr (.inr (.inr fo_55)))) := (p_122 (1 + (nd - 1)) 10 (fun q9 => nr_z q9.2 (by decide)) (fun q9 => nr_z q9.2 (by decide)) (fun q9 => nr_z q9.2 (by decide))).trans c_76
                      have c_145 : E115 (1 + (nd - 1)) 11 = .inl (kA 2, 5, .inl tr_55) := (p_122 (1 + (nd - 1)) 11 (fun q9 => nr_z q9.2 (by decide)) (fun q9 => nr_z q9.2 (by decide)) (fun q9 => nr_z q9.2 (by decide))).trans c_78
                      have c_146 : E115 (1 + (nd - 1)) 12 = .inl (kA 2, 5, .inl op_55) := (p_122 (1 + (nd - 1)) 12 (fun q9 => nr_z q9.2 (by decide)) (fun q9 => nr_z q9.2 (by decide)) (fun q9 => nr_z q9.2 (by decide))).trans c_80
                      have hP : va_P D xcl (rp ad E115 RL) H := hP
                      have hD : va_D A (rp ad E115 RL) := hD
                      have hok9 : okG (g 0) wl nd g := ⟨Or.inr ⟨by omega, hw9, hc43⟩, hc47, by omega, by rw [← tsd_55]; exact hc103⟩
                      have hnew9 : w116 = (lG 7 9 (g 0) wl nd g) 9 (6 * (nd - 1) + z92) ∧ (w116 = 0 → NT w117 w118 (fun j => (lG 7 9 (g 0) wl nd g) 7 (3 * (6 * (nd - 1) + z92) + j))) := by rw [lG_w4 hpi9 hok9 (by omega)]; exact gr_upd (by decide) hn_96 htg9.1 htg9.2 (wN_pos.mp hc43) hp123.2
                      have hTD9 := (show TD (lG 7 9 (g 0) wl nd g) (E115 (1 + (nd - 1))) (nd - 1) from TD_mk (by omega) (by omega) (by omega) (by omega) c_134 c_135 c_136 c_137 c_138 c_139 c_140 c_141 c_142 c_145 c_146 (TT_G (by omega) hTT_55) (gr_all7 (i := z92) hk0_55 (lG_ne (by decide) (by decide) : (lG 7 9 (g 0) wl nd g) 8 = g 8) (lG_ne (by decide) (by decide) : (lG 7 9 (g 0) wl nd g) 10 = g 10) (lG_oth (by decide) hpi9 (by omega)) (by omega) (fun o9 h19 h29 h39 => (show E115 (1 + (nd - 1)) o9 = E (1 + (nd - 1)) o9 from by show E115 (1 + (nd - 1)) o9 = _; rw [p_122 (1 + (nd - 1)) o9 (by omega) (by omega) (by omega)])) (TG_mk hp123.1 p_119 p_120 p_121 hnew9.1 hnew9.2) tgr_55))
                      have hTD2 : TDs (lG 7 9 (g 0) wl nd g) E115 nd := TDs_upd (x := nd - 1) hDIs (fun d9 hd9 hx9 => fun2 fun o9 => by show E115 (1 + d9) o9 = _; rw [p_122 (1 + d9) o9 (by omega) (by omega) (by omega)]) (fun d9 hd9 hx9 => AG_G (by omega) (by omega) hx9) hTD9 hTD
                      have hFRL : FRL ml nd ad ad E E115 := ⟨fun n9 hn9 => ⟨fun2 fun o9 => by show E115 (20 + n9) o9 = _; rw [p_122 (20 + n9) o9 (by omega) (by omega) (by omega)], fun2 fun o9 => rfl⟩, fun d9 hd9 => rfl, by show E115 0 0 = _; rw [p_122 0 0 (by omega) (by omega) (by omega)]⟩
                      have hCI : CI kA ad E115 RL ml nd len wl.length cs := ⟨hmB, ⟨lf_1, c_124⟩, ⟨tx_4, fb_4, fe_4, (by omega), (by omega), c_125, c_126, c_127, c_128, hws_4⟩, ⟨fd_13, (by omega), c_129, c_130, hds_13⟩, ⟨cf_18, pv_18, fc_18, (by omega), hpv_18, c_131, c_132, hfc_18⟩, ⟨fl_23, (by omega), c_133, hla_23⟩, (DIs_set (x := nd - 1) (fun d9 hd9 hx9 => fun2 fun o9 => by show E115 (1 + d9) o9 = _; rw [p_122 (1 + d9) o9 (by omega) (by omega) (by omega)]) (fun _ _ _ => rfl) (fun _ h => h) (DI_gr (o0 := 20) (i := z92) (hDIs (nd - 1) (by omega)) (by omega) (by omega) (fun o9 h19 h29 h39 => by show E115 (1 + (nd - 1)) o9 = _; rw [p_122 (1 + (nd - 1)) o9 (by omega) (by omega) (by omega)]) ⟨m_98, m_100, m_102, w116, w117, w118, hp123.1, p_119, p_120, p_121⟩) hDIs), (LIs_same (Nat.le_refl _) (fun n9 hn9 => fun2 fun o9 => by show E115 (20 + n9) o9 = _; rw [p_122 (20 + n9) o9 (by omega) (by omega) (by omega)]) (fun _ _ => rfl) (fun _ _ => rfl) (fun _ h9 => h9) hLIs)⟩
                      obtain ⟨hmB, hDk, hLi, hSh, hCh, hLa, hDIs, hLIs⟩ := id hCI
                      refine lv_iconst (v := 2) hx hb xd_Sh_acceptGrant_146 (by decide) ?_
                      refine W.widen (k := 0) (n := 0) (Nat.le_of_ble_eq_true rfl) (Nat.le_of_ble_eq_true rfl) ?_
                      exact W.iret (v := 2) hx hb hr (fun t ht hW => ⟨⟨2, (ad, E115, RL), rfl, (by rw [cif_pos hw2]; exact ⟨hCI, hTD2, rfl, hFRL⟩), by rw [ht]; exact hP, hD⟩, hS.F ht⟩) hS.2.2 xd_Sh_acceptGrant_147
                    · refine W.eq (g2 := F0 m 134 ls [.int 0]) rfl ?_
                      refine lv_if_ne (tgt := 140) hx hb xd_Sh_acceptGrant_134 (by decide) (fun hc147 => absurd (by decide) hc147) (fun _ => ?_)
                      refine lv_bipush (v := (-2)) hx hb xd_Sh_acceptGrant_137 (by decide) ?_
                      refine W.widen (k := 0) (n := 0) (Nat.le_of_ble_eq_true rfl) (Nat.le_of_ble_eq_true rfl) ?_
                      exact W.iret (v := (-2)) hx hb hr (fun t ht hW => ⟨⟨(-2), (ad, E, RL), rfl, ⟨hCI, by
          have hta : ta_96 = 0 := Decidable.byContradiction (fun q => z109 (Or.inl q))
          rw [cif_pos hw2, lG_w4 hpi9 ⟨Or.inr ⟨by omega, hw9, hc43⟩, hc47, by omega, by rw [← tsd_55]; exact hc103⟩ (by omega), NT_ful (htg9.2 hta) z110 (fun q => z109 (Or.inr q))]
          exact hTD, rfl, FRL_rf⟩, by rw [ht]; exact hP, hD⟩, hS.F ht⟩) hS.2.2 xd_Sh_acceptGrant_139
              · have hw2 : ¬ wS (g 0) wl 0 zEx := by have q := z86; rw [zw2] at q; exact q
                refine W.eq (g2 := F0 m 93 ls [.int 0]) rfl ?_
                refine lv_if_eq (tgt := 105) hx hb xd_Sh_acceptGrant_93 (by decide) (fun _ => ?_) (fun hc148 => absurd (by decide) hc148)
                refine lv_aload hx hb xd_Sh_acceptGrant_105 (lv_at hl 0 rfl) ?_
                refine lv_iload_n hx hb xd_Sh_acceptGrant_107 rfl (lv_at hl 3 rfl) ?_
                have hFc := px_free hD hS hA
                refine va_callq (va_runV (As := [.int (wN (g 0) wl 1)]) (rest := []) ⟨hx, hb, hml, hown, hT⟩ (xc_Ds_openingOfX l D kA H.size ad E RL g nd (nd - 1) (wN (g 0) wl 1) (by first | assumption | omega) (by first | assumption | omega) (by first | assumption | omega)) (cwV 1 hT (wT_V k5i_31 k5i_32 k5i_33 k5i_19 k5i_30) rfl rfl rfl (by decide +kernel) ⟨Nat.le_of_ble_eq_true rfl, Nat.le_of_ble_eq_true rfl⟩) (px_preV hK hP hD m_57 c_56 rfl) rfl rfl hl.1 rfl (lv_room (Nat.le_of_ble_eq_true rfl)) xd_Sh_acceptGrant_108 ⟨(Nat.le_of_ble_eq_true rfl), (Nat.le_of_ble_eq_true rfl)⟩) hS (fun q _ h => hFc q h) hFc (fun r149 u150 t H1 locs ht hvm hp151 hB hz1 hk1 hS => ?_)
                obtain ⟨hP1, hD1⟩ := hB
                rw [ht] at hP1
                have hD1 := hD1.weaken (fun _ _ _ h => hFc _ h)
                generalize H1 = H at hP1 hS ⊢
                have hP := hP1
                have hD := hD1
                have hP : va_P D xcl (rp ad E RL) H := hP
                have hD : va_D A (rp ad E RL) := hD
                rcases hp151 with ⟨rfl, z152⟩ | ⟨z153, z154, rfl, z155, z156⟩
                · refine W.eq (g2 := F0 m 111 ls [.null]) rfl ?_
                  refine lv_astoreN hx hb xd_Sh_acceptGrant_111 hl (Nat.le_of_ble_eq_true rfl) rfl (fun ls hl => ?_)
                  have hl : lv_has ls 7 [(6, .null), (5, .ref (ad (1 + (nd - 1)) 0)), (4, .int 1), (3, .int (wN (g 0) wl 3)), (2, .int (wN (g 0) wl 1)), (0, .ref (ad 0 5)), (1, .ref (ad 0 1))] := hl
                  refine lv_aloadN hx hb xd_Sh_acceptGrant_113 (lv_at hl 0 rfl) ?_
                  refine lv_ifnonnullN hx hb xd_Sh_acceptGrant_115 ?_
                  refine lv_iconst (v := (-1)) hx hb xd_Sh_acceptGrant_118 (by decide) ?_
                  refine W.widen (k := 0) (n := 0) (Nat.le_of_ble_eq_true rfl) (Nat.le_of_ble_eq_true rfl) ?_
                  exact W.iret (v := (-1)) hx hb hr (fun t ht hW => ⟨⟨(-1), (ad, E, RL), rfl, ⟨hCI, by rw [cif_neg hw2, ← lG_no2 z152]; exact hTD, rfl, FRL_rf⟩, by rw [ht]; exact hP, hD⟩, hS.F ht⟩) hS.2.2 xd_Sh_acceptGrant_119
                · refine W.eq (g2 := F0 m 111 ls [.ref (ad (1 + (nd - 1)) (38 + 3 * z153))]) rfl ?_
                  obtain ⟨m0_157, m1_157, m2_157, ta_157, n_157, f_157, hn_157, q0_157, q1_157, q2_157⟩ := z155
                  have c_158 : E (1 + (nd - 1)) (38 + 3 * z153) = .inr (9, [.ref (ad (1 + (nd - 1)) (39 + 3 * z153)), .int ta_157]) := q0_157
                  have m_159 : (1 + (nd - 1), 38 + 3 * z153) ∈ RL := m0_157
                  have c_160 : E (1 + (nd - 1)) (39 + 3 * z153) = .inr (8, [.ref (ad (1 + (nd - 1)) (40 + 3 * z153)), .int (nI n_157)]) := q1_157
                  have m_161 : (1 + (nd - 1), 39 + 3 * z153) ∈ RL := m1_157
                  have c_162 : E (1 + (nd - 1)) (40 + 3 * z153) = .inl (kA 0, 3, .inl f_157) := q2_157
                  have m_163 : (1 + (nd - 1), 40 + 3 * z153) ∈ RL := m2_157
                  have hpi9 : pI g (nd - 1) (wN (g 0) wl 1) = some z153 := z156
                  have hik9 : z153 < k0_55 := by have q := (ff_is hpi9).1; rw [ik0_55] at q; exact q
                  have htg9 := TG_get hn_157 c_158 c_160 c_162 (tgr_55 z153 hik9).2
                  refine lv_astore hx hb xd_Sh_acceptGrant_111 hl (Nat.le_of_ble_eq_true rfl) rfl (fun ls hl => ?_)
                  have hl : lv_has ls 7 [(6, .ref (ad (1 + (nd - 1)) (38 + 3 * z153))), (5, .ref (ad (1 + (nd - 1)) 0)), (4, .int 1), (3, .int (wN (g 0) wl 3)), (2, .int (wN (g 0) wl 1)), (0, .ref (ad 0 5)), (1, .ref (ad 0 1))] := hl
                  refine lv_aload hx hb xd_Sh_acceptGrant_113 (lv_at hl 0 rfl) ?_
                  refine lv_ifnonnull (tgt := 120) hx hb xd_Sh_acceptGrant_115 (by decide) ?_
                  refine lv_aload hx hb xd_Sh_acceptGrant_120 (lv_at hl 1 rfl) ?_
                  refine px_get (D := D) (ci := 7) (v := .int sd_55) (C := xR_Ds) (T := xT_Ds) (N := 12) hx hb hT xi_Ds hown hK.1 hP m_57 c_56 rfl 11 (by decide) (hT _ k5i_20) (fun _ h9 => h9) rfl xd_Sh_acceptGrant_122 ?_
                  refine lv_if_ne (tgt := 137) hx hb xd_Sh_acceptGrant_125 (by decide) (fun hc164 => ?_) (fun hc164 => ?_)
                  · refine lv_bipush (v := (-2)) hx hb xd_Sh_acceptGrant_137 (by decide) ?_
                    refine W.widen (k := 0) (n := 0) (Nat.le_of_ble_eq_true rfl) (Nat.le_of_ble_eq_true rfl) ?_
                    exact W.iret (v := (-2)) hx hb hr (fun t ht hW => ⟨⟨(-2), (ad, E, RL), rfl, ⟨hCI, by rw [cif_neg hw2, ← lG_no1 (fun q => hc164 (by rw [tsd_55]; exact q.2.2.2))]; exact hTD, rfl, FRL_rf⟩, by rw [ht]; exact hP, hD⟩, hS.F ht⟩) hS.2.2 xd_Sh_acceptGrant_139
                  · refine lv_aload hx hb xd_Sh_acceptGrant_128 (lv_at hl 0 rfl) ?_
                    refine lv_iload_n hx hb xd_Sh_acceptGrant_130 rfl (lv_at hl 3 rfl) ?_
                    have hFc := px_free hD hS hA
                    refine va_calli (va_runV (As := [.int (wN (g 0) wl 3)]) (rest := []) ⟨hx, hb, hml, hown, hT⟩ (xc_Gr_hasRoomForX l D kA H.size ad E RL (1 + (nd - 1)) (38 + 3 * z153) (39 + 3 * z153) (40 + 3 * z153) ta_157 n_157 f_157 (wN (g 0) wl 3) m_159 c_158 m_161 c_160 m_163 c_162 (by first | assumption | omega)) (cwV 1 hT (wT_V k5i_22 k5i_23 k5i_24 k5i_25 k5i_21) rfl rfl rfl (by decide +kernel) ⟨Nat.le_of_ble_eq_true rfl, Nat.le_of_ble_eq_true rfl⟩) (px_preV hK hP hD m_159 c_158 rfl) rfl rfl hl.1 rfl (lv_room (Nat.le_of_ble_eq_true rfl)) xd_Sh_acceptGrant_131 ⟨(Nat.le_of_ble_eq_true rfl), (Nat.le_of_ble_eq_true rfl)⟩) hS (fun q _ h => hFc q h) hFc (fun r165 u166 t H1 locs ht hvm hp167 hB hz1 hk1 hS => ?_)
                    obtain ⟨hP1, hD1⟩ := hB
                    rw [ht] at hP1
                    have hD1 := hD1.weaken (fun _ _ _ h => hFc _ h)
                    generalize H1 = H at hP1 hS ⊢
                    have hP := hP1
                    have hD := hD1
                    have hP : va_P D xcl (rp ad E RL) H := hP
                    have hD : va_D A (rp ad E RL) := hD
                    rcases hp167 with ⟨rfl, z168⟩ | ⟨rfl, z169, z170, z171⟩
                    · refine W.eq (g2 := F0 m 134 ls [.int 1]) rfl ?_
                      refine lv_if_ne (tgt := 140) hx hb xd_Sh_acceptGrant_134 (by decide) (fun _ => ?_) (fun hc172 => absurd hc172 (by decide))
                      refine lv_aload hx hb xd_Sh_acceptGrant_140 (lv_at hl 0 rfl) ?_
                      refine lv_iload_n hx hb xd_Sh_acceptGrant_142 rfl (lv_at hl 3 rfl) ?_
                      have hFc := px_free hD hS hA
                      refine va_callv (va_runV (As := [.int (wN (g 0) wl 3)]) (rest := []) ⟨hx, hb, hml, hown, hT⟩ (xc_Gr_extendToX l D kA H.size ad E RL (1 + (nd - 1)) (38 + 3 * z153) (39 + 3 * z153) (40 + 3 * z153) ta_157 n_157 f_157 (wN (g 0) wl 3) m_159 c_158 m_161 c_160 m_163 c_162 (by first | assumption | omega) (by first | assumption | omega)) (cwV 1 hT (wT_V k5i_27 k5i_28 k5i_29 k5i_25 k5i_26) rfl rfl rfl (by decide +kernel) ⟨Nat.le_of_ble_eq_true rfl, Nat.le_of_ble_eq_true rfl⟩) (px_preV hK hP hD m_159 c_158 rfl) rfl rfl hl.1 rfl (lv_room (Nat.le_of_ble_eq_true rfl)) xd_Sh_acceptGrant_143 ⟨(Nat.le_of_ble_eq_true rfl), (Nat.le_of_ble_eq_true rfl)⟩) hS (fun q _ h => hFc q h) hFc (fun u174 t H1 locs ht hvm hp175 hB hz1 hk1 hS => ?_)
                      obtain ⟨hP1, hD1⟩ := hB
                      rw [ht] at hP1
                      have hD1 := hD1.weaken (fun _ _ _ h => hFc _ h)
                      generalize H1 = H at hP1 hS ⊢
                      have hP := hP1
                      have hD := hD1
                      obtain ⟨E176, rfl⟩ : ∃ z, z = u174 := ⟨_, rfl⟩
                      obtain ⟨w177, w178, w179, hp184, p_180, p_181, p_182, p_183⟩ := hp175
                      have p_180 : E176 (1 + (nd - 1)) (38 + 3 * z153) = .inr (9, [.ref (ad (1 + (nd - 1)) (39 + 3 * z153)), .int w177]) := p_180
                      have p_181 : E176 (1 + (nd - 1)) (39 + 3 * z153) = .inr (8, [.ref (ad (1 + (nd - 1)) (40 + 3 * z153)), .int (nI w178)]) := p_181
                      have p_182 : E176 (1 + (nd - 1)) (40 + 3 * z153) = .inl (kA 0, 3, .inl w179) := p_182
                      have p_183 : (∀ b2 o2, ¬ (b2 = (1 + (nd - 1)) ∧ o2 = (38 + 3 * z153)) → ¬ (b2 = (1 + (nd - 1)) ∧ o2 = (39 + 3 * z153)) → ¬ (b2 = (1 + (nd - 1)) ∧ o2 = (40 + 3 * z153)) → E176 b2 o2 = E b2 o2) := p_183
                      have c_185 : E176 0 0 = .inr (0, [.ref (ad 0 1), .ref (ad 0 5), .ref (ad 0 7), .ref (ad 0 9), .int (nI ml), .int lf_1]) := (p_183 0 0 (fun q9 => nr_z q9.2 (by decide)) (fun q9 => nr_z q9.2 (by decide)) (fun q9 => nr_z q9.2 (by decide))).trans c_2
                      have c_186 : E176 0 1 = .inr (1, [.ref (ad 0 2), .ref (ad 0 3), .ref (ad 0 4), .int (nI len), .int (nI (wl.length))]) := (p_183 0 1 (fun q9 => nr_z q9.2 (by decide)) (fun q9 => nr_z q9.2 (by decide)) (fun q9 => nr_z q9.2 (by decide))).trans c_5
                      have c_187 : E176 0 2 = .inl (kA 1, 40, .inl tx_4) := (p_183 0 2 (fun q9 => nr_z q9.2 (by decide)) (fun q9 => nr_z q9.2 (by decide)) (fun q9 => nr_z q9.2 (by decide))).trans c_7
                      have c_188 : E176 0 3 = .inl (kA 0, 20, .inl fb_4) := (p_183 0 3 (fun q9 => nr_z q9.2 (by decide)) (fun q9 => nr_z q9.2 (by decide)) (fun q9 => nr_z q9.2 (by decide))).trans c_9
                      have c_189 : E176 0 4 = .inl (kA 0, 20, .inl fe_4) := (p_183 0 4 (fun q9 => nr_z q9.2 (by decide)) (fun q9 => nr_z q9.2 (by decide)) (fun q9 => nr_z q9.2 (by decide))).trans c_11
                      have c_190 : E176 0 5 = .inr (2, [.ref (ad 0 6), .int (nI nd)]) := (p_183 0 5 (fun q9 => nr_z q9.2 (by decide)) (fun q9 => nr_z q9.2 (by decide)) (fun q9 => nr_z q9.2 (by decide))).trans c_14
                      have c_191 : E176 0 6 = .inl (kA 4, 12, .inr (.inr (.inr (.inr fd_13)))) := (p_183 0 6 (fun q9 => nr_z q9.2 (by decide)) (fun q9 => nr_z q9.2 (by decide)) (fun q9 => nr_z q9.2 (by decide))).trans c_16
                      have c_192 : E176 0 7 = .inr (3, [.ref (ad 0 5), .ref (ad 0 8), .int (nI cs), .int cf_18, pv_18]) := (p_183 0 7 (fun q9 => nr_z q9.2 (by decide)) (fun q9 => nr_z q9.2 (by decide)) (fun q9 => nr_z q9.2 (by decide))).trans c_19
                      have c_193 : E176 0 8 = .inl (kA 4, 12, .inr (.inr (.inr (.inr fc_18)))) := (p_183 0 8 (fun q9 => nr_z q9.2 (by decide)) (fun q9 => nr_z q9.2 (by decide)) (fun q9 => nr_z q9.2 (by decide))).trans c_21
                      have c_194 : E176 0 9 = .inl (kA 5, 5, .inr (.inr (.inr (.inr fl_23)))) := (p_183 0 9 (fun q9 => nr_z q9.2 (by decide)) (fun q9 => nr_z q9.2 (by decide)) (fun q9 => nr_z q9.2 (by decide))).trans c_24
                      have c_195 : E176 (1 + (nd - 1)) 0 = .inr (7, [.int (nI ((nd - 1))), .int fd_55, .int nm_55, .ref (ad (1 + (nd - 1)) 1), .ref (ad (1 + (nd - 1)) 9), .ref (ad (1 + (nd - 1)) 10), .ref (ad (1 + (nd - 1)) 2), .ref (ad (1 + (nd - 1)) 11), .ref (ad (1 + (nd - 1)) 12), .ref (ad (1 + (nd - 1)) 3), .ref (ad (1 + (nd - 1)) 4), .int sd_55]) := (p_183 (1 + (nd - 1)) 0 (fun q9 => nr_z q9.2 (by decide)) (fun q9 => nr_z q9.2 (by decide)) (fun q9 => nr_z q9.2 (by decide))).trans c_56
                      have c_196 : E176 (1 + (nd - 1)) 1 = .inr (8, [.ref (ad (1 + (nd - 1)) 5), .int (nI k0_55)]) := (p_183 (1 + (nd - 1)) 1 (fun q9 => nr_z q9.2 (by decide)) (fun q9 => nr_z q9.2 (by decide)) (fun q9 => nr_z q9.2 (by decide))).trans c_58
                      have c_197 : E176 (1 + (nd - 1)) 2 = .inr (8, [.ref (ad (1 + (nd - 1)) 6), .int (nI k1_55)]) := (p_183 (1 + (nd - 1)) 2 (fun q9 => nr_z q9.2 (by decide)) (fun q9 => nr_z q9.2 (by decide)) (fun q9 => nr_z q9.2 (by decide))).trans c_60
                      have c_198 : E176 (1 + (nd - 1)) 3 = .inr (8, [.ref (ad (1 + (nd - 1)) 7), .int (nI k2_55)]) := (p_183 (1 + (nd - 1)) 3 (fun q9 => nr_z q9.2 (by decide)) (fun q9 => nr_z q9.2 (by decide)) (fun q9 => nr_z q9.2 (by decide))).trans c_62
                      have c_199 : E176 (1 + (nd - 1)) 4 = .inr (8, [.ref (ad (1 + (nd - 1)) 8), .int (nI k3_55)]) := (p_183 (1 + (nd - 1)) 4 (fun q9 => nr_z q9.2 (by decide)) (fun q9 => nr_z q9.2 (by decide)) (fun q9 => nr_z q9.2 (by decide))).trans c_64
                      have c_200 : E176 (1 + (nd - 1)) 5 = .inl (kA 0, 6, .inl f0_55) := (p_183 (1 + (nd - 1)) 5 (fun q9 => nr_z q9.2 (by decide)) (fun q9 => nr_z q9.2 (by decide)) (fun q9 => nr_z q9.2 (by decide))).trans c_66
                      have c_201 : E176 (1 + (nd - 1)) 6 = .inl (kA 0, 5, .inl f1_55) := (p_183 (1 + (nd - 1)) 6 (fun q9 => nr_z q9.2 (by decide)) (fun q9 => nr_z q9.2 (by decide)) (fun q9 => nr_z q9.2 (by decide))).trans c_68
                      have c_202 : E176 (1 + (nd - 1)) 7 = .inl (kA 0, 3, .inl f2_55) := (p_183 (1 + (nd - 1)) 7 (fun q9 => nr_z q9.2 (by decide)) (fun q9 => nr_z q9.2 (by decide)) (fun q9 => nr_z q9.2 (by decide))).trans c_70
                      have c_203 : E176 (1 + (nd - 1)) 8 = .inl (kA 0, 3, .inl f3_55) := (p_183 (1 + (nd - 1)) 8 (fun q9 => nr_z q9.2 (by decide)) (fun q9 => nr_z q9.2 (by decide)) (fun q9 => nr_z q9.2 (by decide))).trans c_72
                      have c_204 : E176 (1 + (nd - 1)) 9 = .inl (kA 8, 6, .inr (.inr (.inr (.inr fe_55)))) := (p_183 (1 + (nd - 1)) 9 (fun q9 => nr_z q9.2 (by decide)) (fun q9 => nr_z q9.2 (by decide)) (fun q9 => nr_z q9.2 (by decide))).trans c_74
                      have c_205 : E176 (1 + (nd - 1)) 10 = .inl (kA 8, 6, .inr (.inr (.inr (.inr fo_55)))) := (p_183 (1 + (nd - 1)) 10 (fun q9 => nr_z q9.2 (by decide)) (fun q9 => nr_z q9.2 (by decide)) (fun q9 => nr_z q9.2 (by decide))).trans c_76
                      have c_206 : E176 (1 + (nd - 1)) 11 = .inl (kA 2, 5, .inl tr_55) := (p_183 (1 + (nd - 1)) 11 (fun q9 => nr_z q9.2 (by decide)) (fun q9 => nr_z q9.2 (by decide)) (fun q9 => nr_z q9.2 (by decide))).trans c_78
                      have c_207 : E176 (1 + (nd - 1)) 12 = .inl (kA 2, 5, .inl op_55) := (p_183 (1 + (nd - 1)) 12 (fun q9 => nr_z q9.2 (by decide)) (fun q9 => nr_z q9.2 (by decide)) (fun q9 => nr_z q9.2 (by decide))).trans c_80
                      have hP : va_P D xcl (rp ad E176 RL) H := hP
                      have hD : va_D A (rp ad E176 RL) := hD
                      have hok9 : okG (g 0) wl nd g := ⟨Or.inr ⟨by omega, hw9, hc43⟩, hc47, by omega, by rw [← tsd_55]; exact hc164⟩
                      have hnew9 : w177 = (lG 8 10 (g 0) wl nd g) 10 (6 * (nd - 1) + z153) ∧ (w177 = 0 → NT w178 w179 (fun j => (lG 8 10 (g 0) wl nd g) 8 (3 * (6 * (nd - 1) + z153) + j))) := by rw [lG_w4 hpi9 hok9 (by omega)]; exact gr_upd (by decide) hn_157 htg9.1 htg9.2 (wN_pos.mp hc43) hp184.2
                      have hTD9 := (show TD (lG 8 10 (g 0) wl nd g) (E176 (1 + (nd - 1))) (nd - 1) from TD_mk (by omega) (by omega) (by omega) (by omega) c_195 c_196 c_197 c_198 c_199 c_200 c_201 c_202 c_203 c_206 c_207 (TT_G (by omega) hTT_55) (gr_all8 (i := z153) hk0_55 (lG_ne (by decide) (by decide) : (lG 8 10 (g 0) wl nd g) 7 = g 7) (lG_ne (by decide) (by decide) : (lG 8 10 (g 0) wl nd g) 9 = g 9) (lG_oth (by decide) hpi9 (by omega)) (by omega) (fun o9 h19 h29 h39 => (show E176 (1 + (nd - 1)) o9 = E (1 + (nd - 1)) o9 from by show E176 (1 + (nd - 1)) o9 = _; rw [p_183 (1 + (nd - 1)) o9 (by omega) (by omega) (by omega)])) (TG_mk hp184.1 p_180 p_181 p_182 hnew9.1 hnew9.2) tgr_55))
                      have hTD2 : TDs (lG 8 10 (g 0) wl nd g) E176 nd := TDs_upd (x := nd - 1) hDIs (fun d9 hd9 hx9 => fun2 fun o9 => by show E176 (1 + d9) o9 = _; rw [p_183 (1 + d9) o9 (by omega) (by omega) (by omega)]) (fun d9 hd9 hx9 => AG_G (by omega) (by omega) hx9) hTD9 hTD
                      have hFRL : FRL ml nd ad ad E E176 := ⟨fun n9 hn9 => ⟨fun2 fun o9 => by show E176 (20 + n9) o9 = _; rw [p_183 (20 + n9) o9 (by omega) (by omega) (by omega)], fun2 fun o9 => rfl⟩, fun d9 hd9 => rfl, by show E176 0 0 = _; rw [p_183 0 0 (by omega) (by omega) (by omega)]⟩
                      have hCI : CI kA ad E176 RL ml nd len wl.length cs := ⟨hmB, ⟨lf_1, c_185⟩, ⟨tx_4, fb_4, fe_4, (by omega), (by omega), c_186, c_187, c_188, c_189, hws_4⟩, ⟨fd_13, (by omega), c_190, c_191, hds_13⟩, ⟨cf_18, pv_18, fc_18, (by omega), hpv_18, c_192, c_193, hfc_18⟩, ⟨fl_23, (by omega), c_194, hla_23⟩, (DIs_set (x := nd - 1) (fun d9 hd9 hx9 => fun2 fun o9 => by show E176 (1 + d9) o9 = _; rw [p_183 (1 + d9) o9 (by omega) (by omega) (by omega)]) (fun _ _ _ => rfl) (fun _ h => h) (DI_gr (o0 := 38) (i := z153) (hDIs (nd - 1) (by omega)) (by omega) (by omega) (fun o9 h19 h29 h39 => by show E176 (1 + (nd - 1)) o9 = _; rw [p_183 (1 + (nd - 1)) o9 (by omega) (by omega) (by omega)]) ⟨m_159, m_161, m_163, w177, w178, w179, hp184.1, p_180, p_181, p_182⟩) hDIs), (LIs_same (Nat.le_refl _) (fun n9 hn9 => fun2 fun o9 => by show E176 (20 + n9) o9 = _; rw [p_183 (20 + n9) o9 (by omega) (by omega) (by omega)]) (fun _ _ => rfl) (fun _ _ => rfl) (fun _ h9 => h9) hLIs)⟩
                      obtain ⟨hmB, hDk, hLi, hSh, hCh, hLa, hDIs, hLIs⟩ := id hCI
                      refine lv_iconst (v := 2) hx hb xd_Sh_acceptGrant_146 (by decide) ?_
                      refine W.widen (k := 0) (n := 0) (Nat.le_of_ble_eq_true rfl) (Nat.le_of_ble_eq_true rfl) ?_
                      exact W.iret (v := 2) hx hb hr (fun t ht hW => ⟨⟨2, (ad, E176, RL), rfl, (by rw [cif_neg hw2]; exact ⟨hCI, hTD2, rfl, hFRL⟩), by rw [ht]; exact hP, hD⟩, hS.F ht⟩) hS.2.2 xd_Sh_acceptGrant_147
                    · refine W.eq (g2 := F0 m 134 ls [.int 0]) rfl ?_
                      refine lv_if_ne (tgt := 140) hx hb xd_Sh_acceptGrant_134 (by decide) (fun hc208 => absurd (by decide) hc208) (fun _ => ?_)
                      refine lv_bipush (v := (-2)) hx hb xd_Sh_acceptGrant_137 (by decide) ?_
                      refine W.widen (k := 0) (n := 0) (Nat.le_of_ble_eq_true rfl) (Nat.le_of_ble_eq_true rfl) ?_
                      exact W.iret (v := (-2)) hx hb hr (fun t ht hW => ⟨⟨(-2), (ad, E, RL), rfl, ⟨hCI, by
          have hta : ta_157 = 0 := Decidable.byContradiction (fun q => z170 (Or.inl q))
          rw [cif_neg hw2, lG_w4 hpi9 ⟨Or.inr ⟨by omega, hw9, hc43⟩, hc47, by omega, by rw [← tsd_55]; exact hc164⟩ (by omega), NT_ful (htg9.2 hta) z171 (fun q => z170 (Or.inr q))]
          exact hTD, rfl, FRL_rf⟩, by rw [ht]; exact hP, hD⟩, hS.F ht⟩) hS.2.2 xd_Sh_acceptGrant_139
      · have hw9 : ¬ wS (g 0) wl 2 zTo := by have q := z41; rw [zw9] at q; exact q
        refine W.eq (g2 := F0 m 39 ls [.int 0]) rfl ?_
        refine lv_if_eq (tgt := 50) hx hb xd_Sh_acceptGrant_39 (by decide) (fun _ => ?_) (fun hc209 => absurd (by decide) hc209)
        refine lv_iconst (v := 0) hx hb xd_Sh_acceptGrant_50 (by decide) ?_
        refine lv_istore hx hb xd_Sh_acceptGrant_51 hl (Nat.le_of_ble_eq_true rfl) rfl (fun ls hl => ?_)
        have hl : lv_has ls 7 [(4, .int 0), (3, .int (wN (g 0) wl 3)), (2, .int (wN (g 0) wl 1)), (0, .ref (ad 0 5)), (1, .ref (ad 0 1))] := hl
        refine lv_iload_n hx hb xd_Sh_acceptGrant_53 rfl (lv_at hl 2 rfl) ?_
        refine lv_if_eq (tgt := 70) hx hb xd_Sh_acceptGrant_54 (by decide) (fun hc210 => ?_) (fun hc210 => ?_)
        · refine lv_iconst (v := (-1)) hx hb xd_Sh_acceptGrant_70 (by decide) ?_
          refine W.widen (k := 0) (n := 0) (Nat.le_of_ble_eq_true rfl) (Nat.le_of_ble_eq_true rfl) ?_
          exact W.iret (v := (-1)) hx hb hr (fun t ht hW => ⟨⟨(-1), (ad, E, RL), rfl, ⟨hCI, by rw [cif_eq (lG_no1 (a := 7) (a2 := 9) (fun q => q.2.1 hc210)).symm (lG_no1 (a := 8) (a2 := 10) (fun q => q.2.1 hc210)).symm]; exact hTD, rfl, FRL_rf⟩, by rw [ht]; exact hP, hD⟩, hS.F ht⟩) hS.2.2 xd_Sh_acceptGrant_71
        · refine lv_aload_n hx hb xd_Sh_acceptGrant_57 rfl (lv_at hl 4 rfl) ?_
          refine px_get (D := D) (ci := 1) (v := .int (nI (wl.length))) (C := xR_Li) (T := xT_Li) (N := 5) hx hb hT xi_Li hown hK.1 hP m_6 c_5 rfl 4 (by decide) (hT _ k5i_5) (fun _ h9 => h9) rfl xd_Sh_acceptGrant_58 ?_
          refine lv_iconst (v := 2) hx hb xd_Sh_acceptGrant_61 (by decide) ?_
          refine xn_eq (a := wl.length) (b := 2) (tgt := 72) hx hb xd_Sh_acceptGrant_62 (by decide) (by omega) (by omega) (fun hc211 => absurd hc211 (by omega)) (fun _ => ?_)
          refine lv_iload hx hb xd_Sh_acceptGrant_65 (lv_at hl 0 rfl) ?_
          refine lv_if_ne (tgt := 72) hx hb xd_Sh_acceptGrant_67 (by decide) (fun hc212 => absurd (by decide) hc212) (fun _ => ?_)
          refine lv_iconst (v := (-1)) hx hb xd_Sh_acceptGrant_70 (by decide) ?_
          refine W.widen (k := 0) (n := 0) (Nat.le_of_ble_eq_true rfl) (Nat.le_of_ble_eq_true rfl) ?_
          exact W.iret (v := (-1)) hx hb hr (fun t ht hW => ⟨⟨(-1), (ad, E, RL), rfl, ⟨hCI, by rw [cif_eq (lG_no1 (a := 7) (a2 := 9) (fun q => q.1.elim (fun z => absurd z (by omega)) (fun z => hw9 z.2.1))).symm (lG_no1 (a := 8) (a2 := 10) (fun q => q.1.elim (fun z => absurd z (by omega)) (fun z => hw9 z.2.1))).symm]; exact hTD, rfl, FRL_rf⟩, by rw [ht]; exact hP, hD⟩, hS.F ht⟩) hS.2.2 xd_Sh_acceptGrant_71
  · refine lv_iconst (v := 0) hx hb xd_Sh_acceptGrant_14 (by decide) ?_
    refine lv_goto (tgt := 23) hx hb xd_Sh_acceptGrant_15 (by decide) ?_
    refine lv_istore_n hx hb xd_Sh_acceptGrant_23 rfl hl (Nat.le_of_ble_eq_true rfl) rfl (fun ls hl => ?_)
    have hl : lv_has ls 7 [(3, .int 0), (2, .int (wN (g 0) wl 1)), (0, .ref (ad 0 5)), (1, .ref (ad 0 1))] := hl
    refine lv_aload_n hx hb xd_Sh_acceptGrant_24 rfl (lv_at hl 3 rfl) ?_
    refine px_get (D := D) (ci := 1) (v := .int (nI (wl.length))) (C := xR_Li) (T := xT_Li) (N := 5) hx hb hT xi_Li hown hK.1 hP m_6 c_5 rfl 4 (by decide) (hT _ k5i_5) (fun _ h9 => h9) rfl xd_Sh_acceptGrant_25 ?_
    refine lv_iconst (v := 4) hx hb xd_Sh_acceptGrant_28 (by decide) ?_
    refine xn_ne (a := wl.length) (b := 4) (tgt := 50) hx hb xd_Sh_acceptGrant_29 (by decide) (by omega) (by omega) (fun _ => ?_) (fun hc213 => absurd hc213 (by omega))
    refine lv_iconst (v := 0) hx hb xd_Sh_acceptGrant_50 (by decide) ?_
    refine lv_istore hx hb xd_Sh_acceptGrant_51 hl (Nat.le_of_ble_eq_true rfl) rfl (fun ls hl => ?_)
    have hl : lv_has ls 7 [(4, .int 0), (3, .int 0), (2, .int (wN (g 0) wl 1)), (0, .ref (ad 0 5)), (1, .ref (ad 0 1))] := hl
    refine lv_iload_n hx hb xd_Sh_acceptGrant_53 rfl (lv_at hl 2 rfl) ?_
    refine lv_if_eq (tgt := 70) hx hb xd_Sh_acceptGrant_54 (by decide) (fun hc214 => ?_) (fun hc214 => ?_)
    · refine lv_iconst (v := (-1)) hx hb xd_Sh_acceptGrant_70 (by decide) ?_
      refine W.widen (k := 0) (n := 0) (Nat.le_of_ble_eq_true rfl) (Nat.le_of_ble_eq_true rfl) ?_
      exact W.iret (v := (-1)) hx hb hr (fun t ht hW => ⟨⟨(-1), (ad, E, RL), rfl, ⟨hCI, by rw [cif_eq (lG_no1 (a := 7) (a2 := 9) (fun q => q.2.1 hc214)).symm (lG_no1 (a := 8) (a2 := 10) (fun q => q.2.1 hc214)).symm]; exact hTD, rfl, FRL_rf⟩, by rw [ht]; exact hP, hD⟩, hS.F ht⟩) hS.2.2 xd_Sh_acceptGrant_71
    · refine lv_aload_n hx hb xd_Sh_acceptGrant_57 rfl (lv_at hl 4 rfl) ?_
      refine px_get (D := D) (ci := 1) (v := .int (nI (wl.length))) (C := xR_Li) (T := xT_Li) (N := 5) hx hb hT xi_Li hown hK.1 hP m_6 c_5 rfl 4 (by decide) (hT _ k5i_5) (fun _ h9 => h9) rfl xd_Sh_acceptGrant_58 ?_
      refine lv_iconst (v := 2) hx hb xd_Sh_acceptGrant_61 (by decide) ?_
      refine xn_eq (a := wl.length) (b := 2) (tgt := 72) hx hb xd_Sh_acceptGrant_62 (by decide) (by omega) (by omega) (fun _ => ?_) (fun hc215 => absurd (by omega) hc215)
      refine lv_aload_n hx hb xd_Sh_acceptGrant_72 rfl (lv_at hl 3 rfl) ?_
      have hFc := px_free hD hS hA
      refine va_callq (va_runV (As := []) (rest := []) ⟨hx, hb, hml, hown, hT⟩ (xc_Sh_latestX l D kA H.size ad E RL ml nd len wl.length cs (by first | assumption | omega)) (cwV 0 hT (wT_V k5i_11 k5i_12 k5i_13 k5i_14 k5i_10) rfl rfl rfl (by decide +kernel) ⟨Nat.le_of_ble_eq_true rfl, Nat.le_of_ble_eq_true rfl⟩) (px_preV hK hP hD m_15 c_14 rfl) rfl rfl hl.1 rfl (lv_room (Nat.le_of_ble_eq_true rfl)) xd_Sh_acceptGrant_73 ⟨(Nat.le_of_ble_eq_true rfl), (Nat.le_of_ble_eq_true rfl)⟩) hS (fun q _ h => hFc q h) hFc (fun r216 u217 t H1 locs ht hvm hp218 hB hz1 hk1 hS => ?_)
      obtain ⟨hP1, hD1⟩ := hB
      rw [ht] at hP1
      have hD1 := hD1.weaken (fun _ _ _ h => hFc _ h)
      generalize H1 = H at hP1 hS ⊢
      have hP := hP1
      have hD := hD1
      have hP : va_P D xcl (rp ad E RL) H := hP
      have hD : va_D A (rp ad E RL) := hD
      rcases hp218 with ⟨rfl, z219⟩ | ⟨z220, rfl⟩
      · refine W.eq (g2 := F0 m 76 ls [.null]) rfl ?_
        refine lv_astoreN hx hb xd_Sh_acceptGrant_76 hl (Nat.le_of_ble_eq_true rfl) rfl (fun ls hl => ?_)
        have hl : lv_has ls 7 [(5, .null), (4, .int 0), (3, .int 0), (2, .int (wN (g 0) wl 1)), (0, .ref (ad 0 5)), (1, .ref (ad 0 1))] := hl
        refine lv_aloadN hx hb xd_Sh_acceptGrant_78 (lv_at hl 0 rfl) ?_
        refine lv_ifnonnullN hx hb xd_Sh_acceptGrant_80 ?_
        refine lv_bipush (v := (-2)) hx hb xd_Sh_acceptGrant_83 (by decide) ?_
        refine W.widen (k := 0) (n := 0) (Nat.le_of_ble_eq_true rfl) (Nat.le_of_ble_eq_true rfl) ?_
        exact W.iret (v := (-2)) hx hb hr (fun t ht hW => ⟨⟨(-2), (ad, E, RL), rfl, ⟨hCI, by rw [cif_eq (lG_no1 (a := 7) (a2 := 9) (fun q => absurd q.2.2.1 (by omega))).symm (lG_no1 (a := 8) (a2 := 10) (fun q => absurd q.2.2.1 (by omega))).symm]; exact hTD, rfl, FRL_rf⟩, by rw [ht]; exact hP, hD⟩, hS.F ht⟩) hS.2.2 xd_Sh_acceptGrant_85
      · refine W.eq (g2 := F0 m 76 ls [.ref (ad (1 + (nd - 1)) 0)]) rfl ?_
        refine lv_astore hx hb xd_Sh_acceptGrant_76 hl (Nat.le_of_ble_eq_true rfl) rfl (fun ls hl => ?_)
        have hl : lv_has ls 7 [(5, .ref (ad (1 + (nd - 1)) 0)), (4, .int 0), (3, .int 0), (2, .int (wN (g 0) wl 1)), (0, .ref (ad 0 5)), (1, .ref (ad 0 1))] := hl
        refine lv_aload hx hb xd_Sh_acceptGrant_78 (lv_at hl 0 rfl) ?_
        refine lv_ifnonnull (tgt := 86) hx hb xd_Sh_acceptGrant_80 (by decide) ?_
        obtain ⟨hm_221, fd_221, nm_221, sd_221, k0_221, k1_221, k2_221, k3_221, f0_221, f1_221, f2_221, f3_221, fe_221, fo_221, tr_221, op_221, hk0_221, hk1_221, hk2_221, hk3_221, q0_221, q1_221, q2_221, q3_221, q4_221, q5_221, q6_221, q7_221, q8_221, q9_221, q10_221, q11_221, q12_221, hg_221⟩ := id (hDIs (nd - 1) (by omega))
        have c_222 : E (1 + (nd - 1)) 0 = .inr (7, [.int (nI ((nd - 1))), .int fd_221, .int nm_221, .ref (ad (1 + (nd - 1)) 1), .ref (ad (1 + (nd - 1)) 9), .ref (ad (1 + (nd - 1)) 10), .ref (ad (1 + (nd - 1)) 2), .ref (ad (1 + (nd - 1)) 11), .ref (ad (1 + (nd - 1)) 12), .ref (ad (1 + (nd - 1)) 3), .ref (ad (1 + (nd - 1)) 4), .int sd_221]) := q0_221
        have m_223 : (1 + (nd - 1), 0) ∈ RL := hm_221 0 (by decide)
        have c_224 : E (1 + (nd - 1)) 1 = .inr (8, [.ref (ad (1 + (nd - 1)) 5), .int (nI k0_221)]) := q1_221
        have m_225 : (1 + (nd - 1), 1) ∈ RL := hm_221 1 (by decide)
        have c_226 : E (1 + (nd - 1)) 2 = .inr (8, [.ref (ad (1 + (nd - 1)) 6), .int (nI k1_221)]) := q2_221
        have m_227 : (1 + (nd - 1), 2) ∈ RL := hm_221 2 (by decide)
        have c_228 : E (1 + (nd - 1)) 3 = .inr (8, [.ref (ad (1 + (nd - 1)) 7), .int (nI k2_221)]) := q3_221
        have m_229 : (1 + (nd - 1), 3) ∈ RL := hm_221 3 (by decide)
        have c_230 : E (1 + (nd - 1)) 4 = .inr (8, [.ref (ad (1 + (nd - 1)) 8), .int (nI k3_221)]) := q4_221
        have m_231 : (1 + (nd - 1), 4) ∈ RL := hm_221 4 (by decide)
        have c_232 : E (1 + (nd - 1)) 5 = .inl (kA 0, 6, .inl f0_221) := q5_221
        have m_233 : (1 + (nd - 1), 5) ∈ RL := hm_221 5 (by decide)
        have c_234 : E (1 + (nd - 1)) 6 = .inl (kA 0, 5, .inl f1_221) := q6_221
        have m_235 : (1 + (nd - 1), 6) ∈ RL := hm_221 6 (by decide)
        have c_236 : E (1 + (nd - 1)) 7 = .inl (kA 0, 3, .inl f2_221) := q7_221
        have m_237 : (1 + (nd - 1), 7) ∈ RL := hm_221 7 (by decide)
        have c_238 : E (1 + (nd - 1)) 8 = .inl (kA 0, 3, .inl f3_221) := q8_221
        have m_239 : (1 + (nd - 1), 8) ∈ RL := hm_221 8 (by decide)
        have c_240 : E (1 + (nd - 1)) 9 = .inl (kA 8, 6, .inr (.inr (.inr (.inr fe_221)))) := q9_221
        have m_241 : (1 + (nd - 1), 9) ∈ RL := hm_221 9 (by decide)
        have c_242 : E (1 + (nd - 1)) 10 = .inl (kA 8, 6, .inr (.inr (.inr (.inr fo_221)))) := q10_221
        have m_243 : (1 + (nd - 1), 10) ∈ RL := hm_221 10 (by decide)
        have c_244 : E (1 + (nd - 1)) 11 = .inl (kA 2, 5, .inl tr_221) := q11_221
        have m_245 : (1 + (nd - 1), 11) ∈ RL := hm_221 11 (by decide)
        have c_246 : E (1 + (nd - 1)) 12 = .inl (kA 2, 5, .inl op_221) := q12_221
        have m_247 : (1 + (nd - 1), 12) ∈ RL := hm_221 12 (by decide)
        have hg_221 : ∀ w9, w9 < k0_221 → fe_221 w9 = some (ad (1 + (nd - 1)) (20 + 3 * w9)) ∧ fo_221 w9 = some (ad (1 + (nd - 1)) (38 + 3 * w9)) ∧ GI kA (ad (1 + (nd - 1))) (E (1 + (nd - 1))) (fun o => (1 + (nd - 1), o) ∈ RL) (20 + 3 * w9) (21 + 3 * w9) (22 + 3 * w9) ∧ GI kA (ad (1 + (nd - 1))) (E (1 + (nd - 1))) (fun o => (1 + (nd - 1), o) ∈ RL) (38 + 3 * w9) (39 + 3 * w9) (40 + 3 * w9) := hg_221
        obtain ⟨hTT_221, tgr_221⟩ := TD_get hk0_221 hk1_221 hk2_221 hk3_221 c_222 c_224 c_226 c_228 c_230 c_232 c_234 c_236 c_238 c_244 c_246 (hTD (nd - 1) (by omega))
        obtain ⟨tfd_221, tnm_221, tsd_221, tk0_221, tf0_221, tk1_221, tf1_221, tk2_221, tk3_221⟩ := id hTT_221
        have ik0_221 : iN (g 5 (nd - 1)) = k0_221 := by rw [← tk0_221, iN_nI (by omega)]
        have ik1_221 : iN (g 12 (nd - 1)) = k1_221 := by rw [← tk1_221, iN_nI (by omega)]
        refine lv_aload_n hx hb xd_Sh_acceptGrant_86 rfl (lv_at hl 5 rfl) ?_
        refine lv_iconst (v := 0) hx hb xd_Sh_acceptGrant_87 (by decide) ?_
        refine va_ldcS (q := Z.1 2) hx hb hown hZ.2.2.2.1.2.2.1 xd_Sh_acceptGrant_88 ?_
        have hFc := px_free hD hS hA
        refine va_calli (va_runV (As := [.int 0, .ref (Z.1 2)]) (rest := []) ⟨hx, hb, hml, hown, hT⟩ (xc_Li_wordIsX l D kA H.size ad E RL Z g ml nd len lt wl cs 0 2 (by first | assumption | omega) (by first | assumption | omega) (by first | assumption | omega) (by first | assumption | omega)) (cwV 2 hT (wT_V k5i_7 k5i_8 k5i_9 k5i_4 k5i_6) rfl rfl rfl (by decide +kernel) ⟨Nat.le_of_ble_eq_true rfl, Nat.le_of_ble_eq_true rfl⟩) (px_preVZ hK hP hD m_6 c_5 rfl hFc (hZ.kept hS)) rfl rfl hl.1 rfl (lv_room (Nat.le_of_ble_eq_true rfl)) xd_Sh_acceptGrant_90 ⟨(Nat.le_of_ble_eq_true rfl), (Nat.le_of_ble_eq_true rfl)⟩) hS (fun q _ h => hFc q h) hFc (fun r248 u249 t H1 locs ht hvm hp250 hB hz1 hk1 hS => ?_)
        obtain ⟨hP1, hD1⟩ := hB
        rw [ht] at hP1
        have hD1 := hD1.weaken (fun _ _ _ h => hFc _ h)
        generalize H1 = H at hP1 hS ⊢
        have hP := hP1
        have hD := hD1
        have hP : va_P D xcl (rp ad E RL) H := hP
        have hD : va_D A (rp ad E RL) := hD
        rcases hp250 with ⟨rfl, z251⟩ | ⟨rfl, z252⟩
        · have hw2 : wS (g 0) wl 0 zEx := by have q := z251; rw [zw2] at q; exact q
          refine W.eq (g2 := F0 m 93 ls [.int 1]) rfl ?_
          refine lv_if_eq (tgt := 105) hx hb xd_Sh_acceptGrant_93 (by decide) (fun hc253 => absurd hc253 (by decide)) (fun _ => ?_)
          refine lv_aload hx hb xd_Sh_acceptGrant_96 (lv_at hl 0 rfl) ?_
          refine lv_iload_n hx hb xd_Sh_acceptGrant_98 rfl (lv_at hl 3 rfl) ?_
          have hFc := px_free hD hS hA
          refine va_callq (va_runV (As := [.int (wN (g 0) wl 1)]) (rest := []) ⟨hx, hb, hml, hown, hT⟩ (xc_Ds_exportOfX l D kA H.size ad E RL g nd (nd - 1) (wN (g 0) wl 1) (by first | assumption | omega) (by first | assumption | omega) (by first | assumption | omega)) (cwV 1 hT (wT_V k5i_16 k5i_17 k5i_18 k5i_19 k5i_15) rfl rfl rfl (by decide +kernel) ⟨Nat.le_of_ble_eq_true rfl, Nat.le_of_ble_eq_true rfl⟩) (px_preV hK hP hD m_223 c_222 rfl) rfl rfl hl.1 rfl (lv_room (Nat.le_of_ble_eq_true rfl)) xd_Sh_acceptGrant_99 ⟨(Nat.le_of_ble_eq_true rfl), (Nat.le_of_ble_eq_true rfl)⟩) hS (fun q _ h => hFc q h) hFc (fun r254 u255 t H1 locs ht hvm hp256 hB hz1 hk1 hS => ?_)
          obtain ⟨hP1, hD1⟩ := hB
          rw [ht] at hP1
          have hD1 := hD1.weaken (fun _ _ _ h => hFc _ h)
          generalize H1 = H at hP1 hS ⊢
          have hP := hP1
          have hD := hD1
          have hP : va_P D xcl (rp ad E RL) H := hP
          have hD : va_D A (rp ad E RL) := hD
          rcases hp256 with ⟨rfl, z257⟩ | ⟨z258, z259, rfl, z260, z261⟩
          · refine W.eq (g2 := F0 m 102 ls [.null]) rfl ?_
            refine lv_goto (tgt := 111) hx hb xd_Sh_acceptGrant_102 (by decide) ?_
            refine lv_astoreN hx hb xd_Sh_acceptGrant_111 hl (Nat.le_of_ble_eq_true rfl) rfl (fun ls hl => ?_)
            have hl : lv_has ls 7 [(6, .null), (5, .ref (ad (1 + (nd - 1)) 0)), (4, .int 0), (3, .int 0), (2, .int (wN (g 0) wl 1)), (0, .ref (ad 0 5)), (1, .ref (ad 0 1))] := hl
            refine lv_aloadN hx hb xd_Sh_acceptGrant_113 (lv_at hl 0 rfl) ?_
            refine lv_ifnonnullN hx hb xd_Sh_acceptGrant_115 ?_
            refine lv_iconst (v := (-1)) hx hb xd_Sh_acceptGrant_118 (by decide) ?_
            refine W.widen (k := 0) (n := 0) (Nat.le_of_ble_eq_true rfl) (Nat.le_of_ble_eq_true rfl) ?_
            exact W.iret (v := (-1)) hx hb hr (fun t ht hW => ⟨⟨(-1), (ad, E, RL), rfl, ⟨hCI, by rw [cif_pos hw2, ← lG_no2 z257]; exact hTD, rfl, FRL_rf⟩, by rw [ht]; exact hP, hD⟩, hS.F ht⟩) hS.2.2 xd_Sh_acceptGrant_119
          · refine W.eq (g2 := F0 m 102 ls [.ref (ad (1 + (nd - 1)) (20 + 3 * z258))]) rfl ?_
            obtain ⟨m0_262, m1_262, m2_262, ta_262, n_262, f_262, hn_262, q0_262, q1_262, q2_262⟩ := z260
            have c_263 : E (1 + (nd - 1)) (20 + 3 * z258) = .inr (9, [.ref (ad (1 + (nd - 1)) (21 + 3 * z258)), .int ta_262]) := q0_262
            have m_264 : (1 + (nd - 1), 20 + 3 * z258) ∈ RL := m0_262
            have c_265 : E (1 + (nd - 1)) (21 + 3 * z258) = .inr (8, [.ref (ad (1 + (nd - 1)) (22 + 3 * z258)), .int (nI n_262)]) := q1_262
            have m_266 : (1 + (nd - 1), 21 + 3 * z258) ∈ RL := m1_262
            have c_267 : E (1 + (nd - 1)) (22 + 3 * z258) = .inl (kA 0, 3, .inl f_262) := q2_262
            have m_268 : (1 + (nd - 1), 22 + 3 * z258) ∈ RL := m2_262
            have hpi9 : pI g (nd - 1) (wN (g 0) wl 1) = some z258 := z261
            have hik9 : z258 < k0_221 := by have q := (ff_is hpi9).1; rw [ik0_221] at q; exact q
            have htg9 := TG_get hn_262 c_263 c_265 c_267 (tgr_221 z258 hik9).1
            refine lv_goto (tgt := 111) hx hb xd_Sh_acceptGrant_102 (by decide) ?_
            refine lv_astore hx hb xd_Sh_acceptGrant_111 hl (Nat.le_of_ble_eq_true rfl) rfl (fun ls hl => ?_)
            have hl : lv_has ls 7 [(6, .ref (ad (1 + (nd - 1)) (20 + 3 * z258))), (5, .ref (ad (1 + (nd - 1)) 0)), (4, .int 0), (3, .int 0), (2, .int (wN (g 0) wl 1)), (0, .ref (ad 0 5)), (1, .ref (ad 0 1))] := hl
            refine lv_aload hx hb xd_Sh_acceptGrant_113 (lv_at hl 0 rfl) ?_
            refine lv_ifnonnull (tgt := 120) hx hb xd_Sh_acceptGrant_115 (by decide) ?_
            refine lv_aload hx hb xd_Sh_acceptGrant_120 (lv_at hl 1 rfl) ?_
            refine px_get (D := D) (ci := 7) (v := .int sd_221) (C := xR_Ds) (T := xT_Ds) (N := 12) hx hb hT xi_Ds hown hK.1 hP m_223 c_222 rfl 11 (by decide) (hT _ k5i_20) (fun _ h9 => h9) rfl xd_Sh_acceptGrant_122 ?_
            refine lv_if_ne (tgt := 137) hx hb xd_Sh_acceptGrant_125 (by decide) (fun hc269 => ?_) (fun hc269 => ?_)
            · refine lv_bipush (v := (-2)) hx hb xd_Sh_acceptGrant_137 (by decide) ?_
              refine W.widen (k := 0) (n := 0) (Nat.le_of_ble_eq_true rfl) (Nat.le_of_ble_eq_true rfl) ?_
              exact W.iret (v := (-2)) hx hb hr (fun t ht hW => ⟨⟨(-2), (ad, E, RL), rfl, ⟨hCI, by rw [cif_pos hw2, ← lG_no1 (fun q => hc269 (by rw [tsd_221]; exact q.2.2.2))]; exact hTD, rfl, FRL_rf⟩, by rw [ht]; exact hP, hD⟩, hS.F ht⟩) hS.2.2 xd_Sh_acceptGrant_139
            · refine lv_aload hx hb xd_Sh_acceptGrant_128 (lv_at hl 0 rfl) ?_
              refine lv_iload_n hx hb xd_Sh_acceptGrant_130 rfl (lv_at hl 3 rfl) ?_
              have hFc := px_free hD hS hA
              refine va_calli (va_runV (As := [.int 0]) (rest := []) ⟨hx, hb, hml, hown, hT⟩ (xc_Gr_hasRoomForX l D kA H.size ad E RL (1 + (nd - 1)) (20 + 3 * z258) (21 + 3 * z258) (22 + 3 * z258) ta_262 n_262 f_262 0 m_264 c_263 m_266 c_265 m_268 c_267 (by first | assumption | omega)) (cwV 1 hT (wT_V k5i_22 k5i_23 k5i_24 k5i_25 k5i_21) rfl rfl rfl (by decide +kernel) ⟨Nat.le_of_ble_eq_true rfl, Nat.le_of_ble_eq_true rfl⟩) (px_preV hK hP hD m_264 c_263 rfl) rfl rfl hl.1 rfl (lv_room (Nat.le_of_ble_eq_true rfl)) xd_Sh_acceptGrant_131 ⟨(Nat.le_of_ble_eq_true rfl), (Nat.le_of_ble_eq_true rfl)⟩) hS (fun q _ h => hFc q h) hFc (fun r270 u271 t H1 locs ht hvm hp272 hB hz1 hk1 hS => ?_)
              obtain ⟨hP1, hD1⟩ := hB
              rw [ht] at hP1
              have hD1 := hD1.weaken (fun _ _ _ h => hFc _ h)
              generalize H1 = H at hP1 hS ⊢
              have hP := hP1
              have hD := hD1
              have hP : va_P D xcl (rp ad E RL) H := hP
              have hD : va_D A (rp ad E RL) := hD
              rcases hp272 with ⟨rfl, z273⟩ | ⟨rfl, z274, z275, z276⟩
              · refine W.eq (g2 := F0 m 134 ls [.int 1]) rfl ?_
                refine lv_if_ne (tgt := 140) hx hb xd_Sh_acceptGrant_134 (by decide) (fun _ => ?_) (fun hc277 => absurd hc277 (by decide))
                refine lv_aload hx hb xd_Sh_acceptGrant_140 (lv_at hl 0 rfl) ?_
                refine lv_iload_n hx hb xd_Sh_acceptGrant_142 rfl (lv_at hl 3 rfl) ?_
                have hFc := px_free hD hS hA
                refine va_callv (va_runV (As := [.int 0]) (rest := []) ⟨hx, hb, hml, hown, hT⟩ (xc_Gr_extendToX l D kA H.size ad E RL (1 + (nd - 1)) (20 + 3 * z258) (21 + 3 * z258) (22 + 3 * z258) ta_262 n_262 f_262 0 m_264 c_263 m_266 c_265 m_268 c_267 (by first | assumption | omega) (by first | assumption | omega)) (cwV 1 hT (wT_V k5i_27 k5i_28 k5i_29 k5i_25 k5i_26) rfl rfl rfl (by decide +kernel) ⟨Nat.le_of_ble_eq_true rfl, Nat.le_of_ble_eq_true rfl⟩) (px_preV hK hP hD m_264 c_263 rfl) rfl rfl hl.1 rfl (lv_room (Nat.le_of_ble_eq_true rfl)) xd_Sh_acceptGrant_143 ⟨(Nat.le_of_ble_eq_true rfl), (Nat.le_of_ble_eq_true rfl)⟩) hS (fun q _ h => hFc q h) hFc (fun u279 t H1 locs ht hvm hp280 hB hz1 hk1 hS => ?_)
                obtain ⟨hP1, hD1⟩ := hB
                rw [ht] at hP1
                have hD1 := hD1.weaken (fun _ _ _ h => hFc _ h)
                generalize H1 = H at hP1 hS ⊢
                have hP := hP1
                have hD := hD1
                obtain ⟨E281, rfl⟩ : ∃ z, z = u279 := ⟨_, rfl⟩
                obtain ⟨w282, w283, w284, hp289, p_285, p_286, p_287, p_288⟩ := hp280
                have p_285 : E281 (1 + (nd - 1)) (20 + 3 * z258) = .inr (9, [.ref (ad (1 + (nd - 1)) (21 + 3 * z258)), .int w282]) := p_285
                have p_286 : E281 (1 + (nd - 1)) (21 + 3 * z258) = .inr (8, [.ref (ad (1 + (nd - 1)) (22 + 3 * z258)), .int (nI w283)]) := p_286
                have p_287 : E281 (1 + (nd - 1)) (22 + 3 * z258) = .inl (kA 0, 3, .inl w284) := p_287
                have p_288 : (∀ b2 o2, ¬ (b2 = (1 + (nd - 1)) ∧ o2 = (20 + 3 * z258)) → ¬ (b2 = (1 + (nd - 1)) ∧ o2 = (21 + 3 * z258)) → ¬ (b2 = (1 + (nd - 1)) ∧ o2 = (22 + 3 * z258)) → E281 b2 o2 = E b2 o2) := p_288
                have c_290 : E281 0 0 = .inr (0, [.ref (ad 0 1), .ref (ad 0 5), .ref (ad 0 7), .ref (ad 0 9), .int (nI ml), .int lf_1]) := (p_288 0 0 (fun q9 => nr_z q9.2 (by decide)) (fun q9 => nr_z q9.2 (by decide)) (fun q9 => nr_z q9.2 (by decide))).trans c_2
                have c_291 : E281 0 1 = .inr (1, [.ref (ad 0 2), .ref (ad 0 3), .ref (ad 0 4), .int (nI len), .int (nI (wl.length))]) := (p_288 0 1 (fun q9 => nr_z q9.2 (by decide)) (fun q9 => nr_z q9.2 (by decide)) (fun q9 => nr_z q9.2 (by decide))).trans c_5
                have c_292 : E281 0 2 = .inl (kA 1, 40, .inl tx_4) := (p_288 0 2 (fun q9 => nr_z q9.2 (by decide)) (fun q9 => nr_z q9.2 (by decide)) (fun q9 => nr_z q9.2 (by decide))).trans c_7
                have c_293 : E281 0 3 = .inl (kA 0, 20, .inl fb_4) := (p_288 0 3 (fun q9 => nr_z q9.2 (by decide)) (fun q9 => nr_z q9.2 (by decide)) (fun q9 => nr_z q9.2 (by decide))).trans c_9
                have c_294 : E281 0 4 = .inl (kA 0, 20, .inl fe_4) := (p_288 0 4 (fun q9 => nr_z q9.2 (by decide)) (fun q9 => nr_z q9.2 (by decide)) (fun q9 => nr_z q9.2 (by decide))).trans c_11
                have c_295 : E281 0 5 = .inr (2, [.ref (ad 0 6), .int (nI nd)]) := (p_288 0 5 (fun q9 => nr_z q9.2 (by decide)) (fun q9 => nr_z q9.2 (by decide)) (fun q9 => nr_z q9.2 (by decide))).trans c_14
                have c_296 : E281 0 6 = .inl (kA 4, 12, .inr (.inr (.inr (.inr fd_13)))) := (p_288 0 6 (fun q9 => nr_z q9.2 (by decide)) (fun q9 => nr_z q9.2 (by decide)) (fun q9 => nr_z q9.2 (by decide))).trans c_16
                have c_297 : E281 0 7 = .inr (3, [.ref (ad 0 5), .ref (ad 0 8), .int (nI cs), .int cf_18, pv_18]) := (p_288 0 7 (fun q9 => nr_z q9.2 (by decide)) (fun q9 => nr_z q9.2 (by decide)) (fun q9 => nr_z q9.2 (by decide))).trans c_19
                have c_298 : E281 0 8 = .inl (kA 4, 12, .inr (.inr (.inr (.inr fc_18)))) := (p_288 0 8 (fun q9 => nr_z q9.2 (by decide)) (fun q9 => nr_z q9.2 (by decide)) (fun q9 => nr_z q9.2 (by decide))).trans c_21
                have c_299 : E281 0 9 = .inl (kA 5, 5, .inr (.inr (.inr (.inr fl_23)))) := (p_288 0 9 (fun q9 => nr_z q9.2 (by decide)) (fun q9 => nr_z q9.2 (by decide)) (fun q9 => nr_z q9.2 (by decide))).trans c_24
                have c_300 : E281 (1 + (nd - 1)) 0 = .inr (7, [.int (nI ((nd - 1))), .int fd_221, .int nm_221, .ref (ad (1 + (nd - 1)) 1), .ref (ad (1 + (nd - 1)) 9), .ref (ad (1 + (nd - 1)) 10), .ref (ad (1 + (nd - 1)) 2), .ref (ad (1 + (nd - 1)) 11), .ref (ad (1 + (nd - 1)) 12), .ref (ad (1 + (nd - 1)) 3), .ref (ad (1 + (nd - 1)) 4), .int sd_221]) := (p_288 (1 + (nd - 1)) 0 (fun q9 => nr_z q9.2 (by decide)) (fun q9 => nr_z q9.2 (by decide)) (fun q9 => nr_z q9.2 (by decide))).trans c_222
                have c_301 : E281 (1 + (nd - 1)) 1 = .inr (8, [.ref (ad (1 + (nd - 1)) 5), .int (nI k0_221)]) := (p_288 (1 + (nd - 1)) 1 (fun q9 => nr_z q9.2 (by decide)) (fun q9 => nr_z q9.2 (by decide)) (fun q9 => nr_z q9.2 (by decide))).trans c_224
                have c_302 : E281 (1 + (nd - 1)) 2 = .inr (8, [.ref (ad (1 + (nd - 1)) 6), .int (nI k1_221)]) := (p_288 (1 + (nd - 1)) 2 (fun q9 => nr_z q9.2 (by decide)) (fun q9 => nr_z q9.2 (by decide)) (fun q9 => nr_z q9.2 (by decide))).trans c_226
                have c_303 : E281 (1 + (nd - 1)) 3 = .inr (8, [.ref (ad (1 + (nd - 1)) 7), .int (nI k2_221)]) := (p_288 (1 + (nd - 1)) 3 (fun q9 => nr_z q9.2 (by decide)) (fun q9 => nr_z q9.2 (by decide)) (fun q9 => nr_z q9.2 (by decide))).trans c_228
                have c_304 : E281 (1 + (nd - 1)) 4 = .inr (8, [.ref (ad (1 + (nd - 1)) 8), .int (nI k3_221)]) := (p_288 (1 + (nd - 1)) 4 (fun q9 => nr_z q9.2 (by decide)) (fun q9 => nr_z q9.2 (by decide)) (fun q9 => nr_z q9.2 (by decide))).trans c_230
                have c_305 : E281 (1 + (nd - 1)) 5 = .inl (kA 0, 6, .inl f0_221) := (p_288 (1 + (nd - 1)) 5 (fun q9 => nr_z q9.2 (by decide)) (fun q9 => nr_z q9.2 (by decide)) (fun q9 => nr_z q9.2 (by decide))).trans c_232
                have c_306 : E281 (1 + (nd - 1)) 6 = .inl (kA 0, 5, .inl f1_221) := (p_288 (1 + (nd - 1)) 6 (fun q9 => nr_z q9.2 (by decide)) (fun q9 => nr_z q9.2 (by decide)) (fun q9 => nr_z q9.2 (by decide))).trans c_234
                have c_307 : E281 (1 + (nd - 1)) 7 = .inl (kA 0, 3, .inl f2_221) := (p_288 (1 + (nd - 1)) 7 (fun q9 => nr_z q9.2 (by decide)) (fun q9 => nr_z q9.2 (by decide)) (fun q9 => nr_z q9.2 (by decide))).trans c_236
                have c_308 : E281 (1 + (nd - 1)) 8 = .inl (kA 0, 3, .inl f3_221) := (p_288 (1 + (nd - 1)) 8 (fun q9 => nr_z q9.2 (by decide)) (fun q9 => nr_z q9.2 (by decide)) (fun q9 => nr_z q9.2 (by decide))).trans c_238
                have c_309 : E281 (1 + (nd - 1)) 9 = .inl (kA 8, 6, .inr (.inr (.inr (.inr fe_221)))) := (p_288 (1 + (nd - 1)) 9 (fun q9 => nr_z q9.2 (by decide)) (fun q9 => nr_z q9.2 (by decide)) (fun q9 => nr_z q9.2 (by decide))).trans c_240
                have c_310 : E281 (1 + (nd - 1)) 10 = .inl (kA 8, 6, .inr (.inr (.inr (.inr fo_221)))) := (p_288 (1 + (nd - 1)) 10 (fun q9 => nr_z q9.2 (by decide)) (fun q9 => nr_z q9.2 (by decide)) (fun q9 => nr_z q9.2 (by decide))).trans c_242
                have c_311 : E281 (1 + (nd - 1)) 11 = .inl (kA 2, 5, .inl tr_221) := (p_288 (1 + (nd - 1)) 11 (fun q9 => nr_z q9.2 (by decide)) (fun q9 => nr_z q9.2 (by decide)) (fun q9 => nr_z q9.2 (by decide))).trans c_244
                have c_312 : E281 (1 + (nd - 1)) 12 = .inl (kA 2, 5, .inl op_221) := (p_288 (1 + (nd - 1)) 12 (fun q9 => nr_z q9.2 (by decide)) (fun q9 => nr_z q9.2 (by decide)) (fun q9 => nr_z q9.2 (by decide))).trans c_246
                have hP : va_P D xcl (rp ad E281 RL) H := hP
                have hD : va_D A (rp ad E281 RL) := hD
                have hok9 : okG (g 0) wl nd g := ⟨Or.inl (by omega), hc214, by omega, by rw [← tsd_221]; exact hc269⟩
                have hnew9 : w282 = (lG 7 9 (g 0) wl nd g) 9 (6 * (nd - 1) + z258) ∧ (w282 = 0 → NT w283 w284 (fun j => (lG 7 9 (g 0) wl nd g) 7 (3 * (6 * (nd - 1) + z258) + j))) := by rw [lG_w2 hpi9 hok9 (by omega)]; exact gr_up2 rfl hp289.2
                have hTD9 := (show TD (lG 7 9 (g 0) wl nd g) (E281 (1 + (nd - 1))) (nd - 1) from TD_mk (by omega) (by omega) (by omega) (by omega) c_300 c_301 c_302 c_303 c_304 c_305 c_306 c_307 c_308 c_311 c_312 (TT_G (by omega) hTT_221) (gr_all7 (i := z258) hk0_221 (lG_ne (by decide) (by decide) : (lG 7 9 (g 0) wl nd g) 8 = g 8) (lG_ne (by decide) (by decide) : (lG 7 9 (g 0) wl nd g) 10 = g 10) (lG_oth (by decide) hpi9 (by omega)) (by omega) (fun o9 h19 h29 h39 => (show E281 (1 + (nd - 1)) o9 = E (1 + (nd - 1)) o9 from by show E281 (1 + (nd - 1)) o9 = _; rw [p_288 (1 + (nd - 1)) o9 (by omega) (by omega) (by omega)])) (TG_mk hp289.1 p_285 p_286 p_287 hnew9.1 hnew9.2) tgr_221))
                have hTD2 : TDs (lG 7 9 (g 0) wl nd g) E281 nd := TDs_upd (x := nd - 1) hDIs (fun d9 hd9 hx9 => fun2 fun o9 => by show E281 (1 + d9) o9 = _; rw [p_288 (1 + d9) o9 (by omega) (by omega) (by omega)]) (fun d9 hd9 hx9 => AG_G (by omega) (by omega) hx9) hTD9 hTD
                have hFRL : FRL ml nd ad ad E E281 := ⟨fun n9 hn9 => ⟨fun2 fun o9 => by show E281 (20 + n9) o9 = _; rw [p_288 (20 + n9) o9 (by omega) (by omega) (by omega)], fun2 fun o9 => rfl⟩, fun d9 hd9 => rfl, by show E281 0 0 = _; rw [p_288 0 0 (by omega) (by omega) (by omega)]⟩
                have hCI : CI kA ad E281 RL ml nd len wl.length cs := ⟨hmB, ⟨lf_1, c_290⟩, ⟨tx_4, fb_4, fe_4, (by omega), (by omega), c_291, c_292, c_293, c_294, hws_4⟩, ⟨fd_13, (by omega), c_295, c_296, hds_13⟩, ⟨cf_18, pv_18, fc_18, (by omega), hpv_18, c_297, c_298, hfc_18⟩, ⟨fl_23, (by omega), c_299, hla_23⟩, (DIs_set (x := nd - 1) (fun d9 hd9 hx9 => fun2 fun o9 => by show E281 (1 + d9) o9 = _; rw [p_288 (1 + d9) o9 (by omega) (by omega) (by omega)]) (fun _ _ _ => rfl) (fun _ h => h) (DI_gr (o0 := 20) (i := z258) (hDIs (nd - 1) (by omega)) (by omega) (by omega) (fun o9 h19 h29 h39 => by show E281 (1 + (nd - 1)) o9 = _; rw [p_288 (1 + (nd - 1)) o9 (by omega) (by omega) (by omega)]) ⟨m_264, m_266, m_268, w282, w283, w284, hp289.1, p_285, p_286, p_287⟩) hDIs), (LIs_same (Nat.le_refl _) (fun n9 hn9 => fun2 fun o9 => by show E281 (20 + n9) o9 = _; rw [p_288 (20 + n9) o9 (by omega) (by omega) (by omega)]) (fun _ _ => rfl) (fun _ _ => rfl) (fun _ h9 => h9) hLIs)⟩
                obtain ⟨hmB, hDk, hLi, hSh, hCh, hLa, hDIs, hLIs⟩ := id hCI
                refine lv_iconst (v := 2) hx hb xd_Sh_acceptGrant_146 (by decide) ?_
                refine W.widen (k := 0) (n := 0) (Nat.le_of_ble_eq_true rfl) (Nat.le_of_ble_eq_true rfl) ?_
                exact W.iret (v := 2) hx hb hr (fun t ht hW => ⟨⟨2, (ad, E281, RL), rfl, (by rw [cif_pos hw2]; exact ⟨hCI, hTD2, rfl, hFRL⟩), by rw [ht]; exact hP, hD⟩, hS.F ht⟩) hS.2.2 xd_Sh_acceptGrant_147
              · refine W.eq (g2 := F0 m 134 ls [.int 0]) rfl ?_
                refine lv_if_ne (tgt := 140) hx hb xd_Sh_acceptGrant_134 (by decide) (fun hc313 => absurd (by decide) hc313) (fun _ => ?_)
                refine lv_bipush (v := (-2)) hx hb xd_Sh_acceptGrant_137 (by decide) ?_
                refine W.widen (k := 0) (n := 0) (Nat.le_of_ble_eq_true rfl) (Nat.le_of_ble_eq_true rfl) ?_
                exact W.iret (v := (-2)) hx hb hr (fun t ht hW => ⟨⟨(-2), (ad, E, RL), rfl, absurd rfl z274, by rw [ht]; exact hP, hD⟩, hS.F ht⟩) hS.2.2 xd_Sh_acceptGrant_139
        · have hw2 : ¬ wS (g 0) wl 0 zEx := by have q := z252; rw [zw2] at q; exact q
          refine W.eq (g2 := F0 m 93 ls [.int 0]) rfl ?_
          refine lv_if_eq (tgt := 105) hx hb xd_Sh_acceptGrant_93 (by decide) (fun _ => ?_) (fun hc314 => absurd (by decide) hc314)
          refine lv_aload hx hb xd_Sh_acceptGrant_105 (lv_at hl 0 rfl) ?_
          refine lv_iload_n hx hb xd_Sh_acceptGrant_107 rfl (lv_at hl 3 rfl) ?_
          have hFc := px_free hD hS hA
          refine va_callq (va_runV (As := [.int (wN (g 0) wl 1)]) (rest := []) ⟨hx, hb, hml, hown, hT⟩ (xc_Ds_openingOfX l D kA H.size ad E RL g nd (nd - 1) (wN (g 0) wl 1) (by first | assumption | omega) (by first | assumption | omega) (by first | assumption | omega)) (cwV 1 hT (wT_V k5i_31 k5i_32 k5i_33 k5i_19 k5i_30) rfl rfl rfl (by decide +kernel) ⟨Nat.le_of_ble_eq_true rfl, Nat.le_of_ble_eq_true rfl⟩) (px_preV hK hP hD m_223 c_222 rfl) rfl rfl hl.1 rfl (lv_room (Nat.le_of_ble_eq_true rfl)) xd_Sh_acceptGrant_108 ⟨(Nat.le_of_ble_eq_true rfl), (Nat.le_of_ble_eq_true rfl)⟩) hS (fun q _ h => hFc q h) hFc (fun r315 u316 t H1 locs ht hvm hp317 hB hz1 hk1 hS => ?_)
          obtain ⟨hP1, hD1⟩ := hB
          rw [ht] at hP1
          have hD1 := hD1.weaken (fun _ _ _ h => hFc _ h)
          generalize H1 = H at hP1 hS ⊢
          have hP := hP1
          have hD := hD1
          have hP : va_P D xcl (rp ad E RL) H := hP
          have hD : va_D A (rp ad E RL) := hD
          rcases hp317 with ⟨rfl, z318⟩ | ⟨z319, z320, rfl, z321, z322⟩
          · refine W.eq (g2 := F0 m 111 ls [.null]) rfl ?_
            refine lv_astoreN hx hb xd_Sh_acceptGrant_111 hl (Nat.le_of_ble_eq_true rfl) rfl (fun ls hl => ?_)
            have hl : lv_has ls 7 [(6, .null), (5, .ref (ad (1 + (nd - 1)) 0)), (4, .int 0), (3, .int 0), (2, .int (wN (g 0) wl 1)), (0, .ref (ad 0 5)), (1, .ref (ad 0 1))] := hl
            refine lv_aloadN hx hb xd_Sh_acceptGrant_113 (lv_at hl 0 rfl) ?_
            refine lv_ifnonnullN hx hb xd_Sh_acceptGrant_115 ?_
            refine lv_iconst (v := (-1)) hx hb xd_Sh_acceptGrant_118 (by decide) ?_
            refine W.widen (k := 0) (n := 0) (Nat.le_of_ble_eq_true rfl) (Nat.le_of_ble_eq_true rfl) ?_
            exact W.iret (v := (-1)) hx hb hr (fun t ht hW => ⟨⟨(-1), (ad, E, RL), rfl, ⟨hCI, by rw [cif_neg hw2, ← lG_no2 z318]; exact hTD, rfl, FRL_rf⟩, by rw [ht]; exact hP, hD⟩, hS.F ht⟩) hS.2.2 xd_Sh_acceptGrant_119
          · refine W.eq (g2 := F0 m 111 ls [.ref (ad (1 + (nd - 1)) (38 + 3 * z319))]) rfl ?_
            obtain ⟨m0_323, m1_323, m2_323, ta_323, n_323, f_323, hn_323, q0_323, q1_323, q2_323⟩ := z321
            have c_324 : E (1 + (nd - 1)) (38 + 3 * z319) = .inr (9, [.ref (ad (1 + (nd - 1)) (39 + 3 * z319)), .int ta_323]) := q0_323
            have m_325 : (1 + (nd - 1), 38 + 3 * z319) ∈ RL := m0_323
            have c_326 : E (1 + (nd - 1)) (39 + 3 * z319) = .inr (8, [.ref (ad (1 + (nd - 1)) (40 + 3 * z319)), .int (nI n_323)]) := q1_323
            have m_327 : (1 + (nd - 1), 39 + 3 * z319) ∈ RL := m1_323
            have c_328 : E (1 + (nd - 1)) (40 + 3 * z319) = .inl (kA 0, 3, .inl f_323) := q2_323
            have m_329 : (1 + (nd - 1), 40 + 3 * z319) ∈ RL := m2_323
            have hpi9 : pI g (nd - 1) (wN (g 0) wl 1) = some z319 := z322
            have hik9 : z319 < k0_221 := by have q := (ff_is hpi9).1; rw [ik0_221] at q; exact q
            have htg9 := TG_get hn_323 c_324 c_326 c_328 (tgr_221 z319 hik9).2
            refine lv_astore hx hb xd_Sh_acceptGrant_111 hl (Nat.le_of_ble_eq_true rfl) rfl (fun ls hl => ?_)
            have hl : lv_has ls 7 [(6, .ref (ad (1 + (nd - 1)) (38 + 3 * z319))), (5, .ref (ad (1 + (nd - 1)) 0)), (4, .int 0), (3, .int 0), (2, .int (wN (g 0) wl 1)), (0, .ref (ad 0 5)), (1, .ref (ad 0 1))] := hl
            refine lv_aload hx hb xd_Sh_acceptGrant_113 (lv_at hl 0 rfl) ?_
            refine lv_ifnonnull (tgt := 120) hx hb xd_Sh_acceptGrant_115 (by decide) ?_
            refine lv_aload hx hb xd_Sh_acceptGrant_120 (lv_at hl 1 rfl) ?_
            refine px_get (D := D) (ci := 7) (v := .int sd_221) (C := xR_Ds) (T := xT_Ds) (N := 12) hx hb hT xi_Ds hown hK.1 hP m_223 c_222 rfl 11 (by decide) (hT _ k5i_20) (fun _ h9 => h9) rfl xd_Sh_acceptGrant_122 ?_
            refine lv_if_ne (tgt := 137) hx hb xd_Sh_acceptGrant_125 (by decide) (fun hc330 => ?_) (fun hc330 => ?_)
            · refine lv_bipush (v := (-2)) hx hb xd_Sh_acceptGrant_137 (by decide) ?_
              refine W.widen (k := 0) (n := 0) (Nat.le_of_ble_eq_true rfl) (Nat.le_of_ble_eq_true rfl) ?_
              exact W.iret (v := (-2)) hx hb hr (fun t ht hW => ⟨⟨(-2), (ad, E, RL), rfl, ⟨hCI, by rw [cif_neg hw2, ← lG_no1 (fun q => hc330 (by rw [tsd_221]; exact q.2.2.2))]; exact hTD, rfl, FRL_rf⟩, by rw [ht]; exact hP, hD⟩, hS.F ht⟩) hS.2.2 xd_Sh_acceptGrant_139
            · refine lv_aload hx hb xd_Sh_acceptGrant_128 (lv_at hl 0 rfl) ?_
              refine lv_iload_n hx hb xd_Sh_acceptGrant_130 rfl (lv_at hl 3 rfl) ?_
              have hFc := px_free hD hS hA
              refine va_calli (va_runV (As := [.int 0]) (rest := []) ⟨hx, hb, hml, hown, hT⟩ (xc_Gr_hasRoomForX l D kA H.size ad E RL (1 + (nd - 1)) (38 + 3 * z319) (39 + 3 * z319) (40 + 3 * z319) ta_323 n_323 f_323 0 m_325 c_324 m_327 c_326 m_329 c_328 (by first | assumption | omega)) (cwV 1 hT (wT_V k5i_22 k5i_23 k5i_24 k5i_25 k5i_21) rfl rfl rfl (by decide +kernel) ⟨Nat.le_of_ble_eq_true rfl, Nat.le_of_ble_eq_true rfl⟩) (px_preV hK hP hD m_325 c_324 rfl) rfl rfl hl.1 rfl (lv_room (Nat.le_of_ble_eq_true rfl)) xd_Sh_acceptGrant_131 ⟨(Nat.le_of_ble_eq_true rfl), (Nat.le_of_ble_eq_true rfl)⟩) hS (fun q _ h => hFc q h) hFc (fun r331 u332 t H1 locs ht hvm hp333 hB hz1 hk1 hS => ?_)
              obtain ⟨hP1, hD1⟩ := hB
              rw [ht] at hP1
              have hD1 := hD1.weaken (fun _ _ _ h => hFc _ h)
              generalize H1 = H at hP1 hS ⊢
              have hP := hP1
              have hD := hD1
              have hP : va_P D xcl (rp ad E RL) H := hP
              have hD : va_D A (rp ad E RL) := hD
              rcases hp333 with ⟨rfl, z334⟩ | ⟨rfl, z335, z336, z337⟩
              · refine W.eq (g2 := F0 m 134 ls [.int 1]) rfl ?_
                refine lv_if_ne (tgt := 140) hx hb xd_Sh_acceptGrant_134 (by decide) (fun _ => ?_) (fun hc338 => absurd hc338 (by decide))
                refine lv_aload hx hb xd_Sh_acceptGrant_140 (lv_at hl 0 rfl) ?_
                refine lv_iload_n hx hb xd_Sh_acceptGrant_142 rfl (lv_at hl 3 rfl) ?_
                have hFc := px_free hD hS hA
                refine va_callv (va_runV (As := [.int 0]) (rest := []) ⟨hx, hb, hml, hown, hT⟩ (xc_Gr_extendToX l D kA H.size ad E RL (1 + (nd - 1)) (38 + 3 * z319) (39 + 3 * z319) (40 + 3 * z319) ta_323 n_323 f_323 0 m_325 c_324 m_327 c_326 m_329 c_328 (by first | assumption | omega) (by first | assumption | omega)) (cwV 1 hT (wT_V k5i_27 k5i_28 k5i_29 k5i_25 k5i_26) rfl rfl rfl (by decide +kernel) ⟨Nat.le_of_ble_eq_true rfl, Nat.le_of_ble_eq_true rfl⟩) (px_preV hK hP hD m_325 c_324 rfl) rfl rfl hl.1 rfl (lv_room (Nat.le_of_ble_eq_true rfl)) xd_Sh_acceptGrant_143 ⟨(Nat.le_of_ble_eq_true rfl), (Nat.le_of_ble_eq_true rfl)⟩) hS (fun q _ h => hFc q h) hFc (fun u340 t H1 locs ht hvm hp341 hB hz1 hk1 hS => ?_)
                obtain ⟨hP1, hD1⟩ := hB
                rw [ht] at hP1
                have hD1 := hD1.weaken (fun _ _ _ h => hFc _ h)
                generalize H1 = H at hP1 hS ⊢
                have hP := hP1
                have hD := hD1
                obtain ⟨E342, rfl⟩ : ∃ z, z = u340 := ⟨_, rfl⟩
                obtain ⟨w343, w344, w345, hp350, p_346, p_347, p_348, p_349⟩ := hp341
                have p_346 : E342 (1 + (nd - 1)) (38 + 3 * z319) = .inr (9, [.ref (ad (1 + (nd - 1)) (39 + 3 * z319)), .int w343]) := p_346
                have p_347 : E342 (1 + (nd - 1)) (39 + 3 * z319) = .inr (8, [.ref (ad (1 + (nd - 1)) (40 + 3 * z319)), .int (nI w344)]) := p_347
                have p_348 : E342 (1 + (nd - 1)) (40 + 3 * z319) = .inl (kA 0, 3, .inl w345) := p_348
                have p_349 : (∀ b2 o2, ¬ (b2 = (1 + (nd - 1)) ∧ o2 = (38 + 3 * z319)) → ¬ (b2 = (1 + (nd - 1)) ∧ o2 = (39 + 3 * z319)) → ¬ (b2 = (1 + (nd - 1)) ∧ o2 = (40 + 3 * z319)) → E342 b2 o2 = E b2 o2) := p_349
                have c_351 : E342 0 0 = .inr (0, [.ref (ad 0 1), .ref (ad 0 5), .ref (ad 0 7), .ref (ad 0 9), .int (nI ml), .int lf_1]) := (p_349 0 0 (fun q9 => nr_z q9.2 (by decide)) (fun q9 => nr_z q9.2 (by decide)) (fun q9 => nr_z q9.2 (by decide))).trans c_2
                have c_352 : E342 0 1 = .inr (1, [.ref (ad 0 2), .ref (ad 0 3), .ref (ad 0 4), .int (nI len), .int (nI (wl.length))]) := (p_349 0 1 (fun q9 => nr_z q9.2 (by decide)) (fun q9 => nr_z q9.2 (by decide)) (fun q9 => nr_z q9.2 (by decide))).trans c_5
                have c_353 : E342 0 2 = .inl (kA 1, 40, .inl tx_4) := (p_349 0 2 (fun q9 => nr_z q9.2 (by decide)) (fun q9 => nr_z q9.2 (by decide)) (fun q9 => nr_z q9.2 (by decide))).trans c_7
                have c_354 : E342 0 3 = .inl (kA 0, 20, .inl fb_4) := (p_349 0 3 (fun q9 => nr_z q9.2 (by decide)) (fun q9 => nr_z q9.2 (by decide)) (fun q9 => nr_z q9.2 (by decide))).trans c_9
                have c_355 : E342 0 4 = .inl (kA 0, 20, .inl fe_4) := (p_349 0 4 (fun q9 => nr_z q9.2 (by decide)) (fun q9 => nr_z q9.2 (by decide)) (fun q9 => nr_z q9.2 (by decide))).trans c_11
                have c_356 : E342 0 5 = .inr (2, [.ref (ad 0 6), .int (nI nd)]) := (p_349 0 5 (fun q9 => nr_z q9.2 (by decide)) (fun q9 => nr_z q9.2 (by decide)) (fun q9 => nr_z q9.2 (by decide))).trans c_14
                have c_357 : E342 0 6 = .inl (kA 4, 12, .inr (.inr (.inr (.inr fd_13)))) := (p_349 0 6 (fun q9 => nr_z q9.2 (by decide)) (fun q9 => nr_z q9.2 (by decide)) (fun q9 => nr_z q9.2 (by decide))).trans c_16
                have c_358 : E342 0 7 = .inr (3, [.ref (ad 0 5), .ref (ad 0 8), .int (nI cs), .int cf_18, pv_18]) := (p_349 0 7 (fun q9 => nr_z q9.2 (by decide)) (fun q9 => nr_z q9.2 (by decide)) (fun q9 => nr_z q9.2 (by decide))).trans c_19
                have c_359 : E342 0 8 = .inl (kA 4, 12, .inr (.inr (.inr (.inr fc_18)))) := (p_349 0 8 (fun q9 => nr_z q9.2 (by decide)) (fun q9 => nr_z q9.2 (by decide)) (fun q9 => nr_z q9.2 (by decide))).trans c_21
                have c_360 : E342 0 9 = .inl (kA 5, 5, .inr (.inr (.inr (.inr fl_23)))) := (p_349 0 9 (fun q9 => nr_z q9.2 (by decide)) (fun q9 => nr_z q9.2 (by decide)) (fun q9 => nr_z q9.2 (by decide))).trans c_24
                have c_361 : E342 (1 + (nd - 1)) 0 = .inr (7, [.int (nI ((nd - 1))), .int fd_221, .int nm_221, .ref (ad (1 + (nd - 1)) 1), .ref (ad (1 + (nd - 1)) 9), .ref (ad (1 + (nd - 1)) 10), .ref (ad (1 + (nd - 1)) 2), .ref (ad (1 + (nd - 1)) 11), .ref (ad (1 + (nd - 1)) 12), .ref (ad (1 + (nd - 1)) 3), .ref (ad (1 + (nd - 1)) 4), .int sd_221]) := (p_349 (1 + (nd - 1)) 0 (fun q9 => nr_z q9.2 (by decide)) (fun q9 => nr_z q9.2 (by decide)) (fun q9 => nr_z q9.2 (by decide))).trans c_222
                have c_362 : E342 (1 + (nd - 1)) 1 = .inr (8, [.ref (ad (1 + (nd - 1)) 5), .int (nI k0_221)]) := (p_349 (1 + (nd - 1)) 1 (fun q9 => nr_z q9.2 (by decide)) (fun q9 => nr_z q9.2 (by decide)) (fun q9 => nr_z q9.2 (by decide))).trans c_224
                have c_363 : E342 (1 + (nd - 1)) 2 = .inr (8, [.ref (ad (1 + (nd - 1)) 6), .int (nI k1_221)]) := (p_349 (1 + (nd - 1)) 2 (fun q9 => nr_z q9.2 (by decide)) (fun q9 => nr_z q9.2 (by decide)) (fun q9 => nr_z q9.2 (by decide))).trans c_226
                have c_364 : E342 (1 + (nd - 1)) 3 = .inr (8, [.ref (ad (1 + (nd - 1)) 7), .int (nI k2_221)]) := (p_349 (1 + (nd - 1)) 3 (fun q9 => nr_z q9.2 (by decide)) (fun q9 => nr_z q9.2 (by decide)) (fun q9 => nr_z q9.2 (by decide))).trans c_228
                have c_365 : E342 (1 + (nd - 1)) 4 = .inr (8, [.ref (ad (1 + (nd - 1)) 8), .int (nI k3_221)]) := (p_349 (1 + (nd - 1)) 4 (fun q9 => nr_z q9.2 (by decide)) (fun q9 => nr_z q9.2 (by decide)) (fun q9 => nr_z q9.2 (by decide))).trans c_230
                have c_366 : E342 (1 + (nd - 1)) 5 = .inl (kA 0, 6, .inl f0_221) := (p_349 (1 + (nd - 1)) 5 (fun q9 => nr_z q9.2 (by decide)) (fun q9 => nr_z q9.2 (by decide)) (fun q9 => nr_z q9.2 (by decide))).trans c_232
                have c_367 : E342 (1 + (nd - 1)) 6 = .inl (kA 0, 5, .inl f1_221) := (p_349 (1 + (nd - 1)) 6 (fun q9 => nr_z q9.2 (by decide)) (fun q9 => nr_z q9.2 (by decide)) (fun q9 => nr_z q9.2 (by decide))).trans c_234
                have c_368 : E342 (1 + (nd - 1)) 7 = .inl (kA 0, 3, .inl f2_221) := (p_349 (1 + (nd - 1)) 7 (fun q9 => nr_z q9.2 (by decide)) (fun q9 => nr_z q9.2 (by decide)) (fun q9 => nr_z q9.2 (by decide))).trans c_236
                have c_369 : E342 (1 + (nd - 1)) 8 = .inl (kA 0, 3, .inl f3_221) := (p_349 (1 + (nd - 1)) 8 (fun q9 => nr_z q9.2 (by decide)) (fun q9 => nr_z q9.2 (by decide)) (fun q9 => nr_z q9.2 (by decide))).trans c_238
                have c_370 : E342 (1 + (nd - 1)) 9 = .inl (kA 8, 6, .inr (.inr (.inr (.inr fe_221)))) := (p_349 (1 + (nd - 1)) 9 (fun q9 => nr_z q9.2 (by decide)) (fun q9 => nr_z q9.2 (by decide)) (fun q9 => nr_z q9.2 (by decide))).trans c_240
                have c_371 : E342 (1 + (nd - 1)) 10 = .inl (kA 8, 6, .inr (.inr (.inr (.inr fo_221)))) := (p_349 (1 + (nd - 1)) 10 (fun q9 => nr_z q9.2 (by decide)) (fun q9 => nr_z q9.2 (by decide)) (fun q9 => nr_z q9.2 (by decide))).trans c_242
                have c_372 : E342 (1 + (nd - 1)) 11 = .inl (kA 2, 5, .inl tr_221) := (p_349 (1 + (nd - 1)) 11 (fun q9 => nr_z q9.2 (by decide)) (fun q9 => nr_z q9.2 (by decide)) (fun q9 => nr_z q9.2 (by decide))).trans c_244
                have c_373 : E342 (1 + (nd - 1)) 12 = .inl (kA 2, 5, .inl op_221) := (p_349 (1 + (nd - 1)) 12 (fun q9 => nr_z q9.2 (by decide)) (fun q9 => nr_z q9.2 (by decide)) (fun q9 => nr_z q9.2 (by decide))).trans c_246
                have hP : va_P D xcl (rp ad E342 RL) H := hP
                have hD : va_D A (rp ad E342 RL) := hD
                have hok9 : okG (g 0) wl nd g := ⟨Or.inl (by omega), hc214, by omega, by rw [← tsd_221]; exact hc330⟩
                have hnew9 : w343 = (lG 8 10 (g 0) wl nd g) 10 (6 * (nd - 1) + z319) ∧ (w343 = 0 → NT w344 w345 (fun j => (lG 8 10 (g 0) wl nd g) 8 (3 * (6 * (nd - 1) + z319) + j))) := by rw [lG_w2 hpi9 hok9 (by omega)]; exact gr_up2 rfl hp350.2
                have hTD9 := (show TD (lG 8 10 (g 0) wl nd g) (E342 (1 + (nd - 1))) (nd - 1) from TD_mk (by omega) (by omega) (by omega) (by omega) c_361 c_362 c_363 c_364 c_365 c_366 c_367 c_368 c_369 c_372 c_373 (TT_G (by omega) hTT_221) (gr_all8 (i := z319) hk0_221 (lG_ne (by decide) (by decide) : (lG 8 10 (g 0) wl nd g) 7 = g 7) (lG_ne (by decide) (by decide) : (lG 8 10 (g 0) wl nd g) 9 = g 9) (lG_oth (by decide) hpi9 (by omega)) (by omega) (fun o9 h19 h29 h39 => (show E342 (1 + (nd - 1)) o9 = E (1 + (nd - 1)) o9 from by show E342 (1 + (nd - 1)) o9 = _; rw [p_349 (1 + (nd - 1)) o9 (by omega) (by omega) (by omega)])) (TG_mk hp350.1 p_346 p_347 p_348 hnew9.1 hnew9.2) tgr_221))
                have hTD2 : TDs (lG 8 10 (g 0) wl nd g) E342 nd := TDs_upd (x := nd - 1) hDIs (fun d9 hd9 hx9 => fun2 fun o9 => by show E342 (1 + d9) o9 = _; rw [p_349 (1 + d9) o9 (by omega) (by omega) (by omega)]) (fun d9 hd9 hx9 => AG_G (by omega) (by omega) hx9) hTD9 hTD
                have hFRL : FRL ml nd ad ad E E342 := ⟨fun n9 hn9 => ⟨fun2 fun o9 => by show E342 (20 + n9) o9 = _; rw [p_349 (20 + n9) o9 (by omega) (by omega) (by omega)], fun2 fun o9 => rfl⟩, fun d9 hd9 => rfl, by show E342 0 0 = _; rw [p_349 0 0 (by omega) (by omega) (by omega)]⟩
                have hCI : CI kA ad E342 RL ml nd len wl.length cs := ⟨hmB, ⟨lf_1, c_351⟩, ⟨tx_4, fb_4, fe_4, (by omega), (by omega), c_352, c_353, c_354, c_355, hws_4⟩, ⟨fd_13, (by omega), c_356, c_357, hds_13⟩, ⟨cf_18, pv_18, fc_18, (by omega), hpv_18, c_358, c_359, hfc_18⟩, ⟨fl_23, (by omega), c_360, hla_23⟩, (DIs_set (x := nd - 1) (fun d9 hd9 hx9 => fun2 fun o9 => by show E342 (1 + d9) o9 = _; rw [p_349 (1 + d9) o9 (by omega) (by omega) (by omega)]) (fun _ _ _ => rfl) (fun _ h => h) (DI_gr (o0 := 38) (i := z319) (hDIs (nd - 1) (by omega)) (by omega) (by omega) (fun o9 h19 h29 h39 => by show E342 (1 + (nd - 1)) o9 = _; rw [p_349 (1 + (nd - 1)) o9 (by omega) (by omega) (by omega)]) ⟨m_325, m_327, m_329, w343, w344, w345, hp350.1, p_346, p_347, p_348⟩) hDIs), (LIs_same (Nat.le_refl _) (fun n9 hn9 => fun2 fun o9 => by show E342 (20 + n9) o9 = _; rw [p_349 (20 + n9) o9 (by omega) (by omega) (by omega)]) (fun _ _ => rfl) (fun _ _ => rfl) (fun _ h9 => h9) hLIs)⟩
                obtain ⟨hmB, hDk, hLi, hSh, hCh, hLa, hDIs, hLIs⟩ := id hCI
                refine lv_iconst (v := 2) hx hb xd_Sh_acceptGrant_146 (by decide) ?_
                refine W.widen (k := 0) (n := 0) (Nat.le_of_ble_eq_true rfl) (Nat.le_of_ble_eq_true rfl) ?_
                exact W.iret (v := 2) hx hb hr (fun t ht hW => ⟨⟨2, (ad, E342, RL), rfl, (by rw [cif_neg hw2]; exact ⟨hCI, hTD2, rfl, hFRL⟩), by rw [ht]; exact hP, hD⟩, hS.F ht⟩) hS.2.2 xd_Sh_acceptGrant_147
              · refine W.eq (g2 := F0 m 134 ls [.int 0]) rfl ?_
                refine lv_if_ne (tgt := 140) hx hb xd_Sh_acceptGrant_134 (by decide) (fun hc374 => absurd (by decide) hc374) (fun _ => ?_)
                refine lv_bipush (v := (-2)) hx hb xd_Sh_acceptGrant_137 (by decide) ?_
                refine W.widen (k := 0) (n := 0) (Nat.le_of_ble_eq_true rfl) (Nat.le_of_ble_eq_true rfl) ?_
                exact W.iret (v := (-2)) hx hb hr (fun t ht hW => ⟨⟨(-2), (ad, E, RL), rfl, absurd rfl z335, by rw [ht]; exact hP, hD⟩, hS.F ht⟩) hS.2.2 xd_Sh_acceptGrant_139
theorem k5j_0 : (Cond.fieldLink "LayerDesk$Shelf" 27 "LayerDesk$Line" "words" "I") ∈ wT := wT_t (List.mem_append_left _ (List.mem_of_getElem? (i := 41) rfl)) rfl
theorem k5j_1 : (Cond.code xy_Li_wordIs xb_Li_wordIs 4 (some .boolean)) ∈ wT := wT_t (List.mem_append_left _ (List.mem_of_getElem? (i := 199) rfl)) rfl
theorem k5j_2 : (Cond.methodLink "LayerDesk$Shelf" 34 xy_Li_wordIs) ∈ wT := wT_t (List.mem_append_left _ (List.mem_of_getElem? (i := 196) rfl)) rfl
theorem k5j_3 : (Cond.instanceMethod xy_Li_wordIs) ∈ wT := wT_t (List.mem_append_left _ (List.mem_of_getElem? (i := 197) rfl)) rfl
theorem k5j_4 : (Cond.selects "LayerDesk$Line" xy_Li_wordIs xy_Li_wordIs) ∈ wT := wT_t (List.mem_append_left _ (List.mem_of_getElem? (i := 198) rfl)) rfl
theorem k5j_5 : (Cond.initialized "LayerDesk$Line") ∈ wT := wT_t (List.mem_append_left _ (List.mem_of_getElem? (i := 2) rfl)) rfl
theorem k5j_6 : (Cond.code xy_Sh_acceptDescriptor xb_Sh_acceptDescriptor 5 (some .int)) ∈ wT := wT_t (List.mem_append_right _ (List.mem_append_left _ (List.mem_of_getElem? (i := 11) rfl))) rfl
theorem k5j_7 : (Cond.methodLink "LayerDesk$Shelf" 38 xy_Sh_acceptDescriptor) ∈ wT := wT_t (List.mem_append_right _ (List.mem_append_left _ (List.mem_of_getElem? (i := 8) rfl))) rfl
theorem k5j_8 : (Cond.instanceMethod xy_Sh_acceptDescriptor) ∈ wT := wT_t (List.mem_append_right _ (List.mem_append_left _ (List.mem_of_getElem? (i := 10) rfl))) rfl
theorem k5j_9 : (Cond.selects "LayerDesk$Shelf" xy_Sh_acceptDescriptor xy_Sh_acceptDescriptor) ∈ wT := wT_s (q := (xy_Sh_acceptDescriptor, 2)) (by decide +kernel) rfl
theorem k5j_10 : (Cond.initialized "LayerDesk$Shelf") ∈ wT := wT_t (List.mem_append_left _ (List.mem_of_getElem? (i := 3) rfl)) rfl
theorem k5j_11 : (Cond.code xy_Sh_acceptPackage xb_Sh_acceptPackage 4 (some .int)) ∈ wT := wT_t (List.mem_append_right _ (List.mem_append_left _ (List.mem_of_getElem? (i := 115) rfl))) rfl
theorem k5j_12 : (Cond.methodLink "LayerDesk$Shelf" 44 xy_Sh_acceptPackage) ∈ wT := wT_t (List.mem_append_right _ (List.mem_append_left _ (List.mem_of_getElem? (i := 112) rfl))) rfl
theorem k5j_13 : (Cond.instanceMethod xy_Sh_acceptPackage) ∈ wT := wT_t (List.mem_append_right _ (List.mem_append_left _ (List.mem_of_getElem? (i := 114) rfl))) rfl
theorem k5j_14 : (Cond.selects "LayerDesk$Shelf" xy_Sh_acceptPackage xy_Sh_acceptPackage) ∈ wT := wT_s (q := (xy_Sh_acceptPackage, 2)) (by decide +kernel) rfl
theorem k5j_15 : (Cond.code xy_Sh_acceptGrant xb_Sh_acceptGrant 7 (some .int)) ∈ wT := wT_t (List.mem_append_right _ (List.mem_append_left _ (List.mem_of_getElem? (i := 161) rfl))) rfl
theorem k5j_16 : (Cond.methodLink "LayerDesk$Shelf" 51 xy_Sh_acceptGrant) ∈ wT := wT_t (List.mem_append_right _ (List.mem_append_left _ (List.mem_of_getElem? (i := 158) rfl))) rfl
theorem k5j_17 : (Cond.instanceMethod xy_Sh_acceptGrant) ∈ wT := wT_t (List.mem_append_right _ (List.mem_append_left _ (List.mem_of_getElem? (i := 160) rfl))) rfl
theorem k5j_18 : (Cond.selects "LayerDesk$Shelf" xy_Sh_acceptGrant xy_Sh_acceptGrant) ∈ wT := wT_s (q := (xy_Sh_acceptGrant, 2)) (by decide +kernel) rfl
theorem k5j_19 : (Cond.code xy_Sh_acceptRequired xb_Sh_acceptRequired 7 (some .int)) ∈ wT := wT_t (List.mem_append_right _ (List.mem_append_left _ (List.mem_of_getElem? (i := 191) rfl))) rfl
theorem k5j_20 : (Cond.methodLink "LayerDesk$Shelf" 56 xy_Sh_acceptRequired) ∈ wT := wT_t (List.mem_append_right _ (List.mem_append_left _ (List.mem_of_getElem? (i := 188) rfl))) rfl
theorem k5j_21 : (Cond.instanceMethod xy_Sh_acceptRequired) ∈ wT := wT_t (List.mem_append_right _ (List.mem_append_left _ (List.mem_of_getElem? (i := 190) rfl))) rfl
theorem k5j_22 : (Cond.selects "LayerDesk$Shelf" xy_Sh_acceptRequired xy_Sh_acceptRequired) ∈ wT := wT_s (q := (xy_Sh_acceptRequired, 2)) (by decide +kernel) rfl
theorem k5j_23 : (Cond.code xy_Sh_acceptService xb_Sh_acceptService 5 (some .int)) ∈ wT := wT_t (List.mem_append_right _ (List.mem_append_left _ (List.mem_of_getElem? (i := 203) rfl))) rfl
theorem k5j_24 : (Cond.methodLink "LayerDesk$Shelf" 63 xy_Sh_acceptService) ∈ wT := wT_t (List.mem_append_right _ (List.mem_append_left _ (List.mem_of_getElem? (i := 200) rfl))) rfl
theorem k5j_25 : (Cond.instanceMethod xy_Sh_acceptService) ∈ wT := wT_t (List.mem_append_right _ (List.mem_append_left _ (List.mem_of_getElem? (i := 202) rfl))) rfl
theorem k5j_26 : (Cond.selects "LayerDesk$Shelf" xy_Sh_acceptService xy_Sh_acceptService) ∈ wT := wT_s (q := (xy_Sh_acceptService, 2)) (by decide +kernel) rfl
set_option maxHeartbeats 4000000 in
set_option maxRecDepth 100000 in
theorem xc_Sh_acceptX (l : Launch) (D : va_G) (kA : Nat → ClassId) (sz : Nat) (ad : Nat → Nat → Nat) (E : Nat → Nat → va_E) (RL : List (Nat × Nat)) (Z : zT) (g : Nat → Nat → Int32) (ml : Nat) (nd : Nat) (len : Nat) (lt : Nat) (wl : List (Nat × Nat)) (cs : Nat) (hCI : CI kA ad E RL ml nd len wl.length cs) (hLW : LW g E lt wl) (hTD : TDs g E nd) (hZI : ZI g nd) : Met l xy_Sh_accept (.code xy_Sh_accept xb_Sh_accept 2 (some .int) :: wT) { frames := 6, cells := 13, slots := 66, locals := 134 } (va_Pc [.ref (ad 0 5), .ref (ad 0 1)] (xPreZ D kA sz (rp ad E RL) Z)) (va_Qi (fun (r : Int32) (u : (Nat → Nat → Nat) × (Nat → Nat → va_E) × List (Nat × Nat)) => CI kA u.1 u.2.1 u.2.2 ml (lnF (g 0) wl nd g).1 len wl.length cs ∧ TDs (lnF (g 0) wl nd g).2 u.2.1 (lnF (g 0) wl nd g).1 ∧ u.1 0 0 = ad 0 0 ∧ FRL ml nd ad u.1 E u.2.1) (fun (u : (Nat → Nat → Nat) × (Nat → Nat → va_E) × List (Nat × Nat)) t => va_P D xcl (rp u.1 u.2.1 u.2.2) t.heap ∧ va_D (va_A (rp ad E RL) sz) (rp u.1 u.2.1 u.2.2)) (va_A (rp ad E RL) sz)) 13 66 (va_A (rp ad E RL) sz) := by
  refine Met.ofW (cc := xb_Sh_accept) (maxL := 2) (ret := (some .int)) (by decide) rfl ?_
  intro p e s m args below meth c s₁ B hml hv
  obtain ⟨rfl, ⟨hsz, hP, hK, hD0⟩, hZ⟩ := hv
  have hx := B.exec
  have hb := B.bytes
  have hr := B.returns
  have hT := x_hT B.pre
  have hown : s.vm.findClass xR_Sh = some m.cls := findClass_of_methodNamed B.named
  have hlocks := B.notSynchronized
  subst hsz
  have hD := hD0.self (sz := s.heap.size)
  generalize hAe : va_A (rp ad E RL) s.heap.size = A at hD hZ ⊢
  have hA : ∀ q : Nat, s.heap.size ≤ q → A q := fun q h => by rw [← hAe]; exact Or.inr h
  have hS : va_S A s.heap s.heap [] := va_S.rf
  have hl := lv_entry ([.ref (ad 0 5), .ref (ad 0 1)]) (n := 2) (Nat.le_of_ble_eq_true rfl)
  rw [lg_entry_eq]
  generalize (lg_sl ([.ref (ad 0 5), .ref (ad 0 1)]) ++ List.replicate (2 - (lg_sl ([.ref (ad 0 5), .ref (ad 0 1)])).length) Slot.unset).toArray = ls at hl ⊢
  have hl : lv_has ls 2 [(0, .ref (ad 0 5)), (1, .ref (ad 0 1))] := hl
  have hP : va_P D xcl (rp ad E RL) s.heap := hP
  obtain ⟨hmB, hDk, hLi, hSh, hCh, hLa, hDIs, hLIs⟩ := id hCI
  obtain ⟨hWL, hlt40, hLwd, hLtx⟩ := id hLW
  obtain ⟨tx_1, fb_1, fe_1, hl1_1, hw2_1, q1_1, q2_1, q3_1, q4_1, hws_1⟩ := id (hLi)
  have c_2 : E 0 1 = .inr (1, [.ref (ad 0 2), .ref (ad 0 3), .ref (ad 0 4), .int (nI len), .int (nI (wl.length))]) := q1_1
  have m_3 : (0, 1) ∈ RL := hmB 1 (by decide)
  have c_4 : E 0 2 = .inl (kA 1, 40, .inl tx_1) := q2_1
  have m_5 : (0, 2) ∈ RL := hmB 2 (by decide)
  have c_6 : E 0 3 = .inl (kA 0, 20, .inl fb_1) := q3_1
  have m_7 : (0, 3) ∈ RL := hmB 3 (by decide)
  have c_8 : E 0 4 = .inl (kA 0, 20, .inl fe_1) := q4_1
  have m_9 : (0, 4) ∈ RL := hmB 4 (by decide)
  obtain ⟨zw0, zw1, zw2, zw3, zw4, zw5, zw6, zw7, zw8, zw9, zw10, zw11⟩ := zW_all
  refine lv_aload_n hx hb xd_Sh_accept_0 rfl (lv_at hl 1 rfl) ?_
  refine px_get (D := D) (ci := 1) (v := .int (nI (wl.length))) (C := xR_Li) (T := xT_Li) (N := 5) hx hb hT xi_Li hown hK.1 hP m_3 c_2 rfl 4 (by decide) (hT _ k5j_0) (fun _ h9 => h9) rfl xd_Sh_accept_1 ?_
  refine xz_ne (a := wl.length) (tgt := 9) hx hb xd_Sh_accept_4 (by decide) (by omega) (fun hc10 => ?_) (fun hc10 => ?_)
  · refine lv_aload_n hx hb xd_Sh_accept_9 rfl (lv_at hl 1 rfl) ?_
    refine lv_iconst (v := 0) hx hb xd_Sh_accept_10 (by decide) ?_
    refine va_ldcS (q := Z.1 0) hx hb hown hZ.2.2.2.1.1 xd_Sh_accept_11 ?_
    have hFc := px_free hD hS hA
    refine va_calli (va_runV (As := [.int 0, .ref (Z.1 0)]) (rest := []) ⟨hx, hb, hml, hown, hT⟩ (xc_Li_wordIsX l D kA s.heap.size ad E RL Z g ml nd len lt wl cs 0 0 (by first | assumption | omega) (by first | assumption | omega) (by first | assumption | omega) (by first | assumption | omega)) (cwV 2 hT (wT_V k5j_2 k5j_3 k5j_4 k5j_5 k5j_1) rfl rfl rfl (by decide +kernel) ⟨Nat.le_of_ble_eq_true rfl, Nat.le_of_ble_eq_true rfl⟩) (px_preVZ hK hP hD m_3 c_2 rfl hFc (hZ.kept hS)) rfl rfl hl.1 rfl (lv_room (Nat.le_of_ble_eq_true rfl)) xd_Sh_accept_13 ⟨(Nat.le_of_ble_eq_true rfl), (Nat.le_of_ble_eq_true rfl)⟩) hS (fun q _ h => hFc q h) hFc (fun r11 u12 t H1 locs ht hvm hp13 hB hz1 hk1 hS => ?_)
    obtain ⟨hP1, hD1⟩ := hB
    rw [ht] at hP1
    have hD1 := hD1.weaken (fun _ _ _ h => hFc _ h)
    generalize H1 = H at hP1 hS ⊢
    have hP := hP1
    have hD := hD1
    have hP : va_P D xcl (rp ad E RL) H := hP
    have hD : va_D A (rp ad E RL) := hD
    rcases hp13 with ⟨rfl, z14⟩ | ⟨rfl, z15⟩
    · have hw0 : wS (g 0) wl 0 zMo := by have q := z14; rw [zw0] at q; exact q
      refine W.eq (g2 := F0 m 16 ls [.int 1]) rfl ?_
      refine lv_if_eq (tgt := 25) hx hb xd_Sh_accept_16 (by decide) (fun hc16 => absurd hc16 (by decide)) (fun _ => ?_)
      refine lv_aload_n hx hb xd_Sh_accept_19 rfl (lv_at hl 0 rfl) ?_
      refine lv_aload_n hx hb xd_Sh_accept_20 rfl (lv_at hl 1 rfl) ?_
      have hFc := px_free hD hS hA
      obtain ⟨fd_17, hnd_17, q5_17, q6_17, hds_17⟩ := id (hSh)
      have c_18 : E 0 5 = .inr (2, [.ref (ad 0 6), .int (nI nd)]) := q5_17
      have m_19 : (0, 5) ∈ RL := hmB 5 (by decide)
      have c_20 : E 0 6 = .inl (kA 4, 12, .inr (.inr (.inr (.inr fd_17)))) := q6_17
      have m_21 : (0, 6) ∈ RL := hmB 6 (by decide)
      refine va_calli (va_runV (As := [.ref (ad 0 1)]) (rest := []) ⟨hx, hb, hml, hown, hT⟩ (xc_Sh_acceptDescriptorX l D kA H.size ad E RL Z g ml nd len lt wl cs (by first | assumption | omega) (by first | assumption | omega) (by first | assumption | omega) (by first | assumption | omega)) (cwV 1 hT (wT_V k5j_7 k5j_8 k5j_9 k5j_10 k5j_6) rfl rfl rfl (by decide +kernel) ⟨Nat.le_of_ble_eq_true rfl, Nat.le_of_ble_eq_true rfl⟩) (px_preVZ hK hP hD m_19 c_18 rfl hFc (hZ.kept hS)) rfl rfl hl.1 rfl (lv_room (Nat.le_of_ble_eq_true rfl)) xd_Sh_accept_21 ⟨(Nat.le_of_ble_eq_true rfl), (Nat.le_of_ble_eq_true rfl)⟩) hS (fun q _ h => hFc q h) hFc (fun r22 u23 t H1 locs ht hvm hp24 hB hz1 hk1 hS => ?_)
      obtain ⟨hP1, hD1⟩ := hB
      rw [ht] at hP1
      have hD1 := hD1.weaken (fun _ _ _ h => hFc _ h)
      generalize H1 = H at hP1 hS ⊢
      have hP := hP1
      have hD := hD1
      obtain ⟨ad25, E26, RL27⟩ := u23
      have hl := lv_sub hl [] rfl
      have hl : lv_has ls 2 [] := hl
      have hP : va_P D xcl (rp ad25 E26 RL27) H := hP
      have hD : va_D A (rp ad25 E26 RL27) := hD
      have hCIx := hp24
      refine W.widen (k := 13) (n := 66) (Nat.le_of_ble_eq_true rfl) (Nat.le_of_ble_eq_true rfl) ?_
      exact W.iret (v := r22) hx hb hr (fun t ht hW => ⟨⟨r22, (ad25, E26, RL27), rfl, (by
        have e9 : lnF (g 0) wl nd g = lD (g 0) wl nd g := by unfold lnF; rw [cif_pos hw0]
        rw [e9]; exact hCIx), by rw [ht]; exact hP, hD⟩, hS.F ht⟩) hS.2.2 xd_Sh_accept_24
    · have hw0 : ¬ wS (g 0) wl 0 zMo := by have q := z15; rw [zw0] at q; exact q
      refine W.eq (g2 := F0 m 16 ls [.int 0]) rfl ?_
      refine lv_if_eq (tgt := 25) hx hb xd_Sh_accept_16 (by decide) (fun _ => ?_) (fun hc28 => absurd (by decide) hc28)
      refine lv_aload_n hx hb xd_Sh_accept_25 rfl (lv_at hl 1 rfl) ?_
      refine lv_iconst (v := 0) hx hb xd_Sh_accept_26 (by decide) ?_
      refine va_ldcS (q := Z.1 1) hx hb hown hZ.2.2.2.1.2.1 xd_Sh_accept_27 ?_
      have hFc := px_free hD hS hA
      refine va_calli (va_runV (As := [.int 0, .ref (Z.1 1)]) (rest := []) ⟨hx, hb, hml, hown, hT⟩ (xc_Li_wordIsX l D kA H.size ad E RL Z g ml nd len lt wl cs 0 1 (by first | assumption | omega) (by first | assumption | omega) (by first | assumption | omega) (by first | assumption | omega)) (cwV 2 hT (wT_V k5j_2 k5j_3 k5j_4 k5j_5 k5j_1) rfl rfl rfl (by decide +kernel) ⟨Nat.le_of_ble_eq_true rfl, Nat.le_of_ble_eq_true rfl⟩) (px_preVZ hK hP hD m_3 c_2 rfl hFc (hZ.kept hS)) rfl rfl hl.1 rfl (lv_room (Nat.le_of_ble_eq_true rfl)) xd_Sh_accept_29 ⟨(Nat.le_of_ble_eq_true rfl), (Nat.le_of_ble_eq_true rfl)⟩) hS (fun q _ h => hFc q h) hFc (fun r29 u30 t H1 locs ht hvm hp31 hB hz1 hk1 hS => ?_)
      obtain ⟨hP1, hD1⟩ := hB
      rw [ht] at hP1
      have hD1 := hD1.weaken (fun _ _ _ h => hFc _ h)
      generalize H1 = H at hP1 hS ⊢
      have hP := hP1
      have hD := hD1
      have hP : va_P D xcl (rp ad E RL) H := hP
      have hD : va_D A (rp ad E RL) := hD
      rcases hp31 with ⟨rfl, z32⟩ | ⟨rfl, z33⟩
      · have hw1 : wS (g 0) wl 0 zPa := by have q := z32; rw [zw1] at q; exact q
        refine W.eq (g2 := F0 m 32 ls [.int 1]) rfl ?_
        refine lv_if_eq (tgt := 41) hx hb xd_Sh_accept_32 (by decide) (fun hc34 => absurd hc34 (by decide)) (fun _ => ?_)
        refine lv_aload_n hx hb xd_Sh_accept_35 rfl (lv_at hl 0 rfl) ?_
        refine lv_aload_n hx hb xd_Sh_accept_36 rfl (lv_at hl 1 rfl) ?_
        have hFc := px_free hD hS hA
        obtain ⟨fd_35, hnd_35, q5_35, q6_35, hds_35⟩ := id (hSh)
        have c_36 : E 0 5 = .inr (2, [.ref (ad 0 6), .int (nI nd)]) := q5_35
        have m_37 : (0, 5) ∈ RL := hmB 5 (by decide)
        have c_38 : E 0 6 = .inl (kA 4, 12, .inr (.inr (.inr (.inr fd_35)))) := q6_35
        have m_39 : (0, 6) ∈ RL := hmB 6 (by decide)
        refine va_calli (va_runV (As := [.ref (ad 0 1)]) (rest := []) ⟨hx, hb, hml, hown, hT⟩ (xc_Sh_acceptPackageX l D kA H.size ad E RL Z g ml nd len lt wl cs (by first | assumption | omega) (by first | assumption | omega) (by first | assumption | omega) (by first | assumption | omega)) (cwV 1 hT (wT_V k5j_12 k5j_13 k5j_14 k5j_10 k5j_11) rfl rfl rfl (by decide +kernel) ⟨Nat.le_of_ble_eq_true rfl, Nat.le_of_ble_eq_true rfl⟩) (px_preVZ hK hP hD m_37 c_36 rfl hFc (hZ.kept hS)) rfl rfl hl.1 rfl (lv_room (Nat.le_of_ble_eq_true rfl)) xd_Sh_accept_37 ⟨(Nat.le_of_ble_eq_true rfl), (Nat.le_of_ble_eq_true rfl)⟩) hS (fun q _ h => hFc q h) hFc (fun r40 u41 t H1 locs ht hvm hp42 hB hz1 hk1 hS => ?_)
        obtain ⟨hP1, hD1⟩ := hB
        rw [ht] at hP1
        have hD1 := hD1.weaken (fun _ _ _ h => hFc _ h)
        generalize H1 = H at hP1 hS ⊢
        have hP := hP1
        have hD := hD1
        obtain ⟨ad43, E44, RL45⟩ := u41
        have hl := lv_sub hl [] rfl
        have hl : lv_has ls 2 [] := hl
        have hP : va_P D xcl (rp ad43 E44 RL45) H := hP
        have hD : va_D A (rp ad43 E44 RL45) := hD
        have hCIx := hp42
        refine W.widen (k := 13) (n := 66) (Nat.le_of_ble_eq_true rfl) (Nat.le_of_ble_eq_true rfl) ?_
        exact W.iret (v := r40) hx hb hr (fun t ht hW => ⟨⟨r40, (ad43, E44, RL45), rfl, (by
        have e9 : lnF (g 0) wl nd g = (nd, lP (g 0) wl nd g) := by unfold lnF; rw [cif_neg hw0, cif_pos hw1]
        rw [e9]; exact hCIx), by rw [ht]; exact hP, hD⟩, hS.F ht⟩) hS.2.2 xd_Sh_accept_40
      · have hw1 : ¬ wS (g 0) wl 0 zPa := by have q := z33; rw [zw1] at q; exact q
        refine W.eq (g2 := F0 m 32 ls [.int 0]) rfl ?_
        refine lv_if_eq (tgt := 41) hx hb xd_Sh_accept_32 (by decide) (fun _ => ?_) (fun hc46 => absurd (by decide) hc46)
        refine lv_aload_n hx hb xd_Sh_accept_41 rfl (lv_at hl 1 rfl) ?_
        refine lv_iconst (v := 0) hx hb xd_Sh_accept_42 (by decide) ?_
        refine va_ldcS (q := Z.1 2) hx hb hown hZ.2.2.2.1.2.2.1 xd_Sh_accept_43 ?_
        have hFc := px_free hD hS hA
        refine va_calli (va_runV (As := [.int 0, .ref (Z.1 2)]) (rest := []) ⟨hx, hb, hml, hown, hT⟩ (xc_Li_wordIsX l D kA H.size ad E RL Z g ml nd len lt wl cs 0 2 (by first | assumption | omega) (by first | assumption | omega) (by first | assumption | omega) (by first | assumption | omega)) (cwV 2 hT (wT_V k5j_2 k5j_3 k5j_4 k5j_5 k5j_1) rfl rfl rfl (by decide +kernel) ⟨Nat.le_of_ble_eq_true rfl, Nat.le_of_ble_eq_true rfl⟩) (px_preVZ hK hP hD m_3 c_2 rfl hFc (hZ.kept hS)) rfl rfl hl.1 rfl (lv_room (Nat.le_of_ble_eq_true rfl)) xd_Sh_accept_45 ⟨(Nat.le_of_ble_eq_true rfl), (Nat.le_of_ble_eq_true rfl)⟩) hS (fun q _ h => hFc q h) hFc (fun r47 u48 t H1 locs ht hvm hp49 hB hz1 hk1 hS => ?_)
        obtain ⟨hP1, hD1⟩ := hB
        rw [ht] at hP1
        have hD1 := hD1.weaken (fun _ _ _ h => hFc _ h)
        generalize H1 = H at hP1 hS ⊢
        have hP := hP1
        have hD := hD1
        have hP : va_P D xcl (rp ad E RL) H := hP
        have hD : va_D A (rp ad E RL) := hD
        rcases hp49 with ⟨rfl, z50⟩ | ⟨rfl, z51⟩
        · have hw2 : wS (g 0) wl 0 zEx := by have q := z50; rw [zw2] at q; exact q
          refine W.eq (g2 := F0 m 48 ls [.int 1]) rfl ?_
          refine lv_if_ne (tgt := 61) hx hb xd_Sh_accept_48 (by decide) (fun _ => ?_) (fun hc52 => absurd hc52 (by decide))
          refine lv_aload_n hx hb xd_Sh_accept_61 rfl (lv_at hl 0 rfl) ?_
          refine lv_aload_n hx hb xd_Sh_accept_62 rfl (lv_at hl 1 rfl) ?_
          have hFc := px_free hD hS hA
          obtain ⟨fd_53, hnd_53, q5_53, q6_53, hds_53⟩ := id (hSh)
          have c_54 : E 0 5 = .inr (2, [.ref (ad 0 6), .int (nI nd)]) := q5_53
          have m_55 : (0, 5) ∈ RL := hmB 5 (by decide)
          have c_56 : E 0 6 = .inl (kA 4, 12, .inr (.inr (.inr (.inr fd_53)))) := q6_53
          have m_57 : (0, 6) ∈ RL := hmB 6 (by decide)
          refine va_calli (va_runV (As := [.ref (ad 0 1)]) (rest := []) ⟨hx, hb, hml, hown, hT⟩ (xc_Sh_acceptGrantX l D kA H.size ad E RL Z g ml nd len lt wl cs (by first | assumption | omega) (by first | assumption | omega) (by first | assumption | omega) (by first | assumption | omega)) (cwV 1 hT (wT_V k5j_16 k5j_17 k5j_18 k5j_10 k5j_15) rfl rfl rfl (by decide +kernel) ⟨Nat.le_of_ble_eq_true rfl, Nat.le_of_ble_eq_true rfl⟩) (px_preVZ hK hP hD m_55 c_54 rfl hFc (hZ.kept hS)) rfl rfl hl.1 rfl (lv_room (Nat.le_of_ble_eq_true rfl)) xd_Sh_accept_63 ⟨(Nat.le_of_ble_eq_true rfl), (Nat.le_of_ble_eq_true rfl)⟩) hS (fun q _ h => hFc q h) hFc (fun r58 u59 t H1 locs ht hvm hp60 hB hz1 hk1 hS => ?_)
          obtain ⟨hP1, hD1⟩ := hB
          rw [ht] at hP1
          have hD1 := hD1.weaken (fun _ _ _ h => hFc _ h)
          generalize H1 = H at hP1 hS ⊢
          have hP := hP1
          have hD := hD1
          obtain ⟨ad61, E62, RL63⟩ := u59
          have hl := lv_sub hl [] rfl
          have hl : lv_has ls 2 [] := hl
          have hP : va_P D xcl (rp ad61 E62 RL63) H := hP
          have hD : va_D A (rp ad61 E62 RL63) := hD
          have hCIx := hp60
          refine W.widen (k := 13) (n := 66) (Nat.le_of_ble_eq_true rfl) (Nat.le_of_ble_eq_true rfl) ?_
          exact W.iret (v := r58) hx hb hr (fun t ht hW => ⟨⟨r58, (ad61, E62, RL63), rfl, (by
        have e9 : lnF (g 0) wl nd g = (nd, lG 7 9 (g 0) wl nd g) := by unfold lnF; rw [cif_neg hw0, cif_neg hw1, cif_pos hw2]
        rw [cif_pos hw2] at hCIx
        rw [e9]; exact hCIx), by rw [ht]; exact hP, hD⟩, hS.F ht⟩) hS.2.2 xd_Sh_accept_66
        · have hw2 : ¬ wS (g 0) wl 0 zEx := by have q := z51; rw [zw2] at q; exact q
          refine W.eq (g2 := F0 m 48 ls [.int 0]) rfl ?_
          refine lv_if_ne (tgt := 61) hx hb xd_Sh_accept_48 (by decide) (fun hc64 => absurd (by decide) hc64) (fun _ => ?_)
          refine lv_aload_n hx hb xd_Sh_accept_51 rfl (lv_at hl 1 rfl) ?_
          refine lv_iconst (v := 0) hx hb xd_Sh_accept_52 (by decide) ?_
          refine va_ldcS (q := Z.1 3) hx hb hown hZ.2.2.2.1.2.2.2.1 xd_Sh_accept_53 ?_
          have hFc := px_free hD hS hA
          refine va_calli (va_runV (As := [.int 0, .ref (Z.1 3)]) (rest := []) ⟨hx, hb, hml, hown, hT⟩ (xc_Li_wordIsX l D kA H.size ad E RL Z g ml nd len lt wl cs 0 3 (by first | assumption | omega) (by first | assumption | omega) (by first | assumption | omega) (by first | assumption | omega)) (cwV 2 hT (wT_V k5j_2 k5j_3 k5j_4 k5j_5 k5j_1) rfl rfl rfl (by decide +kernel) ⟨Nat.le_of_ble_eq_true rfl, Nat.le_of_ble_eq_true rfl⟩) (px_preVZ hK hP hD m_3 c_2 rfl hFc (hZ.kept hS)) rfl rfl hl.1 rfl (lv_room (Nat.le_of_ble_eq_true rfl)) xd_Sh_accept_55 ⟨(Nat.le_of_ble_eq_true rfl), (Nat.le_of_ble_eq_true rfl)⟩) hS (fun q _ h => hFc q h) hFc (fun r65 u66 t H1 locs ht hvm hp67 hB hz1 hk1 hS => ?_)
          obtain ⟨hP1, hD1⟩ := hB
          rw [ht] at hP1
          have hD1 := hD1.weaken (fun _ _ _ h => hFc _ h)
          generalize H1 = H at hP1 hS ⊢
          have hP := hP1
          have hD := hD1
          have hP : va_P D xcl (rp ad E RL) H := hP
          have hD : va_D A (rp ad E RL) := hD
          rcases hp67 with ⟨rfl, z68⟩ | ⟨rfl, z69⟩
          · have hw3 : wS (g 0) wl 0 zOp := by have q := z68; rw [zw3] at q; exact q
            refine W.eq (g2 := F0 m 58 ls [.int 1]) rfl ?_
            refine lv_if_eq (tgt := 67) hx hb xd_Sh_accept_58 (by decide) (fun hc70 => absurd hc70 (by decide)) (fun _ => ?_)
            refine lv_aload_n hx hb xd_Sh_accept_61 rfl (lv_at hl 0 rfl) ?_
            refine lv_aload_n hx hb xd_Sh_accept_62 rfl (lv_at hl 1 rfl) ?_
            have hFc := px_free hD hS hA
            obtain ⟨fd_71, hnd_71, q5_71, q6_71, hds_71⟩ := id (hSh)
            have c_72 : E 0 5 = .inr (2, [.ref (ad 0 6), .int (nI nd)]) := q5_71
            have m_73 : (0, 5) ∈ RL := hmB 5 (by decide)
            have c_74 : E 0 6 = .inl (kA 4, 12, .inr (.inr (.inr (.inr fd_71)))) := q6_71
            have m_75 : (0, 6) ∈ RL := hmB 6 (by decide)
            refine va_calli (va_runV (As := [.ref (ad 0 1)]) (rest := []) ⟨hx, hb, hml, hown, hT⟩ (xc_Sh_acceptGrantX l D kA H.size ad E RL Z g ml nd len lt wl cs (by first | assumption | omega) (by first | assumption | omega) (by first | assumption | omega) (by first | assumption | omega)) (cwV 1 hT (wT_V k5j_16 k5j_17 k5j_18 k5j_10 k5j_15) rfl rfl rfl (by decide +kernel) ⟨Nat.le_of_ble_eq_true rfl, Nat.le_of_ble_eq_true rfl⟩) (px_preVZ hK hP hD m_73 c_72 rfl hFc (hZ.kept hS)) rfl rfl hl.1 rfl (lv_room (Nat.le_of_ble_eq_true rfl)) xd_Sh_accept_63 ⟨(Nat.le_of_ble_eq_true rfl), (Nat.le_of_ble_eq_true rfl)⟩) hS (fun q _ h => hFc q h) hFc (fun r76 u77 t H1 locs ht hvm hp78 hB hz1 hk1 hS => ?_)
            obtain ⟨hP1, hD1⟩ := hB
            rw [ht] at hP1
            have hD1 := hD1.weaken (fun _ _ _ h => hFc _ h)
            generalize H1 = H at hP1 hS ⊢
            have hP := hP1
            have hD := hD1
            obtain ⟨ad79, E80, RL81⟩ := u77
            have hl := lv_sub hl [] rfl
            have hl : lv_has ls 2 [] := hl
            have hP : va_P D xcl (rp ad79 E80 RL81) H := hP
            have hD : va_D A (rp ad79 E80 RL81) := hD
            have hCIx := hp78
            refine W.widen (k := 13) (n := 66) (Nat.le_of_ble_eq_true rfl) (Nat.le_of_ble_eq_true rfl) ?_
            exact W.iret (v := r76) hx hb hr (fun t ht hW => ⟨⟨r76, (ad79, E80, RL81), rfl, (by
        have e9 : lnF (g 0) wl nd g = (nd, lG 8 10 (g 0) wl nd g) := by unfold lnF; rw [cif_neg hw0, cif_neg hw1, cif_neg hw2, cif_pos hw3]
        rw [cif_neg hw2] at hCIx
        rw [e9]; exact hCIx), by rw [ht]; exact hP, hD⟩, hS.F ht⟩) hS.2.2 xd_Sh_accept_66
          · have hw3 : ¬ wS (g 0) wl 0 zOp := by have q := z69; rw [zw3] at q; exact q
            refine W.eq (g2 := F0 m 58 ls [.int 0]) rfl ?_
            refine lv_if_eq (tgt := 67) hx hb xd_Sh_accept_58 (by decide) (fun _ => ?_) (fun hc82 => absurd (by decide) hc82)
            refine lv_aload_n hx hb xd_Sh_accept_67 rfl (lv_at hl 1 rfl) ?_
            refine lv_iconst (v := 0) hx hb xd_Sh_accept_68 (by decide) ?_
            refine va_ldcS (q := Z.1 4) hx hb hown hZ.2.2.2.1.2.2.2.2.1 xd_Sh_accept_69 ?_
            have hFc := px_free hD hS hA
            refine va_calli (va_runV (As := [.int 0, .ref (Z.1 4)]) (rest := []) ⟨hx, hb, hml, hown, hT⟩ (xc_Li_wordIsX l D kA H.size ad E RL Z g ml nd len lt wl cs 0 4 (by first | assumption | omega) (by first | assumption | omega) (by first | assumption | omega) (by first | assumption | omega)) (cwV 2 hT (wT_V k5j_2 k5j_3 k5j_4 k5j_5 k5j_1) rfl rfl rfl (by decide +kernel) ⟨Nat.le_of_ble_eq_true rfl, Nat.le_of_ble_eq_true rfl⟩) (px_preVZ hK hP hD m_3 c_2 rfl hFc (hZ.kept hS)) rfl rfl hl.1 rfl (lv_room (Nat.le_of_ble_eq_true rfl)) xd_Sh_accept_71 ⟨(Nat.le_of_ble_eq_true rfl), (Nat.le_of_ble_eq_true rfl)⟩) hS (fun q _ h => hFc q h) hFc (fun r83 u84 t H1 locs ht hvm hp85 hB hz1 hk1 hS => ?_)
            obtain ⟨hP1, hD1⟩ := hB
            rw [ht] at hP1
            have hD1 := hD1.weaken (fun _ _ _ h => hFc _ h)
            generalize H1 = H at hP1 hS ⊢
            have hP := hP1
            have hD := hD1
            have hP : va_P D xcl (rp ad E RL) H := hP
            have hD : va_D A (rp ad E RL) := hD
            rcases hp85 with ⟨rfl, z86⟩ | ⟨rfl, z87⟩
            · have hw4 : wS (g 0) wl 0 zRe := by have q := z86; rw [zw4] at q; exact q
              refine W.eq (g2 := F0 m 74 ls [.int 1]) rfl ?_
              refine lv_if_eq (tgt := 83) hx hb xd_Sh_accept_74 (by decide) (fun hc88 => absurd hc88 (by decide)) (fun _ => ?_)
              refine lv_aload_n hx hb xd_Sh_accept_77 rfl (lv_at hl 0 rfl) ?_
              refine lv_aload_n hx hb xd_Sh_accept_78 rfl (lv_at hl 1 rfl) ?_
              have hFc := px_free hD hS hA
              obtain ⟨fd_89, hnd_89, q5_89, q6_89, hds_89⟩ := id (hSh)
              have c_90 : E 0 5 = .inr (2, [.ref (ad 0 6), .int (nI nd)]) := q5_89
              have m_91 : (0, 5) ∈ RL := hmB 5 (by decide)
              have c_92 : E 0 6 = .inl (kA 4, 12, .inr (.inr (.inr (.inr fd_89)))) := q6_89
              have m_93 : (0, 6) ∈ RL := hmB 6 (by decide)
              refine va_calli (va_runV (As := [.ref (ad 0 1)]) (rest := []) ⟨hx, hb, hml, hown, hT⟩ (xc_Sh_acceptRequiredX l D kA H.size ad E RL Z g ml nd len lt wl cs (by first | assumption | omega) (by first | assumption | omega) (by first | assumption | omega) (by first | assumption | omega) (by first | assumption | omega)) (cwV 1 hT (wT_V k5j_20 k5j_21 k5j_22 k5j_10 k5j_19) rfl rfl rfl (by decide +kernel) ⟨Nat.le_of_ble_eq_true rfl, Nat.le_of_ble_eq_true rfl⟩) (px_preVZ hK hP hD m_91 c_90 rfl hFc (hZ.kept hS)) rfl rfl hl.1 rfl (lv_room (Nat.le_of_ble_eq_true rfl)) xd_Sh_accept_79 ⟨(Nat.le_of_ble_eq_true rfl), (Nat.le_of_ble_eq_true rfl)⟩) hS (fun q _ h => hFc q h) hFc (fun r94 u95 t H1 locs ht hvm hp96 hB hz1 hk1 hS => ?_)
              obtain ⟨hP1, hD1⟩ := hB
              rw [ht] at hP1
              have hD1 := hD1.weaken (fun _ _ _ h => hFc _ h)
              generalize H1 = H at hP1 hS ⊢
              have hP := hP1
              have hD := hD1
              obtain ⟨ad97, E98, RL99⟩ := u95
              have hl := lv_sub hl [] rfl
              have hl : lv_has ls 2 [] := hl
              have hP : va_P D xcl (rp ad97 E98 RL99) H := hP
              have hD : va_D A (rp ad97 E98 RL99) := hD
              have hCIx := hp96
              refine W.widen (k := 13) (n := 66) (Nat.le_of_ble_eq_true rfl) (Nat.le_of_ble_eq_true rfl) ?_
              exact W.iret (v := r94) hx hb hr (fun t ht hW => ⟨⟨r94, (ad97, E98, RL99), rfl, (by
        have e9 : lnF (g 0) wl nd g = (nd, lR (g 0) wl nd g) := by unfold lnF; rw [cif_neg hw0, cif_neg hw1, cif_neg hw2, cif_neg hw3, cif_pos hw4]
        rw [e9]; exact hCIx), by rw [ht]; exact hP, hD⟩, hS.F ht⟩) hS.2.2 xd_Sh_accept_82
            · have hw4 : ¬ wS (g 0) wl 0 zRe := by have q := z87; rw [zw4] at q; exact q
              refine W.eq (g2 := F0 m 74 ls [.int 0]) rfl ?_
              refine lv_if_eq (tgt := 83) hx hb xd_Sh_accept_74 (by decide) (fun _ => ?_) (fun hc100 => absurd (by decide) hc100)
              refine lv_aload_n hx hb xd_Sh_accept_83 rfl (lv_at hl 1 rfl) ?_
              refine lv_iconst (v := 0) hx hb xd_Sh_accept_84 (by decide) ?_
              refine va_ldcS (q := Z.1 5) hx hb hown hZ.2.2.2.1.2.2.2.2.2.1 xd_Sh_accept_85 ?_
              have hFc := px_free hD hS hA
              refine va_calli (va_runV (As := [.int 0, .ref (Z.1 5)]) (rest := []) ⟨hx, hb, hml, hown, hT⟩ (xc_Li_wordIsX l D kA H.size ad E RL Z g ml nd len lt wl cs 0 5 (by first | assumption | omega) (by first | assumption | omega) (by first | assumption | omega) (by first | assumption | omega)) (cwV 2 hT (wT_V k5j_2 k5j_3 k5j_4 k5j_5 k5j_1) rfl rfl rfl (by decide +kernel) ⟨Nat.le_of_ble_eq_true rfl, Nat.le_of_ble_eq_true rfl⟩) (px_preVZ hK hP hD m_3 c_2 rfl hFc (hZ.kept hS)) rfl rfl hl.1 rfl (lv_room (Nat.le_of_ble_eq_true rfl)) xd_Sh_accept_87 ⟨(Nat.le_of_ble_eq_true rfl), (Nat.le_of_ble_eq_true rfl)⟩) hS (fun q _ h => hFc q h) hFc (fun r101 u102 t H1 locs ht hvm hp103 hB hz1 hk1 hS => ?_)
              obtain ⟨hP1, hD1⟩ := hB
              rw [ht] at hP1
              have hD1 := hD1.weaken (fun _ _ _ h => hFc _ h)
              generalize H1 = H at hP1 hS ⊢
              have hP := hP1
              have hD := hD1
              have hP : va_P D xcl (rp ad E RL) H := hP
              have hD : va_D A (rp ad E RL) := hD
              rcases hp103 with ⟨rfl, z104⟩ | ⟨rfl, z105⟩
              · have hw5 : wS (g 0) wl 0 zUs := by have q := z104; rw [zw5] at q; exact q
                refine W.eq (g2 := F0 m 90 ls [.int 1]) rfl ?_
                refine lv_if_ne (tgt := 103) hx hb xd_Sh_accept_90 (by decide) (fun _ => ?_) (fun hc106 => absurd hc106 (by decide))
                refine lv_aload_n hx hb xd_Sh_accept_103 rfl (lv_at hl 0 rfl) ?_
                refine lv_aload_n hx hb xd_Sh_accept_104 rfl (lv_at hl 1 rfl) ?_
                have hFc := px_free hD hS hA
                obtain ⟨fd_107, hnd_107, q5_107, q6_107, hds_107⟩ := id (hSh)
                have c_108 : E 0 5 = .inr (2, [.ref (ad 0 6), .int (nI nd)]) := q5_107
                have m_109 : (0, 5) ∈ RL := hmB 5 (by decide)
                have c_110 : E 0 6 = .inl (kA 4, 12, .inr (.inr (.inr (.inr fd_107)))) := q6_107
                have m_111 : (0, 6) ∈ RL := hmB 6 (by decide)
                refine va_calli (va_runV (As := [.ref (ad 0 1)]) (rest := []) ⟨hx, hb, hml, hown, hT⟩ (xc_Sh_acceptServiceX l D kA H.size ad E RL Z g ml nd len lt wl cs (by first | assumption | omega) (by first | assumption | omega) (by first | assumption | omega) (by first | assumption | omega)) (cwV 1 hT (wT_V k5j_24 k5j_25 k5j_26 k5j_10 k5j_23) rfl rfl rfl (by decide +kernel) ⟨Nat.le_of_ble_eq_true rfl, Nat.le_of_ble_eq_true rfl⟩) (px_preVZ hK hP hD m_109 c_108 rfl hFc (hZ.kept hS)) rfl rfl hl.1 rfl (lv_room (Nat.le_of_ble_eq_true rfl)) xd_Sh_accept_105 ⟨(Nat.le_of_ble_eq_true rfl), (Nat.le_of_ble_eq_true rfl)⟩) hS (fun q _ h => hFc q h) hFc (fun r112 u113 t H1 locs ht hvm hp114 hB hz1 hk1 hS => ?_)
                obtain ⟨hP1, hD1⟩ := hB
                rw [ht] at hP1
                have hD1 := hD1.weaken (fun _ _ _ h => hFc _ h)
                generalize H1 = H at hP1 hS ⊢
                have hP := hP1
                have hD := hD1
                obtain ⟨ad115, E116, RL117⟩ := u113
                have hl := lv_sub hl [] rfl
                have hl : lv_has ls 2 [] := hl
                have hP : va_P D xcl (rp ad115 E116 RL117) H := hP
                have hD : va_D A (rp ad115 E116 RL117) := hD
                have hCIx := hp114
                refine W.widen (k := 13) (n := 66) (Nat.le_of_ble_eq_true rfl) (Nat.le_of_ble_eq_true rfl) ?_
                exact W.iret (v := r112) hx hb hr (fun t ht hW => ⟨⟨r112, (ad115, E116, RL117), rfl, (by
        have e9 : lnF (g 0) wl nd g = (nd, lS 14 (g 0) wl nd g) := by unfold lnF; rw [cif_neg hw0, cif_neg hw1, cif_neg hw2, cif_neg hw3, cif_neg hw4, cif_pos hw5]
        rw [cif_pos hw5] at hCIx
        rw [e9]; exact hCIx), by rw [ht]; exact hP, hD⟩, hS.F ht⟩) hS.2.2 xd_Sh_accept_108
              · have hw5 : ¬ wS (g 0) wl 0 zUs := by have q := z105; rw [zw5] at q; exact q
                refine W.eq (g2 := F0 m 90 ls [.int 0]) rfl ?_
                refine lv_if_ne (tgt := 103) hx hb xd_Sh_accept_90 (by decide) (fun hc118 => absurd (by decide) hc118) (fun _ => ?_)
                refine lv_aload_n hx hb xd_Sh_accept_93 rfl (lv_at hl 1 rfl) ?_
                refine lv_iconst (v := 0) hx hb xd_Sh_accept_94 (by decide) ?_
                refine va_ldcS (q := Z.1 6) hx hb hown hZ.2.2.2.1.2.2.2.2.2.2.1 xd_Sh_accept_95 ?_
                have hFc := px_free hD hS hA
                refine va_calli (va_runV (As := [.int 0, .ref (Z.1 6)]) (rest := []) ⟨hx, hb, hml, hown, hT⟩ (xc_Li_wordIsX l D kA H.size ad E RL Z g ml nd len lt wl cs 0 6 (by first | assumption | omega) (by first | assumption | omega) (by first | assumption | omega) (by first | assumption | omega)) (cwV 2 hT (wT_V k5j_2 k5j_3 k5j_4 k5j_5 k5j_1) rfl rfl rfl (by decide +kernel) ⟨Nat.le_of_ble_eq_true rfl, Nat.le_of_ble_eq_true rfl⟩) (px_preVZ hK hP hD m_3 c_2 rfl hFc (hZ.kept hS)) rfl rfl hl.1 rfl (lv_room (Nat.le_of_ble_eq_true rfl)) xd_Sh_accept_97 ⟨(Nat.le_of_ble_eq_true rfl), (Nat.le_of_ble_eq_true rfl)⟩) hS (fun q _ h => hFc q h) hFc (fun r119 u120 t H1 locs ht hvm hp121 hB hz1 hk1 hS => ?_)
                obtain ⟨hP1, hD1⟩ := hB
                rw [ht] at hP1
                have hD1 := hD1.weaken (fun _ _ _ h => hFc _ h)
                generalize H1 = H at hP1 hS ⊢
                have hP := hP1
                have hD := hD1
                have hP : va_P D xcl (rp ad E RL) H := hP
                have hD : va_D A (rp ad E RL) := hD
                rcases hp121 with ⟨rfl, z122⟩ | ⟨rfl, z123⟩
                · have hw6 : wS (g 0) wl 0 zPr := by have q := z122; rw [zw6] at q; exact q
                  refine W.eq (g2 := F0 m 100 ls [.int 1]) rfl ?_
                  refine lv_if_eq (tgt := 109) hx hb xd_Sh_accept_100 (by decide) (fun hc124 => absurd hc124 (by decide)) (fun _ => ?_)
                  refine lv_aload_n hx hb xd_Sh_accept_103 rfl (lv_at hl 0 rfl) ?_
                  refine lv_aload_n hx hb xd_Sh_accept_104 rfl (lv_at hl 1 rfl) ?_
                  have hFc := px_free hD hS hA
                  obtain ⟨fd_125, hnd_125, q5_125, q6_125, hds_125⟩ := id (hSh)
                  have c_126 : E 0 5 = .inr (2, [.ref (ad 0 6), .int (nI nd)]) := q5_125
                  have m_127 : (0, 5) ∈ RL := hmB 5 (by decide)
                  have c_128 : E 0 6 = .inl (kA 4, 12, .inr (.inr (.inr (.inr fd_125)))) := q6_125
                  have m_129 : (0, 6) ∈ RL := hmB 6 (by decide)
                  refine va_calli (va_runV (As := [.ref (ad 0 1)]) (rest := []) ⟨hx, hb, hml, hown, hT⟩ (xc_Sh_acceptServiceX l D kA H.size ad E RL Z g ml nd len lt wl cs (by first | assumption | omega) (by first | assumption | omega) (by first | assumption | omega) (by first | assumption | omega)) (cwV 1 hT (wT_V k5j_24 k5j_25 k5j_26 k5j_10 k5j_23) rfl rfl rfl (by decide +kernel) ⟨Nat.le_of_ble_eq_true rfl, Nat.le_of_ble_eq_true rfl⟩) (px_preVZ hK hP hD m_127 c_126 rfl hFc (hZ.kept hS)) rfl rfl hl.1 rfl (lv_room (Nat.le_of_ble_eq_true rfl)) xd_Sh_accept_105 ⟨(Nat.le_of_ble_eq_true rfl), (Nat.le_of_ble_eq_true rfl)⟩) hS (fun q _ h => hFc q h) hFc (fun r130 u131 t H1 locs ht hvm hp132 hB hz1 hk1 hS => ?_)
                  obtain ⟨hP1, hD1⟩ := hB
                  rw [ht] at hP1
                  have hD1 := hD1.weaken (fun _ _ _ h => hFc _ h)
                  generalize H1 = H at hP1 hS ⊢
                  have hP := hP1
                  have hD := hD1
                  obtain ⟨ad133, E134, RL135⟩ := u131
                  have hl := lv_sub hl [] rfl
                  have hl : lv_has ls 2 [] := hl
                  have hP : va_P D xcl (rp ad133 E134 RL135) H := hP
                  have hD : va_D A (rp ad133 E134 RL135) := hD
                  have hCIx := hp132
                  refine W.widen (k := 13) (n := 66) (Nat.le_of_ble_eq_true rfl) (Nat.le_of_ble_eq_true rfl) ?_
                  exact W.iret (v := r130) hx hb hr (fun t ht hW => ⟨⟨r130, (ad133, E134, RL135), rfl, (by
        have e9 : lnF (g 0) wl nd g = (nd, lS 15 (g 0) wl nd g) := by unfold lnF; rw [cif_neg hw0, cif_neg hw1, cif_neg hw2, cif_neg hw3, cif_neg hw4, cif_neg hw5, cif_pos hw6]
        rw [cif_neg hw5] at hCIx
        rw [e9]; exact hCIx), by rw [ht]; exact hP, hD⟩, hS.F ht⟩) hS.2.2 xd_Sh_accept_108
                · have hw6 : ¬ wS (g 0) wl 0 zPr := by have q := z123; rw [zw6] at q; exact q
                  refine W.eq (g2 := F0 m 100 ls [.int 0]) rfl ?_
                  refine lv_if_eq (tgt := 109) hx hb xd_Sh_accept_100 (by decide) (fun _ => ?_) (fun hc136 => absurd (by decide) hc136)
                  refine lv_iconst (v := (-1)) hx hb xd_Sh_accept_109 (by decide) ?_
                  refine W.widen (k := 13) (n := 66) (Nat.le_of_ble_eq_true rfl) (Nat.le_of_ble_eq_true rfl) ?_
                  exact W.iret (v := (-1)) hx hb hr (fun t ht hW => ⟨⟨(-1), (ad, E, RL), rfl, (by
        have e9 : lnF (g 0) wl nd g = (nd, g) := by unfold lnF; rw [cif_neg hw0, cif_neg hw1, cif_neg hw2, cif_neg hw3, cif_neg hw4, cif_neg hw5, cif_neg hw6]
        rw [e9]; exact ⟨hCI, hTD, rfl, FRL_rf⟩), by rw [ht]; exact hP, hD⟩, hS.F ht⟩) hS.2.2 xd_Sh_accept_110
  · refine lv_iconst (v := 0) hx hb xd_Sh_accept_7 (by decide) ?_
    refine W.widen (k := 13) (n := 66) (Nat.le_of_ble_eq_true rfl) (Nat.le_of_ble_eq_true rfl) ?_
    exact W.iret (v := 0) hx hb hr (fun t ht hW => ⟨⟨0, (ad, E, RL), rfl, (by rw [lnF_nil (by omega)]; exact ⟨hCI, hTD, rfl, FRL_rf⟩), by rw [ht]; exact hP, hD⟩, hS.F ht⟩) hS.2.2 xd_Sh_accept_8
def eR (e : va_E) : Nat → Option Nat := match e with
  | .inl (_, _, .inr (.inr (.inr (.inr f)))) => f
  | _ => fun _ => none
def TLa (g : gT) (ad : Nat → Nat → Nat) (e : Nat → va_E) (nd n : Nat) : Prop := eI (e 0) 3 = g 22 n ∧ (∃ lq, lq ≤ n ∧ g 19 n = nI lq - 1 ∧ eV (e 0) 1 = lyv ad lq) ∧ g 20 n = nI (eL (e 1)) ∧ ∀ k, k < eL (e 1) → ∃ d, d < nd ∧ g 21 (12 * n + k) = nI d ∧ eV (e (10 + 10 * k)) 1 = .ref (ad (1 + d) 0)
def TLas (g : gT) (ad : Nat → Nat → Nat) (E : Nat → Nat → va_E) (nd nL : Nat) : Prop := ∀ n, n < nL → TLa g ad (E (20 + n)) nd n
theorem TLa_get {g : gT} {ad : Nat → Nat → Nat} {e : Nat → va_E} {nd n mk : Nat} {v0 v2 pv : Value} {op : Int32} {ka : ClassId} {x : (Nat → Int32) ⊕ (Nat → Int64) ⊕ (Nat → UInt32) ⊕ (Nat → UInt64) ⊕ (Nat → Option Nat)} (c0 : e 0 = .inr (5, [v0, pv, v2, .int op])) (c1 : e 1 = .inl (ka, mk, x)) (h : TLa g ad e nd n) : op = g 22 n ∧ (∃ lq, lq ≤ n ∧ g 19 n = nI lq - 1 ∧ pv = lyv ad lq) ∧ g 20 n = nI mk ∧ ∀ k, k < mk → ∃ d, d < nd ∧ g 21 (12 * n + k) = nI d ∧ eV (e (10 + 10 * k)) 1 = .ref (ad (1 + d) 0) := by
  obtain ⟨h1, h2, h3, h4⟩ := h
  rw [c0] at h1 h2
  rw [c1] at h3 h4
  exact ⟨h1, h2, h3, h4⟩
theorem prv_T {g : gT} {ad : Nat → Nat → Nat} {E : Nat → Nat → va_E} {nd nL : Nat} (hL : nL ≤ 6) (h : TLas g ad E nd nL) : ∀ x, x < nL → prv g x ≤ x := fun x hx => by
  obtain ⟨_, ⟨lq, h1, h2, _⟩, _⟩ := h x hx
  rw [prv_of h2 (by omega)]; exact h1
def CX (ad : Nat → Nat → Nat) (E : Nat → Nat → va_E) (nd : Nat) (fi : Int32) (lq : Nat) (L : List Nat) : Prop := eI (E 0 7) 3 = fi ∧ eV (E 0 7) 4 = lyv ad lq ∧ (∀ k, k < L.length → eR (E 0 8) k = some (ad (1 + L.getD k 0) 0)) ∧ GL nd L
def F78 (E E' : Nat → Nat → va_E) : Prop := ∀ b2 o2, ¬ (b2 = 0 ∧ o2 = 7) → ¬ (b2 = 0 ∧ o2 = 8) → E' b2 o2 = E b2 o2
theorem F78_rf {E : Nat → Nat → va_E} : F78 E E := fun _ _ _ _ => rfl
theorem F78_tr {E E' E2 : Nat → Nat → va_E} (h : F78 E E') (h2 : F78 E' E2) : F78 E E2 := fun b o h7 h8 => (h2 b o h7 h8).trans (h b o h7 h8)
theorem TDs_78 {g : gT} {E E' : Nat → Nat → va_E} {nd : Nat} (h : F78 E E') (ht : TDs g E nd) : TDs g E' nd := TDs_same (fun d _ => fun2 fun o => h (1 + d) o (by omega) (by omega)) ht
theorem TLas_same {g : gT} {ad ad' : Nat → Nat → Nat} {E E' : Nat → Nat → va_E} {nd nd' nL : Nat} (hn : nd ≤ nd') (hE : ∀ n, n < nL → E' (20 + n) = E (20 + n)) (h1 : ∀ d, d < nd → ad' (1 + d) 0 = ad (1 + d) 0) (h2 : ∀ n, n < nL → ad' (20 + n) 0 = ad (20 + n) 0) (h : TLas g ad E nd nL) : TLas g ad' E' nd' nL := fun n hn9 => by
  obtain ⟨q1, ⟨lq, q2, q3, q4⟩, q5, q6⟩ := h n hn9
  rw [hE n hn9]
  refine ⟨q1, ⟨lq, q2, q3, ?_⟩, q5, fun k hk => ?_⟩
  · rw [q4]
    cases lq with
    | zero => rfl
    | succ y => show Value.ref (ad (20 + y) 0) = .ref (ad' (20 + y) 0); rw [h2 y (by omega)]
  · obtain ⟨d, r1, r2, r3⟩ := q6 k hk
    exact ⟨d, by omega, r2, by rw [r3, h1 d r1]⟩
theorem TLas_78 {g : gT} {ad : Nat → Nat → Nat} {E E' : Nat → Nat → va_E} {nd nL : Nat} (h : F78 E E') (ht : TLas g ad E nd nL) : TLas g ad E' nd nL := TLas_same (Nat.le_refl _) (fun n _ => fun2 fun o => h (20 + n) o (by omega) (by omega)) (fun _ _ => rfl) (fun _ _ => rfl) ht
theorem lkG_hitT {g : gT} {y k mk : Nat} {n : Int32} (hm : g 20 y = nI mk) (hmk : mk ≤ 12) (hk : k < mk) (h : g 4 (mdv g y k) = n) (hno : ∀ j, j < k → ¬ g 4 (mdv g y j) = n) : lkG g (y + 1) n = some (y, mdv g y k) := lkU_hit (by unfold mcv; rw [hm, iN_nI (by omega)]; exact hk) h hno
theorem lkG_missT {g : gT} {y lq mk : Nat} {n : Int32} (hp : ∀ x, x < y + 1 → prv g x ≤ x) (hm : g 20 y = nI mk) (hmk : mk ≤ 12) (h19 : g 19 y = nI lq - 1) (hlq : lq ≤ 6) (hno : ∀ j, j < mk → ¬ g 4 (mdv g y j) = n) : lkG g (y + 1) n = lkG g lq n := by
  have q := lkU_miss (nm := g 4) (mc := mcv g) (md := mdv g) (pr := prv g) (la := y) (n := n) hp (by unfold mcv; rw [hm, iN_nI (by omega)]; exact hno)
  rw [prv_of h19 (by omega)] at q
  exact q
theorem lyv_s {ad : Nat → Nat → Nat} {lq y : Nat} (h : lq = y + 1) : lyv ad lq = .ref (ad (20 + y) 0) := by rw [h]; rfl
theorem lyv_0 {ad : Nat → Nat → Nat} {lq : Nat} (h : lq = 0) : lyv ad lq = .null := by rw [h]; rfl
theorem k5k_0 : (Cond.fieldLink "LayerDesk$Layer" 19 "LayerDesk$Layer" "members" "[LLayerDesk$Member;") ∈ wT := wT_t (List.mem_append_right _ (List.mem_append_right _ (List.mem_append_left _ (List.mem_of_getElem? (i := 147) rfl)))) rfl
theorem k5k_1 : (Cond.fieldLink "LayerDesk$Layer" 13 "LayerDesk$Layer" "parent" "LLayerDesk$Layer;") ∈ wT := wT_t (List.mem_append_right _ (List.mem_append_right _ (List.mem_append_left _ (List.mem_of_getElem? (i := 143) rfl)))) rfl
theorem k5k_2 : (Cond.fieldLink "LayerDesk$Layer" 27 "LayerDesk$Member" "descriptor" "LLayerDesk$Descriptor;") ∈ wT := wT_t (List.mem_append_right _ (List.mem_append_right _ (List.mem_append_left _ (List.mem_of_getElem? (i := 183) rfl)))) rfl
theorem k5k_3 : (Cond.fieldLink "LayerDesk$Layer" 31 "LayerDesk$Descriptor" "name" "I") ∈ wT := wT_t (List.mem_append_right _ (List.mem_append_left _ (List.mem_of_getElem? (i := 55) rfl))) rfl
theorem k5k_4 : (Cond.fieldLink "LayerDesk" 38 "LayerDesk" "made" "I") ∈ wT := wT_t (List.mem_append_left _ (List.mem_of_getElem? (i := 103) rfl)) rfl
theorem k5k_5 : (Cond.fieldLink "LayerDesk" 34 "LayerDesk" "layers" "[LLayerDesk$Layer;") ∈ wT := wT_t (List.mem_append_left _ (List.mem_of_getElem? (i := 102) rfl)) rfl
theorem k5k_6 : (Cond.fieldLink "LayerDesk" 117 "LayerDesk$Layer" "open" "Z") ∈ wT := wT_t (List.mem_append_right _ (List.mem_append_right _ (List.mem_append_left _ (List.mem_of_getElem? (i := 152) rfl)))) rfl
theorem k5k_7 : (Cond.fieldLink "LayerDesk$Chooser" 17 "LayerDesk$Chooser" "size" "I") ∈ wT := wT_t (List.mem_append_left _ (List.mem_of_getElem? (i := 83) rfl)) rfl
theorem k5k_8 : (Cond.fieldLink "LayerDesk$Chooser" 11 "LayerDesk$Chooser" "chosen" "[LLayerDesk$Descriptor;") ∈ wT := wT_t (List.mem_append_left _ (List.mem_of_getElem? (i := 82) rfl)) rfl
set_option maxHeartbeats 4000000 in
set_option maxRecDepth 100000 in
theorem xc_Ly_lookUpX (l : Launch) (D : va_G) (kA : Nat → ClassId) (sz : Nat) (ad : Nat → Nat → Nat) (E : Nat → Nat → va_E) (RL : List (Nat × Nat)) (g : Nat → Nat → Int32) (nd : Nat) (nL : Nat) (n : Nat) (nm : Int32) (hDIs : DIs kA ad E RL nd) (hLIs : LIs kA ad E RL nd nL) (hnL : nL ≤ 6) (hn : n < nL) (hTD : TDs g E nd) (hTL : TLas g ad E nd nL) (hnd12 : nd ≤ 12) : Met l xy_Ly_lookUp (.code xy_Ly_lookUp xb_Ly_lookUp 4 (some (.object "LayerDesk$Member")) :: wT) { frames := 0, cells := 0, slots := 0, locals := 0 } (va_Pc [.ref (ad (20 + n) 0), .int nm] (xPre D kA sz (rp ad E RL))) (va_Qq (fun (r : Option Nat) (u : Unit) => (r = none ∧ lkG g (n + 1) nm = none) ∨ ∃ x k, x ≤ n ∧ r = some (ad (20 + x) (10 + 10 * k)) ∧ MEI kA ad E RL nd x k ∧ k < iN (g 20 x) ∧ lkG g (n + 1) nm = some (x, mdv g x k)) (fun (u : Unit) t => va_P D xcl (rp ad E RL) t.heap ∧ va_D (va_A (rp ad E RL) sz) (rp ad E RL)) (va_A (rp ad E RL) sz)) 0 0 (va_A (rp ad E RL) sz) := by
  refine Met.ofW (cc := xb_Ly_lookUp) (maxL := 4) (ret := (some (.object "LayerDesk$Member"))) (by decide) rfl ?_
  intro p e s m args below meth c s₁ B hml hv
  obtain ⟨rfl, hsz, hP, hK, hD0⟩ := hv
  have hx := B.exec
  have hb := B.bytes
  have hr := B.returns
  have hT := x_hT B.pre
  have hown : s.vm.findClass xR_Ly = some m.cls := findClass_of_methodNamed B.named
  have hlocks := B.notSynchronized
  subst hsz
  have hD := hD0.self (sz := s.heap.size)
  generalize hAe : va_A (rp ad E RL) s.heap.size = A at hD ⊢
  have hA : ∀ q : Nat, s.heap.size ≤ q → A q := fun q h => by rw [← hAe]; exact Or.inr h
  have hS : va_S A s.heap s.heap [] := va_S.rf
  have hl := lv_entry ([.ref (ad (20 + n) 0), .int nm]) (n := 4) (Nat.le_of_ble_eq_true rfl)
  rw [lg_entry_eq]
  generalize (lg_sl ([.ref (ad (20 + n) 0), .int nm]) ++ List.replicate (4 - (lg_sl ([.ref (ad (20 + n) 0), .int nm])).length) Slot.unset).toArray = ls at hl ⊢
  have hl : lv_has ls 4 [(0, .ref (ad (20 + n) 0)), (1, .int nm)] := hl
  have hP : va_P D xcl (rp ad E RL) s.heap := hP
  refine lv_aload_n hx hb xd_Ly_lookUp_0 rfl (lv_at hl 0 rfl) ?_
  refine lv_astore_n hx hb xd_Ly_lookUp_1 rfl hl (Nat.le_of_ble_eq_true rfl) rfl (fun ls hl => ?_)
  have hl : lv_has ls 4 [(2, .ref (ad (20 + n) 0)), (0, .ref (ad (20 + n) 0)), (1, .int nm)] := hl
  refine xlab (σ := Nat) (ml := 4) 2 (fun (y : Nat) => [(2, (lyv ad y)), (0, .ref (ad (20 + n) 0)), (1, .int nm)]) (fun (y : Nat) => []) (fun (y : Nat) => rp ad E RL) (fun (y : Nat) => (y ≤ n + 1) ∧ (lkG g (n + 1) nm = lkG g y nm)) (fun (y : Nat) => y) ?_ (n + 1) _ _ _ (lv_sub hl [0, 1, 2] rfl) hP hD hS ⟨(show (n + 1) ≤ n + 1 from by first | assumption | omega), (show lkG g (n + 1) nm = lkG g (n + 1) nm from rfl)⟩
  intro n9 ih1 a9 ls H locs hμ hl hP hD hS hI
  subst hμ
  obtain ⟨y, rfl⟩ : ∃ z, z = a9 := ⟨_, rfl⟩
  obtain ⟨hy, hlk⟩ := hI
  have hy : y ≤ n + 1 := hy
  have hlk : lkG g (n + 1) nm = lkG g y nm := hlk
  have hl : lv_has ls 4 [(2, (lyv ad y)), (0, .ref (ad (20 + n) 0)), (1, .int nm)] := hl
  have hP : va_P D xcl (rp ad E RL) H := hP
  have hD : va_D A (rp ad E RL) := hD
  rcases y with _ | y
  · have hl : lv_has ls 4 [(2, .null), (0, .ref (ad (20 + n) 0)), (1, .int nm)] := hl
    refine lv_aload_nN hx hb xd_Ly_lookUp_2 rfl (lv_at hl 0 rfl) ?_
    refine lv_ifnullN (tgt := 54) hx hb xd_Ly_lookUp_3 (by decide) ?_
    refine lv_null hx hb xd_Ly_lookUp_54 ?_
    exact W.aret (v := .null) hx hb hr (Or.inl ⟨_, rfl⟩) (Or.inl rfl) (fun t ht hW => ⟨⟨none, (), rfl, Or.inl ⟨rfl, by rw [hlk]; rfl⟩, by rw [ht]; exact hP, hD⟩, hS.F ht⟩) hS.2.2 xd_Ly_lookUp_55
  · have hl : lv_has ls 4 [(2, .ref (ad (20 + y) 0)), (0, .ref (ad (20 + n) 0)), (1, .int nm)] := hl
    refine lv_aload_n hx hb xd_Ly_lookUp_2 rfl (lv_at hl 0 rfl) ?_
    refine lv_ifnull hx hb xd_Ly_lookUp_3 ?_
    refine lv_iconst (v := 0) hx hb xd_Ly_lookUp_6 (by decide) ?_
    refine lv_istore_n hx hb xd_Ly_lookUp_7 rfl hl (Nat.le_of_ble_eq_true rfl) rfl (fun ls hl => ?_)
    have hl : lv_has ls 4 [(3, .int 0), (2, .ref (ad (20 + y) 0)), (0, .ref (ad (20 + n) 0)), (1, .int nm)] := hl
    obtain ⟨m0_2, m1_2, pv_2, op_2, mk_2, fm_2, hmk_2, hpv_2, q0_2, q1_2, hk_2⟩ := id (hLIs y (by omega))
    have c_3 : E (20 + y) 0 = .inr (5, [.int (nI y), pv_2, .ref (ad (20 + y) 1), .int op_2]) := q0_2
    have m_4 : (20 + y, 0) ∈ RL := m0_2
    have c_5 : E (20 + y) 1 = .inl (kA 6, mk_2, .inr (.inr (.inr (.inr fm_2)))) := q1_2
    have m_6 : (20 + y, 1) ∈ RL := m1_2
    obtain ⟨top_2, ⟨lq_2, hlq_2, h19_2, hpv2_2⟩, h20_2, tmd_2⟩ := TLa_get c_3 c_5 (hTL y (by omega))
    have c_7 : E (20 + y) 0 = .inr (5, [.int (nI y), (lyv ad lq_2), .ref (ad (20 + y) 1), .int op_2]) := by rw [← hpv2_2]; exact c_3
    refine xlab (σ := Nat) (ml := 4) 8 (fun (k : Nat) => [(3, .int (nI k)), (2, .ref (ad (20 + y) 0)), (0, .ref (ad (20 + n) 0)), (1, .int nm)]) (fun (k : Nat) => []) (fun (k : Nat) => rp ad E RL) (fun (k : Nat) => (k ≤ mk_2) ∧ (∀ j, j < k → ¬ g 4 (mdv g y j) = nm)) (fun (k : Nat) => mk_2 - k) ?_ 0 _ _ _ (lv_sub hl [0, 1, 2, 3] rfl) hP hD hS ⟨(show 0 ≤ mk_2 from by first | assumption | omega), (show ∀ j, j < 0 → ¬ g 4 (mdv g y j) = nm from fun j hj => absurd hj (by omega))⟩
    intro n9 ih8 a9 ls H locs hμ hl hP hD hS hI
    subst hμ
    obtain ⟨k, rfl⟩ : ∃ z, z = a9 := ⟨_, rfl⟩
    obtain ⟨hk9, hno⟩ := hI
    have hk9 : k ≤ mk_2 := hk9
    have hno : ∀ j, j < k → ¬ g 4 (mdv g y j) = nm := hno
    have hl : lv_has ls 4 [(3, .int (nI k)), (2, .ref (ad (20 + y) 0)), (0, .ref (ad (20 + n) 0)), (1, .int nm)] := hl
    have hP : va_P D xcl (rp ad E RL) H := hP
    have hD : va_D A (rp ad E RL) := hD
    refine lv_iload_n hx hb xd_Ly_lookUp_8 rfl (lv_at hl 0 rfl) ?_
    refine lv_aload_n hx hb xd_Ly_lookUp_9 rfl (lv_at hl 1 rfl) ?_
    refine px_get (D := D) (ci := 5) (v := .ref (ad (20 + y) 1)) (C := xR_Ly) (T := xT_Ly) (N := 4) hx hb hT xi_Ly hown hK.1 hP m_4 c_7 rfl 2 (by decide) (hT _ k5k_0) (fun _ h9 => h9) rfl xd_Ly_lookUp_10 ?_
    refine px_alen hx hb hK.1 hP m_6 c_5 6 rfl xd_Ly_lookUp_13 ?_
    refine W.eq (g2 := F0 m 14 ls [.int (nI mk_2), .int (nI k)]) rfl ?_
    refine xn_ge (a := k) (b := mk_2) (tgt := 46) hx hb xd_Ly_lookUp_14 (by decide) (by omega) (by omega) (fun hc9 => ?_) (fun hc9 => ?_)
    · refine lv_aload_n hx hb xd_Ly_lookUp_46 rfl (lv_at hl 1 rfl) ?_
      refine px_get (D := D) (ci := 5) (v := (lyv ad lq_2)) (C := xR_Ly) (T := xT_Ly) (N := 4) hx hb hT xi_Ly hown hK.1 hP m_4 c_7 rfl 1 (by decide) (hT _ k5k_1) (fun _ h9 => h9) rfl xd_Ly_lookUp_47 ?_
      rcases (show lq_2 = 0 ∨ ∃ yq, lq_2 = yq + 1 from by rcases Nat.eq_zero_or_pos lq_2 with q | q; exact Or.inl q; exact Or.inr ⟨lq_2 - 1, by omega⟩) with hyq | ⟨yq, hyq⟩
      · refine W.eq (g2 := F0 m 50 ls [.null]) (by rw [lyv_0 hyq]) ?_
        refine lv_astore_nN hx hb xd_Ly_lookUp_50 rfl hl (Nat.le_of_ble_eq_true rfl) rfl (fun ls hl => ?_)
        have hl : lv_has ls 4 [(2, .null), (3, .int (nI k)), (0, .ref (ad (20 + n) 0)), (1, .int nm)] := hl
        refine lv_goto (tgt := 2) hx hb xd_Ly_lookUp_51 (by decide) ?_
        exact ih1 0 _ _ _ (show 0 < y + 1 by omega) (lv_sub hl [0, 2, 3] rfl) hP hD hS ⟨(show 0 ≤ n + 1 from by first | assumption | omega), (show lkG g (n + 1) nm = lkG g 0 nm from (hlk.trans (lkG_missT (fun x hx => prv_T hnL hTL x (by omega)) h20_2 hmk_2 h19_2 (by omega) (fun j hj => hno j (by omega)))).trans (by rw [hyq]))⟩
      · refine W.eq (g2 := F0 m 50 ls [.ref (ad (20 + yq) 0)]) (by rw [lyv_s hyq]) ?_
        refine lv_astore_n hx hb xd_Ly_lookUp_50 rfl hl (Nat.le_of_ble_eq_true rfl) rfl (fun ls hl => ?_)
        have hl : lv_has ls 4 [(2, .ref (ad (20 + yq) 0)), (3, .int (nI k)), (0, .ref (ad (20 + n) 0)), (1, .int nm)] := hl
        refine lv_goto (tgt := 2) hx hb xd_Ly_lookUp_51 (by decide) ?_
        exact ih1 (yq + 1) _ _ _ (show (yq + 1) < y + 1 by omega) (lv_sub hl [0, 2, 3] rfl) hP hD hS ⟨(show (yq + 1) ≤ n + 1 from by first | assumption | omega), (show lkG g (n + 1) nm = lkG g (yq + 1) nm from (hlk.trans (lkG_missT (fun x hx => prv_T hnL hTL x (by omega)) h20_2 hmk_2 h19_2 (by omega) (fun j hj => hno j (by omega)))).trans (by rw [hyq]))⟩
    · refine lv_aload_n hx hb xd_Ly_lookUp_17 rfl (lv_at hl 1 rfl) ?_
      refine px_get (D := D) (ci := 5) (v := .ref (ad (20 + y) 1)) (C := xR_Ly) (T := xT_Ly) (N := 4) hx hb hT xi_Ly hown hK.1 hP m_4 c_7 rfl 2 (by decide) (hT _ k5k_0) (fun _ h9 => h9) rfl xd_Ly_lookUp_18 ?_
      refine lv_iload_n hx hb xd_Ly_lookUp_21 rfl (lv_at hl 0 rfl) ?_
      refine px_aald (i := k) (x := (some (ad (20 + y) (10 + 10 * k)))) hx hb hK.1 hP m_6 c_5 6 rfl ((hk_2 k (by omega)).1) (by omega) (by omega) xd_Ly_lookUp_22 ?_
      obtain ⟨hm_10, d_10, rs_10, fr_10, g2_10, g3_10, g4_10, hd_10, hrs_10, q0_10, q1_10, q2_10, q3_10, q4_10, q5_10, q6_10, q7_10⟩ := (hk_2 k (by omega)).2
      have c_11 : E (20 + y) (10 + 10 * k) = .inr (6, [.ref (ad (20 + y) 0), .ref (ad (1 + d_10) 0), .ref (ad (20 + y) (11 + 10 * k)), .ref (ad (20 + y) (12 + 10 * k)), .ref (ad (20 + y) (13 + 10 * k)), .ref (ad (20 + y) (14 + 10 * k))]) := q0_10
      have m_12 : (20 + y, 10 + 10 * k) ∈ RL := hm_10 0 (by decide)
      have c_13 : E (20 + y) (11 + 10 * k) = .inl (kA 6, rs_10, .inr (.inr (.inr (.inr fr_10)))) := q1_10
      have m_14 : (20 + y, 11 + 10 * k) ∈ RL := hm_10 1 (by decide)
      have c_15 : E (20 + y) (12 + 10 * k) = .inr (10, [.ref (ad (20 + y) (15 + 10 * k))]) := q2_10
      have m_16 : (20 + y, 12 + 10 * k) ∈ RL := hm_10 2 (by decide)
      have c_17 : E (20 + y) (13 + 10 * k) = .inr (10, [.ref (ad (20 + y) (16 + 10 * k))]) := q3_10
      have m_18 : (20 + y, 13 + 10 * k) ∈ RL := hm_10 3 (by decide)
      have c_19 : E (20 + y) (14 + 10 * k) = .inr (10, [.ref (ad (20 + y) (17 + 10 * k))]) := q4_10
      have m_20 : (20 + y, 14 + 10 * k) ∈ RL := hm_10 4 (by decide)
      have c_21 : E (20 + y) (15 + 10 * k) = .inl (kA 0, 6, .inl g2_10) := q5_10
      have m_22 : (20 + y, 15 + 10 * k) ∈ RL := hm_10 5 (by decide)
      have c_23 : E (20 + y) (16 + 10 * k) = .inl (kA 0, 6, .inl g3_10) := q6_10
      have m_24 : (20 + y, 16 + 10 * k) ∈ RL := hm_10 6 (by decide)
      have c_25 : E (20 + y) (17 + 10 * k) = .inl (kA 0, 6, .inl g4_10) := q7_10
      have m_26 : (20 + y, 17 + 10 * k) ∈ RL := hm_10 7 (by decide)
      have hdm_10 : mdv g y k = d_10 := by
        obtain ⟨dz, hdz, h21z, hvz⟩ := tmd_2 k (by omega)
        rw [c_11] at hvz
        have ez := (rp_inj hD ((hDIs d_10 hd_10).1 0 (by omega)) ((hDIs dz hdz).1 0 (by omega)) (Value.ref.inj hvz)).1
        unfold mdv
        rw [h21z, iN_nI (by omega)]; omega
      refine px_get (D := D) (ci := 6) (v := .ref (ad (1 + d_10) 0)) (C := xR_Me) (T := xT_Me) (N := 6) hx hb hT xi_Me hown hK.1 hP m_12 c_11 rfl 1 (by decide) (hT _ k5k_2) (fun _ h9 => h9) rfl xd_Ly_lookUp_23 ?_
      obtain ⟨hm_27, fd_27, nm_27, sd_27, k0_27, k1_27, k2_27, k3_27, f0_27, f1_27, f2_27, f3_27, fe_27, fo_27, tr_27, op_27, hk0_27, hk1_27, hk2_27, hk3_27, q0_27, q1_27, q2_27, q3_27, q4_27, q5_27, q6_27, q7_27, q8_27, q9_27, q10_27, q11_27, q12_27, hg_27⟩ := id (hDIs d_10 (by omega))
      have c_28 : E (1 + d_10) 0 = .inr (7, [.int (nI d_10), .int fd_27, .int nm_27, .ref (ad (1 + d_10) 1), .ref (ad (1 + d_10) 9), .ref (ad (1 + d_10) 10), .ref (ad (1 + d_10) 2), .ref (ad (1 + d_10) 11), .ref (ad (1 + d_10) 12), .ref (ad (1 + d_10) 3), .ref (ad (1 + d_10) 4), .int sd_27]) := q0_27
      have m_29 : (1 + d_10, 0) ∈ RL := hm_27 0 (by decide)
      have c_30 : E (1 + d_10) 1 = .inr (8, [.ref (ad (1 + d_10) 5), .int (nI k0_27)]) := q1_27
      have m_31 : (1 + d_10, 1) ∈ RL := hm_27 1 (by decide)
      have c_32 : E (1 + d_10) 2 = .inr (8, [.ref (ad (1 + d_10) 6), .int (nI k1_27)]) := q2_27
      have m_33 : (1 + d_10, 2) ∈ RL := hm_27 2 (by decide)
      have c_34 : E (1 + d_10) 3 = .inr (8, [.ref (ad (1 + d_10) 7), .int (nI k2_27)]) := q3_27
      have m_35 : (1 + d_10, 3) ∈ RL := hm_27 3 (by decide)
      have c_36 : E (1 + d_10) 4 = .inr (8, [.ref (ad (1 + d_10) 8), .int (nI k3_27)]) := q4_27
      have m_37 : (1 + d_10, 4) ∈ RL := hm_27 4 (by decide)
      have c_38 : E (1 + d_10) 5 = .inl (kA 0, 6, .inl f0_27) := q5_27
      have m_39 : (1 + d_10, 5) ∈ RL := hm_27 5 (by decide)
      have c_40 : E (1 + d_10) 6 = .inl (kA 0, 5, .inl f1_27) := q6_27
      have m_41 : (1 + d_10, 6) ∈ RL := hm_27 6 (by decide)
      have c_42 : E (1 + d_10) 7 = .inl (kA 0, 3, .inl f2_27) := q7_27
      have m_43 : (1 + d_10, 7) ∈ RL := hm_27 7 (by decide)
      have c_44 : E (1 + d_10) 8 = .inl (kA 0, 3, .inl f3_27) := q8_27
      have m_45 : (1 + d_10, 8) ∈ RL := hm_27 8 (by decide)
      have c_46 : E (1 + d_10) 9 = .inl (kA 8, 6, .inr (.inr (.inr (.inr fe_27)))) := q9_27
      have m_47 : (1 + d_10, 9) ∈ RL := hm_27 9 (by decide)
      have c_48 : E (1 + d_10) 10 = .inl (kA 8, 6, .inr (.inr (.inr (.inr fo_27)))) := q10_27
      have m_49 : (1 + d_10, 10) ∈ RL := hm_27 10 (by decide)
      have c_50 : E (1 + d_10) 11 = .inl (kA 2, 5, .inl tr_27) := q11_27
      have m_51 : (1 + d_10, 11) ∈ RL := hm_27 11 (by decide)
      have c_52 : E (1 + d_10) 12 = .inl (kA 2, 5, .inl op_27) := q12_27
      have m_53 : (1 + d_10, 12) ∈ RL := hm_27 12 (by decide)
      have hg_27 : ∀ w9, w9 < k0_27 → fe_27 w9 = some (ad (1 + d_10) (20 + 3 * w9)) ∧ fo_27 w9 = some (ad (1 + d_10) (38 + 3 * w9)) ∧ GI kA (ad (1 + d_10)) (E (1 + d_10)) (fun o => (1 + d_10, o) ∈ RL) (20 + 3 * w9) (21 + 3 * w9) (22 + 3 * w9) ∧ GI kA (ad (1 + d_10)) (E (1 + d_10)) (fun o => (1 + d_10, o) ∈ RL) (38 + 3 * w9) (39 + 3 * w9) (40 + 3 * w9) := hg_27
      obtain ⟨hTT_27, tgr_27⟩ := TD_get hk0_27 hk1_27 hk2_27 hk3_27 c_28 c_30 c_32 c_34 c_36 c_38 c_40 c_42 c_44 c_50 c_52 (hTD d_10 (by omega))
      obtain ⟨tfd_27, tnm_27, tsd_27, tk0_27, tf0_27, tk1_27, tf1_27, tk2_27, tk3_27⟩ := id hTT_27
      have ik0_27 : iN (g 5 d_10) = k0_27 := by rw [← tk0_27, iN_nI (by omega)]
      have ik1_27 : iN (g 12 d_10) = k1_27 := by rw [← tk1_27, iN_nI (by omega)]
      refine px_get (D := D) (ci := 7) (v := .int nm_27) (C := xR_Ds) (T := xT_Ds) (N := 12) hx hb hT xi_Ds hown hK.1 hP m_29 c_28 rfl 2 (by decide) (hT _ k5k_3) (fun _ h9 => h9) rfl xd_Ly_lookUp_26 ?_
      refine lv_iload_n hx hb xd_Ly_lookUp_29 rfl (lv_at hl 3 rfl) ?_
      refine lv_icmp_ne (tgt := 40) hx hb xd_Ly_lookUp_30 (by decide) (fun hc54 => ?_) (fun hc54 => ?_)
      · refine lv_iinc (k := 0) (x := (nI k)) (v := (nI (k + 1))) hx hb xd_Ly_lookUp_40 hl rfl (xb_inc k 1) (Nat.le_of_ble_eq_true rfl) rfl (fun ls hl => ?_)
        have hl : lv_has ls 4 [(3, .int (nI (k + 1))), (2, .ref (ad (20 + y) 0)), (0, .ref (ad (20 + n) 0)), (1, .int nm)] := hl
        refine lv_goto (tgt := 8) hx hb xd_Ly_lookUp_43 (by decide) ?_
        exact ih8 (k + 1) _ _ _ (show mk_2 - (k + 1) < mk_2 - k by omega) (lv_sub hl [0, 1, 2, 3] rfl) hP hD hS ⟨(show (k + 1) ≤ mk_2 from by first | assumption | omega), (show ∀ j, j < (k + 1) → ¬ g 4 (mdv g y j) = nm from fun j hj => by
        rcases Nat.lt_or_ge j k with z | z
        · exact hno j z
        · rw [show j = k by omega, hdm_10, ← tnm_27]; exact hc54)⟩
      · refine lv_aload_n hx hb xd_Ly_lookUp_33 rfl (lv_at hl 1 rfl) ?_
        refine px_get (D := D) (ci := 5) (v := .ref (ad (20 + y) 1)) (C := xR_Ly) (T := xT_Ly) (N := 4) hx hb hT xi_Ly hown hK.1 hP m_4 c_7 rfl 2 (by decide) (hT _ k5k_0) (fun _ h9 => h9) rfl xd_Ly_lookUp_34 ?_
        refine lv_iload_n hx hb xd_Ly_lookUp_37 rfl (lv_at hl 0 rfl) ?_
        refine px_aald (i := k) (x := (some (ad (20 + y) (10 + 10 * k)))) hx hb hK.1 hP m_6 c_5 6 rfl ((hk_2 k (by omega)).1) (by omega) (by omega) xd_Ly_lookUp_38 ?_
        exact W.aret (v := .ref (ad (20 + y) (10 + 10 * k))) hx hb hr (Or.inl ⟨_, rfl⟩) (Or.inr ⟨_, rfl⟩) (fun t ht hW => ⟨⟨(some (ad (20 + y) (10 + 10 * k))), (), rfl, Or.inr ⟨y, k, by omega, rfl, (hk_2 k (by omega)).2, by rw [h20_2, iN_nI (by omega)]; omega, hlk.trans (lkG_hitT h20_2 hmk_2 (by omega) (by rw [hdm_10, ← tnm_27]; exact hc54) hno)⟩, by rw [ht]; exact hP, hD⟩, hS.F ht⟩) hS.2.2 xd_Ly_lookUp_39
set_option maxHeartbeats 4000000 in
set_option maxRecDepth 100000 in
theorem xc_De_openLayerX (l : Launch) (D : va_G) (kA : Nat → ClassId) (sz : Nat) (ad : Nat → Nat → Nat) (E : Nat → Nat → va_E) (RL : List (Nat × Nat)) (g : Nat → Nat → Int32) (ml : Nat) (nd : Nat) (len : Nat) (wn : Nat) (cs : Nat) (ix : Int32) (hCI : CI kA ad E RL ml nd len wn cs) (hTL : TLas g ad E nd ml) : Met l xy_De_openLayer (.code xy_De_openLayer xb_De_openLayer 3 (some (.object "LayerDesk$Layer")) :: wT) { frames := 0, cells := 0, slots := 0, locals := 0 } (va_Pc [.ref (ad 0 0), .int ix] (xPre D kA sz (rp ad E RL))) (va_Qq (fun (r : Option Nat) (u : Unit) => (r = none ∧ ¬ opP g ml ix) ∨ ∃ x, x < ml ∧ ix = nI x ∧ ¬ g 22 x = 0 ∧ r = some (ad (20 + x) 0)) (fun (u : Unit) t => va_P D xcl (rp ad E RL) t.heap ∧ va_D (va_A (rp ad E RL) sz) (rp ad E RL)) (va_A (rp ad E RL) sz)) 0 0 (va_A (rp ad E RL) sz) := by
  refine Met.ofW (cc := xb_De_openLayer) (maxL := 3) (ret := (some (.object "LayerDesk$Layer"))) (by decide) rfl ?_
  intro p e s m args below meth c s₁ B hml hv
  obtain ⟨rfl, hsz, hP, hK, hD0⟩ := hv
  have hx := B.exec
  have hb := B.bytes
  have hr := B.returns
  have hT := x_hT B.pre
  have hown : s.vm.findClass xR_De = some m.cls := findClass_of_methodNamed B.named
  have hlocks := B.notSynchronized
  subst hsz
  have hD := hD0.self (sz := s.heap.size)
  generalize hAe : va_A (rp ad E RL) s.heap.size = A at hD ⊢
  have hA : ∀ q : Nat, s.heap.size ≤ q → A q := fun q h => by rw [← hAe]; exact Or.inr h
  have hS : va_S A s.heap s.heap [] := va_S.rf
  have hl := lv_entry ([.ref (ad 0 0), .int ix]) (n := 3) (Nat.le_of_ble_eq_true rfl)
  rw [lg_entry_eq]
  generalize (lg_sl ([.ref (ad 0 0), .int ix]) ++ List.replicate (3 - (lg_sl ([.ref (ad 0 0), .int ix])).length) Slot.unset).toArray = ls at hl ⊢
  have hl : lv_has ls 3 [(0, .ref (ad 0 0)), (1, .int ix)] := hl
  have hP : va_P D xcl (rp ad E RL) s.heap := hP
  obtain ⟨hmB, hDk, hLi, hSh, hCh, hLa, hDIs, hLIs⟩ := id hCI
  obtain ⟨lf_1, q_1⟩ := id (hDk)
  have c_2 : E 0 0 = .inr (0, [.ref (ad 0 1), .ref (ad 0 5), .ref (ad 0 7), .ref (ad 0 9), .int (nI ml), .int lf_1]) := q_1
  have m_3 : (0, 0) ∈ RL := hmB 0 (by decide)
  obtain ⟨fl_4, hml_4, q9_4, hla_4⟩ := id (hLa)
  have c_5 : E 0 9 = .inl (kA 5, 5, .inr (.inr (.inr (.inr fl_4)))) := q9_4
  have m_6 : (0, 9) ∈ RL := hmB 9 (by decide)
  refine lv_iload_n hx hb xd_De_openLayer_0 rfl (lv_at hl 1 rfl) ?_
  refine lv_if_lt (tgt := 12) hx hb xd_De_openLayer_1 (by decide) (fun hc7 => ?_) (fun hc7 => ?_)
  · refine lv_null hx hb xd_De_openLayer_12 ?_
    exact W.aret (v := .null) hx hb hr (Or.inl ⟨_, rfl⟩) (Or.inl rfl) (fun t ht hW => ⟨⟨none, (), rfl, Or.inl ⟨rfl, fun ⟨la9, q1, q2, q3⟩ => absurd (show nI la9 < 0 by rw [← q2]; exact hc7) (nI_pos (by rw [xb_31]; omega))⟩, by rw [ht]; exact hP, hD⟩, hS.F ht⟩) hS.2.2 xd_De_openLayer_13
  · obtain ⟨x, hx31, hix⟩ := nI_of hc7
    rw [xb_31] at hx31
    rw [hix] at hl
    refine lv_iload_n hx hb xd_De_openLayer_4 rfl (lv_at hl 1 rfl) ?_
    refine lv_aload_n hx hb xd_De_openLayer_5 rfl (lv_at hl 0 rfl) ?_
    refine px_get (D := D) (ci := 0) (v := .int (nI ml)) (C := xR_De) (T := xT_De) (N := 6) hx hb hT xi_De hown hK.1 hP m_3 c_2 rfl 4 (by decide) (hT _ k5k_4) (fun _ h9 => h9) rfl xd_De_openLayer_6 ?_
    refine xn_lt (a := x) (b := ml) (tgt := 14) hx hb xd_De_openLayer_9 (by decide) (by omega) (by omega) (fun hc8 => ?_) (fun hc8 => ?_)
    · refine lv_aload_n hx hb xd_De_openLayer_14 rfl (lv_at hl 0 rfl) ?_
      refine px_get (D := D) (ci := 0) (v := .ref (ad 0 9)) (C := xR_De) (T := xT_De) (N := 6) hx hb hT xi_De hown hK.1 hP m_3 c_2 rfl 3 (by decide) (hT _ k5k_5) (fun _ h9 => h9) rfl xd_De_openLayer_15 ?_
      refine lv_iload_n hx hb xd_De_openLayer_18 rfl (lv_at hl 1 rfl) ?_
      refine px_aald (i := x) (x := (some (ad (20 + x) 0))) hx hb hK.1 hP m_6 c_5 5 rfl (hla_4 x (by omega)) (by omega) (by decide) xd_De_openLayer_19 ?_
      refine lv_astore_n hx hb xd_De_openLayer_20 rfl hl (Nat.le_of_ble_eq_true rfl) rfl (fun ls hl => ?_)
      have hl : lv_has ls 3 [(2, .ref (ad (20 + x) 0)), (0, .ref (ad 0 0)), (1, .int (nI x))] := hl
      refine lv_aload_n hx hb xd_De_openLayer_21 rfl (lv_at hl 0 rfl) ?_
      refine lv_ifnull hx hb xd_De_openLayer_22 ?_
      refine lv_aload_n hx hb xd_De_openLayer_25 rfl (lv_at hl 0 rfl) ?_
      obtain ⟨m0_9, m1_9, pv_9, op_9, mk_9, fm_9, hmk_9, hpv_9, q0_9, q1_9, hk_9⟩ := id (hLIs x (by omega))
      have c_10 : E (20 + x) 0 = .inr (5, [.int (nI x), pv_9, .ref (ad (20 + x) 1), .int op_9]) := q0_9
      have m_11 : (20 + x, 0) ∈ RL := m0_9
      have c_12 : E (20 + x) 1 = .inl (kA 6, mk_9, .inr (.inr (.inr (.inr fm_9)))) := q1_9
      have m_13 : (20 + x, 1) ∈ RL := m1_9
      obtain ⟨top_9, ⟨lq_9, hlq_9, h19_9, hpv2_9⟩, h20_9, tmd_9⟩ := TLa_get c_10 c_12 (hTL x (by omega))
      have c_14 : E (20 + x) 0 = .inr (5, [.int (nI x), (lyv ad lq_9), .ref (ad (20 + x) 1), .int op_9]) := by rw [← hpv2_9]; exact c_10
      refine px_get (D := D) (ci := 5) (v := .int op_9) (C := xR_Ly) (T := xT_Ly) (N := 4) hx hb hT xi_Ly hown hK.1 hP m_11 c_14 rfl 3 (by decide) (hT _ k5k_6) (fun _ h9 => h9) rfl xd_De_openLayer_26 ?_
      refine lv_if_eq (tgt := 36) hx hb xd_De_openLayer_29 (by decide) (fun hc15 => ?_) (fun hc15 => ?_)
      · refine lv_null hx hb xd_De_openLayer_36 ?_
        exact W.aret (v := .null) hx hb hr (Or.inl ⟨_, rfl⟩) (Or.inl rfl) (fun t ht hW => ⟨⟨none, (), rfl, Or.inl ⟨rfl, fun ⟨la9, q1, q2, q3⟩ => by rw [hix] at q2; have e9 := (nI_eq (by rw [xb_31]; omega) (by rw [xb_31]; omega)).mp q2; rw [← e9, ← top_9] at q3; exact q3 hc15⟩, by rw [ht]; exact hP, hD⟩, hS.F ht⟩) hS.2.2 xd_De_openLayer_37
      · refine lv_aload_n hx hb xd_De_openLayer_32 rfl (lv_at hl 0 rfl) ?_
        refine lv_goto (tgt := 37) hx hb xd_De_openLayer_33 (by decide) ?_
        exact W.aret (v := .ref (ad (20 + x) 0)) hx hb hr (Or.inl ⟨_, rfl⟩) (Or.inr ⟨_, rfl⟩) (fun t ht hW => ⟨⟨(some (ad (20 + x) 0)), (), rfl, Or.inr ⟨x, by omega, hix, (by rw [← top_9]; exact hc15), rfl⟩, by rw [ht]; exact hP, hD⟩, hS.F ht⟩) hS.2.2 xd_De_openLayer_37
    · refine lv_null hx hb xd_De_openLayer_12 ?_
      exact W.aret (v := .null) hx hb hr (Or.inl ⟨_, rfl⟩) (Or.inl rfl) (fun t ht hW => ⟨⟨none, (), rfl, Or.inl ⟨rfl, fun ⟨la9, q1, q2, q3⟩ => by rw [hix] at q2; have e9 := (nI_eq (by rw [xb_31]; omega) (by rw [xb_31]; omega)).mp q2; omega⟩, by rw [ht]; exact hP, hD⟩, hS.F ht⟩) hS.2.2 xd_De_openLayer_13
set_option maxHeartbeats 4000000 in
set_option maxRecDepth 100000 in
theorem xc_Ch_isChosenX (l : Launch) (D : va_G) (kA : Nat → ClassId) (sz : Nat) (ad : Nat → Nat → Nat) (E : Nat → Nat → va_E) (RL : List (Nat × Nat)) (g : Nat → Nat → Int32) (ml : Nat) (nd : Nat) (len : Nat) (wn : Nat) (fi : Int32) (lq : Nat) (L : List Nat) (d : Nat) (hCI : CI kA ad E RL ml nd len wn L.length) (hCX : CX ad E nd fi lq L) (hd9 : d < nd) : Met l xy_Ch_isChosen (.code xy_Ch_isChosen xb_Ch_isChosen 3 (some .boolean) :: wT) { frames := 0, cells := 0, slots := 0, locals := 0 } (va_Pc [.ref (ad 0 7), .ref (ad (1 + d) 0)] (xPre D kA sz (rp ad E RL))) (va_Qi (fun (r : Int32) (u : Unit) => (r = 1 ∧ d ∈ L) ∨ (r = 0 ∧ d ∉ L)) (fun (u : Unit) t => va_P D xcl (rp ad E RL) t.heap ∧ va_D (va_A (rp ad E RL) sz) (rp ad E RL)) (va_A (rp ad E RL) sz)) 0 0 (va_A (rp ad E RL) sz) := by
  refine Met.ofW (cc := xb_Ch_isChosen) (maxL := 3) (ret := (some .boolean)) (by decide) rfl ?_
  intro p e s m args below meth c s₁ B hml hv
  obtain ⟨rfl, hsz, hP, hK, hD0⟩ := hv
  have hx := B.exec
  have hb := B.bytes
  have hr := B.returns
  have hT := x_hT B.pre
  have hown : s.vm.findClass xR_Ch = some m.cls := findClass_of_methodNamed B.named
  have hlocks := B.notSynchronized
  subst hsz
  have hD := hD0.self (sz := s.heap.size)
  generalize hAe : va_A (rp ad E RL) s.heap.size = A at hD ⊢
  have hA : ∀ q : Nat, s.heap.size ≤ q → A q := fun q h => by rw [← hAe]; exact Or.inr h
  have hS : va_S A s.heap s.heap [] := va_S.rf
  have hl := lv_entry ([.ref (ad 0 7), .ref (ad (1 + d) 0)]) (n := 3) (Nat.le_of_ble_eq_true rfl)
  rw [lg_entry_eq]
  generalize (lg_sl ([.ref (ad 0 7), .ref (ad (1 + d) 0)]) ++ List.replicate (3 - (lg_sl ([.ref (ad 0 7), .ref (ad (1 + d) 0)])).length) Slot.unset).toArray = ls at hl ⊢
  have hl : lv_has ls 3 [(0, .ref (ad 0 7)), (1, .ref (ad (1 + d) 0))] := hl
  have hP : va_P D xcl (rp ad E RL) s.heap := hP
  obtain ⟨hmB, hDk, hLi, hSh, hCh, hLa, hDIs, hLIs⟩ := id hCI
  obtain ⟨cf_1, pv_1, fc_1, hcs_1, hpv_1, q7_1, q8_1, hfc_1⟩ := id (hCh)
  have c_2 : E 0 7 = .inr (3, [.ref (ad 0 5), .ref (ad 0 8), .int (nI (L.length)), .int cf_1, pv_1]) := q7_1
  have m_3 : (0, 7) ∈ RL := hmB 7 (by decide)
  have c_4 : E 0 8 = .inl (kA 4, 12, .inr (.inr (.inr (.inr fc_1)))) := q8_1
  have m_5 : (0, 8) ∈ RL := hmB 8 (by decide)
  obtain ⟨xfi_1, xpv_1, xfc_1, xGL_1⟩ := id hCX
  rw [c_2] at xfi_1 xpv_1
  rw [c_4] at xfc_1
  have xfi_1 : cf_1 = fi := xfi_1
  have xpv_1 : pv_1 = lyv ad lq := xpv_1
  have xfc_1 : ∀ k, k < L.length → fc_1 k = some (ad (1 + L.getD k 0) 0) := xfc_1
  have xln_1 := GL_len xGL_1
  refine lv_iconst (v := 0) hx hb xd_Ch_isChosen_0 (by decide) ?_
  refine lv_istore_n hx hb xd_Ch_isChosen_1 rfl hl (Nat.le_of_ble_eq_true rfl) rfl (fun ls hl => ?_)
  have hl : lv_has ls 3 [(2, .int 0), (0, .ref (ad 0 7)), (1, .ref (ad (1 + d) 0))] := hl
  refine xlab (σ := Nat) (ml := 3) 2 (fun (i : Nat) => [(2, .int (nI i)), (0, .ref (ad 0 7)), (1, .ref (ad (1 + d) 0))]) (fun (i : Nat) => []) (fun (i : Nat) => rp ad E RL) (fun (i : Nat) => (i ≤ L.length) ∧ (∀ j, j < i → ¬ L.getD j 0 = d)) (fun (i : Nat) => L.length - i) ?_ 0 _ _ _ (lv_sub hl [0, 1, 2] rfl) hP hD hS ⟨(show 0 ≤ L.length from by first | assumption | omega), (show ∀ j, j < 0 → ¬ L.getD j 0 = d from fun j hj => absurd hj (by omega))⟩
  intro n9 ih6 a9 ls H locs hμ hl hP hD hS hI
  subst hμ
  obtain ⟨i, rfl⟩ : ∃ z, z = a9 := ⟨_, rfl⟩
  obtain ⟨hi, hno⟩ := hI
  have hi : i ≤ L.length := hi
  have hno : ∀ j, j < i → ¬ L.getD j 0 = d := hno
  have hl : lv_has ls 3 [(2, .int (nI i)), (0, .ref (ad 0 7)), (1, .ref (ad (1 + d) 0))] := hl
  have hP : va_P D xcl (rp ad E RL) H := hP
  have hD : va_D A (rp ad E RL) := hD
  refine lv_iload_n hx hb xd_Ch_isChosen_2 rfl (lv_at hl 0 rfl) ?_
  refine lv_aload_n hx hb xd_Ch_isChosen_3 rfl (lv_at hl 1 rfl) ?_
  refine px_get (D := D) (ci := 3) (v := .int (nI (L.length))) (C := xR_Ch) (T := xT_Ch) (N := 5) hx hb hT xi_Ch hown hK.1 hP m_3 c_2 rfl 2 (by decide) (hT _ k5k_7) (fun _ h9 => h9) rfl xd_Ch_isChosen_4 ?_
  refine xn_ge (a := i) (b := L.length) (tgt := 28) hx hb xd_Ch_isChosen_7 (by decide) (by omega) (by omega) (fun hc7 => ?_) (fun hc7 => ?_)
  · refine lv_iconst (v := 0) hx hb xd_Ch_isChosen_28 (by decide) ?_
    exact W.zret (v := 0) hx hb hr rfl (fun t ht hW => ⟨⟨0, (), rfl, Or.inr ⟨rfl, fun q => by
        obtain ⟨k9, q1, q2⟩ := mem_getD q
        exact hno k9 (by omega) q2⟩, by rw [ht]; exact hP, hD⟩, hS.F ht⟩) hS.2.2 xd_Ch_isChosen_29
  · refine lv_aload_n hx hb xd_Ch_isChosen_10 rfl (lv_at hl 1 rfl) ?_
    refine px_get (D := D) (ci := 3) (v := .ref (ad 0 8)) (C := xR_Ch) (T := xT_Ch) (N := 5) hx hb hT xi_Ch hown hK.1 hP m_3 c_2 rfl 1 (by decide) (hT _ k5k_8) (fun _ h9 => h9) rfl xd_Ch_isChosen_11 ?_
    refine lv_iload_n hx hb xd_Ch_isChosen_14 rfl (lv_at hl 0 rfl) ?_
    refine px_aald (i := i) (x := (some (ad (1 + L.getD i 0) 0))) hx hb hK.1 hP m_5 c_4 4 rfl (xfc_1 i (by omega)) (by omega) (by decide) xd_Ch_isChosen_15 ?_
    refine lv_aload_n hx hb xd_Ch_isChosen_16 rfl (lv_at hl 2 rfl) ?_
    refine lv_acmp_ne (rx := (some (ad (1 + L.getD i 0) 0))) (ry := (some (ad (1 + d) 0))) (tgt := 22) hx hb xd_Ch_isChosen_17 (by decide) (fun hc8 => ?_) (fun hc8 => ?_)
    · refine lv_iinc (k := 0) (x := (nI i)) (v := (nI (i + 1))) hx hb xd_Ch_isChosen_22 hl rfl (xb_inc i 1) (Nat.le_of_ble_eq_true rfl) rfl (fun ls hl => ?_)
      have hl : lv_has ls 3 [(2, .int (nI (i + 1))), (0, .ref (ad 0 7)), (1, .ref (ad (1 + d) 0))] := hl
      refine lv_goto (tgt := 2) hx hb xd_Ch_isChosen_25 (by decide) ?_
      exact ih6 (i + 1) _ _ _ (show L.length - (i + 1) < L.length - i by omega) (lv_sub hl [0, 1, 2] rfl) hP hD hS ⟨(show (i + 1) ≤ L.length from by first | assumption | omega), (show ∀ j, j < (i + 1) → ¬ L.getD j 0 = d from fun j hj q => by
        rcases Nat.lt_or_ge j i with z | z
        · exact hno j z q
        · rw [show j = i by omega] at q; exact hc8 (by rw [q]))⟩
    · refine lv_iconst (v := 1) hx hb xd_Ch_isChosen_20 (by decide) ?_
      exact W.zret (v := 1) hx hb hr rfl (fun t ht hW => ⟨⟨1, (), rfl, Or.inl ⟨rfl, by
        have hm9 := getD_mem (L := L) (k := i) (by omega)
        have e9 := (rp_inj hD ((hDIs (L.getD i 0) (xGL_1.1 _ hm9)).1 0 (by omega)) ((hDIs d hd9).1 0 (by omega)) (Option.some.inj hc8)).1
        rw [show d = L.getD i 0 by omega]; exact hm9⟩, by rw [ht]; exact hP, hD⟩, hS.F ht⟩) hS.2.2 xd_Ch_isChosen_21
theorem aN_no {ds : Int32 → Option Nat} {up : Int32 → Bool} {rq : Nat → List Int32} {f : Nat} {L : List Nat} {n : Int32} (h : ds n = none) : aN ds up rq f L n = (up n, L) := by
  cases f with
  | zero => unfold aN; rw [h]
  | succ f => unfold aN; rw [h]
theorem aN_in {ds : Int32 → Option Nat} {up : Int32 → Bool} {rq : Nat → List Int32} {f d : Nat} {L : List Nat} {n : Int32} (h : ds n = some d) (hd : d ∈ L) : aN ds up rq f L n = (true, L) := by
  cases f with
  | zero => unfold aN; rw [h]; simp only; rw [if_pos hd]
  | succ f => unfold aN; rw [h]; simp only; rw [if_pos hd]
theorem aN_z {ds : Int32 → Option Nat} {up : Int32 → Bool} {rq : Nat → List Int32} {f d : Nat} {L : List Nat} {n : Int32} (hf : f = 0) (h : ds n = some d) (hd : d ∉ L) : aN ds up rq f L n = (false, L) := by
  rw [hf]; unfold aN; rw [h]; simp only; rw [if_neg hd]
theorem aN_s {ds : Int32 → Option Nat} {up : Int32 → Bool} {rq : Nat → List Int32} {f d : Nat} {L : List Nat} {n : Int32} (hf : 0 < f) (h : ds n = some d) (hd : d ∉ L) : aN ds up rq f L n = aF (aN ds up rq (f - 1)) (L ++ [d]) (rq d) := by
  obtain ⟨f2, rfl⟩ : ∃ f2, f = f2 + 1 := ⟨f - 1, by omega⟩
  conv => lhs; unfold aN
  rw [h]; simp only; rw [if_neg hd]; rfl
theorem CX_add {ad : Nat → Nat → Nat} {fc : Nat → Option Nat} {L : List Nat} {d : Nat} (h : ∀ k, k < L.length → fc k = some (ad (1 + L.getD k 0) 0)) : ∀ k, k < (L ++ [d]).length → va_up fc L.length (some (ad (1 + d) 0)) k = some (ad (1 + (L ++ [d]).getD k 0) 0) := fun k hk => by
  rw [len_app] at hk
  by_cases q : k = L.length
  · rw [q, getD_new]; exact vu_eq
  · rw [vu_ne q, getD_app (by omega)]; exact h k (by omega)
theorem k5l_0 : (Cond.fieldLink "LayerDesk$Chooser" 28 "LayerDesk$Chooser" "shelf" "LLayerDesk$Shelf;") ∈ wT := wT_t (List.mem_append_left _ (List.mem_of_getElem? (i := 81) rfl)) rfl
theorem k5l_1 : (Cond.fieldLink "LayerDesk$Chooser" 21 "LayerDesk$Chooser" "finder" "I") ∈ wT := wT_t (List.mem_append_left _ (List.mem_of_getElem? (i := 84) rfl)) rfl
theorem k5l_2 : (Cond.code xy_Sh_find xb_Sh_find 4 (some (.object "LayerDesk$Descriptor"))) ∈ wT := wT_t (List.mem_append_right _ (List.mem_append_left _ (List.mem_of_getElem? (i := 21) rfl))) rfl
theorem k5l_3 : (Cond.methodLink "LayerDesk$Chooser" 56 xy_Sh_find) ∈ wT := wT_t (List.mem_append_right _ (List.mem_append_right _ (List.mem_append_left _ (List.mem_of_getElem? (i := 81) rfl)))) rfl
theorem k5l_4 : (Cond.instanceMethod xy_Sh_find) ∈ wT := wT_t (List.mem_append_right _ (List.mem_append_left _ (List.mem_of_getElem? (i := 19) rfl))) rfl
theorem k5l_5 : (Cond.selects "LayerDesk$Shelf" xy_Sh_find xy_Sh_find) ∈ wT := wT_t (List.mem_append_right _ (List.mem_append_left _ (List.mem_of_getElem? (i := 20) rfl))) rfl
theorem k5l_6 : (Cond.initialized "LayerDesk$Shelf") ∈ wT := wT_t (List.mem_append_left _ (List.mem_of_getElem? (i := 3) rfl)) rfl
theorem k5l_7 : (Cond.fieldLink "LayerDesk$Chooser" 24 "LayerDesk$Chooser" "parent" "LLayerDesk$Layer;") ∈ wT := wT_t (List.mem_append_left _ (List.mem_of_getElem? (i := 85) rfl)) rfl
theorem k5l_8 : (Cond.code xy_Ly_lookUp xb_Ly_lookUp 4 (some (.object "LayerDesk$Member"))) ∈ wT := wT_t (List.mem_append_right _ (List.mem_append_right _ (List.mem_append_left _ (List.mem_of_getElem? (i := 85) rfl)))) rfl
theorem k5l_9 : (Cond.methodLink "LayerDesk$Chooser" 62 xy_Ly_lookUp) ∈ wT := wT_t (List.mem_append_right _ (List.mem_append_right _ (List.mem_append_left _ (List.mem_of_getElem? (i := 82) rfl)))) rfl
theorem k5l_10 : (Cond.instanceMethod xy_Ly_lookUp) ∈ wT := wT_t (List.mem_append_right _ (List.mem_append_right _ (List.mem_append_left _ (List.mem_of_getElem? (i := 83) rfl)))) rfl
theorem k5l_11 : (Cond.selects "LayerDesk$Layer" xy_Ly_lookUp xy_Ly_lookUp) ∈ wT := wT_t (List.mem_append_right _ (List.mem_append_right _ (List.mem_append_left _ (List.mem_of_getElem? (i := 84) rfl)))) rfl
theorem k5l_12 : (Cond.initialized "LayerDesk$Layer") ∈ wT := wT_t (List.mem_append_left _ (List.mem_of_getElem? (i := 19) rfl)) rfl
theorem k5l_13 : (Cond.code xy_Ch_isChosen xb_Ch_isChosen 3 (some .boolean)) ∈ wT := wT_t (List.mem_append_right _ (List.mem_append_right _ (List.mem_append_left _ (List.mem_of_getElem? (i := 89) rfl)))) rfl
theorem k5l_14 : (Cond.methodLink "LayerDesk$Chooser" 66 xy_Ch_isChosen) ∈ wT := wT_t (List.mem_append_right _ (List.mem_append_right _ (List.mem_append_left _ (List.mem_of_getElem? (i := 86) rfl)))) rfl
theorem k5l_15 : (Cond.instanceMethod xy_Ch_isChosen) ∈ wT := wT_t (List.mem_append_right _ (List.mem_append_right _ (List.mem_append_left _ (List.mem_of_getElem? (i := 88) rfl)))) rfl
theorem k5l_16 : (Cond.selects "LayerDesk$Chooser" xy_Ch_isChosen xy_Ch_isChosen) ∈ wT := wT_s (q := (xy_Ch_isChosen, 5)) (by decide +kernel) rfl
theorem k5l_17 : (Cond.initialized "LayerDesk$Chooser") ∈ wT := wT_t (List.mem_append_left _ (List.mem_of_getElem? (i := 4) rfl)) rfl
theorem k5l_18 : (Cond.fieldLink "LayerDesk$Chooser" 17 "LayerDesk$Chooser" "size" "I") ∈ wT := wT_t (List.mem_append_left _ (List.mem_of_getElem? (i := 83) rfl)) rfl
theorem k5l_19 : (Cond.fieldLink "LayerDesk$Chooser" 11 "LayerDesk$Chooser" "chosen" "[LLayerDesk$Descriptor;") ∈ wT := wT_t (List.mem_append_left _ (List.mem_of_getElem? (i := 82) rfl)) rfl
theorem k5l_20 : (Cond.fieldLink "LayerDesk$Chooser" 70 "LayerDesk$Descriptor" "required" "LLayerDesk$Names;") ∈ wT := wT_t (List.mem_append_right _ (List.mem_append_left _ (List.mem_of_getElem? (i := 68) rfl))) rfl
theorem k5l_21 : (Cond.fieldLink "LayerDesk$Chooser" 74 "LayerDesk$Names" "size" "I") ∈ wT := wT_t (List.mem_append_right _ (List.mem_append_left _ (List.mem_of_getElem? (i := 37) rfl))) rfl
theorem k5l_22 : (Cond.fieldLink "LayerDesk$Chooser" 77 "LayerDesk$Descriptor" "optional" "[Z") ∈ wT := wT_t (List.mem_append_right _ (List.mem_append_left _ (List.mem_of_getElem? (i := 74) rfl))) rfl
theorem k5l_23 : (Cond.code xy_Na_at xb_Na_at 2 (some .int)) ∈ wT := wT_t (List.mem_append_right _ (List.mem_append_right _ (List.mem_append_left _ (List.mem_of_getElem? (i := 93) rfl)))) rfl
theorem k5l_24 : (Cond.methodLink "LayerDesk$Chooser" 81 xy_Na_at) ∈ wT := wT_t (List.mem_append_right _ (List.mem_append_right _ (List.mem_append_left _ (List.mem_of_getElem? (i := 90) rfl)))) rfl
theorem k5l_25 : (Cond.instanceMethod xy_Na_at) ∈ wT := wT_t (List.mem_append_right _ (List.mem_append_right _ (List.mem_append_left _ (List.mem_of_getElem? (i := 91) rfl)))) rfl
theorem k5l_26 : (Cond.selects "LayerDesk$Names" xy_Na_at xy_Na_at) ∈ wT := wT_t (List.mem_append_right _ (List.mem_append_right _ (List.mem_append_left _ (List.mem_of_getElem? (i := 92) rfl)))) rfl
theorem k5l_27 : (Cond.initialized "LayerDesk$Names") ∈ wT := wT_t (List.mem_append_left _ (List.mem_of_getElem? (i := 11) rfl)) rfl
theorem k5l_28 : (Cond.code xy_Ch_addName xb_Ch_addName 5 (some .boolean)) ∈ wT := wT_t (List.mem_append_right _ (List.mem_append_right _ (List.mem_append_left _ (List.mem_of_getElem? (i := 80) rfl)))) rfl
theorem k5l_29 : (Cond.methodLink "LayerDesk$Chooser" 32 xy_Ch_addName) ∈ wT := wT_t (List.mem_append_right _ (List.mem_append_right _ (List.mem_append_left _ (List.mem_of_getElem? (i := 77) rfl)))) rfl
theorem k5l_30 : (Cond.instanceMethod xy_Ch_addName) ∈ wT := wT_t (List.mem_append_right _ (List.mem_append_right _ (List.mem_append_left _ (List.mem_of_getElem? (i := 79) rfl)))) rfl
theorem k5l_31 : (Cond.selects "LayerDesk$Chooser" xy_Ch_addName xy_Ch_addName) ∈ wT := wT_s (q := (xy_Ch_addName, 5)) (by decide +kernel) rfl
set_option maxHeartbeats 4000000 in
set_option maxRecDepth 100000 in
theorem xc_Ch_addNameRX (f : Nat) : ∀ (l : Launch) (D : va_G) (kA : Nat → ClassId) (sz : Nat) (ad : Nat → Nat → Nat) (E : Nat → Nat → va_E) (RL : List (Nat × Nat)) (g : Nat → Nat → Int32) (ml : Nat) (nd : Nat) (len : Nat) (wn : Nat) (fi : Int32) (lq : Nat) (L : List Nat) (nm : Int32) (dp : Nat) (hCI : CI kA ad E RL ml nd len wn L.length) (hCX : CX ad E nd fi lq L) (hTD : TDs g E nd) (hTL : TLas g ad E nd ml) (hlqm : lq ≤ ml) (hdp : dp + f = 12), Met l xy_Ch_addName (.code xy_Ch_addName xb_Ch_addName 5 (some .boolean) :: wT) { frames := 6 + f, cells := 0, slots := 0, locals := 90 + 90 * f } (va_Pc [.ref (ad 0 7), .int nm, .int (nI dp)] (xPre D kA sz (rp ad E RL))) (va_Qi (fun (r : Int32) (u : Nat → Nat → va_E) => ∃ L2, CI kA ad u RL ml nd len wn L2.length ∧ CX ad u nd fi lq L2 ∧ F78 E u ∧ ((r = 1 ∧ aN (dsG g nd fi) (upG g lq) (rqG g) f L nm = (true, L2)) ∨ (r = 0 ∧ aN (dsG g nd fi) (upG g lq) (rqG g) f L nm = (false, L2)))) (fun (u : Nat → Nat → va_E) t => va_P D xcl (rp ad u RL) t.heap ∧ va_D (va_A (rp ad E RL) sz) (rp ad u RL)) (va_A (rp ad E RL) sz)) 0 0 (va_A (rp ad E RL) sz) := by
  induction f using Nat.strongRecOn
  rename_i f ih
  intro l D kA sz ad E RL g ml nd len wn fi lq L nm dp hCI hCX hTD hTL hlqm hdp
  refine Met.ofW (cc := xb_Ch_addName) (maxL := 5) (ret := (some .boolean)) (by decide) rfl ?_
  intro p e s m args below meth c s₁ B hml hv
  obtain ⟨rfl, hsz, hP, hK, hD0⟩ := hv
  have hx := B.exec
  have hb := B.bytes
  have hr := B.returns
  have hT := x_hT B.pre
  have hown : s.vm.findClass xR_Ch = some m.cls := findClass_of_methodNamed B.named
  have hlocks := B.notSynchronized
  subst hsz
  have hD := hD0.self (sz := s.heap.size)
  generalize hAe : va_A (rp ad E RL) s.heap.size = A at hD ⊢
  have hA : ∀ q : Nat, s.heap.size ≤ q → A q := fun q h => by rw [← hAe]; exact Or.inr h
  have hS : va_S A s.heap s.heap [] := va_S.rf
  have hl := lv_entry ([.ref (ad 0 7), .int nm, .int (nI dp)]) (n := 5) (Nat.le_of_ble_eq_true rfl)
  rw [lg_entry_eq]
  generalize (lg_sl ([.ref (ad 0 7), .int nm, .int (nI dp)]) ++ List.replicate (5 - (lg_sl ([.ref (ad 0 7), .int nm, .int (nI dp)])).length) Slot.unset).toArray = ls at hl ⊢
  have hl : lv_has ls 5 [(0, .ref (ad 0 7)), (1, .int nm), (2, .int (nI dp))] := hl
  have hP : va_P D xcl (rp ad E RL) s.heap := hP
  obtain ⟨hmB, hDk, hLi, hSh, hCh, hLa, hDIs, hLIs⟩ := id hCI
  obtain ⟨lf_1, q_1⟩ := id (hDk)
  have c_2 : E 0 0 = .inr (0, [.ref (ad 0 1), .ref (ad 0 5), .ref (ad 0 7), .ref (ad 0 9), .int (nI ml), .int lf_1]) := q_1
  have m_3 : (0, 0) ∈ RL := hmB 0 (by decide)
  obtain ⟨tx_4, fb_4, fe_4, hl1_4, hw2_4, q1_4, q2_4, q3_4, q4_4, hws_4⟩ := id (hLi)
  have c_5 : E 0 1 = .inr (1, [.ref (ad 0 2), .ref (ad 0 3), .ref (ad 0 4), .int (nI len), .int (nI wn)]) := q1_4
  have m_6 : (0, 1) ∈ RL := hmB 1 (by decide)
  have c_7 : E 0 2 = .inl (kA 1, 40, .inl tx_4) := q2_4
  have m_8 : (0, 2) ∈ RL := hmB 2 (by decide)
  have c_9 : E 0 3 = .inl (kA 0, 20, .inl fb_4) := q3_4
  have m_10 : (0, 3) ∈ RL := hmB 3 (by decide)
  have c_11 : E 0 4 = .inl (kA 0, 20, .inl fe_4) := q4_4
  have m_12 : (0, 4) ∈ RL := hmB 4 (by decide)
  obtain ⟨fd_13, hnd_13, q5_13, q6_13, hds_13⟩ := id (hSh)
  have c_14 : E 0 5 = .inr (2, [.ref (ad 0 6), .int (nI nd)]) := q5_13
  have m_15 : (0, 5) ∈ RL := hmB 5 (by decide)
  have c_16 : E 0 6 = .inl (kA 4, 12, .inr (.inr (.inr (.inr fd_13)))) := q6_13
  have m_17 : (0, 6) ∈ RL := hmB 6 (by decide)
  obtain ⟨cf_18, pv_18, fc_18, hcs_18, hpv_18, q7_18, q8_18, hfc_18⟩ := id (hCh)
  have c_19 : E 0 7 = .inr (3, [.ref (ad 0 5), .ref (ad 0 8), .int (nI (L.length)), .int cf_18, pv_18]) := q7_18
  have m_20 : (0, 7) ∈ RL := hmB 7 (by decide)
  have c_21 : E 0 8 = .inl (kA 4, 12, .inr (.inr (.inr (.inr fc_18)))) := q8_18
  have m_22 : (0, 8) ∈ RL := hmB 8 (by decide)
  obtain ⟨fl_23, hml_23, q9_23, hla_23⟩ := id (hLa)
  have c_24 : E 0 9 = .inl (kA 5, 5, .inr (.inr (.inr (.inr fl_23)))) := q9_23
  have m_25 : (0, 9) ∈ RL := hmB 9 (by decide)
  obtain ⟨xfi_18, xpv_18, xfc_18, xGL_18⟩ := id hCX
  rw [c_19] at xfi_18 xpv_18
  rw [c_21] at xfc_18
  have xfi_18 : cf_18 = fi := xfi_18
  have xpv_18 : pv_18 = lyv ad lq := xpv_18
  have xfc_18 : ∀ k, k < L.length → fc_18 k = some (ad (1 + L.getD k 0) 0) := xfc_18
  have xln_18 := GL_len xGL_18
  refine lv_aload_n hx hb xd_Ch_addName_0 rfl (lv_at hl 0 rfl) ?_
  refine px_get (D := D) (ci := 3) (v := .ref (ad 0 5)) (C := xR_Ch) (T := xT_Ch) (N := 5) hx hb hT xi_Ch hown hK.1 hP m_20 c_19 rfl 0 (by decide) (hT _ k5l_0) (fun _ h9 => h9) rfl xd_Ch_addName_1 ?_
  refine lv_aload_n hx hb xd_Ch_addName_4 rfl (lv_at hl 0 rfl) ?_
  refine px_get (D := D) (ci := 3) (v := .int cf_18) (C := xR_Ch) (T := xT_Ch) (N := 5) hx hb hT xi_Ch hown hK.1 hP m_20 c_19 rfl 3 (by decide) (hT _ k5l_1) (fun _ h9 => h9) rfl xd_Ch_addName_5 ?_
  refine lv_iload_n hx hb xd_Ch_addName_8 rfl (lv_at hl 1 rfl) ?_
  have hFc := px_free hD hS hA
  refine va_callq (va_runV (As := [.int cf_18, .int nm]) (rest := []) ⟨hx, hb, hml, hown, hT⟩ (xc_Sh_findX l D kA s.heap.size ad E RL g ml nd len wn L.length cf_18 nm (by first | assumption | omega) (by first | assumption | omega)) (cwV 2 hT (wT_V k5l_3 k5l_4 k5l_5 k5l_6 k5l_2) rfl rfl rfl (by decide +kernel) ⟨(show 0 + 1 ≤ 6 + f by omega), (show 8 + (4 + 11) + (0) ≤ 90 + 90 * f by omega)⟩) (px_preV hK hP hD m_15 c_14 rfl) rfl rfl hl.1 rfl (lv_room (Nat.le_of_ble_eq_true rfl)) xd_Ch_addName_9 ⟨(Nat.le_of_ble_eq_true rfl), (Nat.le_of_ble_eq_true rfl)⟩) hS (fun q _ h => hFc q h) hFc (fun r26 u27 t H1 locs ht hvm hp28 hB hz1 hk1 hS => ?_)
  obtain ⟨hP1, hD1⟩ := hB
  rw [ht] at hP1
  have hD1 := hD1.weaken (fun _ _ _ h => hFc _ h)
  generalize H1 = H at hP1 hS ⊢
  have hP := hP1
  have hD := hD1
  have hP : va_P D xcl (rp ad E RL) H := hP
  have hD : va_D A (rp ad E RL) := hD
  rcases hp28 with ⟨rfl, z29⟩ | ⟨z30, z31, rfl, z32⟩
  · have hds : dsG g nd fi nm = none := by rw [← xfi_18]; exact z29
    refine W.eq (g2 := F0 m 12 ls [.null]) rfl ?_
    refine lv_astore_nN hx hb xd_Ch_addName_12 rfl hl (Nat.le_of_ble_eq_true rfl) rfl (fun ls hl => ?_)
    have hl : lv_has ls 5 [(3, .null), (0, .ref (ad 0 7)), (1, .int nm), (2, .int (nI dp))] := hl
    refine lv_aload_nN hx hb xd_Ch_addName_13 rfl (lv_at hl 0 rfl) ?_
    refine lv_ifnonnullN hx hb xd_Ch_addName_14 ?_
    refine lv_aload_n hx hb xd_Ch_addName_17 rfl (lv_at hl 1 rfl) ?_
    refine px_get (D := D) (ci := 3) (v := pv_18) (C := xR_Ch) (T := xT_Ch) (N := 5) hx hb hT xi_Ch hown hK.1 hP m_20 c_19 rfl 4 (by decide) (hT _ k5l_7) (fun _ h9 => h9) rfl xd_Ch_addName_18 ?_
    rcases (show lq = 0 ∨ ∃ yq, lq = yq + 1 from by rcases Nat.eq_zero_or_pos lq with q | q; exact Or.inl q; exact Or.inr ⟨lq - 1, by omega⟩) with hyq | ⟨yq, hyq⟩
    · refine W.eq (g2 := F0 m 21 ls [.null]) (by rw [xpv_18, lyv_0 hyq]) ?_
      refine lv_ifnullN (tgt := 39) hx hb xd_Ch_addName_21 (by decide) ?_
      refine lv_iconst (v := 0) hx hb xd_Ch_addName_39 (by decide) ?_
      refine W.widen (k := 0) (n := 0) (Nat.le_of_ble_eq_true rfl) (Nat.le_of_ble_eq_true rfl) ?_
      exact W.zret (v := 0) hx hb hr rfl (fun t ht hW => ⟨⟨0, E, rfl, ⟨L, hCI, hCX, F78_rf, Or.inr ⟨rfl, (aN_no hds).trans (by rw [show upG g lq nm = false from by unfold upG; rw [hyq]; rfl])⟩⟩, by rw [ht]; exact hP, hD⟩, hS.F ht⟩) hS.2.2 xd_Ch_addName_40
    · refine W.eq (g2 := F0 m 21 ls [.ref (ad (20 + yq) 0)]) (by rw [xpv_18, lyv_s hyq]) ?_
      refine lv_ifnull hx hb xd_Ch_addName_21 ?_
      refine lv_aload_n hx hb xd_Ch_addName_24 rfl (lv_at hl 1 rfl) ?_
      refine px_get (D := D) (ci := 3) (v := pv_18) (C := xR_Ch) (T := xT_Ch) (N := 5) hx hb hT xi_Ch hown hK.1 hP m_20 c_19 rfl 4 (by decide) (hT _ k5l_7) (fun _ h9 => h9) rfl xd_Ch_addName_25 ?_
      refine W.eq (g2 := F0 m 28 ls [.ref (ad (20 + yq) 0)]) (by rw [xpv_18, lyv_s hyq]) ?_
      refine lv_iload_n hx hb xd_Ch_addName_28 rfl (lv_at hl 2 rfl) ?_
      have hFc := px_free hD hS hA
      obtain ⟨m0_33, m1_33, pv_33, op_33, mk_33, fm_33, hmk_33, hpv_33, q0_33, q1_33, hk_33⟩ := id (hLIs yq (by omega))
      have c_34 : E (20 + yq) 0 = .inr (5, [.int (nI yq), pv_33, .ref (ad (20 + yq) 1), .int op_33]) := q0_33
      have m_35 : (20 + yq, 0) ∈ RL := m0_33
      have c_36 : E (20 + yq) 1 = .inl (kA 6, mk_33, .inr (.inr (.inr (.inr fm_33)))) := q1_33
      have m_37 : (20 + yq, 1) ∈ RL := m1_33
      obtain ⟨top_33, ⟨lq_33, hlq_33, h19_33, hpv2_33⟩, h20_33, tmd_33⟩ := TLa_get c_34 c_36 (hTL yq (by omega))
      have c_38 : E (20 + yq) 0 = .inr (5, [.int (nI yq), (lyv ad lq_33), .ref (ad (20 + yq) 1), .int op_33]) := by rw [← hpv2_33]; exact c_34
      refine va_callq (va_runV (As := [.int nm]) (rest := []) ⟨hx, hb, hml, hown, hT⟩ (xc_Ly_lookUpX l D kA H.size ad E RL g nd ml yq nm (by first | assumption | omega) (by first | assumption | omega) (by first | assumption | omega) (by first | assumption | omega) (by first | assumption | omega) (by first | assumption | omega) (by first | assumption | omega)) (cwV 1 hT (wT_V k5l_9 k5l_10 k5l_11 k5l_12 k5l_8) rfl rfl rfl (by decide +kernel) ⟨(show 0 + 1 ≤ 6 + f by omega), (show 8 + (4 + 11) + (0) ≤ 90 + 90 * f by omega)⟩) (px_preV hK hP hD m_35 c_38 rfl) rfl rfl hl.1 rfl (lv_room (Nat.le_of_ble_eq_true rfl)) xd_Ch_addName_29 ⟨(Nat.le_of_ble_eq_true rfl), (Nat.le_of_ble_eq_true rfl)⟩) hS (fun q _ h => hFc q h) hFc (fun r39 u40 t H1 locs ht hvm hp41 hB hz1 hk1 hS => ?_)
      obtain ⟨hP1, hD1⟩ := hB
      rw [ht] at hP1
      have hD1 := hD1.weaken (fun _ _ _ h => hFc _ h)
      generalize H1 = H at hP1 hS ⊢
      have hP := hP1
      have hD := hD1
      have hP : va_P D xcl (rp ad E RL) H := hP
      have hD : va_D A (rp ad E RL) := hD
      rcases hp41 with ⟨rfl, z42⟩ | ⟨z43, z44, z45, rfl, z46, z47, z48⟩
      · refine W.eq (g2 := F0 m 32 ls [.null]) rfl ?_
        refine lv_ifnullN (tgt := 39) hx hb xd_Ch_addName_32 (by decide) ?_
        refine lv_iconst (v := 0) hx hb xd_Ch_addName_39 (by decide) ?_
        refine W.widen (k := 0) (n := 0) (Nat.le_of_ble_eq_true rfl) (Nat.le_of_ble_eq_true rfl) ?_
        exact W.zret (v := 0) hx hb hr rfl (fun t ht hW => ⟨⟨0, E, rfl, ⟨L, hCI, hCX, F78_rf, Or.inr ⟨rfl, (aN_no hds).trans (by rw [show upG g lq nm = false from by unfold upG; rw [hyq, z42]; rfl])⟩⟩, by rw [ht]; exact hP, hD⟩, hS.F ht⟩) hS.2.2 xd_Ch_addName_40
      · refine W.eq (g2 := F0 m 32 ls [.ref (ad (20 + z43) (10 + 10 * z44))]) rfl ?_
        refine lv_ifnull hx hb xd_Ch_addName_32 ?_
        refine lv_iconst (v := 1) hx hb xd_Ch_addName_35 (by decide) ?_
        refine lv_goto (tgt := 40) hx hb xd_Ch_addName_36 (by decide) ?_
        refine W.widen (k := 0) (n := 0) (Nat.le_of_ble_eq_true rfl) (Nat.le_of_ble_eq_true rfl) ?_
        exact W.zret (v := 1) hx hb hr rfl (fun t ht hW => ⟨⟨1, E, rfl, ⟨L, hCI, hCX, F78_rf, Or.inl ⟨rfl, (aN_no hds).trans (by rw [show upG g lq nm = true from by unfold upG; rw [hyq, z48]; rfl])⟩⟩, by rw [ht]; exact hP, hD⟩, hS.F ht⟩) hS.2.2 xd_Ch_addName_40
  · have hds : dsG g nd fi nm = some z30 := by rw [← xfi_18]; exact z32
    refine W.eq (g2 := F0 m 12 ls [.ref (ad (1 + z30) 0)]) rfl ?_
    refine lv_astore_n hx hb xd_Ch_addName_12 rfl hl (Nat.le_of_ble_eq_true rfl) rfl (fun ls hl => ?_)
    have hl : lv_has ls 5 [(3, .ref (ad (1 + z30) 0)), (0, .ref (ad 0 7)), (1, .int nm), (2, .int (nI dp))] := hl
    refine lv_aload_n hx hb xd_Ch_addName_13 rfl (lv_at hl 0 rfl) ?_
    refine lv_ifnonnull (tgt := 41) hx hb xd_Ch_addName_14 (by decide) ?_
    refine lv_aload_n hx hb xd_Ch_addName_41 rfl (lv_at hl 1 rfl) ?_
    refine lv_aload_n hx hb xd_Ch_addName_42 rfl (lv_at hl 0 rfl) ?_
    have hFc := px_free hD hS hA
    refine va_calli (va_runV (As := [.ref (ad (1 + z30) 0)]) (rest := []) ⟨hx, hb, hml, hown, hT⟩ (xc_Ch_isChosenX l D kA H.size ad E RL g ml nd len wn fi lq L z30 (by first | assumption | omega) (by first | assumption | omega) (by first | assumption | omega)) (cwV 1 hT (wT_V k5l_14 k5l_15 k5l_16 k5l_17 k5l_13) rfl rfl rfl (by decide +kernel) ⟨(show 0 + 1 ≤ 6 + f by omega), (show 8 + (3 + 11) + (0) ≤ 90 + 90 * f by omega)⟩) (px_preV hK hP hD m_20 c_19 rfl) rfl rfl hl.1 rfl (lv_room (Nat.le_of_ble_eq_true rfl)) xd_Ch_addName_43 ⟨(Nat.le_of_ble_eq_true rfl), (Nat.le_of_ble_eq_true rfl)⟩) hS (fun q _ h => hFc q h) hFc (fun r49 u50 t H1 locs ht hvm hp51 hB hz1 hk1 hS => ?_)
    obtain ⟨hP1, hD1⟩ := hB
    rw [ht] at hP1
    have hD1 := hD1.weaken (fun _ _ _ h => hFc _ h)
    generalize H1 = H at hP1 hS ⊢
    have hP := hP1
    have hD := hD1
    have hP : va_P D xcl (rp ad E RL) H := hP
    have hD : va_D A (rp ad E RL) := hD
    rcases hp51 with ⟨rfl, z52⟩ | ⟨rfl, z53⟩
    · refine W.eq (g2 := F0 m 46 ls [.int 1]) rfl ?_
      refine lv_if_eq (tgt := 51) hx hb xd_Ch_addName_46 (by decide) (fun hc54 => absurd hc54 (by decide)) (fun _ => ?_)
      refine lv_iconst (v := 1) hx hb xd_Ch_addName_49 (by decide) ?_
      refine W.widen (k := 0) (n := 0) (Nat.le_of_ble_eq_true rfl) (Nat.le_of_ble_eq_true rfl) ?_
      exact W.zret (v := 1) hx hb hr rfl (fun t ht hW => ⟨⟨1, E, rfl, ⟨L, hCI, hCX, F78_rf, Or.inl ⟨rfl, aN_in hds z52⟩⟩, by rw [ht]; exact hP, hD⟩, hS.F ht⟩) hS.2.2 xd_Ch_addName_50
    · refine W.eq (g2 := F0 m 46 ls [.int 0]) rfl ?_
      refine lv_if_eq (tgt := 51) hx hb xd_Ch_addName_46 (by decide) (fun _ => ?_) (fun hc55 => absurd (by decide) hc55)
      refine lv_aload_n hx hb xd_Ch_addName_51 rfl (lv_at hl 1 rfl) ?_
      refine px_get (D := D) (ci := 3) (v := .int (nI (L.length))) (C := xR_Ch) (T := xT_Ch) (N := 5) hx hb hT xi_Ch hown hK.1 hP m_20 c_19 rfl 2 (by decide) (hT _ k5l_18) (fun _ h9 => h9) rfl xd_Ch_addName_52 ?_
      refine lv_bipush (v := 12) hx hb xd_Ch_addName_55 (by decide) ?_
      refine xn_ge (a := L.length) (b := 12) (tgt := 66) hx hb xd_Ch_addName_57 (by decide) (by omega) (by omega) (fun hc56 => absurd hc56 (by have q := GL_len (GL_add xGL_18 (dsG_lt _ _ hds) z53); rw [len_app] at q; omega)) (fun _ => ?_)
      refine lv_iload_n hx hb xd_Ch_addName_60 rfl (lv_at hl 3 rfl) ?_
      refine lv_bipush (v := 12) hx hb xd_Ch_addName_61 (by decide) ?_
      refine xn_lt (a := dp) (b := 12) (tgt := 68) hx hb xd_Ch_addName_63 (by decide) (by omega) (by omega) (fun hc57 => ?_) (fun hc57 => ?_)
      · refine lv_aload_n hx hb xd_Ch_addName_68 rfl (lv_at hl 1 rfl) ?_
        refine px_get (D := D) (ci := 3) (v := .ref (ad 0 8)) (C := xR_Ch) (T := xT_Ch) (N := 5) hx hb hT xi_Ch hown hK.1 hP m_20 c_19 rfl 1 (by decide) (hT _ k5l_19) (fun _ h9 => h9) rfl xd_Ch_addName_69 ?_
        refine lv_aload_n hx hb xd_Ch_addName_72 rfl (lv_at hl 1 rfl) ?_
        refine px_get (D := D) (ci := 3) (v := .int (nI (L.length))) (C := xR_Ch) (T := xT_Ch) (N := 5) hx hb hT xi_Ch hown hK.1 hP m_20 c_19 rfl 2 (by decide) (hT _ k5l_18) (fun _ h9 => h9) rfl xd_Ch_addName_73 ?_
        refine lv_aload_n hx hb xd_Ch_addName_76 rfl (lv_at hl 0 rfl) ?_
        obtain ⟨hm_58, fd_58, nm_58, sd_58, k0_58, k1_58, k2_58, k3_58, f0_58, f1_58, f2_58, f3_58, fe_58, fo_58, tr_58, op_58, hk0_58, hk1_58, hk2_58, hk3_58, q0_58, q1_58, q2_58, q3_58, q4_58, q5_58, q6_58, q7_58, q8_58, q9_58, q10_58, q11_58, q12_58, hg_58⟩ := id (hDIs z30 (by omega))
        have c_59 : E (1 + z30) 0 = .inr (7, [.int (nI z30), .int fd_58, .int nm_58, .ref (ad (1 + z30) 1), .ref (ad (1 + z30) 9), .ref (ad (1 + z30) 10), .ref (ad (1 + z30) 2), .ref (ad (1 + z30) 11), .ref (ad (1 + z30) 12), .ref (ad (1 + z30) 3), .ref (ad (1 + z30) 4), .int sd_58]) := q0_58
        have m_60 : (1 + z30, 0) ∈ RL := hm_58 0 (by decide)
        have c_61 : E (1 + z30) 1 = .inr (8, [.ref (ad (1 + z30) 5), .int (nI k0_58)]) := q1_58
        have m_62 : (1 + z30, 1) ∈ RL := hm_58 1 (by decide)
        have c_63 : E (1 + z30) 2 = .inr (8, [.ref (ad (1 + z30) 6), .int (nI k1_58)]) := q2_58
        have m_64 : (1 + z30, 2) ∈ RL := hm_58 2 (by decide)
        have c_65 : E (1 + z30) 3 = .inr (8, [.ref (ad (1 + z30) 7), .int (nI k2_58)]) := q3_58
        have m_66 : (1 + z30, 3) ∈ RL := hm_58 3 (by decide)
        have c_67 : E (1 + z30) 4 = .inr (8, [.ref (ad (1 + z30) 8), .int (nI k3_58)]) := q4_58
        have m_68 : (1 + z30, 4) ∈ RL := hm_58 4 (by decide)
        have c_69 : E (1 + z30) 5 = .inl (kA 0, 6, .inl f0_58) := q5_58
        have m_70 : (1 + z30, 5) ∈ RL := hm_58 5 (by decide)
        have c_71 : E (1 + z30) 6 = .inl (kA 0, 5, .inl f1_58) := q6_58
        have m_72 : (1 + z30, 6) ∈ RL := hm_58 6 (by decide)
        have c_73 : E (1 + z30) 7 = .inl (kA 0, 3, .inl f2_58) := q7_58
        have m_74 : (1 + z30, 7) ∈ RL := hm_58 7 (by decide)
        have c_75 : E (1 + z30) 8 = .inl (kA 0, 3, .inl f3_58) := q8_58
        have m_76 : (1 + z30, 8) ∈ RL := hm_58 8 (by decide)
        have c_77 : E (1 + z30) 9 = .inl (kA 8, 6, .inr (.inr (.inr (.inr fe_58)))) := q9_58
        have m_78 : (1 + z30, 9) ∈ RL := hm_58 9 (by decide)
        have c_79 : E (1 + z30) 10 = .inl (kA 8, 6, .inr (.inr (.inr (.inr fo_58)))) := q10_58
        have m_80 : (1 + z30, 10) ∈ RL := hm_58 10 (by decide)
        have c_81 : E (1 + z30) 11 = .inl (kA 2, 5, .inl tr_58) := q11_58
        have m_82 : (1 + z30, 11) ∈ RL := hm_58 11 (by decide)
        have c_83 : E (1 + z30) 12 = .inl (kA 2, 5, .inl op_58) := q12_58
        have m_84 : (1 + z30, 12) ∈ RL := hm_58 12 (by decide)
        have hg_58 : ∀ w9, w9 < k0_58 → fe_58 w9 = some (ad (1 + z30) (20 + 3 * w9)) ∧ fo_58 w9 = some (ad (1 + z30) (38 + 3 * w9)) ∧ GI kA (ad (1 + z30)) (E (1 + z30)) (fun o => (1 + z30, o) ∈ RL) (20 + 3 * w9) (21 + 3 * w9) (22 + 3 * w9) ∧ GI kA (ad (1 + z30)) (E (1 + z30)) (fun o => (1 + z30, o) ∈ RL) (38 + 3 * w9) (39 + 3 * w9) (40 + 3 * w9) := hg_58
        obtain ⟨hTT_58, tgr_58⟩ := TD_get hk0_58 hk1_58 hk2_58 hk3_58 c_59 c_61 c_63 c_65 c_67 c_69 c_71 c_73 c_75 c_81 c_83 (hTD z30 (by omega))
        obtain ⟨tfd_58, tnm_58, tsd_58, tk0_58, tf0_58, tk1_58, tf1_58, tk2_58, tk3_58⟩ := id hTT_58
        have ik0_58 : iN (g 5 z30) = k0_58 := by rw [← tk0_58, iN_nI (by omega)]
        have ik1_58 : iN (g 12 z30) = k1_58 := by rw [← tk1_58, iN_nI (by omega)]
        refine px_aast (i := L.length) (r := (xR_Ds, xT_Ds, 12)) hx hb hK.1 hP hD hS m_22 c_21 4 rfl m_60 c_59 rfl (by omega) (by decide) xd_Ch_addName_77 (fun H locs hP hD hS => ?_)
        have hP : va_P D xcl (rp ad (up2 E 0 8 (.inl (kA 4, 12, .inr (.inr (.inr (.inr (va_up fc_18 L.length (some (ad (1 + z30) 0))))))))) RL) H := hP
        have hD : va_D A (rp ad (up2 E 0 8 (.inl (kA 4, 12, .inr (.inr (.inr (.inr (va_up fc_18 L.length (some (ad (1 + z30) 0))))))))) RL) := hD
        generalize hE86 : up2 E 0 8 (.inl (kA 4, 12, .inr (.inr (.inr (.inr (va_up fc_18 L.length (some (ad (1 + z30) 0)))))))) = E85 at hP hD
        have fE87 : ∀ b2 o2, ¬ (b2 = 0 ∧ o2 = 8) → E85 b2 o2 = E b2 o2 := fun b2 o2 h9 => by rw [← hE86]; exact up2_ne (nr_or h9)
        have c_88 : E85 0 8 = .inl (kA 4, 12, .inr (.inr (.inr (.inr (va_up fc_18 L.length (some (ad (1 + z30) 0))))))) := by rw [← hE86]; exact up2_eq
        have c_89 : E85 0 0 = .inr (0, [.ref (ad 0 1), .ref (ad 0 5), .ref (ad 0 7), .ref (ad 0 9), .int (nI ml), .int lf_1]) := (fE87 0 0 (fun q9 => absurd q9.2 (by decide))).trans c_2
        have c_90 : E85 0 1 = .inr (1, [.ref (ad 0 2), .ref (ad 0 3), .ref (ad 0 4), .int (nI len), .int (nI wn)]) := (fE87 0 1 (fun q9 => absurd q9.2 (by decide))).trans c_5
        have c_91 : E85 0 2 = .inl (kA 1, 40, .inl tx_4) := (fE87 0 2 (fun q9 => absurd q9.2 (by decide))).trans c_7
        have c_92 : E85 0 3 = .inl (kA 0, 20, .inl fb_4) := (fE87 0 3 (fun q9 => absurd q9.2 (by decide))).trans c_9
        have c_93 : E85 0 4 = .inl (kA 0, 20, .inl fe_4) := (fE87 0 4 (fun q9 => absurd q9.2 (by decide))).trans c_11
        have c_94 : E85 0 5 = .inr (2, [.ref (ad 0 6), .int (nI nd)]) := (fE87 0 5 (fun q9 => absurd q9.2 (by decide))).trans c_14
        have c_95 : E85 0 6 = .inl (kA 4, 12, .inr (.inr (.inr (.inr fd_13)))) := (fE87 0 6 (fun q9 => absurd q9.2 (by decide))).trans c_16
        have c_96 : E85 0 7 = .inr (3, [.ref (ad 0 5), .ref (ad 0 8), .int (nI (L.length)), .int cf_18, pv_18]) := (fE87 0 7 (fun q9 => absurd q9.2 (by decide))).trans c_19
        have c_97 : E85 0 9 = .inl (kA 5, 5, .inr (.inr (.inr (.inr fl_23)))) := (fE87 0 9 (fun q9 => absurd q9.2 (by decide))).trans c_24
        have c_98 : E85 (1 + z30) 0 = .inr (7, [.int (nI z30), .int fd_58, .int nm_58, .ref (ad (1 + z30) 1), .ref (ad (1 + z30) 9), .ref (ad (1 + z30) 10), .ref (ad (1 + z30) 2), .ref (ad (1 + z30) 11), .ref (ad (1 + z30) 12), .ref (ad (1 + z30) 3), .ref (ad (1 + z30) 4), .int sd_58]) := (fE87 (1 + z30) 0 (fun q9 => absurd q9.2 (by decide))).trans c_59
        have c_99 : E85 (1 + z30) 1 = .inr (8, [.ref (ad (1 + z30) 5), .int (nI k0_58)]) := (fE87 (1 + z30) 1 (fun q9 => absurd q9.2 (by decide))).trans c_61
        have c_100 : E85 (1 + z30) 2 = .inr (8, [.ref (ad (1 + z30) 6), .int (nI k1_58)]) := (fE87 (1 + z30) 2 (fun q9 => absurd q9.2 (by decide))).trans c_63
        have c_101 : E85 (1 + z30) 3 = .inr (8, [.ref (ad (1 + z30) 7), .int (nI k2_58)]) := (fE87 (1 + z30) 3 (fun q9 => absurd q9.2 (by decide))).trans c_65
        have c_102 : E85 (1 + z30) 4 = .inr (8, [.ref (ad (1 + z30) 8), .int (nI k3_58)]) := (fE87 (1 + z30) 4 (fun q9 => absurd q9.2 (by decide))).trans c_67
        have c_103 : E85 (1 + z30) 5 = .inl (kA 0, 6, .inl f0_58) := (fE87 (1 + z30) 5 (fun q9 => absurd q9.2 (by decide))).trans c_69
        have c_104 : E85 (1 + z30) 6 = .inl (kA 0, 5, .inl f1_58) := (fE87 (1 + z30) 6 (fun q9 => absurd q9.2 (by decide))).trans c_71
        have c_105 : E85 (1 + z30) 7 = .inl (kA 0, 3, .inl f2_58) := (fE87 (1 + z30) 7 (fun q9 => absurd q9.2 (by decide))).trans c_73
        have nb_106 : ¬ (1 + z30 = 0) := by omega
        have c_107 : E85 (1 + z30) 8 = .inl (kA 0, 3, .inl f3_58) := (fE87 (1 + z30) 8 (fun q9 => nb_106 q9.1)).trans c_75
        have c_108 : E85 (1 + z30) 9 = .inl (kA 8, 6, .inr (.inr (.inr (.inr fe_58)))) := (fE87 (1 + z30) 9 (fun q9 => absurd q9.2 (by decide))).trans c_77
        have c_109 : E85 (1 + z30) 10 = .inl (kA 8, 6, .inr (.inr (.inr (.inr fo_58)))) := (fE87 (1 + z30) 10 (fun q9 => absurd q9.2 (by decide))).trans c_79
        have c_110 : E85 (1 + z30) 11 = .inl (kA 2, 5, .inl tr_58) := (fE87 (1 + z30) 11 (fun q9 => absurd q9.2 (by decide))).trans c_81
        have c_111 : E85 (1 + z30) 12 = .inl (kA 2, 5, .inl op_58) := (fE87 (1 + z30) 12 (fun q9 => absurd q9.2 (by decide))).trans c_83
        refine lv_aload_n hx hb xd_Ch_addName_78 rfl (lv_at hl 1 rfl) ?_
        refine lv_dup hx hb xd_Ch_addName_79 rfl ?_
        refine px_get (D := D) (ci := 3) (v := .int (nI (L.length))) (C := xR_Ch) (T := xT_Ch) (N := 5) hx hb hT xi_Ch hown hK.1 hP m_20 c_96 rfl 2 (by decide) (hT _ k5l_18) (fun _ h9 => h9) rfl xd_Ch_addName_80 ?_
        refine lv_iconst (v := 1) hx hb xd_Ch_addName_83 (by decide) ?_
        refine lv_iadd hx hb xd_Ch_addName_84 ?_
        refine xn_top (y := nI (L.length + 1)) (nI_add L.length 1) ?_
        refine px_put (D := D) (ci := 3) (v := .int (nI (L.length + 1))) (ty := .int) (C := xR_Ch) (T := xT_Ch) (N := 5) hx hb hT xi_Ch xt_Ch xt_Ch_ok xn_Ch hown hK.1 hP hD hS m_20 c_96 rfl 2 (by decide) (hT _ k5l_18) (fun _ h9 => h9) rfl (by decide +kernel) rfl rfl (Nat.le_of_ble_eq_true rfl) xd_Ch_addName_85 (fun H locs hP hD hS => ?_)
        have hP : va_P D xcl (rp ad (up2 E85 0 7 (.inr (3, [.ref (ad 0 5), .ref (ad 0 8), .int (nI (L.length + 1)), .int cf_18, pv_18]))) RL) H := hP
        have hD : va_D A (rp ad (up2 E85 0 7 (.inr (3, [.ref (ad 0 5), .ref (ad 0 8), .int (nI (L.length + 1)), .int cf_18, pv_18]))) RL) := hD
        generalize hE113 : up2 E85 0 7 (.inr (3, [.ref (ad 0 5), .ref (ad 0 8), .int (nI (L.length + 1)), .int cf_18, pv_18])) = E112 at hP hD
        have fE114 : ∀ b2 o2, ¬ (b2 = 0 ∧ o2 = 7) → E112 b2 o2 = E85 b2 o2 := fun b2 o2 h9 => by rw [← hE113]; exact up2_ne (nr_or h9)
        have c_115 : E112 0 7 = .inr (3, [.ref (ad 0 5), .ref (ad 0 8), .int (nI (L.length + 1)), .int cf_18, pv_18]) := by rw [← hE113]; exact up2_eq
        have c_116 : E112 0 8 = .inl (kA 4, 12, .inr (.inr (.inr (.inr (va_up fc_18 L.length (some (ad (1 + z30) 0))))))) := (fE114 0 8 (fun q9 => absurd q9.2 (by decide))).trans c_88
        have c_117 : E112 0 0 = .inr (0, [.ref (ad 0 1), .ref (ad 0 5), .ref (ad 0 7), .ref (ad 0 9), .int (nI ml), .int lf_1]) := (fE114 0 0 (fun q9 => absurd q9.2 (by decide))).trans c_89
        have c_118 : E112 0 1 = .inr (1, [.ref (ad 0 2), .ref (ad 0 3), .ref (ad 0 4), .int (nI len), .int (nI wn)]) := (fE114 0 1 (fun q9 => absurd q9.2 (by decide))).trans c_90
        have c_119 : E112 0 2 = .inl (kA 1, 40, .inl tx_4) := (fE114 0 2 (fun q9 => absurd q9.2 (by decide))).trans c_91
        have c_120 : E112 0 3 = .inl (kA 0, 20, .inl fb_4) := (fE114 0 3 (fun q9 => absurd q9.2 (by decide))).trans c_92
        have c_121 : E112 0 4 = .inl (kA 0, 20, .inl fe_4) := (fE114 0 4 (fun q9 => absurd q9.2 (by decide))).trans c_93
        have c_122 : E112 0 5 = .inr (2, [.ref (ad 0 6), .int (nI nd)]) := (fE114 0 5 (fun q9 => absurd q9.2 (by decide))).trans c_94
        have c_123 : E112 0 6 = .inl (kA 4, 12, .inr (.inr (.inr (.inr fd_13)))) := (fE114 0 6 (fun q9 => absurd q9.2 (by decide))).trans c_95
        have c_124 : E112 0 9 = .inl (kA 5, 5, .inr (.inr (.inr (.inr fl_23)))) := (fE114 0 9 (fun q9 => absurd q9.2 (by decide))).trans c_97
        have c_125 : E112 (1 + z30) 0 = .inr (7, [.int (nI z30), .int fd_58, .int nm_58, .ref (ad (1 + z30) 1), .ref (ad (1 + z30) 9), .ref (ad (1 + z30) 10), .ref (ad (1 + z30) 2), .ref (ad (1 + z30) 11), .ref (ad (1 + z30) 12), .ref (ad (1 + z30) 3), .ref (ad (1 + z30) 4), .int sd_58]) := (fE114 (1 + z30) 0 (fun q9 => absurd q9.2 (by decide))).trans c_98
        have c_126 : E112 (1 + z30) 1 = .inr (8, [.ref (ad (1 + z30) 5), .int (nI k0_58)]) := (fE114 (1 + z30) 1 (fun q9 => absurd q9.2 (by decide))).trans c_99
        have c_127 : E112 (1 + z30) 2 = .inr (8, [.ref (ad (1 + z30) 6), .int (nI k1_58)]) := (fE114 (1 + z30) 2 (fun q9 => absurd q9.2 (by decide))).trans c_100
        have c_128 : E112 (1 + z30) 3 = .inr (8, [.ref (ad (1 + z30) 7), .int (nI k2_58)]) := (fE114 (1 + z30) 3 (fun q9 => absurd q9.2 (by decide))).trans c_101
        have c_129 : E112 (1 + z30) 4 = .inr (8, [.ref (ad (1 + z30) 8), .int (nI k3_58)]) := (fE114 (1 + z30) 4 (fun q9 => absurd q9.2 (by decide))).trans c_102
        have c_130 : E112 (1 + z30) 5 = .inl (kA 0, 6, .inl f0_58) := (fE114 (1 + z30) 5 (fun q9 => absurd q9.2 (by decide))).trans c_103
        have c_131 : E112 (1 + z30) 6 = .inl (kA 0, 5, .inl f1_58) := (fE114 (1 + z30) 6 (fun q9 => absurd q9.2 (by decide))).trans c_104
        have c_132 : E112 (1 + z30) 7 = .inl (kA 0, 3, .inl f2_58) := (fE114 (1 + z30) 7 (fun q9 => nb_106 q9.1)).trans c_105
        have c_133 : E112 (1 + z30) 8 = .inl (kA 0, 3, .inl f3_58) := (fE114 (1 + z30) 8 (fun q9 => absurd q9.2 (by decide))).trans c_107
        have c_134 : E112 (1 + z30) 9 = .inl (kA 8, 6, .inr (.inr (.inr (.inr fe_58)))) := (fE114 (1 + z30) 9 (fun q9 => absurd q9.2 (by decide))).trans c_108
        have c_135 : E112 (1 + z30) 10 = .inl (kA 8, 6, .inr (.inr (.inr (.inr fo_58)))) := (fE114 (1 + z30) 10 (fun q9 => absurd q9.2 (by decide))).trans c_109
        have c_136 : E112 (1 + z30) 11 = .inl (kA 2, 5, .inl tr_58) := (fE114 (1 + z30) 11 (fun q9 => absurd q9.2 (by decide))).trans c_110
        have c_137 : E112 (1 + z30) 12 = .inl (kA 2, 5, .inl op_58) := (fE114 (1 + z30) 12 (fun q9 => absurd q9.2 (by decide))).trans c_111
        have hCX2 : CX ad E112 nd fi lq (L ++ [z30]) := ⟨by rw [c_115]; exact xfi_18, by rw [c_115]; exact xpv_18, by rw [c_116]; exact CX_add xfc_18, GL_add xGL_18 (dsG_lt _ _ hds) z53⟩
        have hF2 : F78 E E112 := fun b2 o2 h79 h89 => by show E112 b2 o2 = _; rw [fE114 b2 o2 (by omega), fE87 b2 o2 (by omega)]
        have hCI : CI kA ad E112 RL ml nd len wn (L.length + 1) := ⟨hmB, ⟨lf_1, c_117⟩, ⟨tx_4, fb_4, fe_4, (by omega), (by omega), c_118, c_119, c_120, c_121, hws_4⟩, ⟨fd_13, (by omega), c_122, c_123, hds_13⟩, ⟨cf_18, pv_18, (va_up fc_18 L.length (some (ad (1 + z30) 0))), (by omega), hpv_18, c_115, c_116, (FC_add hfc_18 (d0 := z30) (by omega))⟩, ⟨fl_23, (by omega), c_124, hla_23⟩, (DIs_same (fun d9 hd9 => fun2 fun o9 => by show E112 (1 + d9) o9 = _; rw [fE114 (1 + d9) o9 (by omega), fE87 (1 + d9) o9 (by omega)]) (fun _ _ => rfl) (fun _ h9 => h9) hDIs), (LIs_same (Nat.le_refl _) (fun n9 hn9 => fun2 fun o9 => by show E112 (20 + n9) o9 = _; rw [fE114 (20 + n9) o9 (by omega), fE87 (20 + n9) o9 (by omega)]) (fun _ _ => rfl) (fun _ _ => rfl) (fun _ h9 => h9) hLIs)⟩
        obtain ⟨hmB, hDk, hLi, hSh, hCh, hLa, hDIs, hLIs⟩ := id hCI
        have hCI : CI kA ad E112 RL ml nd len wn (L ++ [z30]).length := by rw [len_app]; exact hCI
        refine lv_iconst (v := 0) hx hb xd_Ch_addName_88 (by decide) ?_
        refine lv_istore hx hb xd_Ch_addName_89 hl (Nat.le_of_ble_eq_true rfl) rfl (fun ls hl => ?_)
        have hl : lv_has ls 5 [(4, .int 0), (3, .ref (ad (1 + z30) 0)), (0, .ref (ad 0 7)), (1, .int nm), (2, .int (nI dp))] := hl
        refine xlab (σ := Nat × (Nat → Nat → va_E) × List Nat) (ml := 5) 91 (fun (i, E1, L1) => [(4, .int (nI i)), (3, .ref (ad (1 + z30) 0)), (2, .int (nI dp)), (1, .int nm), (0, .ref (ad 0 7))]) (fun (i, E1, L1) => []) (fun (i, E1, L1) => rp ad E1 RL) (fun (i, E1, L1) => (i ≤ iN (g 12 z30)) ∧ (CI kA ad E1 RL ml nd len wn L1.length) ∧ (CX ad E1 nd fi lq L1) ∧ (F78 E E1) ∧ (aF (aN (dsG g nd fi) (upG g lq) (rqG g) (f - 1)) (L ++ [z30]) (rqG g z30) = aF (aN (dsG g nd fi) (upG g lq) (rqG g) (f - 1)) L1 (rqL (g 13) (g 17) (5 * z30 + i) (iN (g 12 z30) - i)))) (fun (i, E1, L1) => iN (g 12 z30) - i) ?_ (0, E112, (L ++ [z30])) _ _ _ (lv_sub hl [0, 1, 4, 3, 2] rfl) hP hD hS ⟨(show 0 ≤ iN (g 12 z30) from by first | assumption | omega), (show CI kA ad E112 RL ml nd len wn (L ++ [z30]).length from hCI), (show CX ad E112 nd fi lq (L ++ [z30]) from hCX2), (show F78 E E112 from hF2), (show aF (aN (dsG g nd fi) (upG g lq) (rqG g) (f - 1)) (L ++ [z30]) (rqG g z30) = aF (aN (dsG g nd fi) (upG g lq) (rqG g) (f - 1)) (L ++ [z30]) (rqL (g 13) (g 17) (5 * z30 + 0) (iN (g 12 z30) - 0)) from (show aF (aN (dsG g nd fi) (upG g lq) (rqG g) (f - 1)) (L ++ [z30]) (rqG g z30) = aF (aN (dsG g nd fi) (upG g lq) (rqG g) (f - 1)) (L ++ [z30]) (rqL (g 13) (g 17) (5 * z30 + 0) (iN (g 12 z30) - 0)) from rfl))⟩
        intro n9 ih138 a9 ls H locs hμ hl hP hD hS hI
        subst hμ
        obtain ⟨i, E1, L1⟩ := a9
        obtain ⟨hi, hCI, hCX1, hF, hAn⟩ := hI
        have hi : i ≤ iN (g 12 z30) := hi
        have hCI : CI kA ad E1 RL ml nd len wn L1.length := hCI
        have hCX1 : CX ad E1 nd fi lq L1 := hCX1
        have hF : F78 E E1 := hF
        have hAn : aF (aN (dsG g nd fi) (upG g lq) (rqG g) (f - 1)) (L ++ [z30]) (rqG g z30) = aF (aN (dsG g nd fi) (upG g lq) (rqG g) (f - 1)) L1 (rqL (g 13) (g 17) (5 * z30 + i) (iN (g 12 z30) - i)) := hAn
        have hl : lv_has ls 5 [(4, .int (nI i)), (3, .ref (ad (1 + z30) 0)), (2, .int (nI dp)), (1, .int nm), (0, .ref (ad 0 7))] := hl
        have hP : va_P D xcl (rp ad E1 RL) H := hP
        have hD : va_D A (rp ad E1 RL) := hD
        obtain ⟨hmB, hDk, hLi, hSh, hCh, hLa, hDIs, hLIs⟩ := id hCI
        obtain ⟨lf_139, q_139⟩ := id (hDk)
        have c_140 : E1 0 0 = .inr (0, [.ref (ad 0 1), .ref (ad 0 5), .ref (ad 0 7), .ref (ad 0 9), .int (nI ml), .int lf_139]) := q_139
        have m_141 : (0, 0) ∈ RL := hmB 0 (by decide)
        obtain ⟨tx_142, fb_142, fe_142, hl1_142, hw2_142, q1_142, q2_142, q3_142, q4_142, hws_142⟩ := id (hLi)
        have c_143 : E1 0 1 = .inr (1, [.ref (ad 0 2), .ref (ad 0 3), .ref (ad 0 4), .int (nI len), .int (nI wn)]) := q1_142
        have m_144 : (0, 1) ∈ RL := hmB 1 (by decide)
        have c_145 : E1 0 2 = .inl (kA 1, 40, .inl tx_142) := q2_142
        have m_146 : (0, 2) ∈ RL := hmB 2 (by decide)
        have c_147 : E1 0 3 = .inl (kA 0, 20, .inl fb_142) := q3_142
        have m_148 : (0, 3) ∈ RL := hmB 3 (by decide)
        have c_149 : E1 0 4 = .inl (kA 0, 20, .inl fe_142) := q4_142
        have m_150 : (0, 4) ∈ RL := hmB 4 (by decide)
        obtain ⟨fd_151, hnd_151, q5_151, q6_151, hds_151⟩ := id (hSh)
        have c_152 : E1 0 5 = .inr (2, [.ref (ad 0 6), .int (nI nd)]) := q5_151
        have m_153 : (0, 5) ∈ RL := hmB 5 (by decide)
        have c_154 : E1 0 6 = .inl (kA 4, 12, .inr (.inr (.inr (.inr fd_151)))) := q6_151
        have m_155 : (0, 6) ∈ RL := hmB 6 (by decide)
        obtain ⟨cf_156, pv_156, fc_156, hcs_156, hpv_156, q7_156, q8_156, hfc_156⟩ := id (hCh)
        have c_157 : E1 0 7 = .inr (3, [.ref (ad 0 5), .ref (ad 0 8), .int (nI (L1.length)), .int cf_156, pv_156]) := q7_156
        have m_158 : (0, 7) ∈ RL := hmB 7 (by decide)
        have c_159 : E1 0 8 = .inl (kA 4, 12, .inr (.inr (.inr (.inr fc_156)))) := q8_156
        have m_160 : (0, 8) ∈ RL := hmB 8 (by decide)
        obtain ⟨fl_161, hml_161, q9_161, hla_161⟩ := id (hLa)
        have c_162 : E1 0 9 = .inl (kA 5, 5, .inr (.inr (.inr (.inr fl_161)))) := q9_161
        have m_163 : (0, 9) ∈ RL := hmB 9 (by decide)
        have hTD1 : TDs g E1 nd := TDs_78 hF hTD
        have hTL1 : TLas g ad E1 nd ml := TLas_78 hF hTL
        obtain ⟨xfi_156, xpv_156, xfc_156, xGL_156⟩ := id hCX1
        rw [c_157] at xfi_156 xpv_156
        rw [c_159] at xfc_156
        have xfi_156 : cf_156 = fi := xfi_156
        have xpv_156 : pv_156 = lyv ad lq := xpv_156
        have xfc_156 : ∀ k, k < L1.length → fc_156 k = some (ad (1 + L1.getD k 0) 0) := xfc_156
        have xln_156 := GL_len xGL_156
        refine lv_iload hx hb xd_Ch_addName_91 (lv_at hl 0 rfl) ?_
        refine lv_aload_n hx hb xd_Ch_addName_93 rfl (lv_at hl 1 rfl) ?_
        obtain ⟨hm_164, fd_164, nm_164, sd_164, k0_164, k1_164, k2_164, k3_164, f0_164, f1_164, f2_164, f3_164, fe_164, fo_164, tr_164, op_164, hk0_164, hk1_164, hk2_164, hk3_164, q0_164, q1_164, q2_164, q3_164, q4_164, q5_164, q6_164, q7_164, q8_164, q9_164, q10_164, q11_164, q12_164, hg_164⟩ := id (hDIs z30 (by omega))
        have c_165 : E1 (1 + z30) 0 = .inr (7, [.int (nI z30), .int fd_164, .int nm_164, .ref (ad (1 + z30) 1), .ref (ad (1 + z30) 9), .ref (ad (1 + z30) 10), .ref (ad (1 + z30) 2), .ref (ad (1 + z30) 11), .ref (ad (1 + z30) 12), .ref (ad (1 + z30) 3), .ref (ad (1 + z30) 4), .int sd_164]) := q0_164
        have m_166 : (1 + z30, 0) ∈ RL := hm_164 0 (by decide)
        have c_167 : E1 (1 + z30) 1 = .inr (8, [.ref (ad (1 + z30) 5), .int (nI k0_164)]) := q1_164
        have m_168 : (1 + z30, 1) ∈ RL := hm_164 1 (by decide)
        have c_169 : E1 (1 + z30) 2 = .inr (8, [.ref (ad (1 + z30) 6), .int (nI k1_164)]) := q2_164
        have m_170 : (1 + z30, 2) ∈ RL := hm_164 2 (by decide)
        have c_171 : E1 (1 + z30) 3 = .inr (8, [.ref (ad (1 + z30) 7), .int (nI k2_164)]) := q3_164
        have m_172 : (1 + z30, 3) ∈ RL := hm_164 3 (by decide)
        have c_173 : E1 (1 + z30) 4 = .inr (8, [.ref (ad (1 + z30) 8), .int (nI k3_164)]) := q4_164
        have m_174 : (1 + z30, 4) ∈ RL := hm_164 4 (by decide)
        have c_175 : E1 (1 + z30) 5 = .inl (kA 0, 6, .inl f0_164) := q5_164
        have m_176 : (1 + z30, 5) ∈ RL := hm_164 5 (by decide)
        have c_177 : E1 (1 + z30) 6 = .inl (kA 0, 5, .inl f1_164) := q6_164
        have m_178 : (1 + z30, 6) ∈ RL := hm_164 6 (by decide)
        have c_179 : E1 (1 + z30) 7 = .inl (kA 0, 3, .inl f2_164) := q7_164
        have m_180 : (1 + z30, 7) ∈ RL := hm_164 7 (by decide)
        have c_181 : E1 (1 + z30) 8 = .inl (kA 0, 3, .inl f3_164) := q8_164
        have m_182 : (1 + z30, 8) ∈ RL := hm_164 8 (by decide)
        have c_183 : E1 (1 + z30) 9 = .inl (kA 8, 6, .inr (.inr (.inr (.inr fe_164)))) := q9_164
        have m_184 : (1 + z30, 9) ∈ RL := hm_164 9 (by decide)
        have c_185 : E1 (1 + z30) 10 = .inl (kA 8, 6, .inr (.inr (.inr (.inr fo_164)))) := q10_164
        have m_186 : (1 + z30, 10) ∈ RL := hm_164 10 (by decide)
        have c_187 : E1 (1 + z30) 11 = .inl (kA 2, 5, .inl tr_164) := q11_164
        have m_188 : (1 + z30, 11) ∈ RL := hm_164 11 (by decide)
        have c_189 : E1 (1 + z30) 12 = .inl (kA 2, 5, .inl op_164) := q12_164
        have m_190 : (1 + z30, 12) ∈ RL := hm_164 12 (by decide)
        have hg_164 : ∀ w9, w9 < k0_164 → fe_164 w9 = some (ad (1 + z30) (20 + 3 * w9)) ∧ fo_164 w9 = some (ad (1 + z30) (38 + 3 * w9)) ∧ GI kA (ad (1 + z30)) (E1 (1 + z30)) (fun o => (1 + z30, o) ∈ RL) (20 + 3 * w9) (21 + 3 * w9) (22 + 3 * w9) ∧ GI kA (ad (1 + z30)) (E1 (1 + z30)) (fun o => (1 + z30, o) ∈ RL) (38 + 3 * w9) (39 + 3 * w9) (40 + 3 * w9) := hg_164
        obtain ⟨hTT_164, tgr_164⟩ := TD_get hk0_164 hk1_164 hk2_164 hk3_164 c_165 c_167 c_169 c_171 c_173 c_175 c_177 c_179 c_181 c_187 c_189 (hTD1 z30 (by omega))
        obtain ⟨tfd_164, tnm_164, tsd_164, tk0_164, tf0_164, tk1_164, tf1_164, tk2_164, tk3_164⟩ := id hTT_164
        have ik0_164 : iN (g 5 z30) = k0_164 := by rw [← tk0_164, iN_nI (by omega)]
        have ik1_164 : iN (g 12 z30) = k1_164 := by rw [← tk1_164, iN_nI (by omega)]
        refine px_get (D := D) (ci := 7) (v := .ref (ad (1 + z30) 2)) (C := xR_Ds) (T := xT_Ds) (N := 12) hx hb hT xi_Ds hown hK.1 hP m_166 c_165 rfl 6 (by decide) (hT _ k5l_20) (fun _ h9 => h9) rfl xd_Ch_addName_94 ?_
        refine px_get (D := D) (ci := 8) (v := .int (nI k1_164)) (C := xR_Na) (T := xT_Na) (N := 2) hx hb hT xi_Na hown hK.1 hP m_170 c_169 rfl 1 (by decide) (hT _ k5l_21) (fun _ h9 => h9) rfl xd_Ch_addName_97 ?_
        refine xn_ge (a := i) (b := k1_164) (tgt := 140) hx hb xd_Ch_addName_100 (by decide) (by omega) (by omega) (fun hc191 => ?_) (fun hc191 => ?_)
        · refine lv_iconst (v := 1) hx hb xd_Ch_addName_140 (by decide) ?_
          refine W.widen (k := 0) (n := 0) (Nat.le_of_ble_eq_true rfl) (Nat.le_of_ble_eq_true rfl) ?_
          exact W.zret (v := 1) hx hb hr rfl (fun t ht hW => ⟨⟨1, E1, rfl, ⟨L1, hCI, hCX1, hF, Or.inl ⟨rfl, (aN_s (by omega) hds z53).trans (hAn.trans (by rw [show iN (g 12 z30) - i = 0 by omega]; rfl))⟩⟩, by rw [ht]; exact hP, hD⟩, hS.F ht⟩) hS.2.2 xd_Ch_addName_141
        · refine lv_aload_n hx hb xd_Ch_addName_103 rfl (lv_at hl 1 rfl) ?_
          refine px_get (D := D) (ci := 7) (v := .ref (ad (1 + z30) 12)) (C := xR_Ds) (T := xT_Ds) (N := 12) hx hb hT xi_Ds hown hK.1 hP m_166 c_165 rfl 8 (by decide) (hT _ k5l_22) (fun _ h9 => h9) rfl xd_Ch_addName_104 ?_
          refine lv_iload hx hb xd_Ch_addName_107 (lv_at hl 0 rfl) ?_
          refine px_zald (i := i) hx hb hK.1 hP m_190 c_189 2 rfl (by omega) (by decide) xd_Ch_addName_109 ?_
          refine lv_if_ne (tgt := 134) hx hb xd_Ch_addName_110 (by decide) (fun hc192 => ?_) (fun hc192 => ?_)
          · refine lv_iinc (k := 0) (x := (nI i)) (v := (nI (i + 1))) hx hb xd_Ch_addName_134 hl rfl (xb_inc i 1) (Nat.le_of_ble_eq_true rfl) rfl (fun ls hl => ?_)
            have hl : lv_has ls 5 [(4, .int (nI (i + 1))), (3, .ref (ad (1 + z30) 0)), (2, .int (nI dp)), (1, .int nm), (0, .ref (ad 0 7))] := hl
            refine lv_goto (tgt := 91) hx hb xd_Ch_addName_137 (by decide) ?_
            exact ih138 (i + 1, E1, L1) _ _ _ (show iN (g 12 z30) - (i + 1) < iN (g 12 z30) - i by omega) (lv_sub hl [0, 1, 2, 3, 4] rfl) hP hD hS ⟨(show (i + 1) ≤ iN (g 12 z30) from by first | assumption | omega), (show CI kA ad E1 RL ml nd len wn L1.length from hCI), (show CX ad E1 nd fi lq L1 from hCX1), (show F78 E E1 from hF), (show aF (aN (dsG g nd fi) (upG g lq) (rqG g) (f - 1)) (L ++ [z30]) (rqG g z30) = aF (aN (dsG g nd fi) (upG g lq) (rqG g) (f - 1)) L1 (rqL (g 13) (g 17) (5 * z30 + (i + 1)) (iN (g 12 z30) - (i + 1))) from by rw [hAn, show iN (g 12 z30) - i = iN (g 12 z30) - (i + 1) + 1 by omega, rqL_n (by rw [← (tf1_164 i (by omega)).2.2]; exact hc192), Nat.add_assoc])⟩
          · refine lv_aload_n hx hb xd_Ch_addName_113 rfl (lv_at hl 4 rfl) ?_
            refine lv_aload_n hx hb xd_Ch_addName_114 rfl (lv_at hl 1 rfl) ?_
            refine px_get (D := D) (ci := 7) (v := .ref (ad (1 + z30) 2)) (C := xR_Ds) (T := xT_Ds) (N := 12) hx hb hT xi_Ds hown hK.1 hP m_166 c_165 rfl 6 (by decide) (hT _ k5l_20) (fun _ h9 => h9) rfl xd_Ch_addName_115 ?_
            refine lv_iload hx hb xd_Ch_addName_118 (lv_at hl 0 rfl) ?_
            have hFc := px_free hD hS hA
            refine va_calli (va_runV (As := [.int (nI i)]) (rest := [.ref (ad 0 7)]) ⟨hx, hb, hml, hown, hT⟩ (xc_Na_at l D kA H.size ad E1 RL (1 + z30) 2 6 5 k1_164 f1_164 i m_170 c_169 m_178 c_177 (by first | assumption | omega) (by first | assumption | omega) (by first | assumption | omega)) (cwV 1 hT (wT_V k5l_24 k5l_25 k5l_26 k5l_27 k5l_23) rfl rfl rfl (by decide +kernel) ⟨(show 0 + 1 ≤ 6 + f by omega), (show 8 + (2 + 11) + (0) ≤ 90 + 90 * f by omega)⟩) (px_preV hK hP hD m_170 c_169 rfl) rfl rfl hl.1 rfl (lv_room (Nat.le_of_ble_eq_true rfl)) xd_Ch_addName_120 ⟨(Nat.le_of_ble_eq_true rfl), (Nat.le_of_ble_eq_true rfl)⟩) hS (fun q _ h => hFc q h) hFc (fun r193 u194 t H1 locs ht hvm hp195 hB hz1 hk1 hS => ?_)
            obtain ⟨hP1, hD1⟩ := hB
            rw [ht] at hP1
            have hD1 := hD1.weaken (fun _ _ _ h => hFc _ h)
            generalize H1 = H at hP1 hS ⊢
            have hP := hP1
            have hD := hD1
            have hP : va_P D xcl (rp ad E1 RL) H := hP
            have hD : va_D A (rp ad E1 RL) := hD
            have hp195 : r193 = g 13 (5 * z30 + i) := by
              rcases hp195 with ⟨q, q2⟩ | ⟨q, _⟩
              · rw [q2]; exact (tf1_164 i q).1
              · omega
            subst hp195
            have hP : va_P D xcl (rp ad E1 RL) H := hP
            have hD : va_D A (rp ad E1 RL) := hD
            refine lv_iload_n hx hb xd_Ch_addName_123 rfl (lv_at hl 2 rfl) ?_
            refine lv_iconst (v := 1) hx hb xd_Ch_addName_124 (by decide) ?_
            refine lv_iadd hx hb xd_Ch_addName_125 ?_
            refine xn_top (y := nI (dp + 1)) (nI_add dp 1) ?_
            have hFc := px_free hD hS hA
            refine va_calli (va_runV (As := [.int (g 13 (5 * z30 + i)), .int (nI (dp + 1))]) (rest := []) ⟨hx, hb, hml, hown, hT⟩ (ih (f - 1) (by omega) l D kA H.size ad E1 RL g ml nd len wn fi lq L1 (g 13 (5 * z30 + i)) (dp + 1) hCI hCX1 hTD1 hTL1 (by first | assumption | omega) (by first | assumption | omega)) (cwV 2 hT (wT_V k5l_29 k5l_30 k5l_31 k5l_17 k5l_28) rfl rfl rfl (by decide +kernel) ⟨(show 6 + (f - 1) + 1 ≤ 6 + f by omega), (show 8 + (5 + 11) + (90 + 90 * (f - 1)) ≤ 90 + 90 * f by omega)⟩) (px_preV hK hP hD m_158 c_157 rfl) rfl rfl hl.1 rfl (lv_room (Nat.le_of_ble_eq_true rfl)) xd_Ch_addName_126 ⟨(Nat.le_of_ble_eq_true rfl), (Nat.le_of_ble_eq_true rfl)⟩) hS (fun q _ h => hFc q h) hFc (fun r196 u197 t H1 locs ht hvm hp198 hB hz1 hk1 hS => ?_)
            obtain ⟨hP1, hD1⟩ := hB
            rw [ht] at hP1
            have hD1 := hD1.weaken (fun _ _ _ h => hFc _ h)
            generalize H1 = H at hP1 hS ⊢
            have hP := hP1
            have hD := hD1
            obtain ⟨E199, rfl⟩ : ∃ z, z = u197 := ⟨_, rfl⟩
            have hP : va_P D xcl (rp ad E199 RL) H := hP
            have hD : va_D A (rp ad E199 RL) := hD
            obtain ⟨L2, hCI, hCX2, hF9, hres⟩ := hp198
            have hCI : CI kA ad E199 RL ml nd len wn L2.length := hCI
            have hF2 : F78 E E199 := F78_tr hF hF9
            obtain ⟨hmB, hDk, hLi, hSh, hCh, hLa, hDIs, hLIs⟩ := id hCI
            rcases hres with ⟨rfl, hok9⟩ | ⟨rfl, hok9⟩
            · have hok8 := hok9
              refine lv_if_ne (tgt := 134) hx hb xd_Ch_addName_129 (by decide) (fun _ => ?_) (fun hc200 => absurd hc200 (by decide))
              refine lv_iinc (k := 0) (x := (nI i)) (v := (nI (i + 1))) hx hb xd_Ch_addName_134 hl rfl (xb_inc i 1) (Nat.le_of_ble_eq_true rfl) rfl (fun ls hl => ?_)
              have hl : lv_has ls 5 [(4, .int (nI (i + 1))), (3, .ref (ad (1 + z30) 0)), (2, .int (nI dp)), (1, .int nm), (0, .ref (ad 0 7))] := hl
              refine lv_goto (tgt := 91) hx hb xd_Ch_addName_137 (by decide) ?_
              exact ih138 (i + 1, E199, L2) _ _ _ (show iN (g 12 z30) - (i + 1) < iN (g 12 z30) - i by omega) (lv_sub hl [0, 1, 2, 3, 4] rfl) hP hD hS ⟨(show (i + 1) ≤ iN (g 12 z30) from by first | assumption | omega), (show CI kA ad E199 RL ml nd len wn L2.length from hCI), (show CX ad E199 nd fi lq L2 from hCX2), (show F78 E E199 from hF2), (show aF (aN (dsG g nd fi) (upG g lq) (rqG g) (f - 1)) (L ++ [z30]) (rqG g z30) = aF (aN (dsG g nd fi) (upG g lq) (rqG g) (f - 1)) L2 (rqL (g 13) (g 17) (5 * z30 + (i + 1)) (iN (g 12 z30) - (i + 1))) from by rw [hAn, show iN (g 12 z30) - i = iN (g 12 z30) - (i + 1) + 1 by omega, rqL_y (by rw [← (tf1_164 i (by omega)).2.2]; exact hc192), aF_t hok9, Nat.add_assoc])⟩
            · have hok8 := hok9
              refine lv_if_ne (tgt := 134) hx hb xd_Ch_addName_129 (by decide) (fun hc201 => absurd (by decide) hc201) (fun _ => ?_)
              refine lv_iconst (v := 0) hx hb xd_Ch_addName_132 (by decide) ?_
              refine W.widen (k := 0) (n := 0) (Nat.le_of_ble_eq_true rfl) (Nat.le_of_ble_eq_true rfl) ?_
              exact W.zret (v := 0) hx hb hr rfl (fun t ht hW => ⟨⟨0, E199, rfl, ⟨L2, hCI, hCX2, hF2, Or.inr ⟨rfl, (aN_s (by omega) hds z53).trans (hAn.trans (by rw [show iN (g 12 z30) - i = iN (g 12 z30) - (i + 1) + 1 by omega, rqL_y (by rw [← (tf1_164 i (by omega)).2.2]; exact hc192), aF_f hok9]))⟩⟩, by rw [ht]; exact hP, hD⟩, hS.F ht⟩) hS.2.2 xd_Ch_addName_133
      · refine lv_iconst (v := 0) hx hb xd_Ch_addName_66 (by decide) ?_
        refine W.widen (k := 0) (n := 0) (Nat.le_of_ble_eq_true rfl) (Nat.le_of_ble_eq_true rfl) ?_
        exact W.zret (v := 0) hx hb hr rfl (fun t ht hW => ⟨⟨0, E, rfl, ⟨L, hCI, hCX, F78_rf, Or.inr ⟨rfl, aN_z (by omega) hds z53⟩⟩, by rw [ht]; exact hP, hD⟩, hS.F ht⟩) hS.2.2 xd_Ch_addName_67
theorem bE_ext {g : gT} {nd lq d : Nat} {fi : Int32} {ok : Nat → Prop} {L : List Nat} : ∃ T, bE (adG g nd fi lq) (g 4) ok d L = L ++ T := by
  unfold bE
  by_cases q : ok d ∧ d ∉ L
  · rw [cif_pos q]
    by_cases q2 : (adG g nd fi lq L (g 4 d)).1 = true
    · rw [if_pos q2]; exact aN_pre
    · rw [if_neg q2]; exact ⟨[], (List.append_nil _).symm⟩
  · rw [cif_neg q]; exact ⟨[], (List.append_nil _).symm⟩
theorem ext_tr {L L2 L3 : List Nat} (h : ∃ T, L2 = L ++ T) (h2 : ∃ T, L3 = L2 ++ T) : ∃ T, L3 = L ++ T := by
  obtain ⟨T, e⟩ := h
  obtain ⟨T2, e2⟩ := h2
  exact ⟨T ++ T2, by rw [e2, e, List.append_assoc]⟩
theorem ext_rf {L : List Nat} : ∃ T, L = L ++ T := ⟨[], (List.append_nil _).symm⟩
theorem bD_ext {g : gT} {nd lq : Nat} {fi : Int32} {ok : Nat → Prop} : ∀ (m d : Nat) (L : List Nat), ∃ T, bD (adG g nd fi lq) (g 4) ok m d L = L ++ T
  | 0, _, _ => ext_rf
  | m + 1, d, L => ext_tr bE_ext (bD_ext m (d + 1) _)
theorem bUs_ext {B : Int32 → List Nat → List Nat} {us : Nat → Int32} (hB : ∀ x L, ∃ T, B x L = L ++ T) : ∀ (m k : Nat) (L : List Nat), ∃ T, bUs B us m k L = L ++ T
  | 0, _, _ => ext_rf
  | m + 1, k, L => by
    refine ext_tr ?_ (bUs_ext hB m (k + 1) _)
    by_cases q : 0 < us k
    · rw [cif_pos q]; exact hB _ _
    · rw [cif_neg q]; exact ext_rf
theorem bUg_ext {g : gT} {nd lq d : Nat} {fi : Int32} {L : List Nat} : ∃ T, bUg g nd fi lq d L = L ++ T := bUs_ext (fun x L => bD_ext _ _ _) _ _ _
theorem bR_ext {U : Nat → List Nat → List Nat} (hU : ∀ d L, ∃ T, U d L = L ++ T) {md : Nat → Nat} : ∀ (m k : Nat) (L : List Nat), ∃ T, bR U md m k L = L ++ T
  | 0, _, _ => ext_rf
  | m + 1, k, L => ext_tr (hU _ _) (bR_ext hU m (k + 1) _)
theorem bA_ext {U : Nat → List Nat → List Nat} (hU : ∀ d L, ∃ T, U d L = L ++ T) {mc : Nat → Nat} {md : Nat → Nat → Nat} {pr : Nat → Nat} : ∀ (f lq : Nat) (L : List Nat), ∃ T, bA U mc md pr f lq L = L ++ T
  | 0, _, _ => ext_rf
  | _ + 1, 0, _ => ext_rf
  | f + 1, la + 1, L => ext_tr (bR_ext hU _ _ _) (bA_ext hU f (pr la) _)
theorem bL_ext {U : Nat → List Nat → List Nat} (hU : ∀ d L, ∃ T, U d L = L ++ T) : ∀ (f k : Nat) (L : List Nat), ∃ T, bL U f k L = L ++ T
  | 0, _, _ => ext_rf
  | f + 1, k, L => by
    unfold bL
    split
    · exact ext_tr (hU _ _) (bL_ext hU f (k + 1) _)
    · exact ext_rf
theorem bO_ext {U : Nat → List Nat → List Nat} (hU : ∀ d L, ∃ T, U d L = L ++ T) {g : gT} {lq : Nat} {L : List Nat} : ∃ T, bO U g lq L = L ++ T := ext_tr (bL_ext hU _ _ _) (bA_ext hU _ _ _)
theorem ext_len {L L2 : List Nat} (h : ∃ T, L2 = L ++ T) (hl : L2.length = L.length) : L2 = L := by
  obtain ⟨T, e⟩ := h
  rw [e, List.length_append] at hl
  have : T = [] := List.eq_nil_of_length_eq_zero (by omega)
  rw [e, this, List.append_nil]
theorem bUs_z {B : Int32 → List Nat → List Nat} {us : Nat → Int32} : ∀ (m k : Nat) (L : List Nat), (∀ j, k ≤ j → j < k + m → ¬ 0 < us j) → bUs B us m k L = L
  | 0, _, _, _ => rfl
  | m + 1, k, L, h => by
    show bUs B us m (k + 1) (cif (0 < us k) (B (us k) L) L) = L
    rw [cif_neg (h k (by omega) (by omega))]
    exact bUs_z m (k + 1) L (fun j h1 h2 => h j (by omega) (by omega))
theorem gv_iff {g : gT} {d n : Nat} {f : Nat → Int32} {x : Int32} (hn : n ≤ 3) (hx : 0 < x) (h : NT n f (fun i => g 15 (3 * d + i))) : (∃ k, k < n ∧ f k = x) ↔ gvP g d x := NT_iff hn (fun q => by rw [q] at hx; exact absurd hx (by decide)) h
theorem CX_cut {ad : Nat → Nat → Nat} {fc : Nat → Option Nat} {L T L2 : List Nat} (e : L2 = L ++ T) (h : ∀ k, k < L2.length → fc k = some (ad (1 + L2.getD k 0) 0)) : ∀ k, k < L.length → fc k = some (ad (1 + L.getD k 0) 0) := fun k hk => by
  have q := h k (by rw [e, List.length_append]; omega)
  rw [q, e, List.getD_eq_getElem?_getD, List.getD_eq_getElem?_getD, List.getElem?_append_left hk]
theorem xc_Ch_addNameX (l : Launch) (D : va_G) (kA : Nat → ClassId) (sz : Nat) (ad : Nat → Nat → Nat) (E : Nat → Nat → va_E) (RL : List (Nat × Nat)) (g : Nat → Nat → Int32) (ml : Nat) (nd : Nat) (len : Nat) (wn : Nat) (fi : Int32) (lq : Nat) (L : List Nat) (nm : Int32) (hCI : CI kA ad E RL ml nd len wn L.length) (hCX : CX ad E nd fi lq L) (hTD : TDs g E nd) (hTL : TLas g ad E nd ml) (hlqm : lq ≤ ml) : Met l xy_Ch_addName (.code xy_Ch_addName xb_Ch_addName 5 (some .boolean) :: wT) { frames := 18, cells := 0, slots := 0, locals := 1170 } (va_Pc [.ref (ad 0 7), .int nm, .int 0] (xPre D kA sz (rp ad E RL))) (va_Qi (fun (r : Int32) (u : Nat → Nat → va_E) => ∃ L2, CI kA ad u RL ml nd len wn L2.length ∧ CX ad u nd fi lq L2 ∧ F78 E u ∧ ((r = 1 ∧ adG g nd fi lq L nm = (true, L2)) ∨ (r = 0 ∧ adG g nd fi lq L nm = (false, L2)))) (fun (u : Nat → Nat → va_E) t => va_P D xcl (rp ad u RL) t.heap ∧ va_D (va_A (rp ad E RL) sz) (rp ad u RL)) (va_A (rp ad E RL) sz)) 0 0 (va_A (rp ad E RL) sz) := xc_Ch_addNameRX 12 l D kA sz ad E RL g ml nd len wn fi lq L nm 0 hCI hCX hTD hTL hlqm rfl
