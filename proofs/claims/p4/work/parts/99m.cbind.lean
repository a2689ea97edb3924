theorem k5p_0 : (Cond.fieldLink "LayerDesk$Chooser" 17 "LayerDesk$Chooser" "size" "I") ∈ wT := wT_t (List.mem_append_left _ (List.mem_of_getElem? (i := 83) rfl)) rfl
theorem k5p_1 : (Cond.fieldLink "LayerDesk$Chooser" 24 "LayerDesk$Chooser" "parent" "LLayerDesk$Layer;") ∈ wT := wT_t (List.mem_append_left _ (List.mem_of_getElem? (i := 85) rfl)) rfl
theorem k5p_2 : (Cond.fieldLink "LayerDesk$Chooser" 44 "LayerDesk$Layer" "members" "[LLayerDesk$Member;") ∈ wT := wT_t (List.mem_append_right _ (List.mem_append_right _ (List.mem_append_left _ (List.mem_of_getElem? (i := 149) rfl)))) rfl
theorem k5p_3 : (Cond.fieldLink "LayerDesk$Chooser" 93 "LayerDesk$Layer" "parent" "LLayerDesk$Layer;") ∈ wT := wT_t (List.mem_append_right _ (List.mem_append_right _ (List.mem_append_left _ (List.mem_of_getElem? (i := 145) rfl)))) rfl
theorem k5p_4 : (Cond.fieldLink "LayerDesk$Chooser" 89 "LayerDesk$Member" "descriptor" "LLayerDesk$Descriptor;") ∈ wT := wT_t (List.mem_append_right _ (List.mem_append_right _ (List.mem_append_left _ (List.mem_of_getElem? (i := 184) rfl)))) rfl
theorem k5p_5 : (Cond.code xy_Ch_bindUsesOf xb_Ch_bindUsesOf 3 none) ∈ wT := wT_t (List.mem_append_right _ (List.mem_append_right _ (List.mem_append_left _ (List.mem_of_getElem? (i := 121) rfl)))) rfl
theorem k5p_6 : (Cond.methodLink "LayerDesk$Chooser" 85 xy_Ch_bindUsesOf) ∈ wT := wT_t (List.mem_append_right _ (List.mem_append_right _ (List.mem_append_left _ (List.mem_of_getElem? (i := 118) rfl)))) rfl
theorem k5p_7 : (Cond.instanceMethod xy_Ch_bindUsesOf) ∈ wT := wT_t (List.mem_append_right _ (List.mem_append_right _ (List.mem_append_left _ (List.mem_of_getElem? (i := 120) rfl)))) rfl
theorem k5p_8 : (Cond.selects "LayerDesk$Chooser" xy_Ch_bindUsesOf xy_Ch_bindUsesOf) ∈ wT := wT_s (q := (xy_Ch_bindUsesOf, 5)) (by decide +kernel) rfl
theorem k5p_9 : (Cond.initialized "LayerDesk$Chooser") ∈ wT := wT_t (List.mem_append_left _ (List.mem_of_getElem? (i := 4) rfl)) rfl
theorem k5p_10 : (Cond.fieldLink "LayerDesk$Chooser" 11 "LayerDesk$Chooser" "chosen" "[LLayerDesk$Descriptor;") ∈ wT := wT_t (List.mem_append_left _ (List.mem_of_getElem? (i := 82) rfl)) rfl
theorem k5p_11 : (Cond.code xy_Ch_bindOnce xb_Ch_bindOnce 3 none) ∈ wT := wT_t (List.mem_append_right _ (List.mem_append_right _ (List.mem_append_left _ (List.mem_of_getElem? (i := 117) rfl)))) rfl
theorem k5p_12 : (Cond.methodLink "LayerDesk$Chooser" 36 xy_Ch_bindOnce) ∈ wT := wT_t (List.mem_append_right _ (List.mem_append_right _ (List.mem_append_left _ (List.mem_of_getElem? (i := 114) rfl)))) rfl
theorem k5p_13 : (Cond.instanceMethod xy_Ch_bindOnce) ∈ wT := wT_t (List.mem_append_right _ (List.mem_append_right _ (List.mem_append_left _ (List.mem_of_getElem? (i := 116) rfl)))) rfl
theorem k5p_14 : (Cond.selects "LayerDesk$Chooser" xy_Ch_bindOnce xy_Ch_bindOnce) ∈ wT := wT_s (q := (xy_Ch_bindOnce, 5)) (by decide +kernel) rfl
set_option maxHeartbeats 4000000 in
set_option maxRecDepth 100000 in
theorem xc_Ch_bindOnceX (l : Launch) (D : va_G) (kA : Nat → ClassId) (sz : Nat) (ad : Nat → Nat → Nat) (E : Nat → Nat → va_E) (RL : List (Nat × Nat)) (g : Nat → Nat → Int32) (ml : Nat) (nd : Nat) (len : Nat) (wn : Nat) (fi : Int32) (lq : Nat) (L : List Nat) (hCI : CI kA ad E RL ml nd len wn L.length) (hCX : CX ad E nd fi lq L) (hTD : TDs g E nd) (hTL : TLas g ad E nd ml) (hlqm : lq ≤ ml) : Met l xy_Ch_bindOnce (.code xy_Ch_bindOnce xb_Ch_bindOnce 3 none :: wT) { frames := 21, cells := 0, slots := 0, locals := 1240 } (va_Pc [.ref (ad 0 7)] (xPre D kA sz (rp ad E RL))) (va_Qv (fun (u : Nat → Nat → va_E) => ∃ L2, CI kA ad u RL ml nd len wn L2.length ∧ CX ad u nd fi lq L2 ∧ F78 E u ∧ bO (bUg g nd fi lq) g lq L = L2) (fun (u : Nat → Nat → va_E) t => va_P D xcl (rp ad u RL) t.heap ∧ va_D (va_A (rp ad E RL) sz) (rp ad u RL)) (va_A (rp ad E RL) sz)) 0 0 (va_A (rp ad E RL) sz) := by
  refine Met.ofW (cc := xb_Ch_bindOnce) (maxL := 3) (ret := none) (by decide) rfl ?_
  intro p e s m args below meth c s₁ B hml hv
  obtain ⟨rfl, hsz, hP, hK, hD0⟩ := hv
  have hx := B.exec
  have hb := B.bytes
  have hr := B.returns
  have hT := x_hT B.pre
  have hown : s.vm.findClass xR_Ch = some m.cls := findClass_of_methodNamed B.named
  have hlocks := B.notSynchronized
  subst hsz
  have hD := hD0.self (sz := s.heap.size)
  generalize hAe : va_A (rp ad E RL) s.heap.size = A at hD ⊢
  have hA : ∀ q : Nat, s.heap.size ≤ q → A q := fun q h => by rw [← hAe]; exact Or.inr h
  have hS : va_S A s.heap s.heap [] := va_S.rf
  have hl := lv_entry ([.ref (ad 0 7)]) (n := 3) (Nat.le_of_ble_eq_true rfl)
  rw [lg_entry_eq]
  generalize (lg_sl ([.ref (ad 0 7)]) ++ List.replicate (3 - (lg_sl ([.ref (ad 0 7)])).length) Slot.unset).toArray = ls at hl ⊢
  have hl : lv_has ls 3 [(0, .ref (ad 0 7))] := hl
  have hP : va_P D xcl (rp ad E RL) s.heap := hP
  obtain ⟨hmB, hDk, hLi, hSh, hCh, hLa, hDIs, hLIs⟩ := id hCI
  obtain ⟨lf_1, q_1⟩ := id (hDk)
  have c_2 : E 0 0 = .inr (0, [.ref (ad 0 1), .ref (ad 0 5), .ref (ad 0 7), .ref (ad 0 9), .int (nI ml), .int lf_1]) := q_1
  have m_3 : (0, 0) ∈ RL := hmB 0 (by omega)
  obtain ⟨tx_4, fb_4, fe_4, hl1_4, hw2_4, q1_4, q2_4, q3_4, q4_4, hws_4⟩ := id (hLi)
  have c_5 : E 0 1 = .inr (1, [.ref (ad 0 2), .ref (ad 0 3), .ref (ad 0 4), .int (nI len), .int (nI wn)]) := q1_4
  have m_6 : (0, 1) ∈ RL := hmB 1 (by omega)
  have c_7 : E 0 2 = .inl (kA 1, 40, .inl tx_4) := q2_4
  have m_8 : (0, 2) ∈ RL := hmB 2 (by omega)
  have c_9 : E 0 3 = .inl (kA 0, 20, .inl fb_4) := q3_4
  have m_10 : (0, 3) ∈ RL := hmB 3 (by omega)
  have c_11 : E 0 4 = .inl (kA 0, 20, .inl fe_4) := q4_4
  have m_12 : (0, 4) ∈ RL := hmB 4 (by omega)
  obtain ⟨fd_13, hnd_13, q5_13, q6_13, hds_13⟩ := id (hSh)
  have c_14 : E 0 5 = .inr (2, [.ref (ad 0 6), .int (nI nd)]) := q5_13
  have m_15 : (0, 5) ∈ RL := hmB 5 (by omega)
  have c_16 : E 0 6 = .inl (kA 4, 12, .inr (.inr (.inr (.inr fd_13)))) := q6_13
  have m_17 : (0, 6) ∈ RL := hmB 6 (by omega)
  obtain ⟨cf_18, pv_18, fc_18, hcs_18, hpv_18, q7_18, q8_18, hfc_18⟩ := id (hCh)
  have c_19 : E 0 7 = .inr (3, [.ref (ad 0 5), .ref (ad 0 8), .int (nI (L.length)), .int cf_18, pv_18]) := q7_18
  have m_20 : (0, 7) ∈ RL := hmB 7 (by omega)
  have c_21 : E 0 8 = .inl (kA 4, 12, .inr (.inr (.inr (.inr fc_18)))) := q8_18
  have m_22 : (0, 8) ∈ RL := hmB 8 (by omega)
  obtain ⟨fl_23, hml_23, q9_23, hla_23⟩ := id (hLa)
  have c_24 : E 0 9 = .inl (kA 5, 5, .inr (.inr (.inr (.inr fl_23)))) := q9_23
  have m_25 : (0, 9) ∈ RL := hmB 9 (by omega)
  obtain ⟨xfi_18, xpv_18, xfc_18, xGL_18⟩ := id hCX
  rw [c_19] at xfi_18 xpv_18
  rw [c_21] at xfc_18
  have xfi_18 : cf_18 = fi := xfi_18
  have xpv_18 : pv_18 = lyv ad lq := xpv_18
  have xfc_18 : ∀ k, k < L.length → fc_18 k = some (ad (1 + L.getD k 0) 0) := xfc_18
  have xln_18 := GL_len xGL_18
  refine lv_iconst (v := 0) hx hb xd_Ch_bindOnce_0 (by decide) ?_
  refine lv_istore_n hx hb xd_Ch_bindOnce_1 rfl hl (Nat.le_of_ble_eq_true rfl) rfl (fun ls hl => ?_)
  have hl : lv_has ls 3 [(1, .int 0), (0, .ref (ad 0 7))] := hl
  refine xlab (σ := Nat × (Nat → Nat → va_E) × List Nat) (ml := 3) 2 (fun (i, E1, L1) => [(1, .int (nI i)), (0, .ref (ad 0 7))]) (fun (i, E1, L1) => []) (fun (i, E1, L1) => rp ad E1 RL) (fun (i, E1, L1) => (i ≤ 12) ∧ (bO (bUg g nd fi lq) g lq L = bAU (bUg g nd fi lq) g lq (bL (bUg g nd fi lq) (12 - i) i L1)) ∧ (CI kA ad E1 RL ml nd len wn L1.length) ∧ (CX ad E1 nd fi lq L1) ∧ (F78 E E1)) (fun (i, E1, L1) => 12 - i) ?_ (0, E, L) _ _ _ (lv_sub hl [0, 1] rfl) hP hD hS ⟨(show 0 ≤ 12 from by first | assumption | omega), (show bO (bUg g nd fi lq) g lq L = bAU (bUg g nd fi lq) g lq (bL (bUg g nd fi lq) (12 - 0) 0 L) from (show _ = _ from rfl)), (show CI kA ad E RL ml nd len wn L.length from hCI), (show CX ad E nd fi lq L from hCX), (show F78 E E from F78_rf)⟩
  intro n9 ih26 a9 ls H locs hμ hl hP hD hS hI
  subst hμ
  obtain ⟨i, E1, L1⟩ := a9
  obtain ⟨hi, hO, hCI, hCX1, hF1⟩ := hI
  have hi : i ≤ 12 := hi
  have hO : bO (bUg g nd fi lq) g lq L = bAU (bUg g nd fi lq) g lq (bL (bUg g nd fi lq) (12 - i) i L1) := hO
  have hCI : CI kA ad E1 RL ml nd len wn L1.length := hCI
  have hCX1 : CX ad E1 nd fi lq L1 := hCX1
  have hF1 : F78 E E1 := hF1
  have hl : lv_has ls 3 [(1, .int (nI i)), (0, .ref (ad 0 7))] := hl
  have hP : va_P D xcl (rp ad E1 RL) H := hP
  have hD : va_D A (rp ad E1 RL) := hD
  obtain ⟨hmB, hDk, hLi, hSh, hCh, hLa, hDIs, hLIs⟩ := id hCI
  obtain ⟨fd_27, hnd_27, q5_27, q6_27, hds_27⟩ := id (hSh)
  have c_28 : E1 0 5 = .inr (2, [.ref (ad 0 6), .int (nI nd)]) := q5_27
  have m_29 : (0, 5) ∈ RL := hmB 5 (by omega)
  have c_30 : E1 0 6 = .inl (kA 4, 12, .inr (.inr (.inr (.inr fd_27)))) := q6_27
  have m_31 : (0, 6) ∈ RL := hmB 6 (by omega)
  obtain ⟨cf_32, pv_32, fc_32, hcs_32, hpv_32, q7_32, q8_32, hfc_32⟩ := id (hCh)
  have c_33 : E1 0 7 = .inr (3, [.ref (ad 0 5), .ref (ad 0 8), .int (nI (L1.length)), .int cf_32, pv_32]) := q7_32
  have m_34 : (0, 7) ∈ RL := hmB 7 (by omega)
  have c_35 : E1 0 8 = .inl (kA 4, 12, .inr (.inr (.inr (.inr fc_32)))) := q8_32
  have m_36 : (0, 8) ∈ RL := hmB 8 (by omega)
  have hTD1 : TDs g E1 nd := TDs_78 hF1 hTD
  have hTL1 : TLas g ad E1 nd ml := TLas_78 hF1 hTL
  obtain ⟨xfi_32, xpv_32, xfc_32, xGL_32⟩ := id hCX1
  rw [c_33] at xfi_32 xpv_32
  rw [c_35] at xfc_32
  have xfi_32 : cf_32 = fi := xfi_32
  have xpv_32 : pv_32 = lyv ad lq := xpv_32
  have xfc_32 : ∀ k, k < L1.length → fc_32 k = some (ad (1 + L1.getD k 0) 0) := xfc_32
  have xln_32 := GL_len xGL_32
  refine lv_iload_n hx hb xd_Ch_bindOnce_2 rfl (lv_at hl 0 rfl) ?_
  refine lv_aload_n hx hb xd_Ch_bindOnce_3 rfl (lv_at hl 1 rfl) ?_
  refine px_get (D := D) (ci := 3) (v := .int (nI (L1.length))) (C := xR_Ch) (T := xT_Ch) (N := 5) hx hb hT xi_Ch hown hK.1 hP m_34 c_33 rfl 2 (by decide) (hT _ k5p_0) (fun _ h9 => h9) rfl xd_Ch_bindOnce_4 ?_
  refine xn_ge (a := i) (b := L1.length) (tgt := 32) hx hb xd_Ch_bindOnce_7 (by decide) (by omega) (by omega) (fun hc37 => ?_) (fun hc37 => ?_)
  · refine lv_aload_n hx hb xd_Ch_bindOnce_32 rfl (lv_at hl 1 rfl) ?_
    refine px_get (D := D) (ci := 3) (v := pv_32) (C := xR_Ch) (T := xT_Ch) (N := 5) hx hb hT xi_Ch hown hK.1 hP m_34 c_33 rfl 4 (by decide) (hT _ k5p_1) (fun _ h9 => h9) rfl xd_Ch_bindOnce_33 ?_
    rcases (show lq = 0 ∨ ∃ yq, lq = yq + 1 from by rcases Nat.eq_zero_or_pos lq with q | q; exact Or.inl q; exact Or.inr ⟨lq - 1, by omega⟩) with hyq | ⟨yq, hyq⟩
    · refine W.eq (g2 := F0 m 36 ls [.null]) (by rw [xpv_32, lyv_0 hyq]) ?_
      refine lv_astore_nN hx hb xd_Ch_bindOnce_36 rfl hl (Nat.le_of_ble_eq_true rfl) rfl (fun ls hl => ?_)
      have hl : lv_has ls 3 [(1, .null), (0, .ref (ad 0 7))] := hl
      refine xlab (σ := Nat × (Nat → Nat → va_E) × List Nat) (ml := 3) 37 (fun (y, E3, L3) => [(1, (lyv ad y)), (0, .ref (ad 0 7))]) (fun (y, E3, L3) => []) (fun (y, E3, L3) => rp ad E3 RL) (fun (y, E3, L3) => (y ≤ ml) ∧ (bO (bUg g nd fi lq) g lq L = bAU (bUg g nd fi lq) g y L3) ∧ (CI kA ad E3 RL ml nd len wn L3.length) ∧ (CX ad E3 nd fi lq L3) ∧ (F78 E E3)) (fun (y, E3, L3) => y) ?_ (0, E1, L1) _ _ _ (lv_sub hl [0, 1] rfl) hP hD hS ⟨(show 0 ≤ ml from by first | assumption | omega), (show bO (bUg g nd fi lq) g lq L = bAU (bUg g nd fi lq) g 0 L1 from by rw [hO, bL_e (by omega), hyq]), (show CI kA ad E1 RL ml nd len wn L1.length from hCI), (show CX ad E1 nd fi lq L1 from hCX1), (show F78 E E1 from hF1)⟩
      intro n9 ih38 a9 ls H locs hμ hl hP hD hS hI
      subst hμ
      obtain ⟨y, E3, L3⟩ := a9
      obtain ⟨hy, hO3, hCI, hCX3, hF3⟩ := hI
      have hy : y ≤ ml := hy
      have hO3 : bO (bUg g nd fi lq) g lq L = bAU (bUg g nd fi lq) g y L3 := hO3
      have hCI : CI kA ad E3 RL ml nd len wn L3.length := hCI
      have hCX3 : CX ad E3 nd fi lq L3 := hCX3
      have hF3 : F78 E E3 := hF3
      have hl : lv_has ls 3 [(1, (lyv ad y)), (0, .ref (ad 0 7))] := hl
      have hP : va_P D xcl (rp ad E3 RL) H := hP
      have hD : va_D A (rp ad E3 RL) := hD
      obtain ⟨hmB, hDk, hLi, hSh, hCh, hLa, hDIs, hLIs⟩ := id hCI
      obtain ⟨fd_39, hnd_39, q5_39, q6_39, hds_39⟩ := id (hSh)
      have c_40 : E3 0 5 = .inr (2, [.ref (ad 0 6), .int (nI nd)]) := q5_39
      have m_41 : (0, 5) ∈ RL := hmB 5 (by omega)
      have c_42 : E3 0 6 = .inl (kA 4, 12, .inr (.inr (.inr (.inr fd_39)))) := q6_39
      have m_43 : (0, 6) ∈ RL := hmB 6 (by omega)
      obtain ⟨fl_44, hml_44, q9_44, hla_44⟩ := id (hLa)
      have c_45 : E3 0 9 = .inl (kA 5, 5, .inr (.inr (.inr (.inr fl_44)))) := q9_44
      have m_46 : (0, 9) ∈ RL := hmB 9 (by omega)
      have hTD3 : TDs g E3 nd := TDs_78 hF3 hTD
      have hTL3 : TLas g ad E3 nd ml := TLas_78 hF3 hTL
      rcases y with _ | y
      · have hl : lv_has ls 3 [(1, .null), (0, .ref (ad 0 7))] := hl
        refine lv_aload_nN hx hb xd_Ch_bindOnce_37 rfl (lv_at hl 0 rfl) ?_
        refine lv_ifnullN (tgt := 79) hx hb xd_Ch_bindOnce_38 (by decide) ?_
        exact W.vret hx hb hr (fun t ht hW => ⟨⟨E3, rfl, ⟨L3, hCI, hCX3, hF3, by rw [hO3]; rfl⟩, by rw [ht]; exact hP, hD⟩, hS.F ht⟩) hS.2.2 xd_Ch_bindOnce_79
      · have hl : lv_has ls 3 [(1, .ref (ad (20 + y) 0)), (0, .ref (ad 0 7))] := hl
        refine lv_aload_n hx hb xd_Ch_bindOnce_37 rfl (lv_at hl 0 rfl) ?_
        refine lv_ifnull hx hb xd_Ch_bindOnce_38 ?_
        refine lv_iconst (v := 0) hx hb xd_Ch_bindOnce_41 (by decide) ?_
        refine lv_istore_n hx hb xd_Ch_bindOnce_42 rfl hl (Nat.le_of_ble_eq_true rfl) rfl (fun ls hl => ?_)
        have hl : lv_has ls 3 [(2, .int 0), (1, .ref (ad (20 + y) 0)), (0, .ref (ad 0 7))] := hl
        refine xlab (σ := Nat × (Nat → Nat → va_E) × List Nat) (ml := 3) 43 (fun (k, E4, L4) => [(2, .int (nI k)), (1, .ref (ad (20 + y) 0)), (0, .ref (ad 0 7))]) (fun (k, E4, L4) => []) (fun (k, E4, L4) => rp ad E4 RL) (fun (k, E4, L4) => (k ≤ 12) ∧ (bO (bUg g nd fi lq) g lq L = bAU (bUg g nd fi lq) g (prv g y) (bR (bUg g nd fi lq) (mdv g y) (mcv g y - k) k L4)) ∧ (CI kA ad E4 RL ml nd len wn L4.length) ∧ (CX ad E4 nd fi lq L4) ∧ (F78 E E4)) (fun (k, E4, L4) => 12 - k) ?_ (0, E3, L3) _ _ _ (lv_sub hl [0, 1, 2] rfl) hP hD hS ⟨(show 0 ≤ 12 from by first | assumption | omega), (show bO (bUg g nd fi lq) g lq L = bAU (bUg g nd fi lq) g (prv g y) (bR (bUg g nd fi lq) (mdv g y) (mcv g y - 0) 0 L3) from by rw [hO3, bAU_s (by omega) (fun x hx => prv_T (by omega) hTL x (by omega))]; rfl), (show CI kA ad E3 RL ml nd len wn L3.length from hCI), (show CX ad E3 nd fi lq L3 from hCX3), (show F78 E E3 from hF3)⟩
        intro n9 ih47 a9 ls H locs hμ hl hP hD hS hI
        subst hμ
        obtain ⟨k, E4, L4⟩ := a9
        obtain ⟨hk9, hO4, hCI, hCX4, hF4⟩ := hI
        have hk9 : k ≤ 12 := hk9
        have hO4 : bO (bUg g nd fi lq) g lq L = bAU (bUg g nd fi lq) g (prv g y) (bR (bUg g nd fi lq) (mdv g y) (mcv g y - k) k L4) := hO4
        have hCI : CI kA ad E4 RL ml nd len wn L4.length := hCI
        have hCX4 : CX ad E4 nd fi lq L4 := hCX4
        have hF4 : F78 E E4 := hF4
        have hl : lv_has ls 3 [(2, .int (nI k)), (1, .ref (ad (20 + y) 0)), (0, .ref (ad 0 7))] := hl
        have hP : va_P D xcl (rp ad E4 RL) H := hP
        have hD : va_D A (rp ad E4 RL) := hD
        obtain ⟨hmB, hDk, hLi, hSh, hCh, hLa, hDIs, hLIs⟩ := id hCI
        obtain ⟨fd_48, hnd_48, q5_48, q6_48, hds_48⟩ := id (hSh)
        have c_49 : E4 0 5 = .inr (2, [.ref (ad 0 6), .int (nI nd)]) := q5_48
        have m_50 : (0, 5) ∈ RL := hmB 5 (by omega)
        have c_51 : E4 0 6 = .inl (kA 4, 12, .inr (.inr (.inr (.inr fd_48)))) := q6_48
        have m_52 : (0, 6) ∈ RL := hmB 6 (by omega)
        obtain ⟨fl_53, hml_53, q9_53, hla_53⟩ := id (hLa)
        have c_54 : E4 0 9 = .inl (kA 5, 5, .inr (.inr (.inr (.inr fl_53)))) := q9_53
        have m_55 : (0, 9) ∈ RL := hmB 9 (by omega)
        have hTD4 : TDs g E4 nd := TDs_78 hF4 hTD
        have hTL4 : TLas g ad E4 nd ml := TLas_78 hF4 hTL
        refine lv_iload_n hx hb xd_Ch_bindOnce_43 rfl (lv_at hl 0 rfl) ?_
        refine lv_aload_n hx hb xd_Ch_bindOnce_44 rfl (lv_at hl 1 rfl) ?_
        obtain ⟨m0_56, m1_56, pv_56, op_56, mk_56, fm_56, hmk_56, hpv_56, q0_56, q1_56, hk_56⟩ := id (hLIs y (by omega))
        have c_57 : E4 (20 + y) 0 = .inr (5, [.int (nI y), pv_56, .ref (ad (20 + y) 1), .int op_56]) := q0_56
        have m_58 : (20 + y, 0) ∈ RL := m0_56
        have c_59 : E4 (20 + y) 1 = .inl (kA 6, mk_56, .inr (.inr (.inr (.inr fm_56)))) := q1_56
        have m_60 : (20 + y, 1) ∈ RL := m1_56
        obtain ⟨top_56, ⟨lq_56, hlq_56, h19_56, hpv2_56⟩, h20_56, tmd_56⟩ := TLa_get c_57 c_59 (hTL4 y (by omega))
        have c_61 : E4 (20 + y) 0 = .inr (5, [.int (nI y), (lyv ad lq_56), .ref (ad (20 + y) 1), .int op_56]) := by rw [← hpv2_56]; exact c_57
        refine px_get (D := D) (ci := 5) (v := .ref (ad (20 + y) 1)) (C := xR_Ly) (T := xT_Ly) (N := 4) hx hb hT xi_Ly hown hK.1 hP m_58 c_61 rfl 2 (by decide) (hT _ k5p_2) (fun _ h9 => h9) rfl xd_Ch_bindOnce_45 ?_
        refine px_alen hx hb hK.1 hP m_60 c_59 6 rfl xd_Ch_bindOnce_48 ?_
        refine W.eq (g2 := F0 m 49 ls [.int (nI mk_56), .int (nI k)]) rfl ?_
        refine xn_ge (a := k) (b := mk_56) (tgt := 71) hx hb xd_Ch_bindOnce_49 (by decide) (by omega) (by omega) (fun hc62 => ?_) (fun hc62 => ?_)
        · refine lv_aload_n hx hb xd_Ch_bindOnce_71 rfl (lv_at hl 1 rfl) ?_
          refine px_get (D := D) (ci := 5) (v := (lyv ad lq_56)) (C := xR_Ly) (T := xT_Ly) (N := 4) hx hb hT xi_Ly hown hK.1 hP m_58 c_61 rfl 1 (by decide) (hT _ k5p_3) (fun _ h9 => h9) rfl xd_Ch_bindOnce_72 ?_
          rcases (show lq_56 = 0 ∨ ∃ yq, lq_56 = yq + 1 from by rcases Nat.eq_zero_or_pos lq_56 with q | q; exact Or.inl q; exact Or.inr ⟨lq_56 - 1, by omega⟩) with hyq | ⟨yq, hyq⟩
          · refine W.eq (g2 := F0 m 75 ls [.null]) (by rw [lyv_0 hyq]) ?_
            refine lv_astore_nN hx hb xd_Ch_bindOnce_75 rfl hl (Nat.le_of_ble_eq_true rfl) rfl (fun ls hl => ?_)
            have hl : lv_has ls 3 [(1, .null), (2, .int (nI k)), (0, .ref (ad 0 7))] := hl
            refine lv_goto (tgt := 37) hx hb xd_Ch_bindOnce_76 (by decide) ?_
            exact ih38 (0, E4, L4) _ _ _ (show 0 < y + 1 by omega) (lv_sub hl [0, 2] rfl) hP hD hS ⟨(show 0 ≤ ml from by first | assumption | omega), (show bO (bUg g nd fi lq) g lq L = bAU (bUg g nd fi lq) g 0 L4 from by rw [hO4, bR_e (by unfold mcv; rw [h20_56, iN_nI (by omega)]; omega), prv_of h19_56 (by omega), hyq]), (show CI kA ad E4 RL ml nd len wn L4.length from hCI), (show CX ad E4 nd fi lq L4 from hCX4), (show F78 E E4 from hF4)⟩
          · refine W.eq (g2 := F0 m 75 ls [.ref (ad (20 + yq) 0)]) (by rw [lyv_s hyq]) ?_
            refine lv_astore_n hx hb xd_Ch_bindOnce_75 rfl hl (Nat.le_of_ble_eq_true rfl) rfl (fun ls hl => ?_)
            have hl : lv_has ls 3 [(1, .ref (ad (20 + yq) 0)), (2, .int (nI k)), (0, .ref (ad 0 7))] := hl
            refine lv_goto (tgt := 37) hx hb xd_Ch_bindOnce_76 (by decide) ?_
            exact ih38 (yq + 1, E4, L4) _ _ _ (show (yq + 1) < y + 1 by omega) (lv_sub hl [0, 2] rfl) hP hD hS ⟨(show (yq + 1) ≤ ml from by first | assumption | omega), (show bO (bUg g nd fi lq) g lq L = bAU (bUg g nd fi lq) g (yq + 1) L4 from by rw [hO4, bR_e (by unfold mcv; rw [h20_56, iN_nI (by omega)]; omega), prv_of h19_56 (by omega), hyq]), (show CI kA ad E4 RL ml nd len wn L4.length from hCI), (show CX ad E4 nd fi lq L4 from hCX4), (show F78 E E4 from hF4)⟩
        · refine lv_aload_n hx hb xd_Ch_bindOnce_52 rfl (lv_at hl 2 rfl) ?_
          refine lv_aload_n hx hb xd_Ch_bindOnce_53 rfl (lv_at hl 1 rfl) ?_
          refine px_get (D := D) (ci := 5) (v := .ref (ad (20 + y) 1)) (C := xR_Ly) (T := xT_Ly) (N := 4) hx hb hT xi_Ly hown hK.1 hP m_58 c_61 rfl 2 (by decide) (hT _ k5p_2) (fun _ h9 => h9) rfl xd_Ch_bindOnce_54 ?_
          refine lv_iload_n hx hb xd_Ch_bindOnce_57 rfl (lv_at hl 0 rfl) ?_
          refine px_aald (i := k) (x := (some (ad (20 + y) (10 + 10 * k)))) hx hb hK.1 hP m_60 c_59 6 rfl ((hk_56 k (by omega)).1) (by omega) (by omega) xd_Ch_bindOnce_58 ?_
          obtain ⟨hm_63, d_63, rs_63, fr_63, g2_63, g3_63, g4_63, hd_63, hrs_63, q0_63, q1_63, q2_63, q3_63, q4_63, q5_63, q6_63, q7_63⟩ := (hk_56 k (by omega)).2
          have c_64 : E4 (20 + y) (10 + 10 * k) = .inr (6, [.ref (ad (20 + y) 0), .ref (ad (1 + d_63) 0), .ref (ad (20 + y) (11 + 10 * k)), .ref (ad (20 + y) (12 + 10 * k)), .ref (ad (20 + y) (13 + 10 * k)), .ref (ad (20 + y) (14 + 10 * k))]) := q0_63
          have m_65 : (20 + y, 10 + 10 * k) ∈ RL := hm_63 0 (by omega)
          have c_66 : E4 (20 + y) (11 + 10 * k) = .inl (kA 6, rs_63, .inr (.inr (.inr (.inr fr_63)))) := q1_63
          have m_67 : (20 + y, 11 + 10 * k) ∈ RL := hm_63 1 (by omega)
          have c_68 : E4 (20 + y) (12 + 10 * k) = .inr (10, [.ref (ad (20 + y) (15 + 10 * k))]) := q2_63
          have m_69 : (20 + y, 12 + 10 * k) ∈ RL := hm_63 2 (by omega)
          have c_70 : E4 (20 + y) (13 + 10 * k) = .inr (10, [.ref (ad (20 + y) (16 + 10 * k))]) := q3_63
          have m_71 : (20 + y, 13 + 10 * k) ∈ RL := hm_63 3 (by omega)
          have c_72 : E4 (20 + y) (14 + 10 * k) = .inr (10, [.ref (ad (20 + y) (17 + 10 * k))]) := q4_63
          have m_73 : (20 + y, 14 + 10 * k) ∈ RL := hm_63 4 (by omega)
          have c_74 : E4 (20 + y) (15 + 10 * k) = .inl (kA 0, 6, .inl g2_63) := q5_63
          have m_75 : (20 + y, 15 + 10 * k) ∈ RL := hm_63 5 (by omega)
          have c_76 : E4 (20 + y) (16 + 10 * k) = .inl (kA 0, 6, .inl g3_63) := q6_63
          have m_77 : (20 + y, 16 + 10 * k) ∈ RL := hm_63 6 (by omega)
          have c_78 : E4 (20 + y) (17 + 10 * k) = .inl (kA 0, 6, .inl g4_63) := q7_63
          have m_79 : (20 + y, 17 + 10 * k) ∈ RL := hm_63 7 (by omega)
          have hdm_63 : mdv g y k = d_63 := by
            obtain ⟨dz, hdz, h21z, hvz⟩ := tmd_56 k (by omega)
            rw [c_64] at hvz
            have ez := (rp_inj hD ((hDIs d_63 hd_63).1 0 (by omega)) ((hDIs dz hdz).1 0 (by omega)) (Value.ref.inj hvz)).1
            unfold mdv
            rw [h21z, iN_nI (by omega)]; omega
          refine px_get (D := D) (ci := 6) (v := .ref (ad (1 + d_63) 0)) (C := xR_Me) (T := xT_Me) (N := 6) hx hb hT xi_Me hown hK.1 hP m_65 c_64 rfl 1 (by decide) (hT _ k5p_4) (fun _ h9 => h9) rfl xd_Ch_bindOnce_59 ?_
          have hFc := px_free hD hS hA
          obtain ⟨cf_80, pv_80, fc_80, hcs_80, hpv_80, q7_80, q8_80, hfc_80⟩ := id (hCh)
          have c_81 : E4 0 7 = .inr (3, [.ref (ad 0 5), .ref (ad 0 8), .int (nI (L4.length)), .int cf_80, pv_80]) := q7_80
          have m_82 : (0, 7) ∈ RL := hmB 7 (by omega)
          have c_83 : E4 0 8 = .inl (kA 4, 12, .inr (.inr (.inr (.inr fc_80)))) := q8_80
          have m_84 : (0, 8) ∈ RL := hmB 8 (by omega)
          refine va_callv (va_runV (As := [.ref (ad (1 + d_63) 0)]) (rest := []) ⟨hx, hb, hml, hown, hT⟩ (xc_Ch_bindUsesOfX l D kA H.size ad E4 RL g ml nd len wn fi lq L4 d_63 (by first | assumption | omega) hCX4 hTD4 hTL4 (by first | assumption | omega) (by first | assumption | omega)) (cwV 1 hT (wT_V k5p_6 k5p_7 k5p_8 k5p_9 k5p_5) rfl rfl rfl (by decide +kernel) ⟨Nat.le_of_ble_eq_true rfl, Nat.le_of_ble_eq_true rfl⟩) (px_preV hK hP hD m_82 c_81 rfl) rfl rfl hl.1 rfl (lv_room (Nat.le_of_ble_eq_true rfl)) xd_Ch_bindOnce_62 ⟨(Nat.le_of_ble_eq_true rfl), (Nat.le_of_ble_eq_true rfl)⟩) hS (fun q _ h => hFc q h) hFc (fun u86 t H1 locs ht hvm hp87 hB hz1 hk1 hS => ?_)
          obtain ⟨hP1, hD1⟩ := hB
          rw [ht] at hP1
          have hD1 := hD1.weaken (fun _ _ _ h => hFc _ h)
          generalize H1 = H at hP1 hS ⊢
          have hP := hP1
          have hD := hD1
          obtain ⟨E88, rfl⟩ : ∃ z, z = u86 := ⟨_, rfl⟩
          have hP : va_P D xcl (rp ad E88 RL) H := hP
          have hD : va_D A (rp ad E88 RL) := hD
          obtain ⟨L2, hCI, hCX2, hF9, hsp9⟩ := hp87
          have hCI : CI kA ad E88 RL ml nd len wn L2.length := hCI
          have hF2 : F78 E E88 := F78_tr hF4 hF9
          obtain ⟨hmB, hDk, hLi, hSh, hCh, hLa, hDIs, hLIs⟩ := id hCI
          refine lv_iinc (k := 0) (x := (nI k)) (v := (nI (k + 1))) hx hb xd_Ch_bindOnce_65 hl rfl (xb_inc k 1) (Nat.le_of_ble_eq_true rfl) rfl (fun ls hl => ?_)
          have hl : lv_has ls 3 [(2, .int (nI (k + 1))), (1, .ref (ad (20 + y) 0)), (0, .ref (ad 0 7))] := hl
          refine lv_goto (tgt := 43) hx hb xd_Ch_bindOnce_68 (by decide) ?_
          exact ih47 (k + 1, E88, L2) _ _ _ (show 12 - (k + 1) < 12 - k by omega) (lv_sub hl [0, 1, 2] rfl) hP hD hS ⟨(show (k + 1) ≤ 12 from by first | assumption | omega), (show bO (bUg g nd fi lq) g lq L = bAU (bUg g nd fi lq) g (prv g y) (bR (bUg g nd fi lq) (mdv g y) (mcv g y - (k + 1)) (k + 1) L2) from by rw [hO4, bR_s (by unfold mcv; rw [h20_56, iN_nI (by omega)]; omega), hdm_63, hsp9]), (show CI kA ad E88 RL ml nd len wn L2.length from hCI), (show CX ad E88 nd fi lq L2 from hCX2), (show F78 E E88 from hF2)⟩
    · refine W.eq (g2 := F0 m 36 ls [.ref (ad (20 + yq) 0)]) (by rw [xpv_32, lyv_s hyq]) ?_
      refine lv_astore_n hx hb xd_Ch_bindOnce_36 rfl hl (Nat.le_of_ble_eq_true rfl) rfl (fun ls hl => ?_)
      have hl : lv_has ls 3 [(1, .ref (ad (20 + yq) 0)), (0, .ref (ad 0 7))] := hl
      refine xlab (σ := Nat × (Nat → Nat → va_E) × List Nat) (ml := 3) 37 (fun (y, E3, L3) => [(1, (lyv ad y)), (0, .ref (ad 0 7))]) (fun (y, E3, L3) => []) (fun (y, E3, L3) => rp ad E3 RL) (fun (y, E3, L3) => (y ≤ ml) ∧ (bO (bUg g nd fi lq) g lq L = bAU (bUg g nd fi lq) g y L3) ∧ (CI kA ad E3 RL ml nd len wn L3.length) ∧ (CX ad E3 nd fi lq L3) ∧ (F78 E E3)) (fun (y, E3, L3) => y) ?_ (yq + 1, E1, L1) _ _ _ (lv_sub hl [0, 1] rfl) hP hD hS ⟨(show (yq + 1) ≤ ml from by first | assumption | omega), (show bO (bUg g nd fi lq) g lq L = bAU (bUg g nd fi lq) g (yq + 1) L1 from by rw [hO, bL_e (by omega), hyq]), (show CI kA ad E1 RL ml nd len wn L1.length from hCI), (show CX ad E1 nd fi lq L1 from hCX1), (show F78 E E1 from hF1)⟩
      intro n9 ih89 a9 ls H locs hμ hl hP hD hS hI
      subst hμ
      obtain ⟨y, E3, L3⟩ := a9
      obtain ⟨hy, hO3, hCI, hCX3, hF3⟩ := hI
      have hy : y ≤ ml := hy
      have hO3 : bO (bUg g nd fi lq) g lq L = bAU (bUg g nd fi lq) g y L3 := hO3
      have hCI : CI kA ad E3 RL ml nd len wn L3.length := hCI
      have hCX3 : CX ad E3 nd fi lq L3 := hCX3
      have hF3 : F78 E E3 := hF3
      have hl : lv_has ls 3 [(1, (lyv ad y)), (0, .ref (ad 0 7))] := hl
      have hP : va_P D xcl (rp ad E3 RL) H := hP
      have hD : va_D A (rp ad E3 RL) := hD
      obtain ⟨hmB, hDk, hLi, hSh, hCh, hLa, hDIs, hLIs⟩ := id hCI
      obtain ⟨fd_90, hnd_90, q5_90, q6_90, hds_90⟩ := id (hSh)
      have c_91 : E3 0 5 = .inr (2, [.ref (ad 0 6), .int (nI nd)]) := q5_90
      have m_92 : (0, 5) ∈ RL := hmB 5 (by omega)
      have c_93 : E3 0 6 = .inl (kA 4, 12, .inr (.inr (.inr (.inr fd_90)))) := q6_90
      have m_94 : (0, 6) ∈ RL := hmB 6 (by omega)
      obtain ⟨fl_95, hml_95, q9_95, hla_95⟩ := id (hLa)
      have c_96 : E3 0 9 = .inl (kA 5, 5, .inr (.inr (.inr (.inr fl_95)))) := q9_95
      have m_97 : (0, 9) ∈ RL := hmB 9 (by omega)
      have hTD3 : TDs g E3 nd := TDs_78 hF3 hTD
      have hTL3 : TLas g ad E3 nd ml := TLas_78 hF3 hTL
      rcases y with _ | y
      · have hl : lv_has ls 3 [(1, .null), (0, .ref (ad 0 7))] := hl
        refine lv_aload_nN hx hb xd_Ch_bindOnce_37 rfl (lv_at hl 0 rfl) ?_
        refine lv_ifnullN (tgt := 79) hx hb xd_Ch_bindOnce_38 (by decide) ?_
        exact W.vret hx hb hr (fun t ht hW => ⟨⟨E3, rfl, ⟨L3, hCI, hCX3, hF3, by rw [hO3]; rfl⟩, by rw [ht]; exact hP, hD⟩, hS.F ht⟩) hS.2.2 xd_Ch_bindOnce_79
      · have hl : lv_has ls 3 [(1, .ref (ad (20 + y) 0)), (0, .ref (ad 0 7))] := hl
        refine lv_aload_n hx hb xd_Ch_bindOnce_37 rfl (lv_at hl 0 rfl) ?_
        refine lv_ifnull hx hb xd_Ch_bindOnce_38 ?_
        refine lv_iconst (v := 0) hx hb xd_Ch_bindOnce_41 (by decide) ?_
        refine lv_istore_n hx hb xd_Ch_bindOnce_42 rfl hl (Nat.le_of_ble_eq_true rfl) rfl (fun ls hl => ?_)
        have hl : lv_has ls 3 [(2, .int 0), (1, .ref (ad (20 + y) 0)), (0, .ref (ad 0 7))] := hl
        refine xlab (σ := Nat × (Nat → Nat → va_E) × List Nat) (ml := 3) 43 (fun (k, E4, L4) => [(2, .int (nI k)), (1, .ref (ad (20 + y) 0)), (0, .ref (ad 0 7))]) (fun (k, E4, L4) => []) (fun (k, E4, L4) => rp ad E4 RL) (fun (k, E4, L4) => (k ≤ 12) ∧ (bO (bUg g nd fi lq) g lq L = bAU (bUg g nd fi lq) g (prv g y) (bR (bUg g nd fi lq) (mdv g y) (mcv g y - k) k L4)) ∧ (CI kA ad E4 RL ml nd len wn L4.length) ∧ (CX ad E4 nd fi lq L4) ∧ (F78 E E4)) (fun (k, E4, L4) => 12 - k) ?_ (0, E3, L3) _ _ _ (lv_sub hl [0, 1, 2] rfl) hP hD hS ⟨(show 0 ≤ 12 from by first | assumption | omega), (show bO (bUg g nd fi lq) g lq L = bAU (bUg g nd fi lq) g (prv g y) (bR (bUg g nd fi lq) (mdv g y) (mcv g y - 0) 0 L3) from by rw [hO3, bAU_s (by omega) (fun x hx => prv_T (by omega) hTL x (by omega))]; rfl), (show CI kA ad E3 RL ml nd len wn L3.length from hCI), (show CX ad E3 nd fi lq L3 from hCX3), (show F78 E E3 from hF3)⟩
        intro n9 ih98 a9 ls H locs hμ hl hP hD hS hI
        subst hμ
        obtain ⟨k, E4, L4⟩ := a9
        obtain ⟨hk9, hO4, hCI, hCX4, hF4⟩ := hI
        have hk9 : k ≤ 12 := hk9
        have hO4 : bO (bUg g nd fi lq) g lq L = bAU (bUg g nd fi lq) g (prv g y) (bR (bUg g nd fi lq) (mdv g y) (mcv g y - k) k L4) := hO4
        have hCI : CI kA ad E4 RL ml nd len wn L4.length := hCI
        have hCX4 : CX ad E4 nd fi lq L4 := hCX4
        have hF4 : F78 E E4 := hF4
        have hl : lv_has ls 3 [(2, .int (nI k)), (1, .ref (ad (20 + y) 0)), (0, .ref (ad 0 7))] := hl
        have hP : va_P D xcl (rp ad E4 RL) H := hP
        have hD : va_D A (rp ad E4 RL) := hD
        obtain ⟨hmB, hDk, hLi, hSh, hCh, hLa, hDIs, hLIs⟩ := id hCI
        obtain ⟨fd_99, hnd_99, q5_99, q6_99, hds_99⟩ := id (hSh)
        have c_100 : E4 0 5 = .inr (2, [.ref (ad 0 6), .int (nI nd)]) := q5_99
        have m_101 : (0, 5) ∈ RL := hmB 5 (by omega)
        have c_102 : E4 0 6 = .inl (kA 4, 12, .inr (.inr (.inr (.inr fd_99)))) := q6_99
        have m_103 : (0, 6) ∈ RL := hmB 6 (by omega)
        obtain ⟨fl_104, hml_104, q9_104, hla_104⟩ := id (hLa)
        have c_105 : E4 0 9 = .inl (kA 5, 5, .inr (.inr (.inr (.inr fl_104)))) := q9_104
        have m_106 : (0, 9) ∈ RL := hmB 9 (by omega)
        have hTD4 : TDs g E4 nd := TDs_78 hF4 hTD
        have hTL4 : TLas g ad E4 nd ml := TLas_78 hF4 hTL
        refine lv_iload_n hx hb xd_Ch_bindOnce_43 rfl (lv_at hl 0 rfl) ?_
        refine lv_aload_n hx hb xd_Ch_bindOnce_44 rfl (lv_at hl 1 rfl) ?_
        obtain ⟨m0_107, m1_107, pv_107, op_107, mk_107, fm_107, hmk_107, hpv_107, q0_107, q1_107, hk_107⟩ := id (hLIs y (by omega))
        have c_108 : E4 (20 + y) 0 = .inr (5, [.int (nI y), pv_107, .ref (ad (20 + y) 1), .int op_107]) := q0_107
        have m_109 : (20 + y, 0) ∈ RL := m0_107
        have c_110 : E4 (20 + y) 1 = .inl (kA 6, mk_107, .inr (.inr (.inr (.inr fm_107)))) := q1_107
        have m_111 : (20 + y, 1) ∈ RL := m1_107
        obtain ⟨top_107, ⟨lq_107, hlq_107, h19_107, hpv2_107⟩, h20_107, tmd_107⟩ := TLa_get c_108 c_110 (hTL4 y (by omega))
        have c_112 : E4 (20 + y) 0 = .inr (5, [.int (nI y), (lyv ad lq_107), .ref (ad (20 + y) 1), .int op_107]) := by rw [← hpv2_107]; exact c_108
        refine px_get (D := D) (ci := 5) (v := .ref (ad (20 + y) 1)) (C := xR_Ly) (T := xT_Ly) (N := 4) hx hb hT xi_Ly hown hK.1 hP m_109 c_112 rfl 2 (by decide) (hT _ k5p_2) (fun _ h9 => h9) rfl xd_Ch_bindOnce_45 ?_
        refine px_alen hx hb hK.1 hP m_111 c_110 6 rfl xd_Ch_bindOnce_48 ?_
        refine W.eq (g2 := F0 m 49 ls [.int (nI mk_107), .int (nI k)]) rfl ?_
        refine xn_ge (a := k) (b := mk_107) (tgt := 71) hx hb xd_Ch_bindOnce_49 (by decide) (by omega) (by omega) (fun hc113 => ?_) (fun hc113 => ?_)
        · refine lv_aload_n hx hb xd_Ch_bindOnce_71 rfl (lv_at hl 1 rfl) ?_
          refine px_get (D := D) (ci := 5) (v := (lyv ad lq_107)) (C := xR_Ly) (T := xT_Ly) (N := 4) hx hb hT xi_Ly hown hK.1 hP m_109 c_112 rfl 1 (by decide) (hT _ k5p_3) (fun _ h9 => h9) rfl xd_Ch_bindOnce_72 ?_
          rcases (show lq_107 = 0 ∨ ∃ yq, lq_107 = yq + 1 from by rcases Nat.eq_zero_or_pos lq_107 with q | q; exact Or.inl q; exact Or.inr ⟨lq_107 - 1, by omega⟩) with hyq | ⟨yq, hyq⟩
          · refine W.eq (g2 := F0 m 75 ls [.null]) (by rw [lyv_0 hyq]) ?_
            refine lv_astore_nN hx hb xd_Ch_bindOnce_75 rfl hl (Nat.le_of_ble_eq_true rfl) rfl (fun ls hl => ?_)
            have hl : lv_has ls 3 [(1, .null), (2, .int (nI k)), (0, .ref (ad 0 7))] := hl
            refine lv_goto (tgt := 37) hx hb xd_Ch_bindOnce_76 (by decide) ?_
            exact ih89 (0, E4, L4) _ _ _ (show 0 < y + 1 by omega) (lv_sub hl [0, 2] rfl) hP hD hS ⟨(show 0 ≤ ml from by first | assumption | omega), (show bO (bUg g nd fi lq) g lq L = bAU (bUg g nd fi lq) g 0 L4 from by rw [hO4, bR_e (by unfold mcv; rw [h20_107, iN_nI (by omega)]; omega), prv_of h19_107 (by omega), hyq]), (show CI kA ad E4 RL ml nd len wn L4.length from hCI), (show CX ad E4 nd fi lq L4 from hCX4), (show F78 E E4 from hF4)⟩
          · refine W.eq (g2 := F0 m 75 ls [.ref (ad (20 + yq) 0)]) (by rw [lyv_s hyq]) ?_
            refine lv_astore_n hx hb xd_Ch_bindOnce_75 rfl hl (Nat.le_of_ble_eq_true rfl) rfl (fun ls hl => ?_)
            have hl : lv_has ls 3 [(1, .ref (ad (20 + yq) 0)), (2, .int (nI k)), (0, .ref (ad 0 7))] := hl
            refine lv_goto (tgt := 37) hx hb xd_Ch_bindOnce_76 (by decide) ?_
            exact ih89 (yq + 1, E4, L4) _ _ _ (show (yq + 1) < y + 1 by omega) (lv_sub hl [0, 2] rfl) hP hD hS ⟨(show (yq + 1) ≤ ml from by first | assumption | omega), (show bO (bUg g nd fi lq) g lq L = bAU (bUg g nd fi lq) g (yq + 1) L4 from by rw [hO4, bR_e (by unfold mcv; rw [h20_107, iN_nI (by omega)]; omega), prv_of h19_107 (by omega), hyq]), (show CI kA ad E4 RL ml nd len wn L4.length from hCI), (show CX ad E4 nd fi lq L4 from hCX4), (show F78 E E4 from hF4)⟩
        · refine lv_aload_n hx hb xd_Ch_bindOnce_52 rfl (lv_at hl 2 rfl) ?_
          refine lv_aload_n hx hb xd_Ch_bindOnce_53 rfl (lv_at hl 1 rfl) ?_
          refine px_get (D := D) (ci := 5) (v := .ref (ad (20 + y) 1)) (C := xR_Ly) (T := xT_Ly) (N := 4) hx hb hT xi_Ly hown hK.1 hP m_109 c_112 rfl 2 (by decide) (hT _ k5p_2) (fun _ h9 => h9) rfl xd_Ch_bindOnce_54 ?_
          refine lv_iload_n hx hb xd_Ch_bindOnce_57 rfl (lv_at hl 0 rfl) ?_
          refine px_aald (i := k) (x := (some (ad (20 + y) (10 + 10 * k)))) hx hb hK.1 hP m_111 c_110 6 rfl ((hk_107 k (by omega)).1) (by omega) (by omega) xd_Ch_bindOnce_58 ?_
          obtain ⟨hm_114, d_114, rs_114, fr_114, g2_114, g3_114, g4_114, hd_114, hrs_114, q0_114, q1_114, q2_114, q3_114, q4_114, q5_114, q6_114, q7_114⟩ := (hk_107 k (by omega)).2
          have c_115 : E4 (20 + y) (10 + 10 * k) = .inr (6, [.ref (ad (20 + y) 0), .ref (ad (1 + d_114) 0), .ref (ad (20 + y) (11 + 10 * k)), .ref (ad (20 + y) (12 + 10 * k)), .ref (ad (20 + y) (13 + 10 * k)), .ref (ad (20 + y) (14 + 10 * k))]) := q0_114
          have m_116 : (20 + y, 10 + 10 * k) ∈ RL := hm_114 0 (by omega)
          have c_117 : E4 (20 + y) (11 + 10 * k) = .inl (kA 6, rs_114, .inr (.inr (.inr (.inr fr_114)))) := q1_114
          have m_118 : (20 + y, 11 + 10 * k) ∈ RL := hm_114 1 (by omega)
          have c_119 : E4 (20 + y) (12 + 10 * k) = .inr (10, [.ref (ad (20 + y) (15 + 10 * k))]) := q2_114
          have m_120 : (20 + y, 12 + 10 * k) ∈ RL := hm_114 2 (by omega)
          have c_121 : E4 (20 + y) (13 + 10 * k) = .inr (10, [.ref (ad (20 + y) (16 + 10 * k))]) := q3_114
          have m_122 : (20 + y, 13 + 10 * k) ∈ RL := hm_114 3 (by omega)
          have c_123 : E4 (20 + y) (14 + 10 * k) = .inr (10, [.ref (ad (20 + y) (17 + 10 * k))]) := q4_114
          have m_124 : (20 + y, 14 + 10 * k) ∈ RL := hm_114 4 (by omega)
          have c_125 : E4 (20 + y) (15 + 10 * k) = .inl (kA 0, 6, .inl g2_114) := q5_114
          have m_126 : (20 + y, 15 + 10 * k) ∈ RL := hm_114 5 (by omega)
          have c_127 : E4 (20 + y) (16 + 10 * k) = .inl (kA 0, 6, .inl g3_114) := q6_114
          have m_128 : (20 + y, 16 + 10 * k) ∈ RL := hm_114 6 (by omega)
          have c_129 : E4 (20 + y) (17 + 10 * k) = .inl (kA 0, 6, .inl g4_114) := q7_114
          have m_130 : (20 + y, 17 + 10 * k) ∈ RL := hm_114 7 (by omega)
          have hdm_114 : mdv g y k = d_114 := by
            obtain ⟨dz, hdz, h21z, hvz⟩ := tmd_107 k (by omega)
            rw [c_115] at hvz
            have ez := (rp_inj hD ((hDIs d_114 hd_114).1 0 (by omega)) ((hDIs dz hdz).1 0 (by omega)) (Value.ref.inj hvz)).1
            unfold mdv
            rw [h21z, iN_nI (by omega)]; omega
          refine px_get (D := D) (ci := 6) (v := .ref (ad (1 + d_114) 0)) (C := xR_Me) (T := xT_Me) (N := 6) hx hb hT xi_Me hown hK.1 hP m_116 c_115 rfl 1 (by decide) (hT _ k5p_4) (fun _ h9 => h9) rfl xd_Ch_bindOnce_59 ?_
          have hFc := px_free hD hS hA
          obtain ⟨cf_131, pv_131, fc_131, hcs_131, hpv_131, q7_131, q8_131, hfc_131⟩ := id (hCh)
          have c_132 : E4 0 7 = .inr (3, [.ref (ad 0 5), .ref (ad 0 8), .int (nI (L4.length)), .int cf_131, pv_131]) := q7_131
          have m_133 : (0, 7) ∈ RL := hmB 7 (by omega)
          have c_134 : E4 0 8 = .inl (kA 4, 12, .inr (.inr (.inr (.inr fc_131)))) := q8_131
          have m_135 : (0, 8) ∈ RL := hmB 8 (by omega)
          refine va_callv (va_runV (As := [.ref (ad (1 + d_114) 0)]) (rest := []) ⟨hx, hb, hml, hown, hT⟩ (xc_Ch_bindUsesOfX l D kA H.size ad E4 RL g ml nd len wn fi lq L4 d_114 (by first | assumption | omega) hCX4 hTD4 hTL4 (by first | assumption | omega) (by first | assumption | omega)) (cwV 1 hT (wT_V k5p_6 k5p_7 k5p_8 k5p_9 k5p_5) rfl rfl rfl (by decide +kernel) ⟨Nat.le_of_ble_eq_true rfl, Nat.le_of_ble_eq_true rfl⟩) (px_preV hK hP hD m_133 c_132 rfl) rfl rfl hl.1 rfl (lv_room (Nat.le_of_ble_eq_true rfl)) xd_Ch_bindOnce_62 ⟨(Nat.le_of_ble_eq_true rfl), (Nat.le_of_ble_eq_true rfl)⟩) hS (fun q _ h => hFc q h) hFc (fun u137 t H1 locs ht hvm hp138 hB hz1 hk1 hS => ?_)
          obtain ⟨hP1, hD1⟩ := hB
          rw [ht] at hP1
          have hD1 := hD1.weaken (fun _ _ _ h => hFc _ h)
          generalize H1 = H at hP1 hS ⊢
          have hP := hP1
          have hD := hD1
          obtain ⟨E139, rfl⟩ : ∃ z, z = u137 := ⟨_, rfl⟩
          have hP : va_P D xcl (rp ad E139 RL) H := hP
          have hD : va_D A (rp ad E139 RL) := hD
          obtain ⟨L2, hCI, hCX2, hF9, hsp9⟩ := hp138
          have hCI : CI kA ad E139 RL ml nd len wn L2.length := hCI
          have hF2 : F78 E E139 := F78_tr hF4 hF9
          obtain ⟨hmB, hDk, hLi, hSh, hCh, hLa, hDIs, hLIs⟩ := id hCI
          refine lv_iinc (k := 0) (x := (nI k)) (v := (nI (k + 1))) hx hb xd_Ch_bindOnce_65 hl rfl (xb_inc k 1) (Nat.le_of_ble_eq_true rfl) rfl (fun ls hl => ?_)
          have hl : lv_has ls 3 [(2, .int (nI (k + 1))), (1, .ref (ad (20 + y) 0)), (0, .ref (ad 0 7))] := hl
          refine lv_goto (tgt := 43) hx hb xd_Ch_bindOnce_68 (by decide) ?_
          exact ih98 (k + 1, E139, L2) _ _ _ (show 12 - (k + 1) < 12 - k by omega) (lv_sub hl [0, 1, 2] rfl) hP hD hS ⟨(show (k + 1) ≤ 12 from by first | assumption | omega), (show bO (bUg g nd fi lq) g lq L = bAU (bUg g nd fi lq) g (prv g y) (bR (bUg g nd fi lq) (mdv g y) (mcv g y - (k + 1)) (k + 1) L2) from by rw [hO4, bR_s (by unfold mcv; rw [h20_107, iN_nI (by omega)]; omega), hdm_114, hsp9]), (show CI kA ad E139 RL ml nd len wn L2.length from hCI), (show CX ad E139 nd fi lq L2 from hCX2), (show F78 E E139 from hF2)⟩
  · refine lv_iload_n hx hb xd_Ch_bindOnce_10 rfl (lv_at hl 0 rfl) ?_
    refine lv_bipush (v := 12) hx hb xd_Ch_bindOnce_11 (by decide) ?_
    refine xn_ge (a := i) (b := 12) (tgt := 32) hx hb xd_Ch_bindOnce_13 (by decide) (by omega) (by omega) (fun hc140 => ?_) (fun hc140 => ?_)
    · refine lv_aload_n hx hb xd_Ch_bindOnce_32 rfl (lv_at hl 1 rfl) ?_
      refine px_get (D := D) (ci := 3) (v := pv_32) (C := xR_Ch) (T := xT_Ch) (N := 5) hx hb hT xi_Ch hown hK.1 hP m_34 c_33 rfl 4 (by decide) (hT _ k5p_1) (fun _ h9 => h9) rfl xd_Ch_bindOnce_33 ?_
      rcases (show lq = 0 ∨ ∃ yq, lq = yq + 1 from by rcases Nat.eq_zero_or_pos lq with q | q; exact Or.inl q; exact Or.inr ⟨lq - 1, by omega⟩) with hyq | ⟨yq, hyq⟩
      · refine W.eq (g2 := F0 m 36 ls [.null]) (by rw [xpv_32, lyv_0 hyq]) ?_
        refine lv_astore_nN hx hb xd_Ch_bindOnce_36 rfl hl (Nat.le_of_ble_eq_true rfl) rfl (fun ls hl => ?_)
        have hl : lv_has ls 3 [(1, .null), (0, .ref (ad 0 7))] := hl
        refine xlab (σ := Nat × (Nat → Nat → va_E) × List Nat) (ml := 3) 37 (fun (y, E3, L3) => [(1, (lyv ad y)), (0, .ref (ad 0 7))]) (fun (y, E3, L3) => []) (fun (y, E3, L3) => rp ad E3 RL) (fun (y, E3, L3) => (y ≤ ml) ∧ (bO (bUg g nd fi lq) g lq L = bAU (bUg g nd fi lq) g y L3) ∧ (CI kA ad E3 RL ml nd len wn L3.length) ∧ (CX ad E3 nd fi lq L3) ∧ (F78 E E3)) (fun (y, E3, L3) => y) ?_ (0, E1, L1) _ _ _ (lv_sub hl [0, 1] rfl) hP hD hS ⟨(show 0 ≤ ml from by first | assumption | omega), (show bO (bUg g nd fi lq) g lq L = bAU (bUg g nd fi lq) g 0 L1 from by rw [hO, bL_e (by omega), hyq]), (show CI kA ad E1 RL ml nd len wn L1.length from hCI), (show CX ad E1 nd fi lq L1 from hCX1), (show F78 E E1 from hF1)⟩
        intro n9 ih141 a9 ls H locs hμ hl hP hD hS hI
        subst hμ
        obtain ⟨y, E3, L3⟩ := a9
        obtain ⟨hy, hO3, hCI, hCX3, hF3⟩ := hI
        have hy : y ≤ ml := hy
        have hO3 : bO (bUg g nd fi lq) g lq L = bAU (bUg g nd fi lq) g y L3 := hO3
        have hCI : CI kA ad E3 RL ml nd len wn L3.length := hCI
        have hCX3 : CX ad E3 nd fi lq L3 := hCX3
        have hF3 : F78 E E3 := hF3
        have hl : lv_has ls 3 [(1, (lyv ad y)), (0, .ref (ad 0 7))] := hl
        have hP : va_P D xcl (rp ad E3 RL) H := hP
        have hD : va_D A (rp ad E3 RL) := hD
        obtain ⟨hmB, hDk, hLi, hSh, hCh, hLa, hDIs, hLIs⟩ := id hCI
        obtain ⟨fd_142, hnd_142, q5_142, q6_142, hds_142⟩ := id (hSh)
        have c_143 : E3 0 5 = .inr (2, [.ref (ad 0 6), .int (nI nd)]) := q5_142
        have m_144 : (0, 5) ∈ RL := hmB 5 (by omega)
        have c_145 : E3 0 6 = .inl (kA 4, 12, .inr (.inr (.inr (.inr fd_142)))) := q6_142
        have m_146 : (0, 6) ∈ RL := hmB 6 (by omega)
        obtain ⟨fl_147, hml_147, q9_147, hla_147⟩ := id (hLa)
        have c_148 : E3 0 9 = .inl (kA 5, 5, .inr (.inr (.inr (.inr fl_147)))) := q9_147
        have m_149 : (0, 9) ∈ RL := hmB 9 (by omega)
        have hTD3 : TDs g E3 nd := TDs_78 hF3 hTD
        have hTL3 : TLas g ad E3 nd ml := TLas_78 hF3 hTL
        rcases y with _ | y
        · have hl : lv_has ls 3 [(1, .null), (0, .ref (ad 0 7))] := hl
          refine lv_aload_nN hx hb xd_Ch_bindOnce_37 rfl (lv_at hl 0 rfl) ?_
          refine lv_ifnullN (tgt := 79) hx hb xd_Ch_bindOnce_38 (by decide) ?_
          exact W.vret hx hb hr (fun t ht hW => ⟨⟨E3, rfl, ⟨L3, hCI, hCX3, hF3, by rw [hO3]; rfl⟩, by rw [ht]; exact hP, hD⟩, hS.F ht⟩) hS.2.2 xd_Ch_bindOnce_79
        · have hl : lv_has ls 3 [(1, .ref (ad (20 + y) 0)), (0, .ref (ad 0 7))] := hl
          refine lv_aload_n hx hb xd_Ch_bindOnce_37 rfl (lv_at hl 0 rfl) ?_
          refine lv_ifnull hx hb xd_Ch_bindOnce_38 ?_
          refine lv_iconst (v := 0) hx hb xd_Ch_bindOnce_41 (by decide) ?_
          refine lv_istore_n hx hb xd_Ch_bindOnce_42 rfl hl (Nat.le_of_ble_eq_true rfl) rfl (fun ls hl => ?_)
          have hl : lv_has ls 3 [(2, .int 0), (1, .ref (ad (20 + y) 0)), (0, .ref (ad 0 7))] := hl
          refine xlab (σ := Nat × (Nat → Nat → va_E) × List Nat) (ml := 3) 43 (fun (k, E4, L4) => [(2, .int (nI k)), (1, .ref (ad (20 + y) 0)), (0, .ref (ad 0 7))]) (fun (k, E4, L4) => []) (fun (k, E4, L4) => rp ad E4 RL) (fun (k, E4, L4) => (k ≤ 12) ∧ (bO (bUg g nd fi lq) g lq L = bAU (bUg g nd fi lq) g (prv g y) (bR (bUg g nd fi lq) (mdv g y) (mcv g y - k) k L4)) ∧ (CI kA ad E4 RL ml nd len wn L4.length) ∧ (CX ad E4 nd fi lq L4) ∧ (F78 E E4)) (fun (k, E4, L4) => 12 - k) ?_ (0, E3, L3) _ _ _ (lv_sub hl [0, 1, 2] rfl) hP hD hS ⟨(show 0 ≤ 12 from by first | assumption | omega), (show bO (bUg g nd fi lq) g lq L = bAU (bUg g nd fi lq) g (prv g y) (bR (bUg g nd fi lq) (mdv g y) (mcv g y - 0) 0 L3) from by rw [hO3, bAU_s (by omega) (fun x hx => prv_T (by omega) hTL x (by omega))]; rfl), (show CI kA ad E3 RL ml nd len wn L3.length from hCI), (show CX ad E3 nd fi lq L3 from hCX3), (show F78 E E3 from hF3)⟩
          intro n9 ih150 a9 ls H locs hμ hl hP hD hS hI
          subst hμ
          obtain ⟨k, E4, L4⟩ := a9
          obtain ⟨hk9, hO4, hCI, hCX4, hF4⟩ := hI
          have hk9 : k ≤ 12 := hk9
          have hO4 : bO (bUg g nd fi lq) g lq L = bAU (bUg g nd fi lq) g (prv g y) (bR (bUg g nd fi lq) (mdv g y) (mcv g y - k) k L4) := hO4
          have hCI : CI kA ad E4 RL ml nd len wn L4.length := hCI
          have hCX4 : CX ad E4 nd fi lq L4 := hCX4
          have hF4 : F78 E E4 := hF4
          have hl : lv_has ls 3 [(2, .int (nI k)), (1, .ref (ad (20 + y) 0)), (0, .ref (ad 0 7))] := hl
          have hP : va_P D xcl (rp ad E4 RL) H := hP
          have hD : va_D A (rp ad E4 RL) := hD
          obtain ⟨hmB, hDk, hLi, hSh, hCh, hLa, hDIs, hLIs⟩ := id hCI
          obtain ⟨fd_151, hnd_151, q5_151, q6_151, hds_151⟩ := id (hSh)
          have c_152 : E4 0 5 = .inr (2, [.ref (ad 0 6), .int (nI nd)]) := q5_151
          have m_153 : (0, 5) ∈ RL := hmB 5 (by omega)
          have c_154 : E4 0 6 = .inl (kA 4, 12, .inr (.inr (.inr (.inr fd_151)))) := q6_151
          have m_155 : (0, 6) ∈ RL := hmB 6 (by omega)
          obtain ⟨fl_156, hml_156, q9_156, hla_156⟩ := id (hLa)
          have c_157 : E4 0 9 = .inl (kA 5, 5, .inr (.inr (.inr (.inr fl_156)))) := q9_156
          have m_158 : (0, 9) ∈ RL := hmB 9 (by omega)
          have hTD4 : TDs g E4 nd := TDs_78 hF4 hTD
          have hTL4 : TLas g ad E4 nd ml := TLas_78 hF4 hTL
          refine lv_iload_n hx hb xd_Ch_bindOnce_43 rfl (lv_at hl 0 rfl) ?_
          refine lv_aload_n hx hb xd_Ch_bindOnce_44 rfl (lv_at hl 1 rfl) ?_
          obtain ⟨m0_159, m1_159, pv_159, op_159, mk_159, fm_159, hmk_159, hpv_159, q0_159, q1_159, hk_159⟩ := id (hLIs y (by omega))
          have c_160 : E4 (20 + y) 0 = .inr (5, [.int (nI y), pv_159, .ref (ad (20 + y) 1), .int op_159]) := q0_159
          have m_161 : (20 + y, 0) ∈ RL := m0_159
          have c_162 : E4 (20 + y) 1 = .inl (kA 6, mk_159, .inr (.inr (.inr (.inr fm_159)))) := q1_159
          have m_163 : (20 + y, 1) ∈ RL := m1_159
          obtain ⟨top_159, ⟨lq_159, hlq_159, h19_159, hpv2_159⟩, h20_159, tmd_159⟩ := TLa_get c_160 c_162 (hTL4 y (by omega))
          have c_164 : E4 (20 + y) 0 = .inr (5, [.int (nI y), (lyv ad lq_159), .ref (ad (20 + y) 1), .int op_159]) := by rw [← hpv2_159]; exact c_160
          refine px_get (D := D) (ci := 5) (v := .ref (ad (20 + y) 1)) (C := xR_Ly) (T := xT_Ly) (N := 4) hx hb hT xi_Ly hown hK.1 hP m_161 c_164 rfl 2 (by decide) (hT _ k5p_2) (fun _ h9 => h9) rfl xd_Ch_bindOnce_45 ?_
          refine px_alen hx hb hK.1 hP m_163 c_162 6 rfl xd_Ch_bindOnce_48 ?_
          refine W.eq (g2 := F0 m 49 ls [.int (nI mk_159), .int (nI k)]) rfl ?_
          refine xn_ge (a := k) (b := mk_159) (tgt := 71) hx hb xd_Ch_bindOnce_49 (by decide) (by omega) (by omega) (fun hc165 => ?_) (fun hc165 => ?_)
          · refine lv_aload_n hx hb xd_Ch_bindOnce_71 rfl (lv_at hl 1 rfl) ?_
            refine px_get (D := D) (ci := 5) (v := (lyv ad lq_159)) (C := xR_Ly) (T := xT_Ly) (N := 4) hx hb hT xi_Ly hown hK.1 hP m_161 c_164 rfl 1 (by decide) (hT _ k5p_3) (fun _ h9 => h9) rfl xd_Ch_bindOnce_72 ?_
            rcases (show lq_159 = 0 ∨ ∃ yq, lq_159 = yq + 1 from by rcases Nat.eq_zero_or_pos lq_159 with q | q; exact Or.inl q; exact Or.inr ⟨lq_159 - 1, by omega⟩) with hyq | ⟨yq, hyq⟩
            · refine W.eq (g2 := F0 m 75 ls [.null]) (by rw [lyv_0 hyq]) ?_
              refine lv_astore_nN hx hb xd_Ch_bindOnce_75 rfl hl (Nat.le_of_ble_eq_true rfl) rfl (fun ls hl => ?_)
              have hl : lv_has ls 3 [(1, .null), (2, .int (nI k)), (0, .ref (ad 0 7))] := hl
              refine lv_goto (tgt := 37) hx hb xd_Ch_bindOnce_76 (by decide) ?_
              exact ih141 (0, E4, L4) _ _ _ (show 0 < y + 1 by omega) (lv_sub hl [0, 2] rfl) hP hD hS ⟨(show 0 ≤ ml from by first | assumption | omega), (show bO (bUg g nd fi lq) g lq L = bAU (bUg g nd fi lq) g 0 L4 from by rw [hO4, bR_e (by unfold mcv; rw [h20_159, iN_nI (by omega)]; omega), prv_of h19_159 (by omega), hyq]), (show CI kA ad E4 RL ml nd len wn L4.length from hCI), (show CX ad E4 nd fi lq L4 from hCX4), (show F78 E E4 from hF4)⟩
            · refine W.eq (g2 := F0 m 75 ls [.ref (ad (20 + yq) 0)]) (by rw [lyv_s hyq]) ?_
              refine lv_astore_n hx hb xd_Ch_bindOnce_75 rfl hl (Nat.le_of_ble_eq_true rfl) rfl (fun ls hl => ?_)
              have hl : lv_has ls 3 [(1, .ref (ad (20 + yq) 0)), (2, .int (nI k)), (0, .ref (ad 0 7))] := hl
              refine lv_goto (tgt := 37) hx hb xd_Ch_bindOnce_76 (by decide) ?_
              exact ih141 (yq + 1, E4, L4) _ _ _ (show (yq + 1) < y + 1 by omega) (lv_sub hl [0, 2] rfl) hP hD hS ⟨(show (yq + 1) ≤ ml from by first | assumption | omega), (show bO (bUg g nd fi lq) g lq L = bAU (bUg g nd fi lq) g (yq + 1) L4 from by rw [hO4, bR_e (by unfold mcv; rw [h20_159, iN_nI (by omega)]; omega), prv_of h19_159 (by omega), hyq]), (show CI kA ad E4 RL ml nd len wn L4.length from hCI), (show CX ad E4 nd fi lq L4 from hCX4), (show F78 E E4 from hF4)⟩
          · refine lv_aload_n hx hb xd_Ch_bindOnce_52 rfl (lv_at hl 2 rfl) ?_
            refine lv_aload_n hx hb xd_Ch_bindOnce_53 rfl (lv_at hl 1 rfl) ?_
            refine px_get (D := D) (ci := 5) (v := .ref (ad (20 + y) 1)) (C := xR_Ly) (T := xT_Ly) (N := 4) hx hb hT xi_Ly hown hK.1 hP m_161 c_164 rfl 2 (by decide) (hT _ k5p_2) (fun _ h9 => h9) rfl xd_Ch_bindOnce_54 ?_
            refine lv_iload_n hx hb xd_Ch_bindOnce_57 rfl (lv_at hl 0 rfl) ?_
            refine px_aald (i := k) (x := (some (ad (20 + y) (10 + 10 * k)))) hx hb hK.1 hP m_163 c_162 6 rfl ((hk_159 k (by omega)).1) (by omega) (by omega) xd_Ch_bindOnce_58 ?_
            obtain ⟨hm_166, d_166, rs_166, fr_166, g2_166, g3_166, g4_166, hd_166, hrs_166, q0_166, q1_166, q2_166, q3_166, q4_166, q5_166, q6_166, q7_166⟩ := (hk_159 k (by omega)).2
            have c_167 : E4 (20 + y) (10 + 10 * k) = .inr (6, [.ref (ad (20 + y) 0), .ref (ad (1 + d_166) 0), .ref (ad (20 + y) (11 + 10 * k)), .ref (ad (20 + y) (12 + 10 * k)), .ref (ad (20 + y) (13 + 10 * k)), .ref (ad (20 + y) (14 + 10 * k))]) := q0_166
            have m_168 : (20 + y, 10 + 10 * k) ∈ RL := hm_166 0 (by omega)
            have c_169 : E4 (20 + y) (11 + 10 * k) = .inl (kA 6, rs_166, .inr (.inr (.inr (.inr fr_166)))) := q1_166
            have m_170 : (20 + y, 11 + 10 * k) ∈ RL := hm_166 1 (by omega)
            have c_171 : E4 (20 + y) (12 + 10 * k) = .inr (10, [.ref (ad (20 + y) (15 + 10 * k))]) := q2_166
            have m_172 : (20 + y, 12 + 10 * k) ∈ RL := hm_166 2 (by omega)
            have c_173 : E4 (20 + y) (13 + 10 * k) = .inr (10, [.ref (ad (20 + y) (16 + 10 * k))]) := q3_166
            have m_174 : (20 + y, 13 + 10 * k) ∈ RL := hm_166 3 (by omega)
            have c_175 : E4 (20 + y) (14 + 10 * k) = .inr (10, [.ref (ad (20 + y) (17 + 10 * k))]) := q4_166
            have m_176 : (20 + y, 14 + 10 * k) ∈ RL := hm_166 4 (by omega)
            have c_177 : E4 (20 + y) (15 + 10 * k) = .inl (kA 0, 6, .inl g2_166) := q5_166
            have m_178 : (20 + y, 15 + 10 * k) ∈ RL := hm_166 5 (by omega)
            have c_179 : E4 (20 + y) (16 + 10 * k) = .inl (kA 0, 6, .inl g3_166) := q6_166
            have m_180 : (20 + y, 16 + 10 * k) ∈ RL := hm_166 6 (by omega)
            have c_181 : E4 (20 + y) (17 + 10 * k) = .inl (kA 0, 6, .inl g4_166) := q7_166
            have m_182 : (20 + y, 17 + 10 * k) ∈ RL := hm_166 7 (by omega)
            have hdm_166 : mdv g y k = d_166 := by
              obtain ⟨dz, hdz, h21z, hvz⟩ := tmd_159 k (by omega)
              rw [c_167] at hvz
              have ez := (rp_inj hD ((hDIs d_166 hd_166).1 0 (by omega)) ((hDIs dz hdz).1 0 (by omega)) (Value.ref.inj hvz)).1
              unfold mdv
              rw [h21z, iN_nI (by omega)]; omega
            refine px_get (D := D) (ci := 6) (v := .ref (ad (1 + d_166) 0)) (C := xR_Me) (T := xT_Me) (N := 6) hx hb hT xi_Me hown hK.1 hP m_168 c_167 rfl 1 (by decide) (hT _ k5p_4) (fun _ h9 => h9) rfl xd_Ch_bindOnce_59 ?_
            have hFc := px_free hD hS hA
            obtain ⟨cf_183, pv_183, fc_183, hcs_183, hpv_183, q7_183, q8_183, hfc_183⟩ := id (hCh)
            have c_184 : E4 0 7 = .inr (3, [.ref (ad 0 5), .ref (ad 0 8), .int (nI (L4.length)), .int cf_183, pv_183]) := q7_183
            have m_185 : (0, 7) ∈ RL := hmB 7 (by omega)
            have c_186 : E4 0 8 = .inl (kA 4, 12, .inr (.inr (.inr (.inr fc_183)))) := q8_183
            have m_187 : (0, 8) ∈ RL := hmB 8 (by omega)
            refine va_callv (va_runV (As := [.ref (ad (1 + d_166) 0)]) (rest := []) ⟨hx, hb, hml, hown, hT⟩ (xc_Ch_bindUsesOfX l D kA H.size ad E4 RL g ml nd len wn fi lq L4 d_166 (by first | assumption | omega) hCX4 hTD4 hTL4 (by first | assumption | omega) (by first | assumption | omega)) (cwV 1 hT (wT_V k5p_6 k5p_7 k5p_8 k5p_9 k5p_5) rfl rfl rfl (by decide +kernel) ⟨Nat.le_of_ble_eq_true rfl, Nat.le_of_ble_eq_true rfl⟩) (px_preV hK hP hD m_185 c_184 rfl) rfl rfl hl.1 rfl (lv_room (Nat.le_of_ble_eq_true rfl)) xd_Ch_bindOnce_62 ⟨(Nat.le_of_ble_eq_true rfl), (Nat.le_of_ble_eq_true rfl)⟩) hS (fun q _ h => hFc q h) hFc (fun u189 t H1 locs ht hvm hp190 hB hz1 hk1 hS => ?_)
            obtain ⟨hP1, hD1⟩ := hB
            rw [ht] at hP1
            have hD1 := hD1.weaken (fun _ _ _ h => hFc _ h)
            generalize H1 = H at hP1 hS ⊢
            have hP := hP1
            have hD := hD1
            obtain ⟨E191, rfl⟩ : ∃ z, z = u189 := ⟨_, rfl⟩
            have hP : va_P D xcl (rp ad E191 RL) H := hP
            have hD : va_D A (rp ad E191 RL) := hD
            obtain ⟨L2, hCI, hCX2, hF9, hsp9⟩ := hp190
            have hCI : CI kA ad E191 RL ml nd len wn L2.length := hCI
            have hF2 : F78 E E191 := F78_tr hF4 hF9
            obtain ⟨hmB, hDk, hLi, hSh, hCh, hLa, hDIs, hLIs⟩ := id hCI
            refine lv_iinc (k := 0) (x := (nI k)) (v := (nI (k + 1))) hx hb xd_Ch_bindOnce_65 hl rfl (xb_inc k 1) (Nat.le_of_ble_eq_true rfl) rfl (fun ls hl => ?_)
            have hl : lv_has ls 3 [(2, .int (nI (k + 1))), (1, .ref (ad (20 + y) 0)), (0, .ref (ad 0 7))] := hl
            refine lv_goto (tgt := 43) hx hb xd_Ch_bindOnce_68 (by decide) ?_
            exact ih150 (k + 1, E191, L2) _ _ _ (show 12 - (k + 1) < 12 - k by omega) (lv_sub hl [0, 1, 2] rfl) hP hD hS ⟨(show (k + 1) ≤ 12 from by first | assumption | omega), (show bO (bUg g nd fi lq) g lq L = bAU (bUg g nd fi lq) g (prv g y) (bR (bUg g nd fi lq) (mdv g y) (mcv g y - (k + 1)) (k + 1) L2) from by rw [hO4, bR_s (by unfold mcv; rw [h20_159, iN_nI (by omega)]; omega), hdm_166, hsp9]), (show CI kA ad E191 RL ml nd len wn L2.length from hCI), (show CX ad E191 nd fi lq L2 from hCX2), (show F78 E E191 from hF2)⟩
      · refine W.eq (g2 := F0 m 36 ls [.ref (ad (20 + yq) 0)]) (by rw [xpv_32, lyv_s hyq]) ?_
        refine lv_astore_n hx hb xd_Ch_bindOnce_36 rfl hl (Nat.le_of_ble_eq_true rfl) rfl (fun ls hl => ?_)
        have hl : lv_has ls 3 [(1, .ref (ad (20 + yq) 0)), (0, .ref (ad 0 7))] := hl
        refine xlab (σ := Nat × (Nat → Nat → va_E) × List Nat) (ml := 3) 37 (fun (y, E3, L3) => [(1, (lyv ad y)), (0, .ref (ad 0 7))]) (fun (y, E3, L3) => []) (fun (y, E3, L3) => rp ad E3 RL) (fun (y, E3, L3) => (y ≤ ml) ∧ (bO (bUg g nd fi lq) g lq L = bAU (bUg g nd fi lq) g y L3) ∧ (CI kA ad E3 RL ml nd len wn L3.length) ∧ (CX ad E3 nd fi lq L3) ∧ (F78 E E3)) (fun (y, E3, L3) => y) ?_ (yq + 1, E1, L1) _ _ _ (lv_sub hl [0, 1] rfl) hP hD hS ⟨(show (yq + 1) ≤ ml from by first | assumption | omega), (show bO (bUg g nd fi lq) g lq L = bAU (bUg g nd fi lq) g (yq + 1) L1 from by rw [hO, bL_e (by omega), hyq]), (show CI kA ad E1 RL ml nd len wn L1.length from hCI), (show CX ad E1 nd fi lq L1 from hCX1), (show F78 E E1 from hF1)⟩
        intro n9 ih192 a9 ls H locs hμ hl hP hD hS hI
        subst hμ
        obtain ⟨y, E3, L3⟩ := a9
        obtain ⟨hy, hO3, hCI, hCX3, hF3⟩ := hI
        have hy : y ≤ ml := hy
        have hO3 : bO (bUg g nd fi lq) g lq L = bAU (bUg g nd fi lq) g y L3 := hO3
        have hCI : CI kA ad E3 RL ml nd len wn L3.length := hCI
        have hCX3 : CX ad E3 nd fi lq L3 := hCX3
        have hF3 : F78 E E3 := hF3
        have hl : lv_has ls 3 [(1, (lyv ad y)), (0, .ref (ad 0 7))] := hl
        have hP : va_P D xcl (rp ad E3 RL) H := hP
        have hD : va_D A (rp ad E3 RL) := hD
        obtain ⟨hmB, hDk, hLi, hSh, hCh, hLa, hDIs, hLIs⟩ := id hCI
        obtain ⟨fd_193, hnd_193, q5_193, q6_193, hds_193⟩ := id (hSh)
        have c_194 : E3 0 5 = .inr (2, [.ref (ad 0 6), .int (nI nd)]) := q5_193
        have m_195 : (0, 5) ∈ RL := hmB 5 (by omega)
        have c_196 : E3 0 6 = .inl (kA 4, 12, .inr (.inr (.inr (.inr fd_193)))) := q6_193
        have m_197 : (0, 6) ∈ RL := hmB 6 (by omega)
        obtain ⟨fl_198, hml_198, q9_198, hla_198⟩ := id (hLa)
        have c_199 : E3 0 9 = .inl (kA 5, 5, .inr (.inr (.inr (.inr fl_198)))) := q9_198
        have m_200 : (0, 9) ∈ RL := hmB 9 (by omega)
        have hTD3 : TDs g E3 nd := TDs_78 hF3 hTD
        have hTL3 : TLas g ad E3 nd ml := TLas_78 hF3 hTL
        rcases y with _ | y
        · have hl : lv_has ls 3 [(1, .null), (0, .ref (ad 0 7))] := hl
          refine lv_aload_nN hx hb xd_Ch_bindOnce_37 rfl (lv_at hl 0 rfl) ?_
          refine lv_ifnullN (tgt := 79) hx hb xd_Ch_bindOnce_38 (by decide) ?_
          exact W.vret hx hb hr (fun t ht hW => ⟨⟨E3, rfl, ⟨L3, hCI, hCX3, hF3, by rw [hO3]; rfl⟩, by rw [ht]; exact hP, hD⟩, hS.F ht⟩) hS.2.2 xd_Ch_bindOnce_79
        · have hl : lv_has ls 3 [(1, .ref (ad (20 + y) 0)), (0, .ref (ad 0 7))] := hl
          refine lv_aload_n hx hb xd_Ch_bindOnce_37 rfl (lv_at hl 0 rfl) ?_
          refine lv_ifnull hx hb xd_Ch_bindOnce_38 ?_
          refine lv_iconst (v := 0) hx hb xd_Ch_bindOnce_41 (by decide) ?_
          refine lv_istore_n hx hb xd_Ch_bindOnce_42 rfl hl (Nat.le_of_ble_eq_true rfl) rfl (fun ls hl => ?_)
          have hl : lv_has ls 3 [(2, .int 0), (1, .ref (ad (20 + y) 0)), (0, .ref (ad 0 7))] := hl
          refine xlab (σ := Nat × (Nat → Nat → va_E) × List Nat) (ml := 3) 43 (fun (k, E4, L4) => [(2, .int (nI k)), (1, .ref (ad (20 + y) 0)), (0, .ref (ad 0 7))]) (fun (k, E4, L4) => []) (fun (k, E4, L4) => rp ad E4 RL) (fun (k, E4, L4) => (k ≤ 12) ∧ (bO (bUg g nd fi lq) g lq L = bAU (bUg g nd fi lq) g (prv g y) (bR (bUg g nd fi lq) (mdv g y) (mcv g y - k) k L4)) ∧ (CI kA ad E4 RL ml nd len wn L4.length) ∧ (CX ad E4 nd fi lq L4) ∧ (F78 E E4)) (fun (k, E4, L4) => 12 - k) ?_ (0, E3, L3) _ _ _ (lv_sub hl [0, 1, 2] rfl) hP hD hS ⟨(show 0 ≤ 12 from by first | assumption | omega), (show bO (bUg g nd fi lq) g lq L = bAU (bUg g nd fi lq) g (prv g y) (bR (bUg g nd fi lq) (mdv g y) (mcv g y - 0) 0 L3) from by rw [hO3, bAU_s (by omega) (fun x hx => prv_T (by omega) hTL x (by omega))]; rfl), (show CI kA ad E3 RL ml nd len wn L3.length from hCI), (show CX ad E3 nd fi lq L3 from hCX3), (show F78 E E3 from hF3)⟩
          intro n9 ih201 a9 ls H locs hμ hl hP hD hS hI
          subst hμ
          obtain ⟨k, E4, L4⟩ := a9
          obtain ⟨hk9, hO4, hCI, hCX4, hF4⟩ := hI
          have hk9 : k ≤ 12 := hk9
          have hO4 : bO (bUg g nd fi lq) g lq L = bAU (bUg g nd fi lq) g (prv g y) (bR (bUg g nd fi lq) (mdv g y) (mcv g y - k) k L4) := hO4
          have hCI : CI kA ad E4 RL ml nd len wn L4.length := hCI
          have hCX4 : CX ad E4 nd fi lq L4 := hCX4
          have hF4 : F78 E E4 := hF4
          have hl : lv_has ls 3 [(2, .int (nI k)), (1, .ref (ad (20 + y) 0)), (0, .ref (ad 0 7))] := hl
          have hP : va_P D xcl (rp ad E4 RL) H := hP
          have hD : va_D A (rp ad E4 RL) := hD
          obtain ⟨hmB, hDk, hLi, hSh, hCh, hLa, hDIs, hLIs⟩ := id hCI
          obtain ⟨fd_202, hnd_202, q5_202, q6_202, hds_202⟩ := id (hSh)
          have c_203 : E4 0 5 = .inr (2, [.ref (ad 0 6), .int (nI nd)]) := q5_202
          have m_204 : (0, 5) ∈ RL := hmB 5 (by omega)
          have c_205 : E4 0 6 = .inl (kA 4, 12, .inr (.inr (.inr (.inr fd_202)))) := q6_202
          have m_206 : (0, 6) ∈ RL := hmB 6 (by omega)
          obtain ⟨fl_207, hml_207, q9_207, hla_207⟩ := id (hLa)
          have c_208 : E4 0 9 = .inl (kA 5, 5, .inr (.inr (.inr (.inr fl_207)))) := q9_207
          have m_209 : (0, 9) ∈ RL := hmB 9 (by omega)
          have hTD4 : TDs g E4 nd := TDs_78 hF4 hTD
          have hTL4 : TLas g ad E4 nd ml := TLas_78 hF4 hTL
          refine lv_iload_n hx hb xd_Ch_bindOnce_43 rfl (lv_at hl 0 rfl) ?_
          refine lv_aload_n hx hb xd_Ch_bindOnce_44 rfl (lv_at hl 1 rfl) ?_
          obtain ⟨m0_210, m1_210, pv_210, op_210, mk_210, fm_210, hmk_210, hpv_210, q0_210, q1_210, hk_210⟩ := id (hLIs y (by omega))
          have c_211 : E4 (20 + y) 0 = .inr (5, [.int (nI y), pv_210, .ref (ad (20 + y) 1), .int op_210]) := q0_210
          have m_212 : (20 + y, 0) ∈ RL := m0_210
          have c_213 : E4 (20 + y) 1 = .inl (kA 6, mk_210, .inr (.inr (.inr (.inr fm_210)))) := q1_210
          have m_214 : (20 + y, 1) ∈ RL := m1_210
          obtain ⟨top_210, ⟨lq_210, hlq_210, h19_210, hpv2_210⟩, h20_210, tmd_210⟩ := TLa_get c_211 c_213 (hTL4 y (by omega))
          have c_215 : E4 (20 + y) 0 = .inr (5, [.int (nI y), (lyv ad lq_210), .ref (ad (20 + y) 1), .int op_210]) := by rw [← hpv2_210]; exact c_211
          refine px_get (D := D) (ci := 5) (v := .ref (ad (20 + y) 1)) (C := xR_Ly) (T := xT_Ly) (N := 4) hx hb hT xi_Ly hown hK.1 hP m_212 c_215 rfl 2 (by decide) (hT _ k5p_2) (fun _ h9 => h9) rfl xd_Ch_bindOnce_45 ?_
          refine px_alen hx hb hK.1 hP m_214 c_213 6 rfl xd_Ch_bindOnce_48 ?_
          refine W.eq (g2 := F0 m 49 ls [.int (nI mk_210), .int (nI k)]) rfl ?_
          refine xn_ge (a := k) (b := mk_210) (tgt := 71) hx hb xd_Ch_bindOnce_49 (by decide) (by omega) (by omega) (fun hc216 => ?_) (fun hc216 => ?_)
          · refine lv_aload_n hx hb xd_Ch_bindOnce_71 rfl (lv_at hl 1 rfl) ?_
            refine px_get (D := D) (ci := 5) (v := (lyv ad lq_210)) (C := xR_Ly) (T := xT_Ly) (N := 4) hx hb hT xi_Ly hown hK.1 hP m_212 c_215 rfl 1 (by decide) (hT _ k5p_3) (fun _ h9 => h9) rfl xd_Ch_bindOnce_72 ?_
            rcases (show lq_210 = 0 ∨ ∃ yq, lq_210 = yq + 1 from by rcases Nat.eq_zero_or_pos lq_210 with q | q; exact Or.inl q; exact Or.inr ⟨lq_210 - 1, by omega⟩) with hyq | ⟨yq, hyq⟩
            · refine W.eq (g2 := F0 m 75 ls [.null]) (by rw [lyv_0 hyq]) ?_
              refine lv_astore_nN hx hb xd_Ch_bindOnce_75 rfl hl (Nat.le_of_ble_eq_true rfl) rfl (fun ls hl => ?_)
              have hl : lv_has ls 3 [(1, .null), (2, .int (nI k)), (0, .ref (ad 0 7))] := hl
              refine lv_goto (tgt := 37) hx hb xd_Ch_bindOnce_76 (by decide) ?_
              exact ih192 (0, E4, L4) _ _ _ (show 0 < y + 1 by omega) (lv_sub hl [0, 2] rfl) hP hD hS ⟨(show 0 ≤ ml from by first | assumption | omega), (show bO (bUg g nd fi lq) g lq L = bAU (bUg g nd fi lq) g 0 L4 from by rw [hO4, bR_e (by unfold mcv; rw [h20_210, iN_nI (by omega)]; omega), prv_of h19_210 (by omega), hyq]), (show CI kA ad E4 RL ml nd len wn L4.length from hCI), (show CX ad E4 nd fi lq L4 from hCX4), (show F78 E E4 from hF4)⟩
            · refine W.eq (g2 := F0 m 75 ls [.ref (ad (20 + yq) 0)]) (by rw [lyv_s hyq]) ?_
              refine lv_astore_n hx hb xd_Ch_bindOnce_75 rfl hl (Nat.le_of_ble_eq_true rfl) rfl (fun ls hl => ?_)
              have hl : lv_has ls 3 [(1, .ref (ad (20 + yq) 0)), (2, .int (nI k)), (0, .ref (ad 0 7))] := hl
              refine lv_goto (tgt := 37) hx hb xd_Ch_bindOnce_76 (by decide) ?_
              exact ih192 (yq + 1, E4, L4) _ _ _ (show (yq + 1) < y + 1 by omega) (lv_sub hl [0, 2] rfl) hP hD hS ⟨(show (yq + 1) ≤ ml from by first | assumption | omega), (show bO (bUg g nd fi lq) g lq L = bAU (bUg g nd fi lq) g (yq + 1) L4 from by rw [hO4, bR_e (by unfold mcv; rw [h20_210, iN_nI (by omega)]; omega), prv_of h19_210 (by omega), hyq]), (show CI kA ad E4 RL ml nd len wn L4.length from hCI), (show CX ad E4 nd fi lq L4 from hCX4), (show F78 E E4 from hF4)⟩
          · refine lv_aload_n hx hb xd_Ch_bindOnce_52 rfl (lv_at hl 2 rfl) ?_
            refine lv_aload_n hx hb xd_Ch_bindOnce_53 rfl (lv_at hl 1 rfl) ?_
            refine px_get (D := D) (ci := 5) (v := .ref (ad (20 + y) 1)) (C := xR_Ly) (T := xT_Ly) (N := 4) hx hb hT xi_Ly hown hK.1 hP m_212 c_215 rfl 2 (by decide) (hT _ k5p_2) (fun _ h9 => h9) rfl xd_Ch_bindOnce_54 ?_
            refine lv_iload_n hx hb xd_Ch_bindOnce_57 rfl (lv_at hl 0 rfl) ?_
            refine px_aald (i := k) (x := (some (ad (20 + y) (10 + 10 * k)))) hx hb hK.1 hP m_214 c_213 6 rfl ((hk_210 k (by omega)).1) (by omega) (by omega) xd_Ch_bindOnce_58 ?_
            obtain ⟨hm_217, d_217, rs_217, fr_217, g2_217, g3_217, g4_217, hd_217, hrs_217, q0_217, q1_217, q2_217, q3_217, q4_217, q5_217, q6_217, q7_217⟩ := (hk_210 k (by omega)).2
            have c_218 : E4 (20 + y) (10 + 10 * k) = .inr (6, [.ref (ad (20 + y) 0), .ref (ad (1 + d_217) 0), .ref (ad (20 + y) (11 + 10 * k)), .ref (ad (20 + y) (12 + 10 * k)), .ref (ad (20 + y) (13 + 10 * k)), .ref (ad (20 + y) (14 + 10 * k))]) := q0_217
            have m_219 : (20 + y, 10 + 10 * k) ∈ RL := hm_217 0 (by omega)
            have c_220 : E4 (20 + y) (11 + 10 * k) = .inl (kA 6, rs_217, .inr (.inr (.inr (.inr fr_217)))) := q1_217
            have m_221 : (20 + y, 11 + 10 * k) ∈ RL := hm_217 1 (by omega)
            have c_222 : E4 (20 + y) (12 + 10 * k) = .inr (10, [.ref (ad (20 + y) (15 + 10 * k))]) := q2_217
            have m_223 : (20 + y, 12 + 10 * k) ∈ RL := hm_217 2 (by omega)
            have c_224 : E4 (20 + y) (13 + 10 * k) = .inr (10, [.ref (ad (20 + y) (16 + 10 * k))]) := q3_217
            have m_225 : (20 + y, 13 + 10 * k) ∈ RL := hm_217 3 (by omega)
            have c_226 : E4 (20 + y) (14 + 10 * k) = .inr (10, [.ref (ad (20 + y) (17 + 10 * k))]) := q4_217
            have m_227 : (20 + y, 14 + 10 * k) ∈ RL := hm_217 4 (by omega)
            have c_228 : E4 (20 + y) (15 + 10 * k) = .inl (kA 0, 6, .inl g2_217) := q5_217
            have m_229 : (20 + y, 15 + 10 * k) ∈ RL := hm_217 5 (by omega)
            have c_230 : E4 (20 + y) (16 + 10 * k) = .inl (kA 0, 6, .inl g3_217) := q6_217
            have m_231 : (20 + y, 16 + 10 * k) ∈ RL := hm_217 6 (by omega)
            have c_232 : E4 (20 + y) (17 + 10 * k) = .inl (kA 0, 6, .inl g4_217) := q7_217
            have m_233 : (20 + y, 17 + 10 * k) ∈ RL := hm_217 7 (by omega)
            have hdm_217 : mdv g y k = d_217 := by
              obtain ⟨dz, hdz, h21z, hvz⟩ := tmd_210 k (by omega)
              rw [c_218] at hvz
              have ez := (rp_inj hD ((hDIs d_217 hd_217).1 0 (by omega)) ((hDIs dz hdz).1 0 (by omega)) (Value.ref.inj hvz)).1
              unfold mdv
              rw [h21z, iN_nI (by omega)]; omega
            refine px_get (D := D) (ci := 6) (v := .ref (ad (1 + d_217) 0)) (C := xR_Me) (T := xT_Me) (N := 6) hx hb hT xi_Me hown hK.1 hP m_219 c_218 rfl 1 (by decide) (hT _ k5p_4) (fun _ h9 => h9) rfl xd_Ch_bindOnce_59 ?_
            have hFc := px_free hD hS hA
            obtain ⟨cf_234, pv_234, fc_234, hcs_234, hpv_234, q7_234, q8_234, hfc_234⟩ := id (hCh)
            have c_235 : E4 0 7 = .inr (3, [.ref (ad 0 5), .ref (ad 0 8), .int (nI (L4.length)), .int cf_234, pv_234]) := q7_234
            have m_236 : (0, 7) ∈ RL := hmB 7 (by omega)
            have c_237 : E4 0 8 = .inl (kA 4, 12, .inr (.inr (.inr (.inr fc_234)))) := q8_234
            have m_238 : (0, 8) ∈ RL := hmB 8 (by omega)
            refine va_callv (va_runV (As := [.ref (ad (1 + d_217) 0)]) (rest := []) ⟨hx, hb, hml, hown, hT⟩ (xc_Ch_bindUsesOfX l D kA H.size ad E4 RL g ml nd len wn fi lq L4 d_217 (by first | assumption | omega) hCX4 hTD4 hTL4 (by first | assumption | omega) (by first | assumption | omega)) (cwV 1 hT (wT_V k5p_6 k5p_7 k5p_8 k5p_9 k5p_5) rfl rfl rfl (by decide +kernel) ⟨Nat.le_of_ble_eq_true rfl, Nat.le_of_ble_eq_true rfl⟩) (px_preV hK hP hD m_236 c_235 rfl) rfl rfl hl.1 rfl (lv_room (Nat.le_of_ble_eq_true rfl)) xd_Ch_bindOnce_62 ⟨(Nat.le_of_ble_eq_true rfl), (Nat.le_of_ble_eq_true rfl)⟩) hS (fun q _ h => hFc q h) hFc (fun u240 t H1 locs ht hvm hp241 hB hz1 hk1 hS => ?_)
            obtain ⟨hP1, hD1⟩ := hB
            rw [ht] at hP1
            have hD1 := hD1.weaken (fun _ _ _ h => hFc _ h)
            generalize H1 = H at hP1 hS ⊢
            have hP := hP1
            have hD := hD1
            obtain ⟨E242, rfl⟩ : ∃ z, z = u240 := ⟨_, rfl⟩
            have hP : va_P D xcl (rp ad E242 RL) H := hP
            have hD : va_D A (rp ad E242 RL) := hD
            obtain ⟨L2, hCI, hCX2, hF9, hsp9⟩ := hp241
            have hCI : CI kA ad E242 RL ml nd len wn L2.length := hCI
            have hF2 : F78 E E242 := F78_tr hF4 hF9
            obtain ⟨hmB, hDk, hLi, hSh, hCh, hLa, hDIs, hLIs⟩ := id hCI
            refine lv_iinc (k := 0) (x := (nI k)) (v := (nI (k + 1))) hx hb xd_Ch_bindOnce_65 hl rfl (xb_inc k 1) (Nat.le_of_ble_eq_true rfl) rfl (fun ls hl => ?_)
            have hl : lv_has ls 3 [(2, .int (nI (k + 1))), (1, .ref (ad (20 + y) 0)), (0, .ref (ad 0 7))] := hl
            refine lv_goto (tgt := 43) hx hb xd_Ch_bindOnce_68 (by decide) ?_
            exact ih201 (k + 1, E242, L2) _ _ _ (show 12 - (k + 1) < 12 - k by omega) (lv_sub hl [0, 1, 2] rfl) hP hD hS ⟨(show (k + 1) ≤ 12 from by first | assumption | omega), (show bO (bUg g nd fi lq) g lq L = bAU (bUg g nd fi lq) g (prv g y) (bR (bUg g nd fi lq) (mdv g y) (mcv g y - (k + 1)) (k + 1) L2) from by rw [hO4, bR_s (by unfold mcv; rw [h20_210, iN_nI (by omega)]; omega), hdm_217, hsp9]), (show CI kA ad E242 RL ml nd len wn L2.length from hCI), (show CX ad E242 nd fi lq L2 from hCX2), (show F78 E E242 from hF2)⟩
    · refine lv_aload_n hx hb xd_Ch_bindOnce_16 rfl (lv_at hl 1 rfl) ?_
      refine lv_aload_n hx hb xd_Ch_bindOnce_17 rfl (lv_at hl 1 rfl) ?_
      refine px_get (D := D) (ci := 3) (v := .ref (ad 0 8)) (C := xR_Ch) (T := xT_Ch) (N := 5) hx hb hT xi_Ch hown hK.1 hP m_34 c_33 rfl 1 (by decide) (hT _ k5p_10) (fun _ h9 => h9) rfl xd_Ch_bindOnce_18 ?_
      refine lv_iload_n hx hb xd_Ch_bindOnce_21 rfl (lv_at hl 0 rfl) ?_
      refine px_aald (i := i) (x := (some (ad (1 + L1.getD i 0) 0))) hx hb hK.1 hP m_36 c_35 4 rfl (xfc_32 i (by omega)) (by omega) (by decide) xd_Ch_bindOnce_22 ?_
      have hFc := px_free hD hS hA
      refine va_callv (va_runV (As := [.ref (ad (1 + L1.getD i 0) 0)]) (rest := []) ⟨hx, hb, hml, hown, hT⟩ (xc_Ch_bindUsesOfX l D kA H.size ad E1 RL g ml nd len wn fi lq L1 (L1.getD i 0) (by first | assumption | omega) hCX1 hTD1 hTL1 (by first | assumption | omega) (hCX1.2.2.2.1 _ (getD_mem (by omega)))) (cwV 1 hT (wT_V k5p_6 k5p_7 k5p_8 k5p_9 k5p_5) rfl rfl rfl (by decide +kernel) ⟨Nat.le_of_ble_eq_true rfl, Nat.le_of_ble_eq_true rfl⟩) (px_preV hK hP hD m_34 c_33 rfl) rfl rfl hl.1 rfl (lv_room (Nat.le_of_ble_eq_true rfl)) xd_Ch_bindOnce_23 ⟨(Nat.le_of_ble_eq_true rfl), (Nat.le_of_ble_eq_true rfl)⟩) hS (fun q _ h => hFc q h) hFc (fun u244 t H1 locs ht hvm hp245 hB hz1 hk1 hS => ?_)
      obtain ⟨hP1, hD1⟩ := hB
      rw [ht] at hP1
      have hD1 := hD1.weaken (fun _ _ _ h => hFc _ h)
      generalize H1 = H at hP1 hS ⊢
      have hP := hP1
      have hD := hD1
      obtain ⟨E246, rfl⟩ : ∃ z, z = u244 := ⟨_, rfl⟩
      have hP : va_P D xcl (rp ad E246 RL) H := hP
      have hD : va_D A (rp ad E246 RL) := hD
      obtain ⟨L2, hCI, hCX2, hF9, hsp9⟩ := hp245
      have hCI : CI kA ad E246 RL ml nd len wn L2.length := hCI
      have hF2 : F78 E E246 := F78_tr hF1 hF9
      obtain ⟨hmB, hDk, hLi, hSh, hCh, hLa, hDIs, hLIs⟩ := id hCI
      refine lv_iinc (k := 0) (x := (nI i)) (v := (nI (i + 1))) hx hb xd_Ch_bindOnce_26 hl rfl (xb_inc i 1) (Nat.le_of_ble_eq_true rfl) rfl (fun ls hl => ?_)
      have hl : lv_has ls 3 [(1, .int (nI (i + 1))), (0, .ref (ad 0 7))] := hl
      refine lv_goto (tgt := 2) hx hb xd_Ch_bindOnce_29 (by decide) ?_
      exact ih26 (i + 1, E246, L2) _ _ _ (show 12 - (i + 1) < 12 - i by omega) (lv_sub hl [0, 1] rfl) hP hD hS ⟨(show (i + 1) ≤ 12 from by first | assumption | omega), (show bO (bUg g nd fi lq) g lq L = bAU (bUg g nd fi lq) g lq (bL (bUg g nd fi lq) (12 - (i + 1)) (i + 1) L2) from by rw [hO, bL_s (by omega) (by omega), hsp9]), (show CI kA ad E246 RL ml nd len wn L2.length from hCI), (show CX ad E246 nd fi lq L2 from hCX2), (show F78 E E246 from hF2)⟩
set_option maxHeartbeats 4000000 in
set_option maxRecDepth 100000 in
theorem xc_Ch_bindX (l : Launch) (D : va_G) (kA : Nat → ClassId) (sz : Nat) (ad : Nat → Nat → Nat) (E : Nat → Nat → va_E) (RL : List (Nat × Nat)) (g : Nat → Nat → Int32) (ml : Nat) (nd : Nat) (len : Nat) (wn : Nat) (fi : Int32) (lq : Nat) (L : List Nat) (hCI : CI kA ad E RL ml nd len wn L.length) (hCX : CX ad E nd fi lq L) (hTD : TDs g E nd) (hTL : TLas g ad E nd ml) (hlqm : lq ≤ ml) : Met l xy_Ch_bind (.code xy_Ch_bind xb_Ch_bind 3 none :: wT) { frames := 22, cells := 0, slots := 0, locals := 1262 } (va_Pc [.ref (ad 0 7)] (xPre D kA sz (rp ad E RL))) (va_Qv (fun (u : Nat → Nat → va_E) => ∃ L2, CI kA ad u RL ml nd len wn L2.length ∧ CX ad u nd fi lq L2 ∧ F78 E u ∧ bIt (bUg g nd fi lq) g lq 13 L = L2) (fun (u : Nat → Nat → va_E) t => va_P D xcl (rp ad u RL) t.heap ∧ va_D (va_A (rp ad E RL) sz) (rp ad u RL)) (va_A (rp ad E RL) sz)) 0 0 (va_A (rp ad E RL) sz) := by
  refine Met.ofW (cc := xb_Ch_bind) (maxL := 3) (ret := none) (by decide) rfl ?_
  intro p e s m args below meth c s₁ B hml hv
  obtain ⟨rfl, hsz, hP, hK, hD0⟩ := hv
  have hx := B.exec
  have hb := B.bytes
  have hr := B.returns
  have hT := x_hT B.pre
  have hown : s.vm.findClass xR_Ch = some m.cls := findClass_of_methodNamed B.named
  have hlocks := B.notSynchronized
  subst hsz
  have hD := hD0.self (sz := s.heap.size)
  generalize hAe : va_A (rp ad E RL) s.heap.size = A at hD ⊢
  have hA : ∀ q : Nat, s.heap.size ≤ q → A q := fun q h => by rw [← hAe]; exact Or.inr h
  have hS : va_S A s.heap s.heap [] := va_S.rf
  have hl := lv_entry ([.ref (ad 0 7)]) (n := 3) (Nat.le_of_ble_eq_true rfl)
  rw [lg_entry_eq]
  generalize (lg_sl ([.ref (ad 0 7)]) ++ List.replicate (3 - (lg_sl ([.ref (ad 0 7)])).length) Slot.unset).toArray = ls at hl ⊢
  have hl : lv_has ls 3 [(0, .ref (ad 0 7))] := hl
  have hP : va_P D xcl (rp ad E RL) s.heap := hP
  obtain ⟨hmB, hDk, hLi, hSh, hCh, hLa, hDIs, hLIs⟩ := id hCI
  obtain ⟨lf_1, q_1⟩ := id (hDk)
  have c_2 : E 0 0 = .inr (0, [.ref (ad 0 1), .ref (ad 0 5), .ref (ad 0 7), .ref (ad 0 9), .int (nI ml), .int lf_1]) := q_1
  have m_3 : (0, 0) ∈ RL := hmB 0 (by omega)
  obtain ⟨tx_4, fb_4, fe_4, hl1_4, hw2_4, q1_4, q2_4, q3_4, q4_4, hws_4⟩ := id (hLi)
  have c_5 : E 0 1 = .inr (1, [.ref (ad 0 2), .ref (ad 0 3), .ref (ad 0 4), .int (nI len), .int (nI wn)]) := q1_4
  have m_6 : (0, 1) ∈ RL := hmB 1 (by omega)
  have c_7 : E 0 2 = .inl (kA 1, 40, .inl tx_4) := q2_4
  have m_8 : (0, 2) ∈ RL := hmB 2 (by omega)
  have c_9 : E 0 3 = .inl (kA 0, 20, .inl fb_4) := q3_4
  have m_10 : (0, 3) ∈ RL := hmB 3 (by omega)
  have c_11 : E 0 4 = .inl (kA 0, 20, .inl fe_4) := q4_4
  have m_12 : (0, 4) ∈ RL := hmB 4 (by omega)
  obtain ⟨fd_13, hnd_13, q5_13, q6_13, hds_13⟩ := id (hSh)
  have c_14 : E 0 5 = .inr (2, [.ref (ad 0 6), .int (nI nd)]) := q5_13
  have m_15 : (0, 5) ∈ RL := hmB 5 (by omega)
  have c_16 : E 0 6 = .inl (kA 4, 12, .inr (.inr (.inr (.inr fd_13)))) := q6_13
  have m_17 : (0, 6) ∈ RL := hmB 6 (by omega)
  obtain ⟨cf_18, pv_18, fc_18, hcs_18, hpv_18, q7_18, q8_18, hfc_18⟩ := id (hCh)
  have c_19 : E 0 7 = .inr (3, [.ref (ad 0 5), .ref (ad 0 8), .int (nI (L.length)), .int cf_18, pv_18]) := q7_18
  have m_20 : (0, 7) ∈ RL := hmB 7 (by omega)
  have c_21 : E 0 8 = .inl (kA 4, 12, .inr (.inr (.inr (.inr fc_18)))) := q8_18
  have m_22 : (0, 8) ∈ RL := hmB 8 (by omega)
  obtain ⟨fl_23, hml_23, q9_23, hla_23⟩ := id (hLa)
  have c_24 : E 0 9 = .inl (kA 5, 5, .inr (.inr (.inr (.inr fl_23)))) := q9_23
  have m_25 : (0, 9) ∈ RL := hmB 9 (by omega)
  obtain ⟨xfi_18, xpv_18, xfc_18, xGL_18⟩ := id hCX
  rw [c_19] at xfi_18 xpv_18
  rw [c_21] at xfc_18
  have xfi_18 : cf_18 = fi := xfi_18
  have xpv_18 : pv_18 = lyv ad lq := xpv_18
  have xfc_18 : ∀ k, k < L.length → fc_18 k = some (ad (1 + L.getD k 0) 0) := xfc_18
  have xln_18 := GL_len xGL_18
  refine lv_iconst (v := 0) hx hb xd_Ch_bind_0 (by decide) ?_
  refine lv_istore_n hx hb xd_Ch_bind_1 rfl hl (Nat.le_of_ble_eq_true rfl) rfl (fun ls hl => ?_)
  have hl : lv_has ls 3 [(1, .int 0), (0, .ref (ad 0 7))] := hl
  refine xlab (σ := Nat × (Nat → Nat → va_E) × List Nat) (ml := 3) 2 (fun (i, E1, L1) => [(1, .int (nI i)), (0, .ref (ad 0 7))]) (fun (i, E1, L1) => []) (fun (i, E1, L1) => rp ad E1 RL) (fun (i, E1, L1) => (i ≤ 13) ∧ (bIt (bUg g nd fi lq) g lq 13 L = bIt (bUg g nd fi lq) g lq (13 - i) L1) ∧ (CI kA ad E1 RL ml nd len wn L1.length) ∧ (CX ad E1 nd fi lq L1) ∧ (F78 E E1)) (fun (i, E1, L1) => 13 - i) ?_ (0, E, L) _ _ _ (lv_sub hl [0, 1] rfl) hP hD hS ⟨(show 0 ≤ 13 from by first | assumption | omega), (show bIt (bUg g nd fi lq) g lq 13 L = bIt (bUg g nd fi lq) g lq (13 - 0) L from rfl), (show CI kA ad E RL ml nd len wn L.length from hCI), (show CX ad E nd fi lq L from hCX), (show F78 E E from F78_rf)⟩
  intro n9 ih26 a9 ls H locs hμ hl hP hD hS hI
  subst hμ
  obtain ⟨i, E1, L1⟩ := a9
  obtain ⟨hi, hI9, hCI, hCX1, hF1⟩ := hI
  have hi : i ≤ 13 := hi
  have hI9 : bIt (bUg g nd fi lq) g lq 13 L = bIt (bUg g nd fi lq) g lq (13 - i) L1 := hI9
  have hCI : CI kA ad E1 RL ml nd len wn L1.length := hCI
  have hCX1 : CX ad E1 nd fi lq L1 := hCX1
  have hF1 : F78 E E1 := hF1
  have hl : lv_has ls 3 [(1, .int (nI i)), (0, .ref (ad 0 7))] := hl
  have hP : va_P D xcl (rp ad E1 RL) H := hP
  have hD : va_D A (rp ad E1 RL) := hD
  obtain ⟨hmB, hDk, hLi, hSh, hCh, hLa, hDIs, hLIs⟩ := id hCI
  obtain ⟨cf_27, pv_27, fc_27, hcs_27, hpv_27, q7_27, q8_27, hfc_27⟩ := id (hCh)
  have c_28 : E1 0 7 = .inr (3, [.ref (ad 0 5), .ref (ad 0 8), .int (nI (L1.length)), .int cf_27, pv_27]) := q7_27
  have m_29 : (0, 7) ∈ RL := hmB 7 (by omega)
  have c_30 : E1 0 8 = .inl (kA 4, 12, .inr (.inr (.inr (.inr fc_27)))) := q8_27
  have m_31 : (0, 8) ∈ RL := hmB 8 (by omega)
  have hTD1 : TDs g E1 nd := TDs_78 hF1 hTD
  have hTL1 : TLas g ad E1 nd ml := TLas_78 hF1 hTL
  obtain ⟨xfi_27, xpv_27, xfc_27, xGL_27⟩ := id hCX1
  rw [c_28] at xfi_27 xpv_27
  rw [c_30] at xfc_27
  have xfi_27 : cf_27 = fi := xfi_27
  have xpv_27 : pv_27 = lyv ad lq := xpv_27
  have xfc_27 : ∀ k, k < L1.length → fc_27 k = some (ad (1 + L1.getD k 0) 0) := xfc_27
  have xln_27 := GL_len xGL_27
  refine lv_iload_n hx hb xd_Ch_bind_2 rfl (lv_at hl 0 rfl) ?_
  refine lv_bipush (v := 12) hx hb xd_Ch_bind_3 (by decide) ?_
  refine xn_gt (a := i) (b := 12) (tgt := 32) hx hb xd_Ch_bind_5 (by decide) (by omega) (by omega) (fun hc32 => ?_) (fun hc32 => ?_)
  · exact W.vret hx hb hr (fun t ht hW => ⟨⟨E1, rfl, ⟨L1, hCI, hCX1, hF1, by rw [hI9, show 13 - i = 0 by omega]; rfl⟩, by rw [ht]; exact hP, hD⟩, hS.F ht⟩) hS.2.2 xd_Ch_bind_32
  · refine lv_aload_n hx hb xd_Ch_bind_8 rfl (lv_at hl 1 rfl) ?_
    refine px_get (D := D) (ci := 3) (v := .int (nI (L1.length))) (C := xR_Ch) (T := xT_Ch) (N := 5) hx hb hT xi_Ch hown hK.1 hP m_29 c_28 rfl 2 (by decide) (hT _ k5p_0) (fun _ h9 => h9) rfl xd_Ch_bind_9 ?_
    refine lv_istore_n hx hb xd_Ch_bind_12 rfl hl (Nat.le_of_ble_eq_true rfl) rfl (fun ls hl => ?_)
    have hl : lv_has ls 3 [(2, .int (nI (L1.length))), (1, .int (nI i)), (0, .ref (ad 0 7))] := hl
    refine lv_aload_n hx hb xd_Ch_bind_13 rfl (lv_at hl 2 rfl) ?_
    have hFc := px_free hD hS hA
    refine va_callv (va_runV (As := []) (rest := []) ⟨hx, hb, hml, hown, hT⟩ (xc_Ch_bindOnceX l D kA H.size ad E1 RL g ml nd len wn fi lq L1 (by first | assumption | omega) hCX1 hTD1 hTL1 (by first | assumption | omega)) (cwV 0 hT (wT_V k5p_12 k5p_13 k5p_14 k5p_9 k5p_11) rfl rfl rfl (by decide +kernel) ⟨Nat.le_of_ble_eq_true rfl, Nat.le_of_ble_eq_true rfl⟩) (px_preV hK hP hD m_29 c_28 rfl) rfl rfl hl.1 rfl (lv_room (Nat.le_of_ble_eq_true rfl)) xd_Ch_bind_14 ⟨(Nat.le_of_ble_eq_true rfl), (Nat.le_of_ble_eq_true rfl)⟩) hS (fun q _ h => hFc q h) hFc (fun u34 t H1 locs ht hvm hp35 hB hz1 hk1 hS => ?_)
    obtain ⟨hP1, hD1⟩ := hB
    rw [ht] at hP1
    have hD1 := hD1.weaken (fun _ _ _ h => hFc _ h)
    generalize H1 = H at hP1 hS ⊢
    have hP := hP1
    have hD := hD1
    obtain ⟨E36, rfl⟩ : ∃ z, z = u34 := ⟨_, rfl⟩
    have hP : va_P D xcl (rp ad E36 RL) H := hP
    have hD : va_D A (rp ad E36 RL) := hD
    obtain ⟨L2, hCI, hCX2, hF9, hsp9⟩ := hp35
    have hCI : CI kA ad E36 RL ml nd len wn L2.length := hCI
    have hF2 : F78 E E36 := F78_tr hF1 hF9
    obtain ⟨hmB, hDk, hLi, hSh, hCh, hLa, hDIs, hLIs⟩ := id hCI
    obtain ⟨cf_37, pv_37, fc_37, hcs_37, hpv_37, q7_37, q8_37, hfc_37⟩ := id (hCh)
    have c_38 : E36 0 7 = .inr (3, [.ref (ad 0 5), .ref (ad 0 8), .int (nI (L2.length)), .int cf_37, pv_37]) := q7_37
    have m_39 : (0, 7) ∈ RL := hmB 7 (by omega)
    have c_40 : E36 0 8 = .inl (kA 4, 12, .inr (.inr (.inr (.inr fc_37)))) := q8_37
    have m_41 : (0, 8) ∈ RL := hmB 8 (by omega)
    refine lv_aload_n hx hb xd_Ch_bind_17 rfl (lv_at hl 2 rfl) ?_
    refine px_get (D := D) (ci := 3) (v := .int (nI (L2.length))) (C := xR_Ch) (T := xT_Ch) (N := 5) hx hb hT xi_Ch hown hK.1 hP m_39 c_38 rfl 2 (by decide) (hT _ k5p_0) (fun _ h9 => h9) rfl xd_Ch_bind_18 ?_
    refine lv_iload_n hx hb xd_Ch_bind_21 rfl (lv_at hl 0 rfl) ?_
    refine xn_ne (a := L2.length) (b := L1.length) (tgt := 26) hx hb xd_Ch_bind_22 (by decide) (by omega) (by omega) (fun hc42 => ?_) (fun hc42 => ?_)
    · refine lv_iinc (k := 1) (x := (nI i)) (v := (nI (i + 1))) hx hb xd_Ch_bind_26 hl rfl (xb_inc i 1) (Nat.le_of_ble_eq_true rfl) rfl (fun ls hl => ?_)
      have hl : lv_has ls 3 [(1, .int (nI (i + 1))), (2, .int (nI (L1.length))), (0, .ref (ad 0 7))] := hl
      refine lv_goto (tgt := 2) hx hb xd_Ch_bind_29 (by decide) ?_
      exact ih26 (i + 1, E36, L2) _ _ _ (show 13 - (i + 1) < 13 - i by omega) (lv_sub hl [0, 2] rfl) hP hD hS ⟨(show (i + 1) ≤ 13 from by first | assumption | omega), (show bIt (bUg g nd fi lq) g lq 13 L = bIt (bUg g nd fi lq) g lq (13 - (i + 1)) L2 from by rw [hI9, bIt_s (by omega), hsp9, show 13 - i - 1 = 13 - (i + 1) by omega]), (show CI kA ad E36 RL ml nd len wn L2.length from hCI), (show CX ad E36 nd fi lq L2 from hCX2), (show F78 E E36 from hF2)⟩
    · exact W.vret hx hb hr (fun t ht hW => ⟨⟨E36, rfl, ⟨L2, hCI, hCX2, hF2, by
        have e9 : L2 = L1 := ext_len (by rw [← hsp9]; exact bO_ext (fun d L => bUg_ext)) (by omega)
        rw [hI9, e9]; exact bIt_fix (hsp9.trans e9) _⟩, by rw [ht]; exact hP, hD⟩, hS.F ht⟩) hS.2.2 xd_Ch_bind_25
