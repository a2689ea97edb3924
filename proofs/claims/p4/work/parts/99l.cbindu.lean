theorem k5o_0 : (Cond.fieldLink "LayerDesk$Chooser" 94 "LayerDesk$Descriptor" "used" "LLayerDesk$Names;") ∈ wT := wT_t (List.mem_append_right _ (List.mem_append_left _ (List.mem_of_getElem? (i := 76) rfl))) rfl
theorem k5o_1 : (Cond.fieldLink "LayerDesk$Chooser" 74 "LayerDesk$Names" "size" "I") ∈ wT := wT_t (List.mem_append_right _ (List.mem_append_left _ (List.mem_of_getElem? (i := 37) rfl))) rfl
theorem k5o_2 : (Cond.code xy_Na_at xb_Na_at 2 (some .int)) ∈ wT := wT_t (List.mem_append_right _ (List.mem_append_right _ (List.mem_append_left _ (List.mem_of_getElem? (i := 93) rfl)))) rfl
theorem k5o_3 : (Cond.methodLink "LayerDesk$Chooser" 81 xy_Na_at) ∈ wT := wT_t (List.mem_append_right _ (List.mem_append_right _ (List.mem_append_left _ (List.mem_of_getElem? (i := 90) rfl)))) rfl
theorem k5o_4 : (Cond.instanceMethod xy_Na_at) ∈ wT := wT_t (List.mem_append_right _ (List.mem_append_right _ (List.mem_append_left _ (List.mem_of_getElem? (i := 91) rfl)))) rfl
theorem k5o_5 : (Cond.selects "LayerDesk$Names" xy_Na_at xy_Na_at) ∈ wT := wT_t (List.mem_append_right _ (List.mem_append_right _ (List.mem_append_left _ (List.mem_of_getElem? (i := 92) rfl)))) rfl
theorem k5o_6 : (Cond.initialized "LayerDesk$Names") ∈ wT := wT_t (List.mem_append_left _ (List.mem_of_getElem? (i := 11) rfl)) rfl
theorem k5o_7 : (Cond.code xy_Ch_bindProvidersOf xb_Ch_bindProvidersOf 5 none) ∈ wT := wT_t (List.mem_append_right _ (List.mem_append_right _ (List.mem_append_left _ (List.mem_of_getElem? (i := 125) rfl)))) rfl
theorem k5o_8 : (Cond.methodLink "LayerDesk$Chooser" 97 xy_Ch_bindProvidersOf) ∈ wT := wT_t (List.mem_append_right _ (List.mem_append_right _ (List.mem_append_left _ (List.mem_of_getElem? (i := 122) rfl)))) rfl
theorem k5o_9 : (Cond.instanceMethod xy_Ch_bindProvidersOf) ∈ wT := wT_t (List.mem_append_right _ (List.mem_append_right _ (List.mem_append_left _ (List.mem_of_getElem? (i := 124) rfl)))) rfl
theorem k5o_10 : (Cond.selects "LayerDesk$Chooser" xy_Ch_bindProvidersOf xy_Ch_bindProvidersOf) ∈ wT := wT_s (q := (xy_Ch_bindProvidersOf, 5)) (by decide +kernel) rfl
theorem k5o_11 : (Cond.initialized "LayerDesk$Chooser") ∈ wT := wT_t (List.mem_append_left _ (List.mem_of_getElem? (i := 4) rfl)) rfl
set_option maxHeartbeats 4000000 in
set_option maxRecDepth 100000 in
theorem xc_Ch_bindUsesOfX (l : Launch) (D : va_G) (kA : Nat → ClassId) (sz : Nat) (ad : Nat → Nat → Nat) (E : Nat → Nat → va_E) (RL : List (Nat × Nat)) (g : Nat → Nat → Int32) (ml : Nat) (nd : Nat) (len : Nat) (wn : Nat) (fi : Int32) (lq : Nat) (L : List Nat) (d : Nat) (hCI : CI kA ad E RL ml nd len wn L.length) (hCX : CX ad E nd fi lq L) (hTD : TDs g E nd) (hTL : TLas g ad E nd ml) (hlqm : lq ≤ ml) (hd : d < nd) : Met l xy_Ch_bindUsesOf (.code xy_Ch_bindUsesOf xb_Ch_bindUsesOf 3 none :: wT) { frames := 20, cells := 0, slots := 0, locals := 1218 } (va_Pc [.ref (ad 0 7), .ref (ad (1 + d) 0)] (xPre D kA sz (rp ad E RL))) (va_Qv (fun (u : Nat → Nat → va_E) => ∃ L2, CI kA ad u RL ml nd len wn L2.length ∧ CX ad u nd fi lq L2 ∧ F78 E u ∧ bUg g nd fi lq d L = L2) (fun (u : Nat → Nat → va_E) t => va_P D xcl (rp ad u RL) t.heap ∧ va_D (va_A (rp ad E RL) sz) (rp ad u RL)) (va_A (rp ad E RL) sz)) 0 0 (va_A (rp ad E RL) sz) := by
  refine Met.ofW (cc := xb_Ch_bindUsesOf) (maxL := 3) (ret := none) (by decide) rfl ?_
  intro p e s m args below meth c s₁ B hml hv
  obtain ⟨rfl, hsz, hP, hK, hD0⟩ := hv
  have hx := B.exec
  have hb := B.bytes
  have hr := B.returns
  have hT := x_hT B.pre
  have hown : s.vm.findClass xR_Ch = some m.cls := findClass_of_methodNamed B.named
  have hlocks := B.notSynchronized
  subst hsz
  have hD := hD0.self (sz := s.heap.size)
  generalize hAe : va_A (rp ad E RL) s.heap.size = A at hD ⊢
  have hA : ∀ q : Nat, s.heap.size ≤ q → A q := fun q h => by rw [← hAe]; exact Or.inr h
  have hS : va_S A s.heap s.heap [] := va_S.rf
  have hl := lv_entry ([.ref (ad 0 7), .ref (ad (1 + d) 0)]) (n := 3) (Nat.le_of_ble_eq_true rfl)
  rw [lg_entry_eq]
  generalize (lg_sl ([.ref (ad 0 7), .ref (ad (1 + d) 0)]) ++ List.replicate (3 - (lg_sl ([.ref (ad 0 7), .ref (ad (1 + d) 0)])).length) Slot.unset).toArray = ls at hl ⊢
  have hl : lv_has ls 3 [(0, .ref (ad 0 7)), (1, .ref (ad (1 + d) 0))] := hl
  have hP : va_P D xcl (rp ad E RL) s.heap := hP
  obtain ⟨hmB, hDk, hLi, hSh, hCh, hLa, hDIs, hLIs⟩ := id hCI
  obtain ⟨lf_1, q_1⟩ := id (hDk)
  have c_2 : E 0 0 = .inr (0, [.ref (ad 0 1), .ref (ad 0 5), .ref (ad 0 7), .ref (ad 0 9), .int (nI ml), .int lf_1]) := q_1
  have m_3 : (0, 0) ∈ RL := hmB 0 (by omega)
  obtain ⟨tx_4, fb_4, fe_4, hl1_4, hw2_4, q1_4, q2_4, q3_4, q4_4, hws_4⟩ := id (hLi)
  have c_5 : E 0 1 = .inr (1, [.ref (ad 0 2), .ref (ad 0 3), .ref (ad 0 4), .int (nI len), .int (nI wn)]) := q1_4
  have m_6 : (0, 1) ∈ RL := hmB 1 (by omega)
  have c_7 : E 0 2 = .inl (kA 1, 40, .inl tx_4) := q2_4
  have m_8 : (0, 2) ∈ RL := hmB 2 (by omega)
  have c_9 : E 0 3 = .inl (kA 0, 20, .inl fb_4) := q3_4
  have m_10 : (0, 3) ∈ RL := hmB 3 (by omega)
  have c_11 : E 0 4 = .inl (kA 0, 20, .inl fe_4) := q4_4
  have m_12 : (0, 4) ∈ RL := hmB 4 (by omega)
  obtain ⟨fd_13, hnd_13, q5_13, q6_13, hds_13⟩ := id (hSh)
  have c_14 : E 0 5 = .inr (2, [.ref (ad 0 6), .int (nI nd)]) := q5_13
  have m_15 : (0, 5) ∈ RL := hmB 5 (by omega)
  have c_16 : E 0 6 = .inl (kA 4, 12, .inr (.inr (.inr (.inr fd_13)))) := q6_13
  have m_17 : (0, 6) ∈ RL := hmB 6 (by omega)
  obtain ⟨cf_18, pv_18, fc_18, hcs_18, hpv_18, q7_18, q8_18, hfc_18⟩ := id (hCh)
  have c_19 : E 0 7 = .inr (3, [.ref (ad 0 5), .ref (ad 0 8), .int (nI (L.length)), .int cf_18, pv_18]) := q7_18
  have m_20 : (0, 7) ∈ RL := hmB 7 (by omega)
  have c_21 : E 0 8 = .inl (kA 4, 12, .inr (.inr (.inr (.inr fc_18)))) := q8_18
  have m_22 : (0, 8) ∈ RL := hmB 8 (by omega)
  obtain ⟨fl_23, hml_23, q9_23, hla_23⟩ := id (hLa)
  have c_24 : E 0 9 = .inl (kA 5, 5, .inr (.inr (.inr (.inr fl_23)))) := q9_23
  have m_25 : (0, 9) ∈ RL := hmB 9 (by omega)
  obtain ⟨xfi_18, xpv_18, xfc_18, xGL_18⟩ := id hCX
  rw [c_19] at xfi_18 xpv_18
  rw [c_21] at xfc_18
  have xfi_18 : cf_18 = fi := xfi_18
  have xpv_18 : pv_18 = lyv ad lq := xpv_18
  have xfc_18 : ∀ k, k < L.length → fc_18 k = some (ad (1 + L.getD k 0) 0) := xfc_18
  have xln_18 := GL_len xGL_18
  refine lv_iconst (v := 0) hx hb xd_Ch_bindUsesOf_0 (by decide) ?_
  refine lv_istore_n hx hb xd_Ch_bindUsesOf_1 rfl hl (Nat.le_of_ble_eq_true rfl) rfl (fun ls hl => ?_)
  have hl : lv_has ls 3 [(2, .int 0), (0, .ref (ad 0 7)), (1, .ref (ad (1 + d) 0))] := hl
  refine xlab (σ := Nat × (Nat → Nat → va_E) × List Nat) (ml := 3) 2 (fun (i, E1, L1) => [(2, .int (nI i)), (1, .ref (ad (1 + d) 0)), (0, .ref (ad 0 7))]) (fun (i, E1, L1) => []) (fun (i, E1, L1) => rp ad E1 RL) (fun (i, E1, L1) => (i ≤ 3) ∧ (bUg g nd fi lq d L = bUs (bSv g nd fi lq) (g 14) (3 * d + 3 - (3 * d + i)) (3 * d + i) L1) ∧ (CI kA ad E1 RL ml nd len wn L1.length) ∧ (CX ad E1 nd fi lq L1) ∧ (F78 E E1)) (fun (i, E1, L1) => 3 - i) ?_ (0, E, L) _ _ _ (lv_sub hl [0, 2, 1] rfl) hP hD hS ⟨(show 0 ≤ 3 from by first | assumption | omega), (show bUg g nd fi lq d L = bUs (bSv g nd fi lq) (g 14) (3 * d + 3 - (3 * d + 0)) (3 * d + 0) L from (show bUg g nd fi lq d L = bUs (bSv g nd fi lq) (g 14) (3 * d + 3 - (3 * d + 0)) (3 * d + 0) L from by rw [show 3 * d + 3 - (3 * d + 0) = 3 by omega]; rfl)), (show CI kA ad E RL ml nd len wn L.length from hCI), (show CX ad E nd fi lq L from hCX), (show F78 E E from F78_rf)⟩
  intro n9 ih26 a9 ls H locs hμ hl hP hD hS hI
  subst hμ
  obtain ⟨i, E1, L1⟩ := a9
  obtain ⟨hi, hU, hCI, hCX1, hF1⟩ := hI
  have hi : i ≤ 3 := hi
  have hU : bUg g nd fi lq d L = bUs (bSv g nd fi lq) (g 14) (3 * d + 3 - (3 * d + i)) (3 * d + i) L1 := hU
  have hCI : CI kA ad E1 RL ml nd len wn L1.length := hCI
  have hCX1 : CX ad E1 nd fi lq L1 := hCX1
  have hF1 : F78 E E1 := hF1
  have hl : lv_has ls 3 [(2, .int (nI i)), (1, .ref (ad (1 + d) 0)), (0, .ref (ad 0 7))] := hl
  have hP : va_P D xcl (rp ad E1 RL) H := hP
  have hD : va_D A (rp ad E1 RL) := hD
  obtain ⟨hmB, hDk, hLi, hSh, hCh, hLa, hDIs, hLIs⟩ := id hCI
  obtain ⟨fd_27, hnd_27, q5_27, q6_27, hds_27⟩ := id (hSh)
  have c_28 : E1 0 5 = .inr (2, [.ref (ad 0 6), .int (nI nd)]) := q5_27
  have m_29 : (0, 5) ∈ RL := hmB 5 (by omega)
  have c_30 : E1 0 6 = .inl (kA 4, 12, .inr (.inr (.inr (.inr fd_27)))) := q6_27
  have m_31 : (0, 6) ∈ RL := hmB 6 (by omega)
  have hTD1 : TDs g E1 nd := TDs_78 hF1 hTD
  have hTL1 : TLas g ad E1 nd ml := TLas_78 hF1 hTL
  refine lv_iload_n hx hb xd_Ch_bindUsesOf_2 rfl (lv_at hl 0 rfl) ?_
  refine lv_aload_n hx hb xd_Ch_bindUsesOf_3 rfl (lv_at hl 1 rfl) ?_
  obtain ⟨hm_32, fd_32, nm_32, sd_32, k0_32, k1_32, k2_32, k3_32, f0_32, f1_32, f2_32, f3_32, fe_32, fo_32, tr_32, op_32, hk0_32, hk1_32, hk2_32, hk3_32, q0_32, q1_32, q2_32, q3_32, q4_32, q5_32, q6_32, q7_32, q8_32, q9_32, q10_32, q11_32, q12_32, hg_32⟩ := id (hDIs d (by omega))
  have c_33 : E1 (1 + d) 0 = .inr (7, [.int (nI d), .int fd_32, .int nm_32, .ref (ad (1 + d) 1), .ref (ad (1 + d) 9), .ref (ad (1 + d) 10), .ref (ad (1 + d) 2), .ref (ad (1 + d) 11), .ref (ad (1 + d) 12), .ref (ad (1 + d) 3), .ref (ad (1 + d) 4), .int sd_32]) := q0_32
  have m_34 : (1 + d, 0) ∈ RL := hm_32 0 (by omega)
  have c_35 : E1 (1 + d) 1 = .inr (8, [.ref (ad (1 + d) 5), .int (nI k0_32)]) := q1_32
  have m_36 : (1 + d, 1) ∈ RL := hm_32 1 (by omega)
  have c_37 : E1 (1 + d) 2 = .inr (8, [.ref (ad (1 + d) 6), .int (nI k1_32)]) := q2_32
  have m_38 : (1 + d, 2) ∈ RL := hm_32 2 (by omega)
  have c_39 : E1 (1 + d) 3 = .inr (8, [.ref (ad (1 + d) 7), .int (nI k2_32)]) := q3_32
  have m_40 : (1 + d, 3) ∈ RL := hm_32 3 (by omega)
  have c_41 : E1 (1 + d) 4 = .inr (8, [.ref (ad (1 + d) 8), .int (nI k3_32)]) := q4_32
  have m_42 : (1 + d, 4) ∈ RL := hm_32 4 (by omega)
  have c_43 : E1 (1 + d) 5 = .inl (kA 0, 6, .inl f0_32) := q5_32
  have m_44 : (1 + d, 5) ∈ RL := hm_32 5 (by omega)
  have c_45 : E1 (1 + d) 6 = .inl (kA 0, 5, .inl f1_32) := q6_32
  have m_46 : (1 + d, 6) ∈ RL := hm_32 6 (by omega)
  have c_47 : E1 (1 + d) 7 = .inl (kA 0, 3, .inl f2_32) := q7_32
  have m_48 : (1 + d, 7) ∈ RL := hm_32 7 (by omega)
  have c_49 : E1 (1 + d) 8 = .inl (kA 0, 3, .inl f3_32) := q8_32
  have m_50 : (1 + d, 8) ∈ RL := hm_32 8 (by omega)
  have c_51 : E1 (1 + d) 9 = .inl (kA 8, 6, .inr (.inr (.inr (.inr fe_32)))) := q9_32
  have m_52 : (1 + d, 9) ∈ RL := hm_32 9 (by omega)
  have c_53 : E1 (1 + d) 10 = .inl (kA 8, 6, .inr (.inr (.inr (.inr fo_32)))) := q10_32
  have m_54 : (1 + d, 10) ∈ RL := hm_32 10 (by omega)
  have c_55 : E1 (1 + d) 11 = .inl (kA 2, 5, .inl tr_32) := q11_32
  have m_56 : (1 + d, 11) ∈ RL := hm_32 11 (by omega)
  have c_57 : E1 (1 + d) 12 = .inl (kA 2, 5, .inl op_32) := q12_32
  have m_58 : (1 + d, 12) ∈ RL := hm_32 12 (by omega)
  have hg_32 : ∀ w9, w9 < k0_32 → fe_32 w9 = some (ad (1 + d) (20 + 3 * w9)) ∧ fo_32 w9 = some (ad (1 + d) (38 + 3 * w9)) ∧ GI kA (ad (1 + d)) (E1 (1 + d)) (fun o => (1 + d, o) ∈ RL) (20 + 3 * w9) (21 + 3 * w9) (22 + 3 * w9) ∧ GI kA (ad (1 + d)) (E1 (1 + d)) (fun o => (1 + d, o) ∈ RL) (38 + 3 * w9) (39 + 3 * w9) (40 + 3 * w9) := hg_32
  obtain ⟨hTT_32, tgr_32⟩ := TD_get hk0_32 hk1_32 hk2_32 hk3_32 c_33 c_35 c_37 c_39 c_41 c_43 c_45 c_47 c_49 c_55 c_57 (hTD1 d (by omega))
  obtain ⟨tfd_32, tnm_32, tsd_32, tk0_32, tf0_32, tk1_32, tf1_32, tk2_32, tk3_32⟩ := id hTT_32
  have ik0_32 : iN (g 5 d) = k0_32 := by rw [← tk0_32, iN_nI (by omega)]
  have ik1_32 : iN (g 12 d) = k1_32 := by rw [← tk1_32, iN_nI (by omega)]
  refine px_get (D := D) (ci := 7) (v := .ref (ad (1 + d) 3)) (C := xR_Ds) (T := xT_Ds) (N := 12) hx hb hT xi_Ds hown hK.1 hP m_34 c_33 rfl 9 (by decide) (hT _ k5o_0) (fun _ h9 => h9) rfl xd_Ch_bindUsesOf_4 ?_
  refine px_get (D := D) (ci := 8) (v := .int (nI k2_32)) (C := xR_Na) (T := xT_Na) (N := 2) hx hb hT xi_Na hown hK.1 hP m_40 c_39 rfl 1 (by decide) (hT _ k5o_1) (fun _ h9 => h9) rfl xd_Ch_bindUsesOf_7 ?_
  refine xn_ge (a := i) (b := k2_32) (tgt := 31) hx hb xd_Ch_bindUsesOf_10 (by decide) (by omega) (by omega) (fun hc59 => ?_) (fun hc59 => ?_)
  · exact W.vret hx hb hr (fun t ht hW => ⟨⟨E1, rfl, ⟨L1, hCI, hCX1, hF1, by rw [hU, bUs_z _ _ _ (fun j h1 h2 => by
        have q := (tk2_32 (j - 3 * d) (by omega)).2 (by omega)
        have q2 : g 14 j = 0 := by rw [← show 3 * d + (j - 3 * d) = j by omega]; exact q
        rw [q2]; decide)]⟩, by rw [ht]; exact hP, hD⟩, hS.F ht⟩) hS.2.2 xd_Ch_bindUsesOf_31
  · refine lv_aload_n hx hb xd_Ch_bindUsesOf_13 rfl (lv_at hl 2 rfl) ?_
    refine lv_aload_n hx hb xd_Ch_bindUsesOf_14 rfl (lv_at hl 1 rfl) ?_
    refine px_get (D := D) (ci := 7) (v := .ref (ad (1 + d) 3)) (C := xR_Ds) (T := xT_Ds) (N := 12) hx hb hT xi_Ds hown hK.1 hP m_34 c_33 rfl 9 (by decide) (hT _ k5o_0) (fun _ h9 => h9) rfl xd_Ch_bindUsesOf_15 ?_
    refine lv_iload_n hx hb xd_Ch_bindUsesOf_18 rfl (lv_at hl 0 rfl) ?_
    have hFc := px_free hD hS hA
    refine va_calli (va_runV (As := [.int (nI i)]) (rest := [.ref (ad 0 7)]) ⟨hx, hb, hml, hown, hT⟩ (xc_Na_at l D kA H.size ad E1 RL (1 + d) 3 7 3 k2_32 f2_32 i m_40 c_39 m_48 c_47 (by first | assumption | omega) (by first | assumption | omega) (by first | assumption | omega)) (cwV 1 hT (wT_V k5o_3 k5o_4 k5o_5 k5o_6 k5o_2) rfl rfl rfl (by decide +kernel) ⟨Nat.le_of_ble_eq_true rfl, Nat.le_of_ble_eq_true rfl⟩) (px_preV hK hP hD m_40 c_39 rfl) rfl rfl hl.1 rfl (lv_room (Nat.le_of_ble_eq_true rfl)) xd_Ch_bindUsesOf_19 ⟨(Nat.le_of_ble_eq_true rfl), (Nat.le_of_ble_eq_true rfl)⟩) hS (fun q _ h => hFc q h) hFc (fun r60 u61 t H1 locs ht hvm hp62 hB hz1 hk1 hS => ?_)
    obtain ⟨hP1, hD1⟩ := hB
    rw [ht] at hP1
    have hD1 := hD1.weaken (fun _ _ _ h => hFc _ h)
    generalize H1 = H at hP1 hS ⊢
    have hP := hP1
    have hD := hD1
    have hP : va_P D xcl (rp ad E1 RL) H := hP
    have hD : va_D A (rp ad E1 RL) := hD
    have hp62 : r60 = g 14 (3 * d + i) := by
      rcases hp62 with ⟨q, q2⟩ | ⟨q, _⟩
      · rw [q2]; exact ((tk2_32 i (by omega)).1 q).1
      · omega
    subst hp62
    have hP : va_P D xcl (rp ad E1 RL) H := hP
    have hD : va_D A (rp ad E1 RL) := hD
    have hFc := px_free hD hS hA
    obtain ⟨cf_63, pv_63, fc_63, hcs_63, hpv_63, q7_63, q8_63, hfc_63⟩ := id (hCh)
    have c_64 : E1 0 7 = .inr (3, [.ref (ad 0 5), .ref (ad 0 8), .int (nI (L1.length)), .int cf_63, pv_63]) := q7_63
    have m_65 : (0, 7) ∈ RL := hmB 7 (by omega)
    have c_66 : E1 0 8 = .inl (kA 4, 12, .inr (.inr (.inr (.inr fc_63)))) := q8_63
    have m_67 : (0, 8) ∈ RL := hmB 8 (by omega)
    refine va_callv (va_runV (As := [.int (g 14 (3 * d + i))]) (rest := []) ⟨hx, hb, hml, hown, hT⟩ (xc_Ch_bindProvidersOfX l D kA H.size ad E1 RL g ml nd len wn fi lq L1 (g 14 (3 * d + i)) (by first | assumption | omega) hCX1 hTD1 hTL1 (by first | assumption | omega) (((tk2_32 i (by omega)).1 (by omega)).2)) (cwV 1 hT (wT_V k5o_8 k5o_9 k5o_10 k5o_11 k5o_7) rfl rfl rfl (by decide +kernel) ⟨Nat.le_of_ble_eq_true rfl, Nat.le_of_ble_eq_true rfl⟩) (px_preV hK hP hD m_65 c_64 rfl) rfl rfl hl.1 rfl (lv_room (Nat.le_of_ble_eq_true rfl)) xd_Ch_bindUsesOf_22 ⟨(Nat.le_of_ble_eq_true rfl), (Nat.le_of_ble_eq_true rfl)⟩) hS (fun q _ h => hFc q h) hFc (fun u69 t H1 locs ht hvm hp70 hB hz1 hk1 hS => ?_)
    obtain ⟨hP1, hD1⟩ := hB
    rw [ht] at hP1
    have hD1 := hD1.weaken (fun _ _ _ h => hFc _ h)
    generalize H1 = H at hP1 hS ⊢
    have hP := hP1
    have hD := hD1
    obtain ⟨E71, rfl⟩ : ∃ z, z = u69 := ⟨_, rfl⟩
    have hP : va_P D xcl (rp ad E71 RL) H := hP
    have hD : va_D A (rp ad E71 RL) := hD
    obtain ⟨L2, hCI, hCX2, hF9, hsp9⟩ := hp70
    have hCI : CI kA ad E71 RL ml nd len wn L2.length := hCI
    have hF2 : F78 E E71 := F78_tr hF1 hF9
    obtain ⟨hmB, hDk, hLi, hSh, hCh, hLa, hDIs, hLIs⟩ := id hCI
    refine lv_iinc (k := 0) (x := (nI i)) (v := (nI (i + 1))) hx hb xd_Ch_bindUsesOf_25 hl rfl (xb_inc i 1) (Nat.le_of_ble_eq_true rfl) rfl (fun ls hl => ?_)
    have hl : lv_has ls 3 [(2, .int (nI (i + 1))), (1, .ref (ad (1 + d) 0)), (0, .ref (ad 0 7))] := hl
    refine lv_goto (tgt := 2) hx hb xd_Ch_bindUsesOf_28 (by decide) ?_
    exact ih26 (i + 1, E71, L2) _ _ _ (show 3 - (i + 1) < 3 - i by omega) (lv_sub hl [0, 1, 2] rfl) hP hD hS ⟨(show (i + 1) ≤ 3 from by first | assumption | omega), (show bUg g nd fi lq d L = bUs (bSv g nd fi lq) (g 14) (3 * d + 3 - (3 * d + (i + 1))) (3 * d + (i + 1)) L2 from by rw [hU, bUs_s (by omega), cif_pos ((tk2_32 i (by omega)).1 (by omega)).2, hsp9]; rfl), (show CI kA ad E71 RL ml nd len wn L2.length from hCI), (show CX ad E71 nd fi lq L2 from hCX2), (show F78 E E71 from hF2)⟩
