theorem k5y_0 : (Cond.fieldLink "LayerDesk$Member" 21 "LayerDesk$Member" "reading" "LLayerDesk$Reach;") ∈ wT := wT_t (List.mem_append_right _ (List.mem_append_right _ (List.mem_append_left _ (List.mem_of_getElem? (i := 191) rfl)))) rfl
theorem k5y_1 : (Cond.code xy_Re_marks xb_Re_marks 2 (some .boolean)) ∈ wT := wT_t (List.mem_append_left _ (List.mem_of_getElem? (i := 177) rfl)) rfl
theorem k5y_2 : (Cond.methodLink "LayerDesk$Member" 78 xy_Re_marks) ∈ wT := wT_t (List.mem_append_right _ (List.mem_append_right _ (List.mem_append_right _ (List.mem_append_left _ (List.mem_of_getElem? (i := 16) rfl))))) rfl
theorem k5y_3 : (Cond.instanceMethod xy_Re_marks) ∈ wT := wT_t (List.mem_append_left _ (List.mem_of_getElem? (i := 175) rfl)) rfl
theorem k5y_4 : (Cond.selects "LayerDesk$Reach" xy_Re_marks xy_Re_marks) ∈ wT := wT_t (List.mem_append_left _ (List.mem_of_getElem? (i := 176) rfl)) rfl
theorem k5y_5 : (Cond.initialized "LayerDesk$Reach") ∈ wT := wT_t (List.mem_append_left _ (List.mem_of_getElem? (i := 21) rfl)) rfl
theorem k5y_6 : (Cond.fieldLink "LayerDesk$Member" 28 "LayerDesk$Member" "descriptor" "LLayerDesk$Descriptor;") ∈ wT := wT_t (List.mem_append_right _ (List.mem_append_right _ (List.mem_append_left _ (List.mem_of_getElem? (i := 181) rfl)))) rfl
theorem k5y_7 : (Cond.fieldLink "LayerDesk$Member" 92 "LayerDesk$Descriptor" "packages" "LLayerDesk$Names;") ∈ wT := wT_t (List.mem_append_right _ (List.mem_append_left _ (List.mem_of_getElem? (i := 61) rfl))) rfl
theorem k5y_8 : (Cond.fieldLink "LayerDesk$Member" 38 "LayerDesk$Names" "size" "I") ∈ wT := wT_t (List.mem_append_right _ (List.mem_append_left _ (List.mem_of_getElem? (i := 35) rfl))) rfl
theorem k5y_9 : (Cond.code xy_Na_at xb_Na_at 2 (some .int)) ∈ wT := wT_t (List.mem_append_right _ (List.mem_append_right _ (List.mem_append_left _ (List.mem_of_getElem? (i := 93) rfl)))) rfl
theorem k5y_10 : (Cond.methodLink "LayerDesk$Member" 47 xy_Na_at) ∈ wT := wT_t (List.mem_append_right _ (List.mem_append_right _ (List.mem_append_left _ (List.mem_of_getElem? (i := 216) rfl)))) rfl
theorem k5y_11 : (Cond.instanceMethod xy_Na_at) ∈ wT := wT_t (List.mem_append_right _ (List.mem_append_right _ (List.mem_append_left _ (List.mem_of_getElem? (i := 91) rfl)))) rfl
theorem k5y_12 : (Cond.selects "LayerDesk$Names" xy_Na_at xy_Na_at) ∈ wT := wT_t (List.mem_append_right _ (List.mem_append_right _ (List.mem_append_left _ (List.mem_of_getElem? (i := 92) rfl)))) rfl
theorem k5y_13 : (Cond.initialized "LayerDesk$Names") ∈ wT := wT_t (List.mem_append_left _ (List.mem_of_getElem? (i := 11) rfl)) rfl
theorem k5y_14 : (Cond.fieldLink "LayerDesk$Member" 82 "LayerDesk$Descriptor" "name" "I") ∈ wT := wT_t (List.mem_append_right _ (List.mem_append_left _ (List.mem_of_getElem? (i := 57) rfl))) rfl
theorem k5y_15 : (Cond.code xy_Ds_exportsTo xb_Ds_exportsTo 4 (some .boolean)) ∈ wT := wT_t (List.mem_append_right _ (List.mem_append_right _ (List.mem_append_right _ (List.mem_append_left _ (List.mem_of_getElem? (i := 20) rfl))))) rfl
theorem k5y_16 : (Cond.methodLink "LayerDesk$Member" 85 xy_Ds_exportsTo) ∈ wT := wT_t (List.mem_append_right _ (List.mem_append_right _ (List.mem_append_right _ (List.mem_append_left _ (List.mem_of_getElem? (i := 17) rfl))))) rfl
theorem k5y_17 : (Cond.instanceMethod xy_Ds_exportsTo) ∈ wT := wT_t (List.mem_append_right _ (List.mem_append_right _ (List.mem_append_right _ (List.mem_append_left _ (List.mem_of_getElem? (i := 18) rfl))))) rfl
theorem k5y_18 : (Cond.selects "LayerDesk$Descriptor" xy_Ds_exportsTo xy_Ds_exportsTo) ∈ wT := wT_t (List.mem_append_right _ (List.mem_append_right _ (List.mem_append_right _ (List.mem_append_left _ (List.mem_of_getElem? (i := 19) rfl))))) rfl
theorem k5y_19 : (Cond.initialized "LayerDesk$Descriptor") ∈ wT := wT_t (List.mem_append_left _ (List.mem_of_getElem? (i := 10) rfl)) rfl
theorem k5y_20 : (Cond.code xy_Na_holds xb_Na_holds 2 (some .boolean)) ∈ wT := wT_t (List.mem_append_right _ (List.mem_append_left _ (List.mem_of_getElem? (i := 123) rfl))) rfl
theorem k5y_21 : (Cond.methodLink "LayerDesk$Member" 95 xy_Na_holds) ∈ wT := wT_t (List.mem_append_right _ (List.mem_append_right _ (List.mem_append_right _ (List.mem_append_left _ (List.mem_of_getElem? (i := 22) rfl))))) rfl
theorem k5y_22 : (Cond.instanceMethod xy_Na_holds) ∈ wT := wT_t (List.mem_append_right _ (List.mem_append_left _ (List.mem_of_getElem? (i := 121) rfl))) rfl
theorem k5y_23 : (Cond.selects "LayerDesk$Names" xy_Na_holds xy_Na_holds) ∈ wT := wT_t (List.mem_append_right _ (List.mem_append_left _ (List.mem_of_getElem? (i := 122) rfl))) rfl
theorem k5y_24 : (Cond.code xy_Me_sourceOf xb_Me_sourceOf 5 (some (.object "LayerDesk$Member"))) ∈ wT := wT_t (List.mem_append_right _ (List.mem_append_right _ (List.mem_append_right _ (List.mem_append_left _ (List.mem_of_getElem? (i := 26) rfl))))) rfl
theorem k5y_25 : (Cond.methodLink "LayerDesk$Member" 99 xy_Me_sourceOf) ∈ wT := wT_t (List.mem_append_right _ (List.mem_append_right _ (List.mem_append_right _ (List.mem_append_left _ (List.mem_of_getElem? (i := 23) rfl))))) rfl
theorem k5y_26 : (Cond.instanceMethod xy_Me_sourceOf) ∈ wT := wT_t (List.mem_append_right _ (List.mem_append_right _ (List.mem_append_right _ (List.mem_append_left _ (List.mem_of_getElem? (i := 24) rfl))))) rfl
theorem k5y_27 : (Cond.selects "LayerDesk$Member" xy_Me_sourceOf xy_Me_sourceOf) ∈ wT := wT_t (List.mem_append_right _ (List.mem_append_right _ (List.mem_append_right _ (List.mem_append_left _ (List.mem_of_getElem? (i := 25) rfl))))) rfl
theorem k5y_28 : (Cond.initialized "LayerDesk$Member") ∈ wT := wT_t (List.mem_append_left _ (List.mem_of_getElem? (i := 20) rfl)) rfl
set_option maxHeartbeats 4000000 in
set_option maxRecDepth 100000 in
theorem xc_Me_isSplitByX (l : Launch) (D : va_G) (kA : Nat → ClassId) (sz : Nat) (ad : Nat → Nat → Nat) (E : Nat → Nat → va_E) (RL : List (Nat × Nat)) (g : Nat → Nat → Int32) (nd : Nat) (nL : Nat) (n : Nat) (k : Nat) (n2 : Nat) (k2 : Nat) (hDIs : DIs kA ad E RL nd) (hLIs : LIs kA ad E RL nd nL) (hnL : nL ≤ 6) (hn : n < nL) (hTD : TDs g E nd) (hTL : TLas g ad E nd nL) (hnd12 : nd ≤ 12) (hME : MEI kA ad E RL nd n k) (hkm : k < iN (g 20 n)) (hNZ : NZ g nd) (hn2 : n2 < nL) (hME2 : MEI kA ad E RL nd n2 k2) (hkm2 : k2 < iN (g 20 n2)) : Met l xy_Me_isSplitBy (.code xy_Me_isSplitBy xb_Me_isSplitBy 5 (some .boolean) :: wT) { frames := 4, cells := 0, slots := 0, locals := 90 } (va_Pc [.ref (ad (20 + n) (10 + 10 * k)), .ref (ad (20 + n2) (10 + 10 * k2))] (xPre D kA sz (rp ad E RL))) (va_Qi (fun (r : Int32) (u : Unit) => (r = 1 ∧ SB g (RWb E n k) n (mdv g n k) n2 k2) ∨ (r = 0 ∧ ¬ SB g (RWb E n k) n (mdv g n k) n2 k2)) (fun (u : Unit) t => va_P D xcl (rp ad E RL) t.heap ∧ va_D (va_A (rp ad E RL) sz) (rp ad E RL)) (va_A (rp ad E RL) sz)) 0 0 (va_A (rp ad E RL) sz) := by
  refine Met.ofW (cc := xb_Me_isSplitBy) (maxL := 5) (ret := (some .boolean)) (by decide) rfl ?_
  intro p e s m args below meth c s₁ B hml hv
  obtain ⟨rfl, hsz, hP, hK, hD0⟩ := hv
  have hx := B.exec
  have hb := B.bytes
  have hr := B.returns
  have hT := x_hT B.pre
  have hown : s.vm.findClass xR_Me = some m.cls := findClass_of_methodNamed B.named
  have hlocks := B.notSynchronized
  subst hsz
  have hD := hD0.self (sz := s.heap.size)
  generalize hAe : va_A (rp ad E RL) s.heap.size = A at hD ⊢
  have hA : ∀ q : Nat, s.heap.size ≤ q → A q := fun q h => by rw [← hAe]; exact Or.inr h
  have hS : va_S A s.heap s.heap [] := va_S.rf
  have hl := lv_entry ([.ref (ad (20 + n) (10 + 10 * k)), .ref (ad (20 + n2) (10 + 10 * k2))]) (n := 5) (Nat.le_of_ble_eq_true rfl)
  rw [lg_entry_eq]
  generalize (lg_sl ([.ref (ad (20 + n) (10 + 10 * k)), .ref (ad (20 + n2) (10 + 10 * k2))]) ++ List.replicate (5 - (lg_sl ([.ref (ad (20 + n) (10 + 10 * k)), .ref (ad (20 + n2) (10 + 10 * k2))])).length) Slot.unset).toArray = ls at hl ⊢
  have hl : lv_has ls 5 [(0, .ref (ad (20 + n) (10 + 10 * k))), (1, .ref (ad (20 + n2) (10 + 10 * k2)))] := hl
  have hP : va_P D xcl (rp ad E RL) s.heap := hP
  obtain ⟨m0_1, m1_1, pv_1, op_1, mk_1, fm_1, hmk_1, hpv_1, q0_1, q1_1, hk_1⟩ := id (hLIs n (by omega))
  have c_2 : E (20 + n) 0 = .inr (5, [.int (nI n), pv_1, .ref (ad (20 + n) 1), .int op_1]) := q0_1
  have m_3 : (20 + n, 0) ∈ RL := m0_1
  have c_4 : E (20 + n) 1 = .inl (kA 6, mk_1, .inr (.inr (.inr (.inr fm_1)))) := q1_1
  have m_5 : (20 + n, 1) ∈ RL := m1_1
  obtain ⟨top_1, ⟨lq_1, hlq_1, h19_1, hpv2_1⟩, h20_1, tmd_1⟩ := TLa_get c_2 c_4 (hTL n (by omega))
  have c_6 : E (20 + n) 0 = .inr (5, [.int (nI n), (lyv ad lq_1), .ref (ad (20 + n) 1), .int op_1]) := by rw [← hpv2_1]; exact c_2
  have i20_1 : iN (g 20 n) = mk_1 := by rw [h20_1, iN_nI (by omega)]
  have hkq : k < mk_1 := by have q := hkm; rw [i20_1] at q; exact q
  obtain ⟨hm_7, d_7, rs_7, fr_7, g2_7, g3_7, g4_7, hd_7, hrs_7, q0_7, q1_7, q2_7, q3_7, q4_7, q5_7, q6_7, q7_7⟩ := id hME
  have c_8 : E (20 + n) (10 + 10 * k) = .inr (6, [.ref (ad (20 + n) 0), .ref (ad (1 + d_7) 0), .ref (ad (20 + n) (11 + 10 * k)), .ref (ad (20 + n) (12 + 10 * k)), .ref (ad (20 + n) (13 + 10 * k)), .ref (ad (20 + n) (14 + 10 * k))]) := q0_7
  have m_9 : (20 + n, 10 + 10 * k) ∈ RL := hm_7 0 (by omega)
  have c_10 : E (20 + n) (11 + 10 * k) = .inl (kA 6, rs_7, .inr (.inr (.inr (.inr fr_7)))) := q1_7
  have m_11 : (20 + n, 11 + 10 * k) ∈ RL := hm_7 1 (by omega)
  have c_12 : E (20 + n) (12 + 10 * k) = .inr (10, [.ref (ad (20 + n) (15 + 10 * k))]) := q2_7
  have m_13 : (20 + n, 12 + 10 * k) ∈ RL := hm_7 2 (by omega)
  have c_14 : E (20 + n) (13 + 10 * k) = .inr (10, [.ref (ad (20 + n) (16 + 10 * k))]) := q3_7
  have m_15 : (20 + n, 13 + 10 * k) ∈ RL := hm_7 3 (by omega)
  have c_16 : E (20 + n) (14 + 10 * k) = .inr (10, [.ref (ad (20 + n) (17 + 10 * k))]) := q4_7
  have m_17 : (20 + n, 14 + 10 * k) ∈ RL := hm_7 4 (by omega)
  have c_18 : E (20 + n) (15 + 10 * k) = .inl (kA 0, 6, .inl g2_7) := q5_7
  have m_19 : (20 + n, 15 + 10 * k) ∈ RL := hm_7 5 (by omega)
  have c_20 : E (20 + n) (16 + 10 * k) = .inl (kA 0, 6, .inl g3_7) := q6_7
  have m_21 : (20 + n, 16 + 10 * k) ∈ RL := hm_7 6 (by omega)
  have c_22 : E (20 + n) (17 + 10 * k) = .inl (kA 0, 6, .inl g4_7) := q7_7
  have m_23 : (20 + n, 17 + 10 * k) ∈ RL := hm_7 7 (by omega)
  have hdm_7 : mdv g n k = d_7 := by
    obtain ⟨dz, hdz, h21z, hvz⟩ := tmd_1 k (by omega)
    rw [c_8] at hvz
    have ez := (rp_inj hD ((hDIs d_7 hd_7).1 0 (by omega)) ((hDIs dz hdz).1 0 (by omega)) (Value.ref.inj hvz)).1
    unfold mdv
    rw [h21z, iN_nI (by omega)]; omega
  obtain ⟨hm_24, fd_24, nm_24, sd_24, k0_24, k1_24, k2_24, k3_24, f0_24, f1_24, f2_24, f3_24, fe_24, fo_24, tr_24, op_24, hk0_24, hk1_24, hk2_24, hk3_24, q0_24, q1_24, q2_24, q3_24, q4_24, q5_24, q6_24, q7_24, q8_24, q9_24, q10_24, q11_24, q12_24, hg_24⟩ := id (hDIs d_7 (by omega))
  have c_25 : E (1 + d_7) 0 = .inr (7, [.int (nI d_7), .int fd_24, .int nm_24, .ref (ad (1 + d_7) 1), .ref (ad (1 + d_7) 9), .ref (ad (1 + d_7) 10), .ref (ad (1 + d_7) 2), .ref (ad (1 + d_7) 11), .ref (ad (1 + d_7) 12), .ref (ad (1 + d_7) 3), .ref (ad (1 + d_7) 4), .int sd_24]) := q0_24
  have m_26 : (1 + d_7, 0) ∈ RL := hm_24 0 (by omega)
  have c_27 : E (1 + d_7) 1 = .inr (8, [.ref (ad (1 + d_7) 5), .int (nI k0_24)]) := q1_24
  have m_28 : (1 + d_7, 1) ∈ RL := hm_24 1 (by omega)
  have c_29 : E (1 + d_7) 2 = .inr (8, [.ref (ad (1 + d_7) 6), .int (nI k1_24)]) := q2_24
  have m_30 : (1 + d_7, 2) ∈ RL := hm_24 2 (by omega)
  have c_31 : E (1 + d_7) 3 = .inr (8, [.ref (ad (1 + d_7) 7), .int (nI k2_24)]) := q3_24
  have m_32 : (1 + d_7, 3) ∈ RL := hm_24 3 (by omega)
  have c_33 : E (1 + d_7) 4 = .inr (8, [.ref (ad (1 + d_7) 8), .int (nI k3_24)]) := q4_24
  have m_34 : (1 + d_7, 4) ∈ RL := hm_24 4 (by omega)
  have c_35 : E (1 + d_7) 5 = .inl (kA 0, 6, .inl f0_24) := q5_24
  have m_36 : (1 + d_7, 5) ∈ RL := hm_24 5 (by omega)
  have c_37 : E (1 + d_7) 6 = .inl (kA 0, 5, .inl f1_24) := q6_24
  have m_38 : (1 + d_7, 6) ∈ RL := hm_24 6 (by omega)
  have c_39 : E (1 + d_7) 7 = .inl (kA 0, 3, .inl f2_24) := q7_24
  have m_40 : (1 + d_7, 7) ∈ RL := hm_24 7 (by omega)
  have c_41 : E (1 + d_7) 8 = .inl (kA 0, 3, .inl f3_24) := q8_24
  have m_42 : (1 + d_7, 8) ∈ RL := hm_24 8 (by omega)
  have c_43 : E (1 + d_7) 9 = .inl (kA 8, 6, .inr (.inr (.inr (.inr fe_24)))) := q9_24
  have m_44 : (1 + d_7, 9) ∈ RL := hm_24 9 (by omega)
  have c_45 : E (1 + d_7) 10 = .inl (kA 8, 6, .inr (.inr (.inr (.inr fo_24)))) := q10_24
  have m_46 : (1 + d_7, 10) ∈ RL := hm_24 10 (by omega)
  have c_47 : E (1 + d_7) 11 = .inl (kA 2, 5, .inl tr_24) := q11_24
  have m_48 : (1 + d_7, 11) ∈ RL := hm_24 11 (by omega)
  have c_49 : E (1 + d_7) 12 = .inl (kA 2, 5, .inl op_24) := q12_24
  have m_50 : (1 + d_7, 12) ∈ RL := hm_24 12 (by omega)
  have hg_24 : ∀ w9, w9 < k0_24 → fe_24 w9 = some (ad (1 + d_7) (20 + 3 * w9)) ∧ fo_24 w9 = some (ad (1 + d_7) (38 + 3 * w9)) ∧ GI kA (ad (1 + d_7)) (E (1 + d_7)) (fun o => (1 + d_7, o) ∈ RL) (20 + 3 * w9) (21 + 3 * w9) (22 + 3 * w9) ∧ GI kA (ad (1 + d_7)) (E (1 + d_7)) (fun o => (1 + d_7, o) ∈ RL) (38 + 3 * w9) (39 + 3 * w9) (40 + 3 * w9) := hg_24
  obtain ⟨hTT_24, tgr_24⟩ := TD_get hk0_24 hk1_24 hk2_24 hk3_24 c_25 c_27 c_29 c_31 c_33 c_35 c_37 c_39 c_41 c_47 c_49 (hTD d_7 (by omega))
  obtain ⟨tfd_24, tnm_24, tsd_24, tk0_24, tf0_24, tk1_24, tf1_24, tk2_24, tk3_24⟩ := id hTT_24
  have ik0_24 : iN (g 5 d_7) = k0_24 := by rw [← tk0_24, iN_nI (by omega)]
  have ik1_24 : iN (g 12 d_7) = k1_24 := by rw [← tk1_24, iN_nI (by omega)]
  have hrow : ∀ t, RWb E n k t ↔ BS g4_7 t := fun t => by unfold RWb; rw [c_22]; rfl
  have hrd0 : ¬ nm_24 = 0 := by rw [tnm_24]; exact hNZ _ hd_7
  obtain ⟨m0_51, m1_51, pv_51, op_51, mk_51, fm_51, hmk_51, hpv_51, q0_51, q1_51, hk_51⟩ := id (hLIs n2 (by omega))
  have c_52 : E (20 + n2) 0 = .inr (5, [.int (nI n2), pv_51, .ref (ad (20 + n2) 1), .int op_51]) := q0_51
  have m_53 : (20 + n2, 0) ∈ RL := m0_51
  have c_54 : E (20 + n2) 1 = .inl (kA 6, mk_51, .inr (.inr (.inr (.inr fm_51)))) := q1_51
  have m_55 : (20 + n2, 1) ∈ RL := m1_51
  obtain ⟨top_51, ⟨lq_51, hlq_51, h19_51, hpv2_51⟩, h20_51, tmd_51⟩ := TLa_get c_52 c_54 (hTL n2 (by omega))
  have c_56 : E (20 + n2) 0 = .inr (5, [.int (nI n2), (lyv ad lq_51), .ref (ad (20 + n2) 1), .int op_51]) := by rw [← hpv2_51]; exact c_52
  have i20_51 : iN (g 20 n2) = mk_51 := by rw [h20_51, iN_nI (by omega)]
  have hkq2 : k2 < mk_51 := by have q := hkm2; rw [i20_51] at q; exact q
  obtain ⟨hm_57, d_57, rs_57, fr_57, g2_57, g3_57, g4_57, hd_57, hrs_57, q0_57, q1_57, q2_57, q3_57, q4_57, q5_57, q6_57, q7_57⟩ := id hME2
  have c_58 : E (20 + n2) (10 + 10 * k2) = .inr (6, [.ref (ad (20 + n2) 0), .ref (ad (1 + d_57) 0), .ref (ad (20 + n2) (11 + 10 * k2)), .ref (ad (20 + n2) (12 + 10 * k2)), .ref (ad (20 + n2) (13 + 10 * k2)), .ref (ad (20 + n2) (14 + 10 * k2))]) := q0_57
  have m_59 : (20 + n2, 10 + 10 * k2) ∈ RL := hm_57 0 (by omega)
  have c_60 : E (20 + n2) (11 + 10 * k2) = .inl (kA 6, rs_57, .inr (.inr (.inr (.inr fr_57)))) := q1_57
  have m_61 : (20 + n2, 11 + 10 * k2) ∈ RL := hm_57 1 (by omega)
  have c_62 : E (20 + n2) (12 + 10 * k2) = .inr (10, [.ref (ad (20 + n2) (15 + 10 * k2))]) := q2_57
  have m_63 : (20 + n2, 12 + 10 * k2) ∈ RL := hm_57 2 (by omega)
  have c_64 : E (20 + n2) (13 + 10 * k2) = .inr (10, [.ref (ad (20 + n2) (16 + 10 * k2))]) := q3_57
  have m_65 : (20 + n2, 13 + 10 * k2) ∈ RL := hm_57 3 (by omega)
  have c_66 : E (20 + n2) (14 + 10 * k2) = .inr (10, [.ref (ad (20 + n2) (17 + 10 * k2))]) := q4_57
  have m_67 : (20 + n2, 14 + 10 * k2) ∈ RL := hm_57 4 (by omega)
  have c_68 : E (20 + n2) (15 + 10 * k2) = .inl (kA 0, 6, .inl g2_57) := q5_57
  have m_69 : (20 + n2, 15 + 10 * k2) ∈ RL := hm_57 5 (by omega)
  have c_70 : E (20 + n2) (16 + 10 * k2) = .inl (kA 0, 6, .inl g3_57) := q6_57
  have m_71 : (20 + n2, 16 + 10 * k2) ∈ RL := hm_57 6 (by omega)
  have c_72 : E (20 + n2) (17 + 10 * k2) = .inl (kA 0, 6, .inl g4_57) := q7_57
  have m_73 : (20 + n2, 17 + 10 * k2) ∈ RL := hm_57 7 (by omega)
  have hdm_57 : mdv g n2 k2 = d_57 := by
    obtain ⟨dz, hdz, h21z, hvz⟩ := tmd_51 k2 (by omega)
    rw [c_58] at hvz
    have ez := (rp_inj hD ((hDIs d_57 hd_57).1 0 (by omega)) ((hDIs dz hdz).1 0 (by omega)) (Value.ref.inj hvz)).1
    unfold mdv
    rw [h21z, iN_nI (by omega)]; omega
  obtain ⟨hm_74, fd_74, nm_74, sd_74, k0_74, k1_74, k2_74, k3_74, f0_74, f1_74, f2_74, f3_74, fe_74, fo_74, tr_74, op_74, hk0_74, hk1_74, hk2_74, hk3_74, q0_74, q1_74, q2_74, q3_74, q4_74, q5_74, q6_74, q7_74, q8_74, q9_74, q10_74, q11_74, q12_74, hg_74⟩ := id (hDIs d_57 (by omega))
  have c_75 : E (1 + d_57) 0 = .inr (7, [.int (nI d_57), .int fd_74, .int nm_74, .ref (ad (1 + d_57) 1), .ref (ad (1 + d_57) 9), .ref (ad (1 + d_57) 10), .ref (ad (1 + d_57) 2), .ref (ad (1 + d_57) 11), .ref (ad (1 + d_57) 12), .ref (ad (1 + d_57) 3), .ref (ad (1 + d_57) 4), .int sd_74]) := q0_74
  have m_76 : (1 + d_57, 0) ∈ RL := hm_74 0 (by omega)
  have c_77 : E (1 + d_57) 1 = .inr (8, [.ref (ad (1 + d_57) 5), .int (nI k0_74)]) := q1_74
  have m_78 : (1 + d_57, 1) ∈ RL := hm_74 1 (by omega)
  have c_79 : E (1 + d_57) 2 = .inr (8, [.ref (ad (1 + d_57) 6), .int (nI k1_74)]) := q2_74
  have m_80 : (1 + d_57, 2) ∈ RL := hm_74 2 (by omega)
  have c_81 : E (1 + d_57) 3 = .inr (8, [.ref (ad (1 + d_57) 7), .int (nI k2_74)]) := q3_74
  have m_82 : (1 + d_57, 3) ∈ RL := hm_74 3 (by omega)
  have c_83 : E (1 + d_57) 4 = .inr (8, [.ref (ad (1 + d_57) 8), .int (nI k3_74)]) := q4_74
  have m_84 : (1 + d_57, 4) ∈ RL := hm_74 4 (by omega)
  have c_85 : E (1 + d_57) 5 = .inl (kA 0, 6, .inl f0_74) := q5_74
  have m_86 : (1 + d_57, 5) ∈ RL := hm_74 5 (by omega)
  have c_87 : E (1 + d_57) 6 = .inl (kA 0, 5, .inl f1_74) := q6_74
  have m_88 : (1 + d_57, 6) ∈ RL := hm_74 6 (by omega)
  have c_89 : E (1 + d_57) 7 = .inl (kA 0, 3, .inl f2_74) := q7_74
  have m_90 : (1 + d_57, 7) ∈ RL := hm_74 7 (by omega)
  have c_91 : E (1 + d_57) 8 = .inl (kA 0, 3, .inl f3_74) := q8_74
  have m_92 : (1 + d_57, 8) ∈ RL := hm_74 8 (by omega)
  have c_93 : E (1 + d_57) 9 = .inl (kA 8, 6, .inr (.inr (.inr (.inr fe_74)))) := q9_74
  have m_94 : (1 + d_57, 9) ∈ RL := hm_74 9 (by omega)
  have c_95 : E (1 + d_57) 10 = .inl (kA 8, 6, .inr (.inr (.inr (.inr fo_74)))) := q10_74
  have m_96 : (1 + d_57, 10) ∈ RL := hm_74 10 (by omega)
  have c_97 : E (1 + d_57) 11 = .inl (kA 2, 5, .inl tr_74) := q11_74
  have m_98 : (1 + d_57, 11) ∈ RL := hm_74 11 (by omega)
  have c_99 : E (1 + d_57) 12 = .inl (kA 2, 5, .inl op_74) := q12_74
  have m_100 : (1 + d_57, 12) ∈ RL := hm_74 12 (by omega)
  have hg_74 : ∀ w9, w9 < k0_74 → fe_74 w9 = some (ad (1 + d_57) (20 + 3 * w9)) ∧ fo_74 w9 = some (ad (1 + d_57) (38 + 3 * w9)) ∧ GI kA (ad (1 + d_57)) (E (1 + d_57)) (fun o => (1 + d_57, o) ∈ RL) (20 + 3 * w9) (21 + 3 * w9) (22 + 3 * w9) ∧ GI kA (ad (1 + d_57)) (E (1 + d_57)) (fun o => (1 + d_57, o) ∈ RL) (38 + 3 * w9) (39 + 3 * w9) (40 + 3 * w9) := hg_74
  obtain ⟨hTT_74, tgr_74⟩ := TD_get hk0_74 hk1_74 hk2_74 hk3_74 c_75 c_77 c_79 c_81 c_83 c_85 c_87 c_89 c_91 c_97 c_99 (hTD d_57 (by omega))
  obtain ⟨tfd_74, tnm_74, tsd_74, tk0_74, tf0_74, tk1_74, tf1_74, tk2_74, tk3_74⟩ := id hTT_74
  have ik0_74 : iN (g 5 d_57) = k0_74 := by rw [← tk0_74, iN_nI (by omega)]
  have ik1_74 : iN (g 12 d_57) = k1_74 := by rw [← tk1_74, iN_nI (by omega)]
  refine lv_aload_n hx hb xd_Me_isSplitBy_0 rfl (lv_at hl 0 rfl) ?_
  refine px_get (D := D) (ci := 6) (v := .ref (ad (20 + n) (14 + 10 * k))) (C := xR_Me) (T := xT_Me) (N := 6) hx hb hT xi_Me hown hK.1 hP m_9 c_8 rfl 5 (by decide) (hT _ k5y_0) (fun _ h9 => h9) rfl xd_Me_isSplitBy_1 ?_
  refine lv_aload_n hx hb xd_Me_isSplitBy_4 rfl (lv_at hl 1 rfl) ?_
  have hFc := px_free hD hS hA
  refine va_calli (va_runV (As := [.ref (ad (20 + n2) (10 + 10 * k2))]) (rest := []) ⟨hx, hb, hml, hown, hT⟩ (xc_Re_marks l D kA s.heap.size ad E RL (20 + n) (14 + 10 * k) (17 + 10 * k) g4_7 n2 k2 d_57 (lyv ad lq_51) op_51 fd_74 nm_74 sd_74 m_17 c_16 m_23 c_22 m_59 c_58 m_53 c_56 m_76 c_75 (by first | assumption | omega)) (cwV 1 hT (wT_V k5y_2 k5y_3 k5y_4 k5y_5 k5y_1) rfl rfl rfl (by decide +kernel) ⟨Nat.le_of_ble_eq_true rfl, Nat.le_of_ble_eq_true rfl⟩) (px_preV hK hP hD m_17 c_16 rfl) rfl rfl hl.1 rfl (lv_room (Nat.le_of_ble_eq_true rfl)) xd_Me_isSplitBy_5 ⟨(Nat.le_of_ble_eq_true rfl), (Nat.le_of_ble_eq_true rfl)⟩) hS (fun q _ h => hFc q h) hFc (fun r101 u102 t H1 locs ht hvm hp103 hB hz1 hk1 hS => ?_)
  obtain ⟨hP1, hD1⟩ := hB
  rw [ht] at hP1
  have hD1 := hD1.weaken (fun _ _ _ h => hFc _ h)
  generalize H1 = H at hP1 hS ⊢
  have hP := hP1
  have hD := hD1
  have hP : va_P D xcl (rp ad E RL) H := hP
  have hD : va_D A (rp ad E RL) := hD
  rcases hp103 with ⟨rfl, z104⟩ | ⟨rfl, z105⟩
  · refine W.eq (g2 := F0 m 8 ls [.int 1]) rfl ?_
    refine lv_if_ne (tgt := 13) hx hb xd_Me_isSplitBy_8 (by decide) (fun _ => ?_) (fun hc106 => absurd hc106 (by decide))
    refine lv_aload_n hx hb xd_Me_isSplitBy_13 rfl (lv_at hl 1 rfl) ?_
    refine px_get (D := D) (ci := 6) (v := .ref (ad (1 + d_57) 0)) (C := xR_Me) (T := xT_Me) (N := 6) hx hb hT xi_Me hown hK.1 hP m_59 c_58 rfl 1 (by decide) (hT _ k5y_6) (fun _ h9 => h9) rfl xd_Me_isSplitBy_14 ?_
    refine px_get (D := D) (ci := 7) (v := .ref (ad (1 + d_57) 1)) (C := xR_Ds) (T := xT_Ds) (N := 12) hx hb hT xi_Ds hown hK.1 hP m_76 c_75 rfl 3 (by decide) (hT _ k5y_7) (fun _ h9 => h9) rfl xd_Me_isSplitBy_17 ?_
    refine lv_astore_n hx hb xd_Me_isSplitBy_20 rfl hl (Nat.le_of_ble_eq_true rfl) rfl (fun ls hl => ?_)
    have hl : lv_has ls 5 [(2, .ref (ad (1 + d_57) 1)), (0, .ref (ad (20 + n) (10 + 10 * k))), (1, .ref (ad (20 + n2) (10 + 10 * k2)))] := hl
    refine lv_iconst (v := 0) hx hb xd_Me_isSplitBy_21 (by decide) ?_
    refine lv_istore_n hx hb xd_Me_isSplitBy_22 rfl hl (Nat.le_of_ble_eq_true rfl) rfl (fun ls hl => ?_)
    have hl : lv_has ls 5 [(3, .int 0), (2, .ref (ad (1 + d_57) 1)), (0, .ref (ad (20 + n) (10 + 10 * k))), (1, .ref (ad (20 + n2) (10 + 10 * k2)))] := hl
    refine xlab (σ := Nat) (ml := 5) 23 (fun (i : Nat) => [(3, .int (nI i)), (2, .ref (ad (1 + d_57) 1)), (1, .ref (ad (20 + n2) (10 + 10 * k2))), (0, .ref (ad (20 + n) (10 + 10 * k)))]) (fun (i : Nat) => []) (fun (i : Nat) => rp ad E RL) (fun (i : Nat) => (i ≤ k0_74) ∧ (∀ j8, j8 < i → ¬ SBi g (RWb E n k) n (mdv g n k) n2 k2 j8)) (fun (i : Nat) => k0_74 - i) ?_ 0 _ _ _ (lv_sub hl [0, 1, 3, 2] rfl) hP hD hS ⟨(show 0 ≤ k0_74 from by first | assumption | omega), (show ∀ j8, j8 < 0 → ¬ SBi g (RWb E n k) n (mdv g n k) n2 k2 j8 from fun j hj => absurd hj (by omega))⟩
    intro n9 ih107 a9 ls H locs hμ hl hP hD hS hI
    subst hμ
    obtain ⟨i, rfl⟩ : ∃ z, z = a9 := ⟨_, rfl⟩
    obtain ⟨hi, hno⟩ := hI
    have hi : i ≤ k0_74 := hi
    have hno : ∀ j8, j8 < i → ¬ SBi g (RWb E n k) n (mdv g n k) n2 k2 j8 := hno
    have hl : lv_has ls 5 [(3, .int (nI i)), (2, .ref (ad (1 + d_57) 1)), (1, .ref (ad (20 + n2) (10 + 10 * k2))), (0, .ref (ad (20 + n) (10 + 10 * k)))] := hl
    have hP : va_P D xcl (rp ad E RL) H := hP
    have hD : va_D A (rp ad E RL) := hD
    refine lv_iload_n hx hb xd_Me_isSplitBy_23 rfl (lv_at hl 0 rfl) ?_
    refine lv_aload_n hx hb xd_Me_isSplitBy_24 rfl (lv_at hl 1 rfl) ?_
    refine px_get (D := D) (ci := 8) (v := .int (nI k0_74)) (C := xR_Na) (T := xT_Na) (N := 2) hx hb hT xi_Na hown hK.1 hP m_78 c_77 rfl 1 (by decide) (hT _ k5y_8) (fun _ h9 => h9) rfl xd_Me_isSplitBy_25 ?_
    refine xn_ge (a := i) (b := k0_74) (tgt := 90) hx hb xd_Me_isSplitBy_28 (by decide) (by omega) (by omega) (fun hc108 => ?_) (fun hc108 => ?_)
    · refine lv_iconst (v := 0) hx hb xd_Me_isSplitBy_90 (by decide) ?_
      exact W.zret (v := 0) hx hb hr rfl (fun t ht hW => ⟨⟨0, (), rfl, Or.inr ⟨rfl, fun ⟨_, i9, q1, q2⟩ => hno i9 (by
        rw [hdm_57, ← tk0_74, iN_nI (by omega)] at q1
        omega) q2⟩, by rw [ht]; exact hP, hD⟩, hS.F ht⟩) hS.2.2 xd_Me_isSplitBy_91
    · refine lv_aload_n hx hb xd_Me_isSplitBy_31 rfl (lv_at hl 1 rfl) ?_
      refine lv_iload_n hx hb xd_Me_isSplitBy_32 rfl (lv_at hl 0 rfl) ?_
      have hFc := px_free hD hS hA
      refine va_calli (va_runV (As := [.int (nI i)]) (rest := []) ⟨hx, hb, hml, hown, hT⟩ (xc_Na_at l D kA H.size ad E RL (1 + d_57) 1 5 6 k0_74 f0_74 i m_78 c_77 m_86 c_85 (by first | assumption | omega) (by first | assumption | omega) (by first | assumption | omega)) (cwV 1 hT (wT_V k5y_10 k5y_11 k5y_12 k5y_13 k5y_9) rfl rfl rfl (by decide +kernel) ⟨Nat.le_of_ble_eq_true rfl, Nat.le_of_ble_eq_true rfl⟩) (px_preV hK hP hD m_78 c_77 rfl) rfl rfl hl.1 rfl (lv_room (Nat.le_of_ble_eq_true rfl)) xd_Me_isSplitBy_33 ⟨(Nat.le_of_ble_eq_true rfl), (Nat.le_of_ble_eq_true rfl)⟩) hS (fun q _ h => hFc q h) hFc (fun r109 u110 t H1 locs ht hvm hp111 hB hz1 hk1 hS => ?_)
      obtain ⟨hP1, hD1⟩ := hB
      rw [ht] at hP1
      have hD1 := hD1.weaken (fun _ _ _ h => hFc _ h)
      generalize H1 = H at hP1 hS ⊢
      have hP := hP1
      have hD := hD1
      have hP : va_P D xcl (rp ad E RL) H := hP
      have hD : va_D A (rp ad E RL) := hD
      have hp111 : r109 = (g 6 (6 * mdv g n2 k2 + i)) := by
        rcases hp111 with ⟨q, q2⟩ | ⟨q, _⟩
        · rw [q2, hdm_57]; exact tf0_74 i q
        · omega
      subst hp111
      have hP : va_P D xcl (rp ad E RL) H := hP
      have hD : va_D A (rp ad E RL) := hD
      refine lv_istore hx hb xd_Me_isSplitBy_36 hl (Nat.le_of_ble_eq_true rfl) rfl (fun ls hl => ?_)
      have hl : lv_has ls 5 [(4, .int (g 6 (6 * mdv g n2 k2 + i))), (3, .int (nI i)), (2, .ref (ad (1 + d_57) 1)), (1, .ref (ad (20 + n2) (10 + 10 * k2))), (0, .ref (ad (20 + n) (10 + 10 * k)))] := hl
      refine lv_aload_n hx hb xd_Me_isSplitBy_38 rfl (lv_at hl 3 rfl) ?_
      refine px_get (D := D) (ci := 6) (v := .ref (ad (1 + d_57) 0)) (C := xR_Me) (T := xT_Me) (N := 6) hx hb hT xi_Me hown hK.1 hP m_59 c_58 rfl 1 (by decide) (hT _ k5y_6) (fun _ h9 => h9) rfl xd_Me_isSplitBy_39 ?_
      refine lv_iload hx hb xd_Me_isSplitBy_42 (lv_at hl 0 rfl) ?_
      refine lv_aload_n hx hb xd_Me_isSplitBy_44 rfl (lv_at hl 4 rfl) ?_
      refine px_get (D := D) (ci := 6) (v := .ref (ad (1 + d_7) 0)) (C := xR_Me) (T := xT_Me) (N := 6) hx hb hT xi_Me hown hK.1 hP m_9 c_8 rfl 1 (by decide) (hT _ k5y_6) (fun _ h9 => h9) rfl xd_Me_isSplitBy_45 ?_
      refine px_get (D := D) (ci := 7) (v := .int nm_24) (C := xR_Ds) (T := xT_Ds) (N := 12) hx hb hT xi_Ds hown hK.1 hP m_26 c_25 rfl 2 (by decide) (hT _ k5y_14) (fun _ h9 => h9) rfl xd_Me_isSplitBy_48 ?_
      have hFc := px_free hD hS hA
      refine va_calli (va_runV (As := [.int (g 6 (6 * mdv g n2 k2 + i)), .int nm_24]) (rest := []) ⟨hx, hb, hml, hown, hT⟩ (xc_Ds_exportsToX l D kA H.size ad E RL g nd d_57 (g 6 (6 * mdv g n2 k2 + i)) nm_24 (by first | assumption | omega) (by first | assumption | omega) (by first | assumption | omega) hrd0) (cwV 2 hT (wT_V k5y_16 k5y_17 k5y_18 k5y_19 k5y_15) rfl rfl rfl (by decide +kernel) ⟨Nat.le_of_ble_eq_true rfl, Nat.le_of_ble_eq_true rfl⟩) (px_preV hK hP hD m_76 c_75 rfl) rfl rfl hl.1 rfl (lv_room (Nat.le_of_ble_eq_true rfl)) xd_Me_isSplitBy_51 ⟨(Nat.le_of_ble_eq_true rfl), (Nat.le_of_ble_eq_true rfl)⟩) hS (fun q _ h => hFc q h) hFc (fun r112 u113 t H1 locs ht hvm hp114 hB hz1 hk1 hS => ?_)
      obtain ⟨hP1, hD1⟩ := hB
      rw [ht] at hP1
      have hD1 := hD1.weaken (fun _ _ _ h => hFc _ h)
      generalize H1 = H at hP1 hS ⊢
      have hP := hP1
      have hD := hD1
      have hP : va_P D xcl (rp ad E RL) H := hP
      have hD : va_D A (rp ad E RL) := hD
      rcases hp114 with ⟨rfl, z115⟩ | ⟨rfl, z116⟩
      · have hx51 : (∃ q, pI g (mdv g n2 k2) (g 6 (6 * mdv g n2 k2 + i)) = some q ∧ exP g (6 * mdv g n2 k2 + q) (g 4 (mdv g n k))) := by have q9 := z115; rw [← hdm_57, tnm_24, ← hdm_7] at q9; exact q9
        refine W.eq (g2 := F0 m 54 ls [.int 1]) rfl ?_
        refine lv_if_eq (tgt := 84) hx hb xd_Me_isSplitBy_54 (by decide) (fun hc117 => absurd hc117 (by decide)) (fun _ => ?_)
        refine lv_aload_n hx hb xd_Me_isSplitBy_57 rfl (lv_at hl 4 rfl) ?_
        refine px_get (D := D) (ci := 6) (v := .ref (ad (1 + d_7) 0)) (C := xR_Me) (T := xT_Me) (N := 6) hx hb hT xi_Me hown hK.1 hP m_9 c_8 rfl 1 (by decide) (hT _ k5y_6) (fun _ h9 => h9) rfl xd_Me_isSplitBy_58 ?_
        refine px_get (D := D) (ci := 7) (v := .ref (ad (1 + d_7) 1)) (C := xR_Ds) (T := xT_Ds) (N := 12) hx hb hT xi_Ds hown hK.1 hP m_26 c_25 rfl 3 (by decide) (hT _ k5y_7) (fun _ h9 => h9) rfl xd_Me_isSplitBy_61 ?_
        refine lv_iload hx hb xd_Me_isSplitBy_64 (lv_at hl 0 rfl) ?_
        have hFc := px_free hD hS hA
        refine va_calli (va_runV (As := [.int (g 6 (6 * mdv g n2 k2 + i))]) (rest := []) ⟨hx, hb, hml, hown, hT⟩ (xc_Na_holds l D kA H.size ad E RL (1 + d_7) 1 5 6 k0_24 f0_24 (g 6 (6 * mdv g n2 k2 + i)) m_28 c_27 m_36 c_35 (by first | assumption | omega) (by first | assumption | omega)) (cwV 1 hT (wT_V k5y_21 k5y_22 k5y_23 k5y_13 k5y_20) rfl rfl rfl (by decide +kernel) ⟨Nat.le_of_ble_eq_true rfl, Nat.le_of_ble_eq_true rfl⟩) (px_preV hK hP hD m_28 c_27 rfl) rfl rfl hl.1 rfl (lv_room (Nat.le_of_ble_eq_true rfl)) xd_Me_isSplitBy_66 ⟨(Nat.le_of_ble_eq_true rfl), (Nat.le_of_ble_eq_true rfl)⟩) hS (fun q _ h => hFc q h) hFc (fun r118 u119 t H1 locs ht hvm hp120 hB hz1 hk1 hS => ?_)
        obtain ⟨hP1, hD1⟩ := hB
        rw [ht] at hP1
        have hD1 := hD1.weaken (fun _ _ _ h => hFc _ h)
        generalize H1 = H at hP1 hS ⊢
        have hP := hP1
        have hD := hD1
        have hP : va_P D xcl (rp ad E RL) H := hP
        have hD : va_D A (rp ad E RL) := hD
        rcases hp120 with ⟨rfl, z121, z122, z123⟩ | ⟨rfl, z124⟩
        · have hx66 : (∃ q, pI g (mdv g n k) (g 6 (6 * mdv g n2 k2 + i)) = some q) := by rw [hdm_7]; exact pI_ex hk0_24 tk0_24 tf0_24 ⟨z121, z122, z123⟩
          refine W.eq (g2 := F0 m 69 ls [.int 1]) rfl ?_
          refine lv_if_ne (tgt := 82) hx hb xd_Me_isSplitBy_69 (by decide) (fun _ => ?_) (fun hc125 => absurd hc125 (by decide))
          refine lv_iconst (v := 1) hx hb xd_Me_isSplitBy_82 (by decide) ?_
          exact W.zret (v := 1) hx hb hr rfl (fun t ht hW => ⟨⟨1, (), rfl, Or.inl ⟨rfl, ((hrow (12 * n2 + mdv g n2 k2)).trans (by rw [hdm_57]; exact (BS_marks (f := g4_7) (n := n2) (d := d_57) (by omega)).symm)).mpr z104, i, (by rw [hdm_57, ← tk0_74, iN_nI (by omega)]; omega), hx51, Or.inl hx66⟩, by rw [ht]; exact hP, hD⟩, hS.F ht⟩) hS.2.2 xd_Me_isSplitBy_83
        · have hx66 : ¬ (∃ q, pI g (mdv g n k) (g 6 (6 * mdv g n2 k2 + i)) = some q) := fun ⟨q, q2⟩ => by rw [hdm_7, pI_x hk0_24 tk0_24 tf0_24 z124] at q2; cases q2
          refine W.eq (g2 := F0 m 69 ls [.int 0]) rfl ?_
          refine lv_if_ne (tgt := 82) hx hb xd_Me_isSplitBy_69 (by decide) (fun hc126 => absurd (by decide) hc126) (fun _ => ?_)
          refine lv_aload_n hx hb xd_Me_isSplitBy_72 rfl (lv_at hl 4 rfl) ?_
          refine lv_iload hx hb xd_Me_isSplitBy_73 (lv_at hl 0 rfl) ?_
          have hFc := px_free hD hS hA
          refine va_callq (va_runV (As := [.int (g 6 (6 * mdv g n2 k2 + i))]) (rest := []) ⟨hx, hb, hml, hown, hT⟩ (xc_Me_sourceOfX l D kA H.size ad E RL g nd nL n k (g 6 (6 * mdv g n2 k2 + i)) (by first | assumption | omega) (by first | assumption | omega) (by first | assumption | omega) (by first | assumption | omega) (by first | assumption | omega) (by first | assumption | omega) (by first | assumption | omega) (by first | assumption | omega) (by first | assumption | omega) (by first | assumption | omega)) (cwV 1 hT (wT_V k5y_25 k5y_26 k5y_27 k5y_28 k5y_24) rfl rfl rfl (by decide +kernel) ⟨Nat.le_of_ble_eq_true rfl, Nat.le_of_ble_eq_true rfl⟩) (px_preV hK hP hD m_9 c_8 rfl) rfl rfl hl.1 rfl (lv_room (Nat.le_of_ble_eq_true rfl)) xd_Me_isSplitBy_75 ⟨(Nat.le_of_ble_eq_true rfl), (Nat.le_of_ble_eq_true rfl)⟩) hS (fun q _ h => hFc q h) hFc (fun r127 u128 t H1 locs ht hvm hp129 hB hz1 hk1 hS => ?_)
          obtain ⟨hP1, hD1⟩ := hB
          rw [ht] at hP1
          have hD1 := hD1.weaken (fun _ _ _ h => hFc _ h)
          generalize H1 = H at hP1 hS ⊢
          have hP := hP1
          have hD := hD1
          have hP : va_P D xcl (rp ad E RL) H := hP
          have hD : va_D A (rp ad E RL) := hD
          refine lv_aload_n hx hb xd_Me_isSplitBy_78 rfl (lv_at hl 3 rfl) ?_
          refine lv_acmp_eq (rx := r127) (ry := (some (ad (20 + n2) (10 + 10 * k2)))) (tgt := 84) hx hb xd_Me_isSplitBy_79 (by decide) (fun hc130 => ?_) (fun hc130 => ?_)
          · refine lv_iinc (k := 1) (x := (nI i)) (v := (nI (i + 1))) hx hb xd_Me_isSplitBy_84 hl rfl (xb_inc i 1) (Nat.le_of_ble_eq_true rfl) rfl (fun ls hl => ?_)
            have hl : lv_has ls 5 [(3, .int (nI (i + 1))), (4, .int (g 6 (6 * mdv g n2 k2 + i))), (2, .ref (ad (1 + d_57) 1)), (1, .ref (ad (20 + n2) (10 + 10 * k2))), (0, .ref (ad (20 + n) (10 + 10 * k)))] := hl
            refine lv_goto (tgt := 23) hx hb xd_Me_isSplitBy_87 (by decide) ?_
            exact ih107 (i + 1) _ _ _ (show k0_74 - (i + 1) < k0_74 - i by omega) (lv_sub hl [0, 2, 3, 4] rfl) hP hD hS ⟨(show (i + 1) ≤ k0_74 from by first | assumption | omega), (show ∀ j8, j8 < (i + 1) → ¬ SBi g (RWb E n k) n (mdv g n k) n2 k2 j8 from fun j hj => by
        rcases Nat.lt_or_ge j i with z | z
        · exact hno j z
        · rw [show j = i by omega]; exact (by
          have hae9 := hc130
          exact fun q => q.2.elim hx66 (fun q9 => q9 (by
            rcases hp129 with ⟨z1, _⟩ | ⟨x9, kk9, hx9, z1, z2, z3⟩
            · rw [z1] at hae9; cases hae9
            · rw [z1] at hae9
              have e9 := rp_inj hD (z2.1 0 (by omega)) (hME2.1 0 (by omega)) (Option.some.inj hae9)
              rw [z3, show x9 = n2 by omega, show kk9 = k2 by omega]))))⟩
          · refine lv_iconst (v := 1) hx hb xd_Me_isSplitBy_82 (by decide) ?_
            exact W.zret (v := 1) hx hb hr rfl (fun t ht hW => ⟨⟨1, (), rfl, Or.inl ⟨rfl, ((hrow (12 * n2 + mdv g n2 k2)).trans (by rw [hdm_57]; exact (BS_marks (f := g4_7) (n := n2) (d := d_57) (by omega)).symm)).mpr z104, i, (by rw [hdm_57, ← tk0_74, iN_nI (by omega)]; omega), hx51, Or.inr (fun q => by
        have hae9 := hc130
        rcases hp129 with ⟨_, z2⟩ | ⟨x9, kk9, hx9, z1, z2, z3⟩
        · rw [z2] at q; cases q
        · rw [z3] at q
          have q1 := congrArg Prod.fst (Option.some.inj q)
          have q2 := congrArg Prod.snd (Option.some.inj q)
          simp only at q1 q2
          exact hae9 (by rw [z1, q1, q2]))⟩, by rw [ht]; exact hP, hD⟩, hS.F ht⟩) hS.2.2 xd_Me_isSplitBy_83
      · have hx51 : ¬ (∃ q, pI g (mdv g n2 k2) (g 6 (6 * mdv g n2 k2 + i)) = some q ∧ exP g (6 * mdv g n2 k2 + q) (g 4 (mdv g n k))) := by have q9 := z116; rw [← hdm_57, tnm_24, ← hdm_7] at q9; exact q9
        refine W.eq (g2 := F0 m 54 ls [.int 0]) rfl ?_
        refine lv_if_eq (tgt := 84) hx hb xd_Me_isSplitBy_54 (by decide) (fun _ => ?_) (fun hc131 => absurd (by decide) hc131)
        refine lv_iinc (k := 1) (x := (nI i)) (v := (nI (i + 1))) hx hb xd_Me_isSplitBy_84 hl rfl (xb_inc i 1) (Nat.le_of_ble_eq_true rfl) rfl (fun ls hl => ?_)
        have hl : lv_has ls 5 [(3, .int (nI (i + 1))), (4, .int (g 6 (6 * mdv g n2 k2 + i))), (2, .ref (ad (1 + d_57) 1)), (1, .ref (ad (20 + n2) (10 + 10 * k2))), (0, .ref (ad (20 + n) (10 + 10 * k)))] := hl
        refine lv_goto (tgt := 23) hx hb xd_Me_isSplitBy_87 (by decide) ?_
        exact ih107 (i + 1) _ _ _ (show k0_74 - (i + 1) < k0_74 - i by omega) (lv_sub hl [0, 2, 3, 4] rfl) hP hD hS ⟨(show (i + 1) ≤ k0_74 from by first | assumption | omega), (show ∀ j8, j8 < (i + 1) → ¬ SBi g (RWb E n k) n (mdv g n k) n2 k2 j8 from fun j hj => by
        rcases Nat.lt_or_ge j i with z | z
        · exact hno j z
        · rw [show j = i by omega]; exact fun q => hx51 q.1)⟩
  · refine W.eq (g2 := F0 m 8 ls [.int 0]) rfl ?_
    refine lv_if_ne (tgt := 13) hx hb xd_Me_isSplitBy_8 (by decide) (fun hc132 => absurd (by decide) hc132) (fun _ => ?_)
    refine lv_iconst (v := 0) hx hb xd_Me_isSplitBy_11 (by decide) ?_
    exact W.zret (v := 0) hx hb hr rfl (fun t ht hW => ⟨⟨0, (), rfl, Or.inr ⟨rfl, fun q => absurd z105 (((hrow (12 * n2 + mdv g n2 k2)).trans (by rw [hdm_57]; exact (BS_marks (f := g4_7) (n := n2) (d := d_57) (by omega)).symm)).mp q.1)⟩, by rw [ht]; exact hP, hD⟩, hS.F ht⟩) hS.2.2 xd_Me_isSplitBy_12
