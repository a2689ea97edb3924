theorem k7x_0 : (Cond.fieldLink "LayerDesk$Member" 24 "LayerDesk$Member" "home" "LLayerDesk$Layer;") ∈ wT := wT_t (List.mem_append_right _ (List.mem_append_right _ (List.mem_append_left _ (List.mem_of_getElem? (i := 179) rfl)))) rfl
theorem k7x_1 : (Cond.fieldLink "LayerDesk$Member" 102 "LayerDesk$Layer" "number" "I") ∈ wT := wT_t (List.mem_append_right _ (List.mem_append_right _ (List.mem_append_left _ (List.mem_of_getElem? (i := 142) rfl)))) rfl
theorem k7x_2 : (Cond.fieldLink "LayerDesk$Member" 28 "LayerDesk$Member" "descriptor" "LLayerDesk$Descriptor;") ∈ wT := wT_t (List.mem_append_right _ (List.mem_append_right _ (List.mem_append_left _ (List.mem_of_getElem? (i := 181) rfl)))) rfl
theorem k7x_3 : (Cond.fieldLink "LayerDesk$Member" 105 "LayerDesk$Descriptor" "number" "I") ∈ wT := wT_t (List.mem_append_right _ (List.mem_append_left _ (List.mem_of_getElem? (i := 49) rfl))) rfl
theorem k7x_4 : (Cond.fieldLink "LayerDesk$Layer" 19 "LayerDesk$Layer" "members" "[LLayerDesk$Member;") ∈ wT := wT_t (List.mem_append_right _ (List.mem_append_right _ (List.mem_append_left _ (List.mem_of_getElem? (i := 147) rfl)))) rfl
theorem k7x_5 : (Cond.fieldLink "LayerDesk$Layer" 13 "LayerDesk$Layer" "parent" "LLayerDesk$Layer;") ∈ wT := wT_t (List.mem_append_right _ (List.mem_append_right _ (List.mem_append_left _ (List.mem_of_getElem? (i := 143) rfl)))) rfl
theorem k7x_6 : (Cond.fieldLink "LayerDesk$Layer" 27 "LayerDesk$Member" "descriptor" "LLayerDesk$Descriptor;") ∈ wT := wT_t (List.mem_append_right _ (List.mem_append_right _ (List.mem_append_left _ (List.mem_of_getElem? (i := 183) rfl)))) rfl
theorem k7x_7 : (Cond.fieldLink "LayerDesk$Layer" 37 "LayerDesk$Descriptor" "provided" "LLayerDesk$Names;") ∈ wT := wT_t (List.mem_append_right _ (List.mem_append_left _ (List.mem_of_getElem? (i := 79) rfl))) rfl
theorem k7x_8 : (Cond.code xy_Na_holds xb_Na_holds 2 (some .boolean)) ∈ wT := wT_t (List.mem_append_right _ (List.mem_append_left _ (List.mem_of_getElem? (i := 123) rfl))) rfl
theorem k7x_9 : (Cond.methodLink "LayerDesk$Layer" 41 xy_Na_holds) ∈ wT := wT_t (List.mem_append_right _ (List.mem_append_right _ (List.mem_append_right _ (List.mem_append_left _ (List.mem_of_getElem? (i := 77) rfl))))) rfl
theorem k7x_10 : (Cond.instanceMethod xy_Na_holds) ∈ wT := wT_t (List.mem_append_right _ (List.mem_append_left _ (List.mem_of_getElem? (i := 121) rfl))) rfl
theorem k7x_11 : (Cond.selects "LayerDesk$Names" xy_Na_holds xy_Na_holds) ∈ wT := wT_t (List.mem_append_right _ (List.mem_append_left _ (List.mem_of_getElem? (i := 122) rfl))) rfl
theorem k7x_12 : (Cond.initialized "LayerDesk$Names") ∈ wT := wT_t (List.mem_append_left _ (List.mem_of_getElem? (i := 11) rfl)) rfl
theorem k7x_13 : (Cond.fieldLink "LayerDesk" 10 "LayerDesk" "written" "LLayerDesk$Line;") ∈ wT := wT_t (List.mem_append_left _ (List.mem_of_getElem? (i := 99) rfl)) rfl
theorem k7x_14 : (Cond.code xy_Li_takeName xb_Li_takeName 1 (some .int)) ∈ wT := wT_t (List.mem_append_right _ (List.mem_append_right _ (List.mem_append_right _ (List.mem_append_left _ (List.mem_of_getElem? (i := 42) rfl))))) rfl
theorem k7x_15 : (Cond.methodLink "LayerDesk" 158 xy_Li_takeName) ∈ wT := wT_t (List.mem_append_right _ (List.mem_append_right _ (List.mem_append_right _ (List.mem_append_left _ (List.mem_of_getElem? (i := 39) rfl))))) rfl
theorem k7x_16 : (Cond.instanceMethod xy_Li_takeName) ∈ wT := wT_t (List.mem_append_right _ (List.mem_append_right _ (List.mem_append_right _ (List.mem_append_left _ (List.mem_of_getElem? (i := 40) rfl))))) rfl
theorem k7x_17 : (Cond.selects "LayerDesk$Line" xy_Li_takeName xy_Li_takeName) ∈ wT := wT_t (List.mem_append_right _ (List.mem_append_right _ (List.mem_append_right _ (List.mem_append_left _ (List.mem_of_getElem? (i := 41) rfl))))) rfl
theorem k7x_18 : (Cond.initialized "LayerDesk$Line") ∈ wT := wT_t (List.mem_append_left _ (List.mem_of_getElem? (i := 2) rfl)) rfl
theorem k7x_19 : (Cond.code xy_De_openLayer xb_De_openLayer 3 (some (.object "LayerDesk$Layer"))) ∈ wT := wT_t (List.mem_append_left _ (List.mem_of_getElem? (i := 137) rfl)) rfl
theorem k7x_20 : (Cond.methodLink "LayerDesk" 68 xy_De_openLayer) ∈ wT := wT_t (List.mem_append_left _ (List.mem_of_getElem? (i := 134) rfl)) rfl
theorem k7x_21 : (Cond.instanceMethod xy_De_openLayer) ∈ wT := wT_t (List.mem_append_left _ (List.mem_of_getElem? (i := 136) rfl)) rfl
theorem k7x_22 : (Cond.selects "LayerDesk" xy_De_openLayer xy_De_openLayer) ∈ wT := wT_s (q := (xy_De_openLayer, 6)) (by decide +kernel) rfl
theorem k7x_23 : (Cond.initialized "LayerDesk") ∈ wT := wT_t (List.mem_append_left _ (List.mem_of_getElem? (i := 1) rfl)) rfl
theorem k7x_24 : (Cond.classLink "LayerDesk" 56 "java/lang/IllegalArgumentException") ∈ wT := wT_t (List.mem_append_right _ (List.mem_append_left _ (List.mem_of_getElem? (i := 205) rfl))) rfl
theorem k7x_25 : (Cond.initialized "java/lang/IllegalArgumentException") ∈ wT := wT_t (List.mem_append_left _ (List.mem_of_getElem? (i := 16) rfl)) rfl
theorem k7x_26 : (Cond.code xy_Ly_providerOf xb_Ly_providerOf 6 (some (.object "LayerDesk$Member"))) ∈ wT := wT_t (List.mem_append_right _ (List.mem_append_right _ (List.mem_append_right _ (List.mem_append_left _ (List.mem_of_getElem? (i := 76) rfl))))) rfl
theorem k7x_27 : (Cond.methodLink "LayerDesk" 192 xy_Ly_providerOf) ∈ wT := wT_t (List.mem_append_right _ (List.mem_append_right _ (List.mem_append_right _ (List.mem_append_left _ (List.mem_of_getElem? (i := 73) rfl))))) rfl
theorem k7x_28 : (Cond.instanceMethod xy_Ly_providerOf) ∈ wT := wT_t (List.mem_append_right _ (List.mem_append_right _ (List.mem_append_right _ (List.mem_append_left _ (List.mem_of_getElem? (i := 74) rfl))))) rfl
theorem k7x_29 : (Cond.selects "LayerDesk$Layer" xy_Ly_providerOf xy_Ly_providerOf) ∈ wT := wT_t (List.mem_append_right _ (List.mem_append_right _ (List.mem_append_right _ (List.mem_append_left _ (List.mem_of_getElem? (i := 75) rfl))))) rfl
theorem k7x_30 : (Cond.initialized "LayerDesk$Layer") ∈ wT := wT_t (List.mem_append_left _ (List.mem_of_getElem? (i := 19) rfl)) rfl
theorem k7x_31 : (Cond.code xy_Me_code xb_Me_code 1 (some .int)) ∈ wT := wT_t (List.mem_append_right _ (List.mem_append_right _ (List.mem_append_right _ (List.mem_append_left _ (List.mem_of_getElem? (i := 52) rfl))))) rfl
theorem k7x_32 : (Cond.methodLink "LayerDesk" 178 xy_Me_code) ∈ wT := wT_t (List.mem_append_right _ (List.mem_append_right _ (List.mem_append_right _ (List.mem_append_left _ (List.mem_of_getElem? (i := 49) rfl))))) rfl
theorem k7x_33 : (Cond.instanceMethod xy_Me_code) ∈ wT := wT_t (List.mem_append_right _ (List.mem_append_right _ (List.mem_append_right _ (List.mem_append_left _ (List.mem_of_getElem? (i := 50) rfl))))) rfl
theorem k7x_34 : (Cond.selects "LayerDesk$Member" xy_Me_code xy_Me_code) ∈ wT := wT_t (List.mem_append_right _ (List.mem_append_right _ (List.mem_append_right _ (List.mem_append_left _ (List.mem_of_getElem? (i := 51) rfl))))) rfl
theorem k7x_35 : (Cond.initialized "LayerDesk$Member") ∈ wT := wT_t (List.mem_append_left _ (List.mem_of_getElem? (i := 20) rfl)) rfl
set_option maxHeartbeats 4000000 in
set_option maxRecDepth 100000 in
theorem xc_Me_codeA (l : Launch) (D : va_G) (kA : Nat → ClassId) (sz : Nat) (ad : Nat → Nat → Nat) (E : Nat → Nat → va_E) (RL : List (Nat × Nat)) (g : Nat → Nat → Int32) (nd : Nat) (nL : Nat) (n : Nat) (k : Nat) (hDIs : DIs kA ad E RL nd) (hLIs : LIs kA ad E RL nd nL) (hnL : nL ≤ 6) (hn : n < nL) (hTD : TDs g E nd) (hTL : TLas g ad E nd nL) (hnd12 : nd ≤ 12) (hME : MEI kA ad E RL nd n k) (hkm : k < iN (g 20 n)) : Met l xy_Me_code (.code xy_Me_code xb_Me_code 1 (some .int) :: wT) { frames := 0, cells := 0, slots := 0, locals := 0 } (va_Pc [.ref (ad (20 + n) (10 + 10 * k))] (xPre D kA sz (rp ad E RL))) (va_Qi (fun (r : Int32) (u : Unit) => r = nI (16 * n + mdv g n k)) (fun (u : Unit) t => va_P D xcl (rp ad E RL) t.heap ∧ va_D (va_A (rp ad E RL) sz) (rp ad E RL)) (va_A (rp ad E RL) sz)) 0 0 (va_A (rp ad E RL) sz) := by
  refine Met.ofW (cc := xb_Me_code) (maxL := 1) (ret := (some .int)) (by decide) rfl ?_
  intro p e s m args below meth c s₁ B hml hv
  obtain ⟨rfl, hsz, hP, hK, hD0⟩ := hv
  have hx := B.exec
  have hb := B.bytes
  have hr := B.returns
  have hT := x_hT B.pre
  have hown : s.vm.findClass xR_Me = some m.cls := findClass_of_methodNamed B.named
  have hlocks := B.notSynchronized
  subst hsz
  have hD := hD0.self (sz := s.heap.size)
  generalize hAe : va_A (rp ad E RL) s.heap.size = A at hD ⊢
  have hA : ∀ q : Nat, s.heap.size ≤ q → A q := fun q h => by rw [← hAe]; exact Or.inr h
  have hS : va_S A s.heap s.heap [] := va_S.rf
  have hl := lv_entry ([.ref (ad (20 + n) (10 + 10 * k))]) (n := 1) (Nat.le_of_ble_eq_true rfl)
  rw [lg_entry_eq]
  generalize (lg_sl ([.ref (ad (20 + n) (10 + 10 * k))]) ++ List.replicate (1 - (lg_sl ([.ref (ad (20 + n) (10 + 10 * k))])).length) Slot.unset).toArray = ls at hl ⊢
  have hl : lv_has ls 1 [(0, .ref (ad (20 + n) (10 + 10 * k)))] := hl
  have hP : va_P D xcl (rp ad E RL) s.heap := hP
  obtain ⟨m0_1, m1_1, pv_1, op_1, mk_1, fm_1, hmk_1, hpv_1, q0_1, q1_1, hk_1⟩ := id (hLIs n (by omega))
  have c_2 : E (20 + n) 0 = .inr (5, [.int (nI n), pv_1, .ref (ad (20 + n) 1), .int op_1]) := q0_1
  have m_3 : (20 + n, 0) ∈ RL := m0_1
  have c_4 : E (20 + n) 1 = .inl (kA 6, mk_1, .inr (.inr (.inr (.inr fm_1)))) := q1_1
  have m_5 : (20 + n, 1) ∈ RL := m1_1
  obtain ⟨top_1, ⟨lq_1, hlq_1, h19_1, hpv2_1⟩, h20_1, tmd_1⟩ := TLa_get c_2 c_4 (hTL n (by omega))
  have c_6 : E (20 + n) 0 = .inr (5, [.int (nI n), (lyv ad lq_1), .ref (ad (20 + n) 1), .int op_1]) := by rw [← hpv2_1]; exact c_2
  have i20_1 : iN (g 20 n) = mk_1 := by rw [h20_1, iN_nI (by omega)]
  have hkq : k < mk_1 := by have q := hkm; rw [i20_1] at q; exact q
  obtain ⟨hm_7, d_7, rs_7, fr_7, g2_7, g3_7, g4_7, hd_7, hrs_7, q0_7, q1_7, q2_7, q3_7, q4_7, q5_7, q6_7, q7_7⟩ := id hME
  have c_8 : E (20 + n) (10 + 10 * k) = .inr (6, [.ref (ad (20 + n) 0), .ref (ad (1 + d_7) 0), .ref (ad (20 + n) (11 + 10 * k)), .ref (ad (20 + n) (12 + 10 * k)), .ref (ad (20 + n) (13 + 10 * k)), .ref (ad (20 + n) (14 + 10 * k))]) := q0_7
  have m_9 : (20 + n, 10 + 10 * k) ∈ RL := hm_7 0 (by decide)
  have c_10 : E (20 + n) (11 + 10 * k) = .inl (kA 6, rs_7, .inr (.inr (.inr (.inr fr_7)))) := q1_7
  have m_11 : (20 + n, 11 + 10 * k) ∈ RL := hm_7 1 (by decide)
  have c_12 : E (20 + n) (12 + 10 * k) = .inr (10, [.ref (ad (20 + n) (15 + 10 * k))]) := q2_7
  have m_13 : (20 + n, 12 + 10 * k) ∈ RL := hm_7 2 (by decide)
  have c_14 : E (20 + n) (13 + 10 * k) = .inr (10, [.ref (ad (20 + n) (16 + 10 * k))]) := q3_7
  have m_15 : (20 + n, 13 + 10 * k) ∈ RL := hm_7 3 (by decide)
  have c_16 : E (20 + n) (14 + 10 * k) = .inr (10, [.ref (ad (20 + n) (17 + 10 * k))]) := q4_7
  have m_17 : (20 + n, 14 + 10 * k) ∈ RL := hm_7 4 (by decide)
  have c_18 : E (20 + n) (15 + 10 * k) = .inl (kA 0, 6, .inl g2_7) := q5_7
  have m_19 : (20 + n, 15 + 10 * k) ∈ RL := hm_7 5 (by decide)
  have c_20 : E (20 + n) (16 + 10 * k) = .inl (kA 0, 6, .inl g3_7) := q6_7
  have m_21 : (20 + n, 16 + 10 * k) ∈ RL := hm_7 6 (by decide)
  have c_22 : E (20 + n) (17 + 10 * k) = .inl (kA 0, 6, .inl g4_7) := q7_7
  have m_23 : (20 + n, 17 + 10 * k) ∈ RL := hm_7 7 (by decide)
  have hdm_7 : mdv g n k = d_7 := by
    obtain ⟨dz, hdz, h21z, hvz⟩ := tmd_1 k (by omega)
    rw [c_8] at hvz
    have ez := (rp_inj hD ((hDIs d_7 hd_7).1 0 (by omega)) ((hDIs dz hdz).1 0 (by omega)) (Value.ref.inj hvz)).1
    unfold mdv
    rw [h21z, iN_nI (by omega)]; omega
  obtain ⟨hm_24, fd_24, nm_24, sd_24, k0_24, k1_24, k2_24, k3_24, f0_24, f1_24, f2_24, f3_24, fe_24, fo_24, tr_24, op_24, hk0_24, hk1_24, hk2_24, hk3_24, q0_24, q1_24, q2_24, q3_24, q4_24, q5_24, q6_24, q7_24, q8_24, q9_24, q10_24, q11_24, q12_24, hg_24⟩ := id (hDIs d_7 (by omega))
  have c_25 : E (1 + d_7) 0 = .inr (7, [.int (nI d_7), .int fd_24, .int nm_24, .ref (ad (1 + d_7) 1), .ref (ad (1 + d_7) 9), .ref (ad (1 + d_7) 10), .ref (ad (1 + d_7) 2), .ref (ad (1 + d_7) 11), .ref (ad (1 + d_7) 12), .ref (ad (1 + d_7) 3), .ref (ad (1 + d_7) 4), .int sd_24]) := q0_24
  have m_26 : (1 + d_7, 0) ∈ RL := hm_24 0 (by decide)
  have c_27 : E (1 + d_7) 1 = .inr (8, [.ref (ad (1 + d_7) 5), .int (nI k0_24)]) := q1_24
  have m_28 : (1 + d_7, 1) ∈ RL := hm_24 1 (by decide)
  have c_29 : E (1 + d_7) 2 = .inr (8, [.ref (ad (1 + d_7) 6), .int (nI k1_24)]) := q2_24
  have m_30 : (1 + d_7, 2) ∈ RL := hm_24 2 (by decide)
  have c_31 : E (1 + d_7) 3 = .inr (8, [.ref (ad (1 + d_7) 7), .int (nI k2_24)]) := q3_24
  have m_32 : (1 + d_7, 3) ∈ RL := hm_24 3 (by decide)
  have c_33 : E (1 + d_7) 4 = .inr (8, [.ref (ad (1 + d_7) 8), .int (nI k3_24)]) := q4_24
  have m_34 : (1 + d_7, 4) ∈ RL := hm_24 4 (by decide)
  have c_35 : E (1 + d_7) 5 = .inl (kA 0, 6, .inl f0_24) := q5_24
  have m_36 : (1 + d_7, 5) ∈ RL := hm_24 5 (by decide)
  have c_37 : E (1 + d_7) 6 = .inl (kA 0, 5, .inl f1_24) := q6_24
  have m_38 : (1 + d_7, 6) ∈ RL := hm_24 6 (by decide)
  have c_39 : E (1 + d_7) 7 = .inl (kA 0, 3, .inl f2_24) := q7_24
  have m_40 : (1 + d_7, 7) ∈ RL := hm_24 7 (by decide)
  have c_41 : E (1 + d_7) 8 = .inl (kA 0, 3, .inl f3_24) := q8_24
  have m_42 : (1 + d_7, 8) ∈ RL := hm_24 8 (by decide)
  have c_43 : E (1 + d_7) 9 = .inl (kA 8, 6, .inr (.inr (.inr (.inr fe_24)))) := q9_24
  have m_44 : (1 + d_7, 9) ∈ RL := hm_24 9 (by decide)
  have c_45 : E (1 + d_7) 10 = .inl (kA 8, 6, .inr (.inr (.inr (.inr fo_24)))) := q10_24
  have m_46 : (1 + d_7, 10) ∈ RL := hm_24 10 (by decide)
  have c_47 : E (1 + d_7) 11 = .inl (kA 2, 5, .inl tr_24) := q11_24
  have m_48 : (1 + d_7, 11) ∈ RL := hm_24 11 (by decide)
  have c_49 : E (1 + d_7) 12 = .inl (kA 2, 5, .inl op_24) := q12_24
  have m_50 : (1 + d_7, 12) ∈ RL := hm_24 12 (by decide)
  have hg_24 : ∀ w9, w9 < k0_24 → fe_24 w9 = some (ad (1 + d_7) (20 + 3 * w9)) ∧ fo_24 w9 = some (ad (1 + d_7) (38 + 3 * w9)) ∧ GI kA (ad (1 + d_7)) (E (1 + d_7)) (fun o => (1 + d_7, o) ∈ RL) (20 + 3 * w9) (21 + 3 * w9) (22 + 3 * w9) ∧ GI kA (ad (1 + d_7)) (E (1 + d_7)) (fun o => (1 + d_7, o) ∈ RL) (38 + 3 * w9) (39 + 3 * w9) (40 + 3 * w9) := hg_24
  obtain ⟨hTT_24, tgr_24⟩ := TD_get hk0_24 hk1_24 hk2_24 hk3_24 c_25 c_27 c_29 c_31 c_33 c_35 c_37 c_39 c_41 c_47 c_49 (hTD d_7 (by omega))
  obtain ⟨tfd_24, tnm_24, tsd_24, tk0_24, tf0_24, tk1_24, tf1_24, tk2_24, tk3_24⟩ := id hTT_24
  have ik0_24 : iN (g 5 d_7) = k0_24 := by rw [← tk0_24, iN_nI (by omega)]
  have ik1_24 : iN (g 12 d_7) = k1_24 := by rw [← tk1_24, iN_nI (by omega)]
  refine lv_bipush (v := 16) hx hb xd_Me_code_0 (by decide) ?_
  refine lv_aload_n hx hb xd_Me_code_2 rfl (lv_at hl 0 rfl) ?_
  refine px_get (D := D) (ci := 6) (v := .ref (ad (20 + n) 0)) (C := xR_Me) (T := xT_Me) (N := 6) hx hb hT xi_Me hown hK.1 hP m_9 c_8 rfl 0 (by decide) (hT _ k7x_0) (fun _ h9 => h9) rfl xd_Me_code_3 ?_
  refine px_get (D := D) (ci := 5) (v := .int (nI n)) (C := xR_Ly) (T := xT_Ly) (N := 4) hx hb hT xi_Ly hown hK.1 hP m_3 c_6 rfl 0 (by decide) (hT _ k7x_1) (fun _ h9 => h9) rfl xd_Me_code_6 ?_
  refine lv_imul hx hb xd_Me_code_9 ?_
  refine xn_top (y := nI (16 * n)) (pk_mul 16 n) ?_
  refine lv_aload_n hx hb xd_Me_code_10 rfl (lv_at hl 0 rfl) ?_
  refine px_get (D := D) (ci := 6) (v := .ref (ad (1 + d_7) 0)) (C := xR_Me) (T := xT_Me) (N := 6) hx hb hT xi_Me hown hK.1 hP m_9 c_8 rfl 1 (by decide) (hT _ k7x_2) (fun _ h9 => h9) rfl xd_Me_code_11 ?_
  refine px_get (D := D) (ci := 7) (v := .int (nI d_7)) (C := xR_Ds) (T := xT_Ds) (N := 12) hx hb hT xi_Ds hown hK.1 hP m_26 c_25 rfl 0 (by decide) (hT _ k7x_3) (fun _ h9 => h9) rfl xd_Me_code_14 ?_
  refine lv_iadd hx hb xd_Me_code_17 ?_
  refine xn_top (y := nI ((16 * n) + d_7)) (nI_add (16 * n) d_7) ?_
  exact W.iret (v := (nI ((16 * n) + d_7))) hx hb hr (fun t ht hW => ⟨⟨(nI ((16 * n) + d_7)), (), rfl, (by rw [hdm_7]), by rw [ht]; exact hP, hD⟩, hS.F ht⟩) hS.2.2 xd_Me_code_18
set_option maxHeartbeats 4000000 in
set_option maxRecDepth 100000 in
theorem xc_Ly_providerOfA (l : Launch) (D : va_G) (kA : Nat → ClassId) (sz : Nat) (ad : Nat → Nat → Nat) (E : Nat → Nat → va_E) (RL : List (Nat × Nat)) (g : Nat → Nat → Int32) (nd : Nat) (nL : Nat) (n : Nat) (sv : Int32) (ix : Int32) (hDIs : DIs kA ad E RL nd) (hLIs : LIs kA ad E RL nd nL) (hnL : nL ≤ 6) (hn : n < nL) (hTD : TDs g E nd) (hTL : TLas g ad E nd nL) (hnd12 : nd ≤ 12) (hsv0 : ¬ sv = 0) : Met l xy_Ly_providerOf (.code xy_Ly_providerOf xb_Ly_providerOf 6 (some (.object "LayerDesk$Member")) :: wT) { frames := 2, cells := 0, slots := 0, locals := 43 } (va_Pc [.ref (ad (20 + n) 0), .int sv, .int ix] (xPre D kA sz (rp ad E RL))) (va_Qq (fun (r : Option Nat) (u : Unit) => (r = none ∧ prA ix (pvU g sv (n + 1)) 0 = -1) ∨ ∃ x k, x ≤ n ∧ r = some (ad (20 + x) (10 + 10 * k)) ∧ MEI kA ad E RL nd x k ∧ k < mcv g x ∧ prA ix (pvU g sv (n + 1)) 0 = nI (16 * x + mdv g x k)) (fun (u : Unit) t => va_P D xcl (rp ad E RL) t.heap ∧ va_D (va_A (rp ad E RL) sz) (rp ad E RL)) (va_A (rp ad E RL) sz)) 0 0 (va_A (rp ad E RL) sz) := by
  refine Met.ofW (cc := xb_Ly_providerOf) (maxL := 6) (ret := (some (.object "LayerDesk$Member"))) (by decide) rfl ?_
  intro p e s m args below meth c s₁ B hml hv
  obtain ⟨rfl, hsz, hP, hK, hD0⟩ := hv
  have hx := B.exec
  have hb := B.bytes
  have hr := B.returns
  have hT := x_hT B.pre
  have hown : s.vm.findClass xR_Ly = some m.cls := findClass_of_methodNamed B.named
  have hlocks := B.notSynchronized
  subst hsz
  have hD := hD0.self (sz := s.heap.size)
  generalize hAe : va_A (rp ad E RL) s.heap.size = A at hD ⊢
  have hA : ∀ q : Nat, s.heap.size ≤ q → A q := fun q h => by rw [← hAe]; exact Or.inr h
  have hS : va_S A s.heap s.heap [] := va_S.rf
  have hl := lv_entry ([.ref (ad (20 + n) 0), .int sv, .int ix]) (n := 6) (Nat.le_of_ble_eq_true rfl)
  rw [lg_entry_eq]
  generalize (lg_sl ([.ref (ad (20 + n) 0), .int sv, .int ix]) ++ List.replicate (6 - (lg_sl ([.ref (ad (20 + n) 0), .int sv, .int ix])).length) Slot.unset).toArray = ls at hl ⊢
  have hl : lv_has ls 6 [(0, .ref (ad (20 + n) 0)), (1, .int sv), (2, .int ix)] := hl
  have hP : va_P D xcl (rp ad E RL) s.heap := hP
  refine lv_iconst (v := 0) hx hb xd_Ly_providerOf_0 (by decide) ?_
  refine lv_istore_n hx hb xd_Ly_providerOf_1 rfl hl (Nat.le_of_ble_eq_true rfl) rfl (fun ls hl => ?_)
  have hl : lv_has ls 6 [(3, .int 0), (0, .ref (ad (20 + n) 0)), (1, .int sv), (2, .int ix)] := hl
  refine lv_aload_n hx hb xd_Ly_providerOf_2 rfl (lv_at hl 1 rfl) ?_
  refine lv_astore hx hb xd_Ly_providerOf_3 hl (Nat.le_of_ble_eq_true rfl) rfl (fun ls hl => ?_)
  have hl : lv_has ls 6 [(4, .ref (ad (20 + n) 0)), (3, .int 0), (0, .ref (ad (20 + n) 0)), (1, .int sv), (2, .int ix)] := hl
  refine xlab (σ := Nat × Int32) (ml := 6) 5 (fun (y, ps) => [(4, (lyv ad y)), (3, .int ps), (0, .ref (ad (20 + n) 0)), (1, .int sv), (2, .int ix)]) (fun (y, ps) => []) (fun (y, ps) => rp ad E RL) (fun (y, ps) => (y ≤ n + 1) ∧ (prA ix (pvU g sv (n + 1)) 0 = prA ix (pvU g sv y) ps)) (fun (y, ps) => y) ?_ (n + 1, 0) _ _ _ (lv_sub hl [0, 1, 2, 3, 4] rfl) hP hD hS ⟨(show (n + 1) ≤ n + 1 from by first | assumption | omega), (show prA ix (pvU g sv (n + 1)) 0 = prA ix (pvU g sv (n + 1)) 0 from rfl)⟩
  intro n9 ih1 a9 ls H locs hμ hl hP hD hS hI
  subst hμ
  obtain ⟨y, ps⟩ := a9
  obtain ⟨hy, hpv⟩ := hI
  have hy : y ≤ n + 1 := hy
  have hpv : prA ix (pvU g sv (n + 1)) 0 = prA ix (pvU g sv y) ps := hpv
  have hl : lv_has ls 6 [(4, (lyv ad y)), (3, .int ps), (0, .ref (ad (20 + n) 0)), (1, .int sv), (2, .int ix)] := hl
  have hP : va_P D xcl (rp ad E RL) H := hP
  have hD : va_D A (rp ad E RL) := hD
  rcases y with _ | y
  · have hl : lv_has ls 6 [(4, .null), (3, .int ps), (0, .ref (ad (20 + n) 0)), (1, .int sv), (2, .int ix)] := hl
    refine lv_aloadN hx hb xd_Ly_providerOf_5 (lv_at hl 0 rfl) ?_
    refine lv_ifnullN (tgt := 78) hx hb xd_Ly_providerOf_7 (by decide) ?_
    refine lv_null hx hb xd_Ly_providerOf_78 ?_
    exact W.aret (v := .null) hx hb hr (Or.inl ⟨_, rfl⟩) (Or.inl rfl) (fun t ht hW => ⟨⟨none, (), rfl, Or.inl ⟨rfl, by rw [hpv]; rfl⟩, by rw [ht]; exact hP, hD⟩, hS.F ht⟩) hS.2.2 xd_Ly_providerOf_79
  · have hl : lv_has ls 6 [(4, .ref (ad (20 + y) 0)), (3, .int ps), (0, .ref (ad (20 + n) 0)), (1, .int sv), (2, .int ix)] := hl
    refine lv_aload hx hb xd_Ly_providerOf_5 (lv_at hl 0 rfl) ?_
    refine lv_ifnull hx hb xd_Ly_providerOf_7 ?_
    refine lv_iconst (v := 0) hx hb xd_Ly_providerOf_10 (by decide) ?_
    refine lv_istore hx hb xd_Ly_providerOf_11 hl (Nat.le_of_ble_eq_true rfl) rfl (fun ls hl => ?_)
    have hl : lv_has ls 6 [(5, .int 0), (4, .ref (ad (20 + y) 0)), (3, .int ps), (0, .ref (ad (20 + n) 0)), (1, .int sv), (2, .int ix)] := hl
    obtain ⟨m0_2, m1_2, pv_2, op_2, mk_2, fm_2, hmk_2, hpv_2, q0_2, q1_2, hk_2⟩ := id (hLIs y (by omega))
    have c_3 : E (20 + y) 0 = .inr (5, [.int (nI y), pv_2, .ref (ad (20 + y) 1), .int op_2]) := q0_2
    have m_4 : (20 + y, 0) ∈ RL := m0_2
    have c_5 : E (20 + y) 1 = .inl (kA 6, mk_2, .inr (.inr (.inr (.inr fm_2)))) := q1_2
    have m_6 : (20 + y, 1) ∈ RL := m1_2
    obtain ⟨top_2, ⟨lq_2, hlq_2, h19_2, hpv2_2⟩, h20_2, tmd_2⟩ := TLa_get c_3 c_5 (hTL y (by omega))
    have c_7 : E (20 + y) 0 = .inr (5, [.int (nI y), (lyv ad lq_2), .ref (ad (20 + y) 1), .int op_2]) := by rw [← hpv2_2]; exact c_3
    have i20_2 : iN (g 20 y) = mk_2 := by rw [h20_2, iN_nI (by omega)]
    refine xlab (σ := Nat × Int32) (ml := 6) 13 (fun (k, pt) => [(5, .int (nI k)), (4, .ref (ad (20 + y) 0)), (3, .int pt), (0, .ref (ad (20 + n) 0)), (1, .int sv), (2, .int ix)]) (fun (k, pt) => []) (fun (k, pt) => rp ad E RL) (fun (k, pt) => (k ≤ mk_2) ∧ (prA ix (pvU g sv (n + 1)) 0 = prA ix (pvR g sv y (mcv g y - k) k ++ pvU g sv (prv g y)) pt)) (fun (k, pt) => mk_2 - k) ?_ (0, ps) _ _ _ (lv_sub hl [0, 1, 2, 3, 4, 5] rfl) hP hD hS ⟨(show 0 ≤ mk_2 from by first | assumption | omega), (show prA ix (pvU g sv (n + 1)) 0 = prA ix (pvR g sv y (mcv g y - 0) 0 ++ pvU g sv (prv g y)) ps from hpv.trans (by rw [pvU_s (la := y) (fun x hx => prv_T hnL hTL x (by omega)), Nat.sub_zero]))⟩
    intro n9 ih8 a9 ls H locs hμ hl hP hD hS hI
    subst hμ
    obtain ⟨k, pt⟩ := a9
    obtain ⟨hk9, hpt⟩ := hI
    have hk9 : k ≤ mk_2 := hk9
    have hpt : prA ix (pvU g sv (n + 1)) 0 = prA ix (pvR g sv y (mcv g y - k) k ++ pvU g sv (prv g y)) pt := hpt
    have hl : lv_has ls 6 [(5, .int (nI k)), (4, .ref (ad (20 + y) 0)), (3, .int pt), (0, .ref (ad (20 + n) 0)), (1, .int sv), (2, .int ix)] := hl
    have hP : va_P D xcl (rp ad E RL) H := hP
    have hD : va_D A (rp ad E RL) := hD
    refine lv_iload hx hb xd_Ly_providerOf_13 (lv_at hl 0 rfl) ?_
    refine lv_aload hx hb xd_Ly_providerOf_15 (lv_at hl 1 rfl) ?_
    refine px_get (D := D) (ci := 5) (v := .ref (ad (20 + y) 1)) (C := xR_Ly) (T := xT_Ly) (N := 4) hx hb hT xi_Ly hown hK.1 hP m_4 c_7 rfl 2 (by decide) (hT _ k7x_4) (fun _ h9 => h9) rfl xd_Ly_providerOf_17 ?_
    refine px_alen hx hb hK.1 hP m_6 c_5 6 rfl xd_Ly_providerOf_20 ?_
    refine W.eq (g2 := F0 m 21 ls [.int (nI mk_2), .int (nI k)]) rfl ?_
    refine xn_ge (a := k) (b := mk_2) (tgt := 68) hx hb xd_Ly_providerOf_21 (by decide) (by omega) (by omega) (fun hc9 => ?_) (fun hc9 => ?_)
    · refine lv_aload hx hb xd_Ly_providerOf_68 (lv_at hl 1 rfl) ?_
      refine px_get (D := D) (ci := 5) (v := (lyv ad lq_2)) (C := xR_Ly) (T := xT_Ly) (N := 4) hx hb hT xi_Ly hown hK.1 hP m_4 c_7 rfl 1 (by decide) (hT _ k7x_5) (fun _ h9 => h9) rfl xd_Ly_providerOf_70 ?_
      rcases (show lq_2 = 0 ∨ ∃ yq, lq_2 = yq + 1 from by rcases Nat.eq_zero_or_pos lq_2 with q | q; exact Or.inl q; exact Or.inr ⟨lq_2 - 1, by omega⟩) with hyq | ⟨yq, hyq⟩
      · refine W.eq (g2 := F0 m 73 ls [.null]) (by rw [lyv_0 hyq]) ?_
        refine lv_astoreN hx hb xd_Ly_providerOf_73 hl (Nat.le_of_ble_eq_true rfl) rfl (fun ls hl => ?_)
        have hl : lv_has ls 6 [(4, .null), (5, .int (nI k)), (3, .int pt), (0, .ref (ad (20 + n) 0)), (1, .int sv), (2, .int ix)] := hl
        refine lv_goto (tgt := 5) hx hb xd_Ly_providerOf_75 (by decide) ?_
        exact ih1 (0, pt) _ _ _ (show 0 < y + 1 by omega) (lv_sub hl [0, 2, 3, 4, 5] rfl) hP hD hS ⟨(show 0 ≤ n + 1 from by first | assumption | omega), (show prA ix (pvU g sv (n + 1)) 0 = prA ix (pvU g sv 0) pt from hpt.trans (by rw [show mcv g y - k = 0 from by unfold mcv; rw [i20_2]; omega, prv_of h19_2 (by omega), hyq]; rfl))⟩
      · refine W.eq (g2 := F0 m 73 ls [.ref (ad (20 + yq) 0)]) (by rw [lyv_s hyq]) ?_
        refine lv_astore hx hb xd_Ly_providerOf_73 hl (Nat.le_of_ble_eq_true rfl) rfl (fun ls hl => ?_)
        have hl : lv_has ls 6 [(4, .ref (ad (20 + yq) 0)), (5, .int (nI k)), (3, .int pt), (0, .ref (ad (20 + n) 0)), (1, .int sv), (2, .int ix)] := hl
        refine lv_goto (tgt := 5) hx hb xd_Ly_providerOf_75 (by decide) ?_
        exact ih1 (yq + 1, pt) _ _ _ (show (yq + 1) < y + 1 by omega) (lv_sub hl [0, 2, 3, 4, 5] rfl) hP hD hS ⟨(show (yq + 1) ≤ n + 1 from by first | assumption | omega), (show prA ix (pvU g sv (n + 1)) 0 = prA ix (pvU g sv (yq + 1)) pt from hpt.trans (by rw [show mcv g y - k = 0 from by unfold mcv; rw [i20_2]; omega, prv_of h19_2 (by omega), hyq]; rfl))⟩
    · have hkm9 : k < mcv g y := by unfold mcv; rw [i20_2]; omega
      refine lv_aload hx hb xd_Ly_providerOf_24 (lv_at hl 1 rfl) ?_
      refine px_get (D := D) (ci := 5) (v := .ref (ad (20 + y) 1)) (C := xR_Ly) (T := xT_Ly) (N := 4) hx hb hT xi_Ly hown hK.1 hP m_4 c_7 rfl 2 (by decide) (hT _ k7x_4) (fun _ h9 => h9) rfl xd_Ly_providerOf_26 ?_
      refine lv_iload hx hb xd_Ly_providerOf_29 (lv_at hl 0 rfl) ?_
      refine px_aald (i := k) (x := (some (ad (20 + y) (10 + 10 * k)))) hx hb hK.1 hP m_6 c_5 6 rfl ((hk_2 k (by omega)).1) (by omega) (by omega) xd_Ly_providerOf_31 ?_
      obtain ⟨hm_10, d_10, rs_10, fr_10, g2_10, g3_10, g4_10, hd_10, hrs_10, q0_10, q1_10, q2_10, q3_10, q4_10, q5_10, q6_10, q7_10⟩ := (hk_2 k (by omega)).2
      have c_11 : E (20 + y) (10 + 10 * k) = .inr (6, [.ref (ad (20 + y) 0), .ref (ad (1 + d_10) 0), .ref (ad (20 + y) (11 + 10 * k)), .ref (ad (20 + y) (12 + 10 * k)), .ref (ad (20 + y) (13 + 10 * k)), .ref (ad (20 + y) (14 + 10 * k))]) := q0_10
      have m_12 : (20 + y, 10 + 10 * k) ∈ RL := hm_10 0 (by decide)
      have c_13 : E (20 + y) (11 + 10 * k) = .inl (kA 6, rs_10, .inr (.inr (.inr (.inr fr_10)))) := q1_10
      have m_14 : (20 + y, 11 + 10 * k) ∈ RL := hm_10 1 (by decide)
      have c_15 : E (20 + y) (12 + 10 * k) = .inr (10, [.ref (ad (20 + y) (15 + 10 * k))]) := q2_10
      have m_16 : (20 + y, 12 + 10 * k) ∈ RL := hm_10 2 (by decide)
      have c_17 : E (20 + y) (13 + 10 * k) = .inr (10, [.ref (ad (20 + y) (16 + 10 * k))]) := q3_10
      have m_18 : (20 + y, 13 + 10 * k) ∈ RL := hm_10 3 (by decide)
      have c_19 : E (20 + y) (14 + 10 * k) = .inr (10, [.ref (ad (20 + y) (17 + 10 * k))]) := q4_10
      have m_20 : (20 + y, 14 + 10 * k) ∈ RL := hm_10 4 (by decide)
      have c_21 : E (20 + y) (15 + 10 * k) = .inl (kA 0, 6, .inl g2_10) := q5_10
      have m_22 : (20 + y, 15 + 10 * k) ∈ RL := hm_10 5 (by decide)
      have c_23 : E (20 + y) (16 + 10 * k) = .inl (kA 0, 6, .inl g3_10) := q6_10
      have m_24 : (20 + y, 16 + 10 * k) ∈ RL := hm_10 6 (by decide)
      have c_25 : E (20 + y) (17 + 10 * k) = .inl (kA 0, 6, .inl g4_10) := q7_10
      have m_26 : (20 + y, 17 + 10 * k) ∈ RL := hm_10 7 (by decide)
      have hdm_10 : mdv g y k = d_10 := by
        obtain ⟨dz, hdz, h21z, hvz⟩ := tmd_2 k (by omega)
        rw [c_11] at hvz
        have ez := (rp_inj hD ((hDIs d_10 hd_10).1 0 (by omega)) ((hDIs dz hdz).1 0 (by omega)) (Value.ref.inj hvz)).1
        unfold mdv
        rw [h21z, iN_nI (by omega)]; omega
      refine px_get (D := D) (ci := 6) (v := .ref (ad (1 + d_10) 0)) (C := xR_Me) (T := xT_Me) (N := 6) hx hb hT xi_Me hown hK.1 hP m_12 c_11 rfl 1 (by decide) (hT _ k7x_6) (fun _ h9 => h9) rfl xd_Ly_providerOf_32 ?_
      obtain ⟨hm_27, fd_27, nm_27, sd_27, k0_27, k1_27, k2_27, k3_27, f0_27, f1_27, f2_27, f3_27, fe_27, fo_27, tr_27, op_27, hk0_27, hk1_27, hk2_27, hk3_27, q0_27, q1_27, q2_27, q3_27, q4_27, q5_27, q6_27, q7_27, q8_27, q9_27, q10_27, q11_27, q12_27, hg_27⟩ := id (hDIs d_10 (by omega))
      have c_28 : E (1 + d_10) 0 = .inr (7, [.int (nI d_10), .int fd_27, .int nm_27, .ref (ad (1 + d_10) 1), .ref (ad (1 + d_10) 9), .ref (ad (1 + d_10) 10), .ref (ad (1 + d_10) 2), .ref (ad (1 + d_10) 11), .ref (ad (1 + d_10) 12), .ref (ad (1 + d_10) 3), .ref (ad (1 + d_10) 4), .int sd_27]) := q0_27
      have m_29 : (1 + d_10, 0) ∈ RL := hm_27 0 (by decide)
      have c_30 : E (1 + d_10) 1 = .inr (8, [.ref (ad (1 + d_10) 5), .int (nI k0_27)]) := q1_27
      have m_31 : (1 + d_10, 1) ∈ RL := hm_27 1 (by decide)
      have c_32 : E (1 + d_10) 2 = .inr (8, [.ref (ad (1 + d_10) 6), .int (nI k1_27)]) := q2_27
      have m_33 : (1 + d_10, 2) ∈ RL := hm_27 2 (by decide)
      have c_34 : E (1 + d_10) 3 = .inr (8, [.ref (ad (1 + d_10) 7), .int (nI k2_27)]) := q3_27
      have m_35 : (1 + d_10, 3) ∈ RL := hm_27 3 (by decide)
      have c_36 : E (1 + d_10) 4 = .inr (8, [.ref (ad (1 + d_10) 8), .int (nI k3_27)]) := q4_27
      have m_37 : (1 + d_10, 4) ∈ RL := hm_27 4 (by decide)
      have c_38 : E (1 + d_10) 5 = .inl (kA 0, 6, .inl f0_27) := q5_27
      have m_39 : (1 + d_10, 5) ∈ RL := hm_27 5 (by decide)
      have c_40 : E (1 + d_10) 6 = .inl (kA 0, 5, .inl f1_27) := q6_27
      have m_41 : (1 + d_10, 6) ∈ RL := hm_27 6 (by decide)
      have c_42 : E (1 + d_10) 7 = .inl (kA 0, 3, .inl f2_27) := q7_27
      have m_43 : (1 + d_10, 7) ∈ RL := hm_27 7 (by decide)
      have c_44 : E (1 + d_10) 8 = .inl (kA 0, 3, .inl f3_27) := q8_27
      have m_45 : (1 + d_10, 8) ∈ RL := hm_27 8 (by decide)
      have c_46 : E (1 + d_10) 9 = .inl (kA 8, 6, .inr (.inr (.inr (.inr fe_27)))) := q9_27
      have m_47 : (1 + d_10, 9) ∈ RL := hm_27 9 (by decide)
      have c_48 : E (1 + d_10) 10 = .inl (kA 8, 6, .inr (.inr (.inr (.inr fo_27)))) := q10_27
      have m_49 : (1 + d_10, 10) ∈ RL := hm_27 10 (by decide)
      have c_50 : E (1 + d_10) 11 = .inl (kA 2, 5, .inl tr_27) := q11_27
      have m_51 : (1 + d_10, 11) ∈ RL := hm_27 11 (by decide)
      have c_52 : E (1 + d_10) 12 = .inl (kA 2, 5, .inl op_27) := q12_27
      have m_53 : (1 + d_10, 12) ∈ RL := hm_27 12 (by decide)
      have hg_27 : ∀ w9, w9 < k0_27 → fe_27 w9 = some (ad (1 + d_10) (20 + 3 * w9)) ∧ fo_27 w9 = some (ad (1 + d_10) (38 + 3 * w9)) ∧ GI kA (ad (1 + d_10)) (E (1 + d_10)) (fun o => (1 + d_10, o) ∈ RL) (20 + 3 * w9) (21 + 3 * w9) (22 + 3 * w9) ∧ GI kA (ad (1 + d_10)) (E (1 + d_10)) (fun o => (1 + d_10, o) ∈ RL) (38 + 3 * w9) (39 + 3 * w9) (40 + 3 * w9) := hg_27
      obtain ⟨hTT_27, tgr_27⟩ := TD_get hk0_27 hk1_27 hk2_27 hk3_27 c_28 c_30 c_32 c_34 c_36 c_38 c_40 c_42 c_44 c_50 c_52 (hTD d_10 (by omega))
      obtain ⟨tfd_27, tnm_27, tsd_27, tk0_27, tf0_27, tk1_27, tf1_27, tk2_27, tk3_27⟩ := id hTT_27
      have ik0_27 : iN (g 5 d_10) = k0_27 := by rw [← tk0_27, iN_nI (by omega)]
      have ik1_27 : iN (g 12 d_10) = k1_27 := by rw [← tk1_27, iN_nI (by omega)]
      refine px_get (D := D) (ci := 7) (v := .ref (ad (1 + d_10) 4)) (C := xR_Ds) (T := xT_Ds) (N := 12) hx hb hT xi_Ds hown hK.1 hP m_29 c_28 rfl 10 (by decide) (hT _ k7x_7) (fun _ h9 => h9) rfl xd_Ly_providerOf_35 ?_
      refine lv_iload_n hx hb xd_Ly_providerOf_38 rfl (lv_at hl 4 rfl) ?_
      have hFc := px_free hD hS hA
      refine va_calli (va_runV (As := [.int sv]) (rest := []) ⟨hx, hb, hml, hown, hT⟩ (xc_Na_holds l D kA H.size ad E RL (1 + d_10) 4 8 3 k3_27 f3_27 sv m_37 c_36 m_45 c_44 (by first | assumption | omega) (by first | assumption | omega)) (cwV 1 hT (wT_V k7x_9 k7x_10 k7x_11 k7x_12 k7x_8) rfl rfl rfl (by decide +kernel) ⟨Nat.le_of_ble_eq_true rfl, Nat.le_of_ble_eq_true rfl⟩) (px_preV hK hP hD m_37 c_36 rfl) rfl rfl hl.1 rfl (lv_room (Nat.le_of_ble_eq_true rfl)) xd_Ly_providerOf_39 ⟨(Nat.le_of_ble_eq_true rfl), (Nat.le_of_ble_eq_true rfl)⟩) hS (fun q _ h => hFc q h) hFc (fun r54 u55 t H1 locs ht hvm hp56 hB hz1 hk1 hS => ?_)
      obtain ⟨hP1, hD1⟩ := hB
      rw [ht] at hP1
      have hD1 := hD1.weaken (fun _ _ _ h => hFc _ h)
      generalize H1 = H at hP1 hS ⊢
      have hP := hP1
      have hD := hD1
      have hP : va_P D xcl (rp ad E RL) H := hP
      have hD : va_D A (rp ad E RL) := hD
      rcases hp56 with ⟨rfl, z57, z58, z59⟩ | ⟨rfl, z60⟩
      · refine W.eq (g2 := F0 m 42 ls [.int 1]) rfl ?_
        refine lv_if_eq (tgt := 62) hx hb xd_Ly_providerOf_42 (by decide) (fun hc61 => absurd hc61 (by decide)) (fun _ => ?_)
        refine lv_iload_n hx hb xd_Ly_providerOf_45 rfl (lv_at hl 2 rfl) ?_
        refine lv_iload_n hx hb xd_Ly_providerOf_46 rfl (lv_at hl 5 rfl) ?_
        refine lv_icmp_ne (tgt := 59) hx hb xd_Ly_providerOf_47 (by decide) (fun hc62 => ?_) (fun hc62 => ?_)
        · refine lv_iinc (k := 2) (x := pt) (v := (pt + Int32.ofInt 1)) hx hb xd_Ly_providerOf_59 hl rfl rfl (Nat.le_of_ble_eq_true rfl) rfl (fun ls hl => ?_)
          have hl : lv_has ls 6 [(3, .int (pt + Int32.ofInt 1)), (5, .int (nI k)), (4, .ref (ad (20 + y) 0)), (0, .ref (ad (20 + n) 0)), (1, .int sv), (2, .int ix)] := hl
          refine lv_iinc (k := 1) (x := (nI k)) (v := (nI (k + 1))) hx hb xd_Ly_providerOf_62 hl rfl (xb_inc k 1) (Nat.le_of_ble_eq_true rfl) rfl (fun ls hl => ?_)
          have hl : lv_has ls 6 [(5, .int (nI (k + 1))), (3, .int (pt + Int32.ofInt 1)), (4, .ref (ad (20 + y) 0)), (0, .ref (ad (20 + n) 0)), (1, .int sv), (2, .int ix)] := hl
          refine lv_goto (tgt := 13) hx hb xd_Ly_providerOf_65 (by decide) ?_
          exact ih8 (k + 1, (pt + Int32.ofInt 1)) _ _ _ (show mk_2 - (k + 1) < mk_2 - k by omega) (lv_sub hl [0, 2, 1, 3, 4, 5] rfl) hP hD hS ⟨(show (k + 1) ≤ mk_2 from by first | assumption | omega), (show prA ix (pvU g sv (n + 1)) 0 = prA ix (pvR g sv y (mcv g y - (k + 1)) (k + 1) ++ pvU g sv (prv g y)) (pt + Int32.ofInt 1) from hpt.trans (by rw [show mcv g y - k = mcv g y - (k + 1) + 1 by omega, pvR_y (show gvP g (mdv g y k) sv from by rw [hdm_10]; exact (NT_iff hk3_27 hsv0 tk3_27).mp ⟨z57, z58, z59⟩), List.cons_append, prA_n hc62, ofI_1]))⟩
        · refine lv_aload hx hb xd_Ly_providerOf_50 (lv_at hl 1 rfl) ?_
          refine px_get (D := D) (ci := 5) (v := .ref (ad (20 + y) 1)) (C := xR_Ly) (T := xT_Ly) (N := 4) hx hb hT xi_Ly hown hK.1 hP m_4 c_7 rfl 2 (by decide) (hT _ k7x_4) (fun _ h9 => h9) rfl xd_Ly_providerOf_52 ?_
          refine lv_iload hx hb xd_Ly_providerOf_55 (lv_at hl 0 rfl) ?_
          refine px_aald (i := k) (x := (some (ad (20 + y) (10 + 10 * k)))) hx hb hK.1 hP m_6 c_5 6 rfl ((hk_2 k (by omega)).1) (by omega) (by omega) xd_Ly_providerOf_57 ?_
          exact W.aret (v := .ref (ad (20 + y) (10 + 10 * k))) hx hb hr (Or.inl ⟨_, rfl⟩) (Or.inr ⟨_, rfl⟩) (fun t ht hW => ⟨⟨(some (ad (20 + y) (10 + 10 * k))), (), rfl, Or.inr ⟨y, k, by omega, rfl, (hk_2 k (by omega)).2, hkm9, hpt.trans (by rw [show mcv g y - k = mcv g y - (k + 1) + 1 by omega, pvR_y (show gvP g (mdv g y k) sv from by rw [hdm_10]; exact (NT_iff hk3_27 hsv0 tk3_27).mp ⟨z57, z58, z59⟩), List.cons_append, prA_y hc62])⟩, by rw [ht]; exact hP, hD⟩, hS.F ht⟩) hS.2.2 xd_Ly_providerOf_58
      · refine W.eq (g2 := F0 m 42 ls [.int 0]) rfl ?_
        refine lv_if_eq (tgt := 62) hx hb xd_Ly_providerOf_42 (by decide) (fun _ => ?_) (fun hc63 => absurd (by decide) hc63)
        refine lv_iinc (k := 0) (x := (nI k)) (v := (nI (k + 1))) hx hb xd_Ly_providerOf_62 hl rfl (xb_inc k 1) (Nat.le_of_ble_eq_true rfl) rfl (fun ls hl => ?_)
        have hl : lv_has ls 6 [(5, .int (nI (k + 1))), (4, .ref (ad (20 + y) 0)), (3, .int pt), (0, .ref (ad (20 + n) 0)), (1, .int sv), (2, .int ix)] := hl
        refine lv_goto (tgt := 13) hx hb xd_Ly_providerOf_65 (by decide) ?_
        exact ih8 (k + 1, pt) _ _ _ (show mk_2 - (k + 1) < mk_2 - k by omega) (lv_sub hl [0, 1, 2, 3, 4, 5] rfl) hP hD hS ⟨(show (k + 1) ≤ mk_2 from by first | assumption | omega), (show prA ix (pvU g sv (n + 1)) 0 = prA ix (pvR g sv y (mcv g y - (k + 1)) (k + 1) ++ pvU g sv (prv g y)) pt from hpt.trans (by rw [show mcv g y - k = mcv g y - (k + 1) + 1 by omega, pvR_n (show ¬ gvP g (mdv g y k) sv from by rw [hdm_10]; exact fun q => by obtain ⟨k9, q1, q2⟩ := (NT_iff hk3_27 hsv0 tk3_27).mpr q; exact z60 k9 q1 q2)]))⟩
set_option maxHeartbeats 4000000 in
set_option maxRecDepth 100000 in
theorem xc_De_providerA (l : Launch) (hlt : l.stackTraces = false) (D : va_G) (kA : Nat → ClassId) (sz : Nat) (ad : Nat → Nat → Nat) (E : Nat → Nat → va_E) (RL : List (Nat × Nat)) (Z : zT) (g : Nat → Nat → Int32) (ml : Nat) (nd : Nat) (len : Nat) (wn : Nat) (cs : Nat) (ix : Int32) (kx : Int32) (hCI : CI kA ad E RL ml nd len wn cs) (hXT : XT g ad E nd ml len) : vx_Met l xy_De_provider (.code xy_De_provider xb_De_provider 6 (some .int) :: wT) { frames := 6, cells := 1, slots := 6, locals := 82 } (va_Pc [.ref (ad 0 0), .int ix, .int kx] (xPreZ D kA sz (rp ad E RL) Z)) (va_Qi (fun (r : Int32) (u : Nat → Nat → va_E) => ((∃ wn2, CI kA ad u RL ml nd 0 wn2 cs) ∧ F134 E u) ∧ pvA g ml (n1 (g 0) (w_all (g 0) len)) ix kx 0 r) (fun (u : Nat → Nat → va_E) t => va_P D xcl (rp ad u RL) t.heap ∧ va_D (va_A (rp ad E RL) sz) (rp ad u RL)) (va_A (rp ad E RL) sz)) (vx_X (fun (u : Nat → Nat → va_E) => ((∃ wn2, CI kA ad u RL ml nd 0 wn2 cs) ∧ F134 E u)) (fun E9 u t => (E9 = "java/lang/IllegalArgumentException" ∧ ((n1 (g 0) (w_all (g 0) len)) = 0 ∨ ¬ opP g ml ix)) ∧ va_P D xcl (rp ad u RL) t.heap ∧ va_D (va_A (rp ad E RL) sz) (rp ad u RL)) (va_A (rp ad E RL) sz)) 1 6 (va_A (rp ad E RL) sz) := by
  refine vx_ofW (cc := xb_De_provider) (maxL := 6) (ret := (some .int)) (by decide) rfl ?_
  intro p e s m args below meth c s₁ B hml htab hv
  obtain ⟨rfl, ⟨hsz, hP, hK, hD0⟩, hZ⟩ := hv
  have hx := B.exec
  have hb := B.bytes
  have hr := B.returns
  have hT := x_hT B.pre
  have hown : s.vm.findClass xR_De = some m.cls := findClass_of_methodNamed B.named
  have hlocks := B.notSynchronized
  subst hsz
  have hD := hD0.self (sz := s.heap.size)
  generalize hAe : va_A (rp ad E RL) s.heap.size = A at hD hZ ⊢
  have hA : ∀ q : Nat, s.heap.size ≤ q → A q := fun q h => by rw [← hAe]; exact Or.inr h
  have hS : va_S A s.heap s.heap [] := va_S.rf
  have hl := lv_entry ([.ref (ad 0 0), .int ix, .int kx]) (n := 6) (Nat.le_of_ble_eq_true rfl)
  rw [lg_entry_eq]
  generalize (lg_sl ([.ref (ad 0 0), .int ix, .int kx]) ++ List.replicate (6 - (lg_sl ([.ref (ad 0 0), .int ix, .int kx])).length) Slot.unset).toArray = ls at hl ⊢
  have hl : lv_has ls 6 [(0, .ref (ad 0 0)), (1, .int ix), (2, .int kx)] := hl
  have hP : va_P D xcl (rp ad E RL) s.heap := hP
  obtain ⟨hmB, hDk, hLi, hSh, hCh, hLa, hDIs, hLIs⟩ := id hCI
  obtain ⟨lf_1, q_1⟩ := id (hDk)
  have c_2 : E 0 0 = .inr (0, [.ref (ad 0 1), .ref (ad 0 5), .ref (ad 0 7), .ref (ad 0 9), .int (nI ml), .int lf_1]) := q_1
  have m_3 : (0, 0) ∈ RL := hmB 0 (by decide)
  refine lv_aload_n hx hb xd_De_provider_0 rfl (lv_at hl 0 rfl) ?_
  refine px_get (D := D) (ci := 0) (v := .ref (ad 0 1)) (C := xR_De) (T := xT_De) (N := 6) hx hb hT xi_De hown hK.1 hP m_3 c_2 rfl 0 (by decide) (hT _ k7x_13) (fun _ h9 => h9) rfl xd_De_provider_1 ?_
  have hFc := px_free hD hS hA
  obtain ⟨tx_4, fb_4, fe_4, hl1_4, hw2_4, q1_4, q2_4, q3_4, q4_4, hws_4⟩ := id (hLi)
  have c_5 : E 0 1 = .inr (1, [.ref (ad 0 2), .ref (ad 0 3), .ref (ad 0 4), .int (nI len), .int (nI wn)]) := q1_4
  have m_6 : (0, 1) ∈ RL := hmB 1 (by decide)
  have c_7 : E 0 2 = .inl (kA 1, 40, .inl tx_4) := q2_4
  have m_8 : (0, 2) ∈ RL := hmB 2 (by decide)
  have c_9 : E 0 3 = .inl (kA 0, 20, .inl fb_4) := q3_4
  have m_10 : (0, 3) ∈ RL := hmB 3 (by decide)
  have c_11 : E 0 4 = .inl (kA 0, 20, .inl fe_4) := q4_4
  have m_12 : (0, 4) ∈ RL := hmB 4 (by decide)
  refine va_calli (va_runV (As := []) (rest := []) ⟨hx, hb, hml, hown, hT⟩ (xc_Li_takeNameX l D kA s.heap.size ad E RL g ml nd len wn cs (by first | assumption | omega) hXT.1) (cwV 0 hT (wT_V k7x_15 k7x_16 k7x_17 k7x_18 k7x_14) rfl rfl rfl (by decide +kernel) ⟨Nat.le_of_ble_eq_true rfl, Nat.le_of_ble_eq_true rfl⟩) (px_preV hK hP hD m_6 c_5 rfl) rfl rfl hl.1 rfl (lv_room (Nat.le_of_ble_eq_true rfl)) xd_De_provider_4 ⟨(Nat.le_of_ble_eq_true rfl), (Nat.le_of_ble_eq_true rfl)⟩) hS (fun q _ h => hFc q h) hFc (fun r13 u14 t H1 locs ht hvm hp15 hB hz1 hk1 hS => ?_)
  obtain ⟨hP1, hD1⟩ := hB
  rw [ht] at hP1
  have hD1 := hD1.weaken (fun _ _ _ h => hFc _ h)
  generalize H1 = H at hP1 hS ⊢
  have hP := hP1
  have hD := hD1
  obtain ⟨E16, rfl⟩ : ∃ z, z = u14 := ⟨_, rfl⟩
  have hP : va_P D xcl (rp ad E16 RL) H := hP
  have hD : va_D A (rp ad E16 RL) := hD
  obtain ⟨⟨wn17, hCI⟩, hF1, hnm⟩ := hp15
  have hCI : CI kA ad E16 RL ml nd 0 wn17 cs := hCI
  have hnm : r13 = (n1 (g 0) (w_all (g 0) len)) := hnm
  obtain ⟨hmB, hDk, hLi, hSh, hCh, hLa, hDIs, hLIs⟩ := id hCI
  obtain ⟨lf_18, q_18⟩ := id (hDk)
  have c_19 : E16 0 0 = .inr (0, [.ref (ad 0 1), .ref (ad 0 5), .ref (ad 0 7), .ref (ad 0 9), .int (nI ml), .int lf_18]) := q_18
  have m_20 : (0, 0) ∈ RL := hmB 0 (by decide)
  obtain ⟨fl_21, hml_21, q9_21, hla_21⟩ := id (hLa)
  have c_22 : E16 0 9 = .inl (kA 5, 5, .inr (.inr (.inr (.inr fl_21)))) := q9_21
  have m_23 : (0, 9) ∈ RL := hmB 9 (by decide)
  have hXT1 : XT g ad E16 nd ml 0 := f1_join hF1 hXT
  have hTD1 := hXT1.2.1
  have hTL1 := hXT1.2.2.1
  have hRB1 := hXT1.2.2.2.2.1
  have hNZ1 := hXT1.2.2.2.2.2.2.1
  obtain ⟨_, hnd12, hml5, _, _⟩ := CI_b hCI
  have hLKP : LKP g ml := LKP_C hCI hTL1
  have hmcb : ∀ la, la < ml → mcv g la ≤ 12 := fun la hl9 => (hLKP.2 la hl9).1
  refine lv_istore_n hx hb xd_De_provider_7 rfl hl (Nat.le_of_ble_eq_true rfl) rfl (fun ls hl => ?_)
  have hl : lv_has ls 6 [(3, .int r13), (0, .ref (ad 0 0)), (1, .int ix), (2, .int kx)] := hl
  refine lv_aload_n hx hb xd_De_provider_8 rfl (lv_at hl 1 rfl) ?_
  refine lv_iload_n hx hb xd_De_provider_9 rfl (lv_at hl 2 rfl) ?_
  have hFc := px_free hD hS hA
  refine va_callq (va_runV (As := [.int ix]) (rest := []) ⟨hx, hb, hml, hown, hT⟩ (xc_De_openLayerX l D kA H.size ad E16 RL g ml nd 0 wn17 cs ix (by first | assumption | omega) hTL1) (cwV 1 hT (wT_V k7x_20 k7x_21 k7x_22 k7x_23 k7x_19) rfl rfl rfl (by decide +kernel) ⟨Nat.le_of_ble_eq_true rfl, Nat.le_of_ble_eq_true rfl⟩) (px_preV hK hP hD m_20 c_19 rfl) rfl rfl hl.1 rfl (lv_room (Nat.le_of_ble_eq_true rfl)) xd_De_provider_10 ⟨(Nat.le_of_ble_eq_true rfl), (Nat.le_of_ble_eq_true rfl)⟩) hS (fun q _ h => hFc q h) hFc (fun r24 u25 t H1 locs ht hvm hp26 hB hz1 hk1 hS => ?_)
  obtain ⟨hP1, hD1⟩ := hB
  rw [ht] at hP1
  have hD1 := hD1.weaken (fun _ _ _ h => hFc _ h)
  generalize H1 = H at hP1 hS ⊢
  have hP := hP1
  have hD := hD1
  have hP : va_P D xcl (rp ad E16 RL) H := hP
  have hD : va_D A (rp ad E16 RL) := hD
  rcases hp26 with ⟨rfl, z27⟩ | ⟨z28, z29, z30, z31, rfl⟩
  · refine W.eq (g2 := F0 m 13 ls [.null]) rfl ?_
    refine lv_astoreN hx hb xd_De_provider_13 hl (Nat.le_of_ble_eq_true rfl) rfl (fun ls hl => ?_)
    have hl : lv_has ls 6 [(4, .null), (3, .int r13), (0, .ref (ad 0 0)), (1, .int ix), (2, .int kx)] := hl
    refine lv_aloadN hx hb xd_De_provider_15 (lv_at hl 0 rfl) ?_
    refine lv_ifnullN (tgt := 24) hx hb xd_De_provider_17 (by decide) ?_
    exact y_throwA (ik := 56) (is := 190) (wf := fun (u : Nat → Nat → va_E) => rp ad u RL) E16 (⟨⟨wn17, hCI⟩, hF1⟩) ⟨rfl, Or.inr z27⟩ hx hb hlt hown hT hK k7x_24 k7x_25 hZ.2.2.2.1.2.2.2.2.2.2.2.2.2.2.2.2.2.2.2.2.2.2.2.2 hZ.1 hS hP hD (hl.1.trans hml.symm) xd_De_provider_24 xd_De_provider_27 xd_De_provider_28 xd_De_provider_30 xd_De_provider_33 htab (Nat.le_of_ble_eq_true rfl) (Nat.le_of_ble_eq_true rfl) (Nat.le_of_ble_eq_true rfl) (Nat.le_of_ble_eq_true rfl) hlocks (Nat.le_of_ble_eq_true rfl) (Nat.le_of_ble_eq_true rfl)
  · refine W.eq (g2 := F0 m 13 ls [.ref (ad (20 + z28) 0)]) rfl ?_
    refine lv_astore hx hb xd_De_provider_13 hl (Nat.le_of_ble_eq_true rfl) rfl (fun ls hl => ?_)
    have hl : lv_has ls 6 [(4, .ref (ad (20 + z28) 0)), (3, .int r13), (0, .ref (ad 0 0)), (1, .int ix), (2, .int kx)] := hl
    refine lv_aload hx hb xd_De_provider_15 (lv_at hl 0 rfl) ?_
    refine lv_ifnull hx hb xd_De_provider_17 ?_
    refine lv_iload_n hx hb xd_De_provider_20 rfl (lv_at hl 1 rfl) ?_
    refine lv_if_ne (tgt := 34) hx hb xd_De_provider_21 (by decide) (fun hc32 => ?_) (fun hc32 => ?_)
    · refine lv_aload hx hb xd_De_provider_34 (lv_at hl 0 rfl) ?_
      refine lv_iload_n hx hb xd_De_provider_36 rfl (lv_at hl 1 rfl) ?_
      refine lv_iload_n hx hb xd_De_provider_37 rfl (lv_at hl 4 rfl) ?_
      have hFc := px_free hD hS hA
      obtain ⟨m0_33, m1_33, pv_33, op_33, mk_33, fm_33, hmk_33, hpv_33, q0_33, q1_33, hk_33⟩ := id (hLIs z28 (by omega))
      have c_34 : E16 (20 + z28) 0 = .inr (5, [.int (nI z28), pv_33, .ref (ad (20 + z28) 1), .int op_33]) := q0_33
      have m_35 : (20 + z28, 0) ∈ RL := m0_33
      have c_36 : E16 (20 + z28) 1 = .inl (kA 6, mk_33, .inr (.inr (.inr (.inr fm_33)))) := q1_33
      have m_37 : (20 + z28, 1) ∈ RL := m1_33
      obtain ⟨top_33, ⟨lq_33, hlq_33, h19_33, hpv2_33⟩, h20_33, tmd_33⟩ := TLa_get c_34 c_36 (hTL1 z28 (by omega))
      have c_38 : E16 (20 + z28) 0 = .inr (5, [.int (nI z28), (lyv ad lq_33), .ref (ad (20 + z28) 1), .int op_33]) := by rw [← hpv2_33]; exact c_34
      have i20_33 : iN (g 20 z28) = mk_33 := by rw [h20_33, iN_nI (by omega)]
      refine va_callq (va_runV (As := [.int r13, .int kx]) (rest := []) ⟨hx, hb, hml, hown, hT⟩ (xc_Ly_providerOfA l D kA H.size ad E16 RL g nd ml z28 r13 kx (by first | assumption | omega) (by first | assumption | omega) (by first | assumption | omega) z29 hTD1 hTL1 (by first | assumption | omega) hc32) (cwV 2 hT (wT_V k7x_27 k7x_28 k7x_29 k7x_30 k7x_26) rfl rfl rfl (by decide +kernel) ⟨Nat.le_of_ble_eq_true rfl, Nat.le_of_ble_eq_true rfl⟩) (px_preV hK hP hD m_35 c_38 rfl) rfl rfl hl.1 rfl (lv_room (Nat.le_of_ble_eq_true rfl)) xd_De_provider_38 ⟨(Nat.le_of_ble_eq_true rfl), (Nat.le_of_ble_eq_true rfl)⟩) hS (fun q _ h => hFc q h) hFc (fun r39 u40 t H1 locs ht hvm hp41 hB hz1 hk1 hS => ?_)
      obtain ⟨hP1, hD1⟩ := hB
      rw [ht] at hP1
      have hD1 := hD1.weaken (fun _ _ _ h => hFc _ h)
      generalize H1 = H at hP1 hS ⊢
      have hP := hP1
      have hD := hD1
      have hP : va_P D xcl (rp ad E16 RL) H := hP
      have hD : va_D A (rp ad E16 RL) := hD
      rcases hp41 with ⟨rfl, z42⟩ | ⟨z43, z44, z45, rfl, z46, z47, z48⟩
      · refine W.eq (g2 := F0 m 41 ls [.null]) rfl ?_
        refine lv_astoreN hx hb xd_De_provider_41 hl (Nat.le_of_ble_eq_true rfl) rfl (fun ls hl => ?_)
        have hl : lv_has ls 6 [(5, .null), (4, .ref (ad (20 + z28) 0)), (3, .int r13), (0, .ref (ad 0 0)), (1, .int ix), (2, .int kx)] := hl
        refine lv_aloadN hx hb xd_De_provider_43 (lv_at hl 0 rfl) ?_
        refine lv_ifnonnullN hx hb xd_De_provider_45 ?_
        refine lv_iconst (v := (-1)) hx hb xd_De_provider_48 (by decide) ?_
        refine lv_goto (tgt := 57) hx hb xd_De_provider_49 (by decide) ?_
        refine W.widen (k := 1) (n := 6) (Nat.le_of_ble_eq_true rfl) (Nat.le_of_ble_eq_true rfl) ?_
        refine vx_ret ?_
        exact W.iret (v := (-1)) hx hb hr (fun t ht hW => ⟨⟨(-1), E16, rfl, ⟨⟨⟨wn17, hCI⟩, hF1⟩, Or.inr ⟨rfl, (by rw [← hnm]; exact hc32), z28, z29, z30, z31, by rw [← hnm]; exact z42.symm⟩⟩, by rw [ht]; exact hP, hD⟩, hS.F ht⟩) hS.2.2 xd_De_provider_57
      · refine W.eq (g2 := F0 m 41 ls [.ref (ad (20 + z43) (10 + 10 * z44))]) rfl ?_
        refine lv_astore hx hb xd_De_provider_41 hl (Nat.le_of_ble_eq_true rfl) rfl (fun ls hl => ?_)
        have hl : lv_has ls 6 [(5, .ref (ad (20 + z43) (10 + 10 * z44))), (4, .ref (ad (20 + z28) 0)), (3, .int r13), (0, .ref (ad 0 0)), (1, .int ix), (2, .int kx)] := hl
        refine lv_aload hx hb xd_De_provider_43 (lv_at hl 0 rfl) ?_
        refine lv_ifnonnull (tgt := 52) hx hb xd_De_provider_45 (by decide) ?_
        refine lv_aload hx hb xd_De_provider_52 (lv_at hl 0 rfl) ?_
        have hFc := px_free hD hS hA
        obtain ⟨hm_49, d_49, rs_49, fr_49, g2_49, g3_49, g4_49, hd_49, hrs_49, q0_49, q1_49, q2_49, q3_49, q4_49, q5_49, q6_49, q7_49⟩ := id z46
        have c_50 : E16 (20 + z43) (10 + 10 * z44) = .inr (6, [.ref (ad (20 + z43) 0), .ref (ad (1 + d_49) 0), .ref (ad (20 + z43) (11 + 10 * z44)), .ref (ad (20 + z43) (12 + 10 * z44)), .ref (ad (20 + z43) (13 + 10 * z44)), .ref (ad (20 + z43) (14 + 10 * z44))]) := q0_49
        have m_51 : (20 + z43, 10 + 10 * z44) ∈ RL := hm_49 0 (by decide)
        have c_52 : E16 (20 + z43) (11 + 10 * z44) = .inl (kA 6, rs_49, .inr (.inr (.inr (.inr fr_49)))) := q1_49
        have m_53 : (20 + z43, 11 + 10 * z44) ∈ RL := hm_49 1 (by decide)
        have c_54 : E16 (20 + z43) (12 + 10 * z44) = .inr (10, [.ref (ad (20 + z43) (15 + 10 * z44))]) := q2_49
        have m_55 : (20 + z43, 12 + 10 * z44) ∈ RL := hm_49 2 (by decide)
        have c_56 : E16 (20 + z43) (13 + 10 * z44) = .inr (10, [.ref (ad (20 + z43) (16 + 10 * z44))]) := q3_49
        have m_57 : (20 + z43, 13 + 10 * z44) ∈ RL := hm_49 3 (by decide)
        have c_58 : E16 (20 + z43) (14 + 10 * z44) = .inr (10, [.ref (ad (20 + z43) (17 + 10 * z44))]) := q4_49
        have m_59 : (20 + z43, 14 + 10 * z44) ∈ RL := hm_49 4 (by decide)
        have c_60 : E16 (20 + z43) (15 + 10 * z44) = .inl (kA 0, 6, .inl g2_49) := q5_49
        have m_61 : (20 + z43, 15 + 10 * z44) ∈ RL := hm_49 5 (by decide)
        have c_62 : E16 (20 + z43) (16 + 10 * z44) = .inl (kA 0, 6, .inl g3_49) := q6_49
        have m_63 : (20 + z43, 16 + 10 * z44) ∈ RL := hm_49 6 (by decide)
        have c_64 : E16 (20 + z43) (17 + 10 * z44) = .inl (kA 0, 6, .inl g4_49) := q7_49
        have m_65 : (20 + z43, 17 + 10 * z44) ∈ RL := hm_49 7 (by decide)
        refine va_calli (va_runV (As := []) (rest := []) ⟨hx, hb, hml, hown, hT⟩ (xc_Me_codeA l D kA H.size ad E16 RL g nd ml z43 z44 (by first | assumption | omega) (by first | assumption | omega) (by first | assumption | omega) (by have q := z29; have q2 := z45; omega) hTD1 hTL1 (by first | assumption | omega) z46 z47) (cwV 0 hT (wT_V k7x_32 k7x_33 k7x_34 k7x_35 k7x_31) rfl rfl rfl (by decide +kernel) ⟨Nat.le_of_ble_eq_true rfl, Nat.le_of_ble_eq_true rfl⟩) (px_preV hK hP hD m_51 c_50 rfl) rfl rfl hl.1 rfl (lv_room (Nat.le_of_ble_eq_true rfl)) xd_De_provider_54 ⟨(Nat.le_of_ble_eq_true rfl), (Nat.le_of_ble_eq_true rfl)⟩) hS (fun q _ h => hFc q h) hFc (fun r66 u67 t H1 locs ht hvm hp68 hB hz1 hk1 hS => ?_)
        obtain ⟨hP1, hD1⟩ := hB
        rw [ht] at hP1
        have hD1 := hD1.weaken (fun _ _ _ h => hFc _ h)
        generalize H1 = H at hP1 hS ⊢
        have hP := hP1
        have hD := hD1
        have hP : va_P D xcl (rp ad E16 RL) H := hP
        have hD : va_D A (rp ad E16 RL) := hD
        refine W.widen (k := 1) (n := 6) (Nat.le_of_ble_eq_true rfl) (Nat.le_of_ble_eq_true rfl) ?_
        refine vx_ret ?_
        exact W.iret (v := r66) hx hb hr (fun t ht hW => ⟨⟨r66, E16, rfl, ⟨⟨⟨wn17, hCI⟩, hF1⟩, Or.inr ⟨rfl, (by rw [← hnm]; exact hc32), z28, z29, z30, z31, by rw [← hnm]; exact hp68.trans z48.symm⟩⟩, by rw [ht]; exact hP, hD⟩, hS.F ht⟩) hS.2.2 xd_De_provider_57
    · exact y_throwA (ik := 56) (is := 190) (wf := fun (u : Nat → Nat → va_E) => rp ad u RL) E16 (⟨⟨wn17, hCI⟩, hF1⟩) ⟨rfl, Or.inl (by rw [← hnm]; exact hc32)⟩ hx hb hlt hown hT hK k7x_24 k7x_25 hZ.2.2.2.1.2.2.2.2.2.2.2.2.2.2.2.2.2.2.2.2.2.2.2.2 hZ.1 hS hP hD (hl.1.trans hml.symm) xd_De_provider_24 xd_De_provider_27 xd_De_provider_28 xd_De_provider_30 xd_De_provider_33 htab (Nat.le_of_ble_eq_true rfl) (Nat.le_of_ble_eq_true rfl) (Nat.le_of_ble_eq_true rfl) (Nat.le_of_ble_eq_true rfl) hlocks (Nat.le_of_ble_eq_true rfl) (Nat.le_of_ble_eq_true rfl)
theorem k7e_0 : (Cond.code xy_De_line xb_De_line 2 (some .int)) ∈ wT := wT_t (List.mem_append_left _ (List.mem_of_getElem? (i := 186) rfl)) rfl
theorem k7e_1 : (Cond.methodLink "LayerDeskLaw" 7 xy_De_line) ∈ wT := wT_t (List.mem_append_left _ (List.mem_of_getElem? (i := 183) rfl)) rfl
theorem k7e_2 : (Cond.instanceMethod xy_De_line) ∈ wT := wT_t (List.mem_append_left _ (List.mem_of_getElem? (i := 184) rfl)) rfl
theorem k7e_3 : (Cond.selects "LayerDesk" xy_De_line xy_De_line) ∈ wT := wT_t (List.mem_append_left _ (List.mem_of_getElem? (i := 185) rfl)) rfl
theorem k7e_4 : (Cond.initialized "LayerDesk") ∈ wT := wT_t (List.mem_append_left _ (List.mem_of_getElem? (i := 1) rfl)) rfl
theorem k7e_5 : (Cond.classLink "LayerDeskLaw" 13 "java/lang/IllegalArgumentException") ∈ wT := wT_t (List.mem_append_left _ (List.mem_of_getElem? (i := 181) rfl)) rfl
theorem k7e_6 : (Cond.classLink "LayerDeskLaw" 15 "java/lang/IllegalStateException") ∈ wT := wT_t (List.mem_append_left _ (List.mem_of_getElem? (i := 182) rfl)) rfl
theorem k7e_7 : (Cond.code xy_De_layer xb_De_layer 7 (some .int)) ∈ wT := wT_t (List.mem_append_right _ (List.mem_append_right _ (List.mem_append_left _ (List.mem_of_getElem? (i := 55) rfl)))) rfl
theorem k7e_8 : (Cond.methodLink "LayerDeskLaw" 17 xy_De_layer) ∈ wT := wT_t (List.mem_append_right _ (List.mem_append_right _ (List.mem_append_left _ (List.mem_of_getElem? (i := 52) rfl)))) rfl
theorem k7e_9 : (Cond.instanceMethod xy_De_layer) ∈ wT := wT_t (List.mem_append_right _ (List.mem_append_right _ (List.mem_append_left _ (List.mem_of_getElem? (i := 53) rfl)))) rfl
theorem k7e_10 : (Cond.selects "LayerDesk" xy_De_layer xy_De_layer) ∈ wT := wT_t (List.mem_append_right _ (List.mem_append_right _ (List.mem_append_left _ (List.mem_of_getElem? (i := 54) rfl)))) rfl
theorem k7e_11 : (Cond.classLink "LayerDeskLaw" 21 "java/util/NoSuchElementException") ∈ wT := wT_t (List.mem_append_right _ (List.mem_append_right _ (List.mem_append_left _ (List.mem_of_getElem? (i := 51) rfl)))) rfl
theorem k7e_12 : (Cond.code xy_De_load xb_De_load 6 (some .int)) ∈ wT := wT_t (List.mem_append_right _ (List.mem_append_right _ (List.mem_append_right _ (List.mem_append_left _ (List.mem_of_getElem? (i := 38) rfl))))) rfl
theorem k7e_13 : (Cond.methodLink "LayerDeskLaw" 23 xy_De_load) ∈ wT := wT_t (List.mem_append_right _ (List.mem_append_right _ (List.mem_append_right _ (List.mem_append_left _ (List.mem_of_getElem? (i := 35) rfl))))) rfl
theorem k7e_14 : (Cond.instanceMethod xy_De_load) ∈ wT := wT_t (List.mem_append_right _ (List.mem_append_right _ (List.mem_append_right _ (List.mem_append_left _ (List.mem_of_getElem? (i := 36) rfl))))) rfl
theorem k7e_15 : (Cond.selects "LayerDesk" xy_De_load xy_De_load) ∈ wT := wT_t (List.mem_append_right _ (List.mem_append_right _ (List.mem_append_right _ (List.mem_append_left _ (List.mem_of_getElem? (i := 37) rfl))))) rfl
theorem k7e_16 : (Cond.code xy_De_peek xb_De_peek 8 (some .boolean)) ∈ wT := wT_t (List.mem_append_right _ (List.mem_append_right _ (List.mem_append_right _ (List.mem_append_left _ (List.mem_of_getElem? (i := 59) rfl))))) rfl
theorem k7e_17 : (Cond.methodLink "LayerDeskLaw" 27 xy_De_peek) ∈ wT := wT_t (List.mem_append_right _ (List.mem_append_right _ (List.mem_append_right _ (List.mem_append_left _ (List.mem_of_getElem? (i := 56) rfl))))) rfl
theorem k7e_18 : (Cond.instanceMethod xy_De_peek) ∈ wT := wT_t (List.mem_append_right _ (List.mem_append_right _ (List.mem_append_right _ (List.mem_append_left _ (List.mem_of_getElem? (i := 57) rfl))))) rfl
theorem k7e_19 : (Cond.selects "LayerDesk" xy_De_peek xy_De_peek) ∈ wT := wT_t (List.mem_append_right _ (List.mem_append_right _ (List.mem_append_right _ (List.mem_append_left _ (List.mem_of_getElem? (i := 58) rfl))))) rfl
theorem k7e_20 : (Cond.code xy_De_provider xb_De_provider 6 (some .int)) ∈ wT := wT_t (List.mem_append_right _ (List.mem_append_right _ (List.mem_append_right _ (List.mem_append_left _ (List.mem_of_getElem? (i := 71) rfl))))) rfl
theorem k7e_21 : (Cond.methodLink "LayerDeskLaw" 31 xy_De_provider) ∈ wT := wT_t (List.mem_append_right _ (List.mem_append_right _ (List.mem_append_right _ (List.mem_append_left _ (List.mem_of_getElem? (i := 68) rfl))))) rfl
theorem k7e_22 : (Cond.instanceMethod xy_De_provider) ∈ wT := wT_t (List.mem_append_right _ (List.mem_append_right _ (List.mem_append_right _ (List.mem_append_left _ (List.mem_of_getElem? (i := 69) rfl))))) rfl
theorem k7e_23 : (Cond.selects "LayerDesk" xy_De_provider xy_De_provider) ∈ wT := wT_t (List.mem_append_right _ (List.mem_append_right _ (List.mem_append_right _ (List.mem_append_left _ (List.mem_of_getElem? (i := 70) rfl))))) rfl
set_option maxHeartbeats 4000000 in
set_option maxRecDepth 100000 in
theorem xc_La_lineX (l : Launch) (hlt : l.stackTraces = false) (D : va_G) (kA : Nat → ClassId) (sz : Nat) (ad : Nat → Nat → Nat) (E : Nat → Nat → va_E) (RL : List (Nat × Nat)) (Z : zT) (g : Nat → Nat → Int32) (ml : Nat) (nd : Nat) (len : Nat) (wn : Nat) (cs : Nat) (ob : Nat) (fo : Nat → Int64) (hCI : CI kA ad E RL ml nd len wn cs) (hTD : TDs g E nd) (hZI : ZI g nd) (hTX : ∀ i, i < len → eA (E 0 2) i = g 0 i) : Met l xy_La_line (.codeWith xy_La_line xb_La_line 3 (some .int) [(0, 8, 11, 13), (0, 8, 14, 15)] :: wT) { frames := 8, cells := 14, slots := 72, locals := 176 } (va_Pc [.ref (ad 0 0), .ref ob] (xPreZ D kA sz ((ob, .inl (kA 3, 1, .inr (.inl fo))) :: rp ad E RL) Z)) (va_Qi (fun (r : Int32) (u : ((Nat → Nat → Nat) × (Nat → Nat → va_E) × List (Nat × Nat)) × (Nat → Int64)) => (∃ wn2, CI kA u.1.1 u.1.2.1 u.1.2.2 ml (lnF (g 0) (w_all (g 0) len) nd g).1 0 wn2 cs) ∧ TDs (lnF (g 0) (w_all (g 0) len) nd g).2 u.1.2.1 (lnF (g 0) (w_all (g 0) len) nd g).1 ∧ u.1.1 0 0 = ad 0 0 ∧ FRL ml nd ad u.1.1 E u.1.2.1) (fun (u : ((Nat → Nat → Nat) × (Nat → Nat → va_E) × List (Nat × Nat)) × (Nat → Int64)) t => va_P D xcl ((ob, .inl (kA 3, 1, .inr (.inl u.2))) :: rp u.1.1 u.1.2.1 u.1.2.2) t.heap ∧ va_D (va_A ((ob, .inl (kA 3, 1, .inr (.inl fo))) :: rp ad E RL) sz) ((ob, .inl (kA 3, 1, .inr (.inl u.2))) :: rp u.1.1 u.1.2.1 u.1.2.2)) (va_A ((ob, .inl (kA 3, 1, .inr (.inl fo))) :: rp ad E RL) sz)) 14 72 (va_A ((ob, .inl (kA 3, 1, .inr (.inl fo))) :: rp ad E RL) sz) := by
  refine va_MetW (cc := xb_La_line) (maxL := 3) (ret := (some .int)) (by decide) rfl ?_
  intro p e s m args below meth c s₁ B hml hv
  obtain ⟨rfl, ⟨hsz, hP, hK, hD0⟩, hZ⟩ := hv
  have hx := B.exec
  have hb := B.bytes
  have hr := B.returns
  have hT := x_hT B.pre
  have hown : s.vm.findClass xR_La = some m.cls := findClass_of_methodNamed B.named
  have hlocks := B.notSynchronized
  subst hsz
  have hD := hD0.self (sz := s.heap.size)
  generalize hAe : va_A ((ob, .inl (kA 3, 1, .inr (.inl fo))) :: rp ad E RL) s.heap.size = A at hD hZ ⊢
  have hA : ∀ q : Nat, s.heap.size ≤ q → A q := fun q h => by rw [← hAe]; exact Or.inr h
  have hS : va_S A s.heap s.heap [] := va_S.rf
  have hl := lv_entry ([.ref (ad 0 0), .ref ob]) (n := 3) (Nat.le_of_ble_eq_true rfl)
  rw [lg_entry_eq]
  generalize (lg_sl ([.ref (ad 0 0), .ref ob]) ++ List.replicate (3 - (lg_sl ([.ref (ad 0 0), .ref ob])).length) Slot.unset).toArray = ls at hl ⊢
  have hl : lv_has ls 3 [(0, .ref (ad 0 0)), (1, .ref ob)] := hl
  have hP : va_P D xcl ((ob, .inl (kA 3, 1, .inr (.inl fo))) :: rp ad E RL) s.heap := hP
  have hex := vx_table (x := xy_La_line) B (atoms_spec (ws := .codeWith xy_La_line xb_La_line 3 (some .int) [(0, 8, 11, 13), (0, 8, 14, 15)] :: wT) B.pre _ List.mem_cons_self)
  refine lv_aload_n hx hb xd_La_line_0 rfl (lv_at hl 1 rfl) ?_
  refine lv_iconst (v := 0) hx hb xd_La_line_1 (by decide) ?_
  refine lv_aload_n hx hb xd_La_line_2 rfl (lv_at hl 0 rfl) ?_
  have hPc := xp_P (X := [(ob, .inl (kA 3, 1, .inr (.inl fo)))]) hP
  have hDc := xp_D (X := [(ob, .inl (kA 3, 1, .inr (.inl fo)))]) hD
  have hFc := va_freeP (X := [(ob, .inl (kA 3, 1, .inr (.inl fo)))]) (cx := []) hD hS hA [] rfl
  have hZc := hZ.kept hS
  obtain ⟨lf, hc0⟩ := hCI.2.1
  refine vx_calli (vx_runV (As := []) (rest := [.int 0, .ref ob]) ⟨hx, hb, hml, hown, hT⟩ (xc_De_lineX l hlt D kA s.heap.size ad E RL Z g ml nd len wn cs hCI hTD hZI hTX) (cwV 0 hT (wT_V k7e_1 k7e_2 k7e_3 k7e_4 k7e_0) rfl rfl rfl (by decide +kernel) ⟨Nat.le_of_ble_eq_true rfl, Nat.le_of_ble_eq_true rfl⟩) (px_preVZ hK hPc hDc (hCI.1 0 (by decide)) hc0 rfl hFc hZc) rfl rfl hl.1 rfl (lv_room (Nat.le_of_ble_eq_true rfl)) xd_La_line_3 ⟨Nat.le_of_ble_eq_true rfl, Nat.le_of_ble_eq_true rfl⟩) hS (fun q _ h => hFc q h) hFc (fun q _ h => hFc q h) (fun E9 ce q9 u t H1 locs ht hvm hpost hB hz1 hk1 hS hce hcv hcl => ?_) (fun r u t H1 locs ht hvm hpost hB hz1 hk1 hS => ?_)
  · obtain ⟨hE9, hP1, hD1⟩ := hB
    rw [ht] at hP1
    obtain ⟨hP, hD⟩ := va_joinP (X := [(ob, .inl (kA 3, 1, .inr (.inl fo)))]) (cx := []) (wr := [(ob, .inl (kA 3, 1, .inr (.inl fo)))]) (rx := []) hP hD [] [0] rfl rfl (by decide) (by decide) hk1 hFc hP1 hD1
    generalize H1 = H at hP hS hce ⊢
    have hl := lv_sub hl [1] rfl
    have hl : lv_has ls 3 [(1, .ref ob)] := hl
    have hP : va_P D xcl ((ob, .inl (kA 3, 1, .inr (.inl fo))) :: rp u.1 u.2.1 u.2.2) H := hP
    have hD : va_D A ((ob, .inl (kA 3, 1, .inr (.inl fo))) :: rp u.1 u.2.1 u.2.2) := hD
    rcases hE9 with rfl | rfl
    · refine vx_catch (own := "LayerDeskLaw") (name := "java/lang/IllegalArgumentException") hown [] ⟨0, 8, 11, 13⟩ [⟨0, 8, 14, 15⟩] (by rw [hex]; rfl) (fun z hz => nomatch hz) rfl (by decide) (hT _ k7e_5) (va_Nw.use rfl hK.2.2.2.2.2.1) hce hcv hcl ?_
      refine lv_astore_n hx hb xd_La_line_11 rfl hl (Nat.le_of_ble_eq_true rfl) rfl (fun ls hl => ?_)
      have hl : lv_has ls 3 [(2, .ref q9), (1, .ref ob)] := hl
      refine lv_iconst (v := 1) hx hb xd_La_line_12 (by decide) ?_
      refine W.widen (k := 14) (n := 72) (Nat.le_of_ble_eq_true rfl) (Nat.le_of_ble_eq_true rfl) ?_
      exact W.iret (v := 1) hx hb hr (fun t ht hW => ⟨⟨1, ((u.1, u.2.1, u.2.2), fo), rfl, hpost, by rw [ht]; exact hP, hD⟩, hS.F ht⟩) hS.2.2 xd_La_line_13
    · refine vx_catch (own := "LayerDeskLaw") (name := "java/lang/IllegalStateException") hown [⟨0, 8, 11, 13⟩] ⟨0, 8, 14, 15⟩ [] (by rw [hex]; rfl) (fun z hz => by rw [List.mem_singleton] at hz; subst hz; exact Or.inr ⟨(by decide), "java/lang/IllegalArgumentException", hT _ k7e_5, hZ.2.2.2.2.1⟩) rfl (by decide) (hT _ k7e_6) (va_Nw.use rfl hK.2.2.2.2.2.2.1) hce hcv hcl ?_
      refine lv_astore_n hx hb xd_La_line_14 rfl hl (Nat.le_of_ble_eq_true rfl) rfl (fun ls hl => ?_)
      have hl : lv_has ls 3 [(2, .ref q9), (1, .ref ob)] := hl
      refine lv_iconst (v := 2) hx hb xd_La_line_15 (by decide) ?_
      refine W.widen (k := 14) (n := 72) (Nat.le_of_ble_eq_true rfl) (Nat.le_of_ble_eq_true rfl) ?_
      exact W.iret (v := 2) hx hb hr (fun t ht hW => ⟨⟨2, ((u.1, u.2.1, u.2.2), fo), rfl, hpost, by rw [ht]; exact hP, hD⟩, hS.F ht⟩) hS.2.2 xd_La_line_16
  · obtain ⟨hP1, hD1⟩ := hB
    rw [ht] at hP1
    obtain ⟨hP, hD⟩ := va_joinP (X := [(ob, .inl (kA 3, 1, .inr (.inl fo)))]) (cx := []) (wr := [(ob, .inl (kA 3, 1, .inr (.inl fo)))]) (rx := []) hP hD [] [0] rfl rfl (by decide) (by decide) hk1 hFc hP1 hD1
    generalize H1 = H at hP hS ⊢
    have hl := lv_sub hl [1] rfl
    have hl : lv_has ls 3 [(1, .ref ob)] := hl
    have hP : va_P D xcl ((ob, .inl (kA 3, 1, .inr (.inl fo))) :: rp u.1 u.2.1 u.2.2) H := hP
    have hD : va_D A ((ob, .inl (kA 3, 1, .inr (.inl fo))) :: rp u.1 u.2.1 u.2.2) := hD
    refine lv_i2l (v := ((r : Int32).toInt64)) hx hb xd_La_line_6 rfl ?_
    refine va_last hx hb hK.1 hP hD hS 0 3 rfl rfl (show ¬ _ by decide) xd_La_line_7 (fun H locs hP hD hS => ?_)
    have hP : va_P D xcl ((ob, .inl (kA 3, 1, .inr (.inl (vp_updL fo (0 : Int32).toNatClampNeg ((r : Int32).toInt64))))) :: rp u.1 u.2.1 u.2.2) H := hP
    have hD : va_D A ((ob, .inl (kA 3, 1, .inr (.inl (vp_updL fo (0 : Int32).toNatClampNeg ((r : Int32).toInt64))))) :: rp u.1 u.2.1 u.2.2) := hD
    refine lv_goto (tgt := 17) hx hb xd_La_line_8 (by decide) ?_
    refine lv_iconst (v := 0) hx hb xd_La_line_17 (by decide) ?_
    refine W.widen (k := 14) (n := 72) (Nat.le_of_ble_eq_true rfl) (Nat.le_of_ble_eq_true rfl) ?_
    exact W.iret (v := 0) hx hb hr (fun t ht hW => ⟨⟨0, ((u.1, u.2.1, u.2.2), (vp_updL fo (0 : Int32).toNatClampNeg ((r : Int32).toInt64))), rfl, hpost, by rw [ht]; exact hP, hD⟩, hS.F ht⟩) hS.2.2 xd_La_line_18
set_option maxHeartbeats 4000000 in
set_option maxRecDepth 100000 in
theorem xc_La_layerX (l : Launch) (hlt : l.stackTraces = false) (D : va_G) (kA : Nat → ClassId) (sz : Nat) (ad : Nat → Nat → Nat) (E : Nat → Nat → va_E) (RL : List (Nat × Nat)) (Z : zT) (g : Nat → Nat → Int32) (ml : Nat) (nd : Nat) (len : Nat) (wn : Nat) (cs : Nat) (ob : Nat) (fo : Nat → Int64) (fi : Int32) (px : Int32) (bi : Int32) (hCI : CI kA ad E RL ml nd len wn cs) (hTD : TDs g E nd) (hTL : TLas g ad E nd ml) (hCB : CBs g E ml) (hTX : ∀ i, i < len → eA (E 0 2) i = g 0 i) (hNZ : NZ g nd) (hUQ : ∀ d, d < nd → UQ1 g d) (hND : NDq g ml) : Met l xy_La_layer (.codeWith xy_La_layer xb_La_layer 6 (some .int) [(0, 12, 15, 13), (0, 12, 19, 21), (0, 12, 23, 15)] :: wT) { frames := 24, cells := 101, slots := 430, locals := 1310 } (va_Pc [.ref (ad 0 0), .int fi, .int px, .int bi, .ref ob] (xPreZ D kA sz ((ob, .inl (kA 3, 1, .inr (.inl fo))) :: rp ad E RL) Z)) (va_Qi (fun (r : Int32) (u : ((Nat → Nat → Nat) × (Nat → Nat → va_E) × List (Nat × Nat)) × (Nat → Int64)) => YP kA g ad E ml nd len fi px bi r u.1.1 u.1.2.1 u.1.2.2 (u.2 0)) (fun (u : ((Nat → Nat → Nat) × (Nat → Nat → va_E) × List (Nat × Nat)) × (Nat → Int64)) t => va_P D xcl ((ob, .inl (kA 3, 1, .inr (.inl u.2))) :: rp u.1.1 u.1.2.1 u.1.2.2) t.heap ∧ va_D (va_A ((ob, .inl (kA 3, 1, .inr (.inl fo))) :: rp ad E RL) sz) ((ob, .inl (kA 3, 1, .inr (.inl u.2))) :: rp u.1.1 u.1.2.1 u.1.2.2)) (va_A ((ob, .inl (kA 3, 1, .inr (.inl fo))) :: rp ad E RL) sz)) 101 430 (va_A ((ob, .inl (kA 3, 1, .inr (.inl fo))) :: rp ad E RL) sz) := by
  refine va_MetW (cc := xb_La_layer) (maxL := 6) (ret := (some .int)) (by decide) rfl ?_
  intro p e s m args below meth c s₁ B hml hv
  obtain ⟨rfl, ⟨hsz, hP, hK, hD0⟩, hZ⟩ := hv
  have hx := B.exec
  have hb := B.bytes
  have hr := B.returns
  have hT := x_hT B.pre
  have hown : s.vm.findClass xR_La = some m.cls := findClass_of_methodNamed B.named
  have hlocks := B.notSynchronized
  subst hsz
  have hD := hD0.self (sz := s.heap.size)
  generalize hAe : va_A ((ob, .inl (kA 3, 1, .inr (.inl fo))) :: rp ad E RL) s.heap.size = A at hD hZ ⊢
  have hA : ∀ q : Nat, s.heap.size ≤ q → A q := fun q h => by rw [← hAe]; exact Or.inr h
  have hS : va_S A s.heap s.heap [] := va_S.rf
  have hl := lv_entry ([.ref (ad 0 0), .int fi, .int px, .int bi, .ref ob]) (n := 6) (Nat.le_of_ble_eq_true rfl)
  rw [lg_entry_eq]
  generalize (lg_sl ([.ref (ad 0 0), .int fi, .int px, .int bi, .ref ob]) ++ List.replicate (6 - (lg_sl ([.ref (ad 0 0), .int fi, .int px, .int bi, .ref ob])).length) Slot.unset).toArray = ls at hl ⊢
  have hl : lv_has ls 6 [(0, .ref (ad 0 0)), (1, .int fi), (2, .int px), (3, .int bi), (4, .ref ob)] := hl
  have hP : va_P D xcl ((ob, .inl (kA 3, 1, .inr (.inl fo))) :: rp ad E RL) s.heap := hP
  have hex := vx_table (x := xy_La_layer) B (atoms_spec (ws := .codeWith xy_La_layer xb_La_layer 6 (some .int) [(0, 12, 15, 13), (0, 12, 19, 21), (0, 12, 23, 15)] :: wT) B.pre _ List.mem_cons_self)
  refine lv_aload hx hb xd_La_layer_0 (lv_at hl 4 rfl) ?_
  refine lv_iconst (v := 0) hx hb xd_La_layer_2 (by decide) ?_
  refine lv_aload_n hx hb xd_La_layer_3 rfl (lv_at hl 0 rfl) ?_
  refine lv_iload_n hx hb xd_La_layer_4 rfl (lv_at hl 1 rfl) ?_
  refine lv_iload_n hx hb xd_La_layer_5 rfl (lv_at hl 2 rfl) ?_
  refine lv_iload_n hx hb xd_La_layer_6 rfl (lv_at hl 3 rfl) ?_
  have hPc := xp_P (X := [(ob, .inl (kA 3, 1, .inr (.inl fo)))]) hP
  have hDc := xp_D (X := [(ob, .inl (kA 3, 1, .inr (.inl fo)))]) hD
  have hFc := va_freeP (X := [(ob, .inl (kA 3, 1, .inr (.inl fo)))]) (cx := []) hD hS hA [] rfl
  have hZc := hZ.kept hS
  obtain ⟨lf, hc0⟩ := hCI.2.1
  refine vx_calli (vx_runV (As := [.int fi, .int px, .int bi]) (rest := [.int 0, .ref ob]) ⟨hx, hb, hml, hown, hT⟩ (xc_De_layerX l hlt D kA s.heap.size ad E RL Z g ml nd len wn cs fi px bi hCI hTD hTL hCB hTX hNZ hUQ hND) (cwV 3 hT (wT_V k7e_8 k7e_9 k7e_10 k7e_4 k7e_7) rfl rfl rfl (by decide +kernel) ⟨Nat.le_of_ble_eq_true rfl, Nat.le_of_ble_eq_true rfl⟩) (px_preVZ hK hPc hDc (hCI.1 0 (by decide)) hc0 rfl hFc hZc) rfl rfl hl.1 rfl (lv_room (Nat.le_of_ble_eq_true rfl)) xd_La_layer_7 ⟨Nat.le_of_ble_eq_true rfl, Nat.le_of_ble_eq_true rfl⟩) hS (fun q _ h => hFc q h) hFc (fun q _ h => hFc q h) (fun E9 ce q9 u t H1 locs ht hvm hpost hB hz1 hk1 hS hce hcv hcl => ?_) (fun r u t H1 locs ht hvm hpost hB hz1 hk1 hS => ?_)
  · obtain ⟨hE9, hP1, hD1⟩ := hB
    rw [ht] at hP1
    obtain ⟨hP, hD⟩ := va_joinP (X := [(ob, .inl (kA 3, 1, .inr (.inl fo)))]) (cx := []) (wr := [(ob, .inl (kA 3, 1, .inr (.inl fo)))]) (rx := []) hP hD [] [0] rfl rfl (by decide) (by decide) hk1 hFc hP1 hD1
    generalize H1 = H at hP hS hce ⊢
    have hl := lv_sub hl [1, 2, 3, 4] rfl
    have hl : lv_has ls 6 [(1, .int fi), (2, .int px), (3, .int bi), (4, .ref ob)] := hl
    have hP : va_P D xcl ((ob, .inl (kA 3, 1, .inr (.inl fo))) :: rp u.1 u.2.1 u.2.2) H := hP
    have hD : va_D A ((ob, .inl (kA 3, 1, .inr (.inl fo))) :: rp u.1 u.2.1 u.2.2) := hD
    rcases hE9 with ⟨rfl, hz9⟩ | ⟨rfl, hz9⟩ | ⟨rfl, hz9⟩
    · refine vx_catch (own := "LayerDeskLaw") (name := "java/lang/IllegalArgumentException") hown [] ⟨0, 12, 15, 13⟩ [⟨0, 12, 19, 21⟩, ⟨0, 12, 23, 15⟩] (by rw [hex]; rfl) (fun z hz => nomatch hz) rfl (by decide) (hT _ k7e_5) (va_Nw.use rfl hK.2.2.2.2.2.1) hce hcv hcl ?_
      refine lv_astore hx hb xd_La_layer_15 hl (Nat.le_of_ble_eq_true rfl) rfl (fun ls hl => ?_)
      have hl : lv_has ls 6 [(5, .ref q9), (1, .int fi), (2, .int px), (3, .int bi), (4, .ref ob)] := hl
      refine lv_iconst (v := 1) hx hb xd_La_layer_17 (by decide) ?_
      refine W.widen (k := 101) (n := 430) (Nat.le_of_ble_eq_true rfl) (Nat.le_of_ble_eq_true rfl) ?_
      exact W.iret (v := 1) hx hb hr (fun t ht hW => ⟨⟨1, ((u.1, u.2.1, u.2.2), fo), rfl, (YP_1 ⟨hpost.1, hpost.2⟩ hz9), by rw [ht]; exact hP, hD⟩, hS.F ht⟩) hS.2.2 xd_La_layer_18
    · refine vx_catch (own := "LayerDeskLaw") (name := "java/util/NoSuchElementException") hown [⟨0, 12, 15, 13⟩] ⟨0, 12, 19, 21⟩ [⟨0, 12, 23, 15⟩] (by rw [hex]; rfl) (fun z hz => by rw [List.mem_singleton] at hz; subst hz; exact Or.inr ⟨(by decide), "java/lang/IllegalArgumentException", hT _ k7e_5, hZ.2.2.2.2.2.1⟩) rfl (by decide) (hT _ k7e_11) (va_Nw.use rfl hK.2.2.2.2.2.2.2) hce hcv hcl ?_
      refine lv_astore hx hb xd_La_layer_19 hl (Nat.le_of_ble_eq_true rfl) rfl (fun ls hl => ?_)
      have hl : lv_has ls 6 [(5, .ref q9), (1, .int fi), (2, .int px), (3, .int bi), (4, .ref ob)] := hl
      refine lv_iconst (v := 2) hx hb xd_La_layer_21 (by decide) ?_
      refine W.widen (k := 101) (n := 430) (Nat.le_of_ble_eq_true rfl) (Nat.le_of_ble_eq_true rfl) ?_
      exact W.iret (v := 2) hx hb hr (fun t ht hW => ⟨⟨2, ((u.1, u.2.1, u.2.2), fo), rfl, (YP_2 ⟨hpost.1, hpost.2⟩ hz9), by rw [ht]; exact hP, hD⟩, hS.F ht⟩) hS.2.2 xd_La_layer_22
    · refine vx_catch (own := "LayerDeskLaw") (name := "java/lang/IllegalStateException") hown [⟨0, 12, 15, 13⟩, ⟨0, 12, 19, 21⟩] ⟨0, 12, 23, 15⟩ [] (by rw [hex]; rfl) (fun z hz => by rcases List.mem_cons.mp hz with hz | hz; subst hz; exact Or.inr ⟨(by decide), "java/lang/IllegalArgumentException", hT _ k7e_5, hZ.2.2.2.2.1⟩; rw [List.mem_singleton] at hz; subst hz; exact Or.inr ⟨(by decide), "java/util/NoSuchElementException", hT _ k7e_11, hZ.2.2.2.2.2.2⟩) rfl (by decide) (hT _ k7e_6) (va_Nw.use rfl hK.2.2.2.2.2.2.1) hce hcv hcl ?_
      refine lv_astore hx hb xd_La_layer_23 hl (Nat.le_of_ble_eq_true rfl) rfl (fun ls hl => ?_)
      have hl : lv_has ls 6 [(5, .ref q9), (1, .int fi), (2, .int px), (3, .int bi), (4, .ref ob)] := hl
      refine lv_iconst (v := 3) hx hb xd_La_layer_25 (by decide) ?_
      refine W.widen (k := 101) (n := 430) (Nat.le_of_ble_eq_true rfl) (Nat.le_of_ble_eq_true rfl) ?_
      exact W.iret (v := 3) hx hb hr (fun t ht hW => ⟨⟨3, ((u.1, u.2.1, u.2.2), fo), rfl, (YP_3 ⟨hpost.1, hpost.2⟩ hz9), by rw [ht]; exact hP, hD⟩, hS.F ht⟩) hS.2.2 xd_La_layer_26
  · obtain ⟨hP1, hD1⟩ := hB
    rw [ht] at hP1
    obtain ⟨hP, hD⟩ := va_joinP (X := [(ob, .inl (kA 3, 1, .inr (.inl fo)))]) (cx := []) (wr := [(ob, .inl (kA 3, 1, .inr (.inl fo)))]) (rx := []) hP hD [] [0] rfl rfl (by decide) (by decide) hk1 hFc hP1 hD1
    generalize H1 = H at hP hS ⊢
    have hl := lv_sub hl [1, 2, 3, 4] rfl
    have hl : lv_has ls 6 [(1, .int fi), (2, .int px), (3, .int bi), (4, .ref ob)] := hl
    have hP : va_P D xcl ((ob, .inl (kA 3, 1, .inr (.inl fo))) :: rp u.1 u.2.1 u.2.2) H := hP
    have hD : va_D A ((ob, .inl (kA 3, 1, .inr (.inl fo))) :: rp u.1 u.2.1 u.2.2) := hD
    refine lv_i2l (v := ((r : Int32).toInt64)) hx hb xd_La_layer_10 rfl ?_
    refine va_last hx hb hK.1 hP hD hS 0 3 rfl rfl (show ¬ _ by decide) xd_La_layer_11 (fun H locs hP hD hS => ?_)
    have hP : va_P D xcl ((ob, .inl (kA 3, 1, .inr (.inl (vp_updL fo (0 : Int32).toNatClampNeg ((r : Int32).toInt64))))) :: rp u.1 u.2.1 u.2.2) H := hP
    have hD : va_D A ((ob, .inl (kA 3, 1, .inr (.inl (vp_updL fo (0 : Int32).toNatClampNeg ((r : Int32).toInt64))))) :: rp u.1 u.2.1 u.2.2) := hD
    refine lv_goto (tgt := 27) hx hb xd_La_layer_12 (by decide) ?_
    refine lv_iconst (v := 0) hx hb xd_La_layer_27 (by decide) ?_
    refine W.widen (k := 101) (n := 430) (Nat.le_of_ble_eq_true rfl) (Nat.le_of_ble_eq_true rfl) ?_
    exact W.iret (v := 0) hx hb hr (fun t ht hW => ⟨⟨0, ((u.1, u.2.1, u.2.2), (vp_updL fo (0 : Int32).toNatClampNeg ((r : Int32).toInt64))), rfl, (by
        obtain ⟨⟨y1, y2, y3, y4⟩, L9, wn2, cs2, y5, y6, y7, y8, y9, y10, y11, y12, _⟩ := hpost
        exact Or.inr (Or.inr (Or.inr ⟨rfl, by rw [y1]; simp [vp_updL], y2, y3, y4, L9, wn2, cs2, y5, y6, y7, y8, y9, y10, y11, y12⟩))), by rw [ht]; exact hP, hD⟩, hS.F ht⟩) hS.2.2 xd_La_layer_28
set_option maxHeartbeats 4000000 in
set_option maxRecDepth 100000 in
theorem xc_La_loadX (l : Launch) (hlt : l.stackTraces = false) (D : va_G) (kA : Nat → ClassId) (sz : Nat) (ad : Nat → Nat → Nat) (E : Nat → Nat → va_E) (RL : List (Nat × Nat)) (Z : zT) (g : Nat → Nat → Int32) (ml : Nat) (nd : Nat) (len : Nat) (wn : Nat) (cs : Nat) (ob : Nat) (fo : Nat → Int64) (ix : Int32) (kx : Int32) (hCI : CI kA ad E RL ml nd len wn cs) (hTX : ∀ i, i < len → eA (E 0 2) i = g 0 i) : Met l xy_La_load (.codeWith xy_La_load xb_La_load 5 (some .int) [(0, 10, 13, 13), (0, 10, 17, 21)] :: wT) { frames := 7, cells := 1, slots := 6, locals := 115 } (va_Pc [.ref (ad 0 0), .int ix, .int kx, .ref ob] (xPreZ D kA sz ((ob, .inl (kA 3, 1, .inr (.inl fo))) :: rp ad E RL) Z)) (va_Qi (fun (r : Int32) (u : ((Nat → Nat → Nat) × (Nat → Nat → va_E) × List (Nat × Nat)) × (Nat → Int64)) => (∃ wn2, CI kA ad u.1.2.1 RL ml nd 0 wn2 cs) ∧ F134 E u.1.2.1 ∧ u.1.1 = ad ∧ u.1.2.2 = RL) (fun (u : ((Nat → Nat → Nat) × (Nat → Nat → va_E) × List (Nat × Nat)) × (Nat → Int64)) t => va_P D xcl ((ob, .inl (kA 3, 1, .inr (.inl u.2))) :: rp u.1.1 u.1.2.1 u.1.2.2) t.heap ∧ va_D (va_A ((ob, .inl (kA 3, 1, .inr (.inl fo))) :: rp ad E RL) sz) ((ob, .inl (kA 3, 1, .inr (.inl u.2))) :: rp u.1.1 u.1.2.1 u.1.2.2)) (va_A ((ob, .inl (kA 3, 1, .inr (.inl fo))) :: rp ad E RL) sz)) 1 6 (va_A ((ob, .inl (kA 3, 1, .inr (.inl fo))) :: rp ad E RL) sz) := by
  refine va_MetW (cc := xb_La_load) (maxL := 5) (ret := (some .int)) (by decide) rfl ?_
  intro p e s m args below meth c s₁ B hml hv
  obtain ⟨rfl, ⟨hsz, hP, hK, hD0⟩, hZ⟩ := hv
  have hx := B.exec
  have hb := B.bytes
  have hr := B.returns
  have hT := x_hT B.pre
  have hown : s.vm.findClass xR_La = some m.cls := findClass_of_methodNamed B.named
  have hlocks := B.notSynchronized
  subst hsz
  have hD := hD0.self (sz := s.heap.size)
  generalize hAe : va_A ((ob, .inl (kA 3, 1, .inr (.inl fo))) :: rp ad E RL) s.heap.size = A at hD hZ ⊢
  have hA : ∀ q : Nat, s.heap.size ≤ q → A q := fun q h => by rw [← hAe]; exact Or.inr h
  have hS : va_S A s.heap s.heap [] := va_S.rf
  have hl := lv_entry ([.ref (ad 0 0), .int ix, .int kx, .ref ob]) (n := 5) (Nat.le_of_ble_eq_true rfl)
  rw [lg_entry_eq]
  generalize (lg_sl ([.ref (ad 0 0), .int ix, .int kx, .ref ob]) ++ List.replicate (5 - (lg_sl ([.ref (ad 0 0), .int ix, .int kx, .ref ob])).length) Slot.unset).toArray = ls at hl ⊢
  have hl : lv_has ls 5 [(0, .ref (ad 0 0)), (1, .int ix), (2, .int kx), (3, .ref ob)] := hl
  have hP : va_P D xcl ((ob, .inl (kA 3, 1, .inr (.inl fo))) :: rp ad E RL) s.heap := hP
  have hex := vx_table (x := xy_La_load) B (atoms_spec (ws := .codeWith xy_La_load xb_La_load 5 (some .int) [(0, 10, 13, 13), (0, 10, 17, 21)] :: wT) B.pre _ List.mem_cons_self)
  refine lv_aload_n hx hb xd_La_load_0 rfl (lv_at hl 3 rfl) ?_
  refine lv_iconst (v := 0) hx hb xd_La_load_1 (by decide) ?_
  refine lv_aload_n hx hb xd_La_load_2 rfl (lv_at hl 0 rfl) ?_
  refine lv_iload_n hx hb xd_La_load_3 rfl (lv_at hl 1 rfl) ?_
  refine lv_iload_n hx hb xd_La_load_4 rfl (lv_at hl 2 rfl) ?_
  have hPc := xp_P (X := [(ob, .inl (kA 3, 1, .inr (.inl fo)))]) hP
  have hDc := xp_D (X := [(ob, .inl (kA 3, 1, .inr (.inl fo)))]) hD
  have hFc := va_freeP (X := [(ob, .inl (kA 3, 1, .inr (.inl fo)))]) (cx := []) hD hS hA [] rfl
  have hZc := hZ.kept hS
  obtain ⟨lf, hc0⟩ := hCI.2.1
  refine vx_calli (vx_runV (As := [.int ix, .int kx]) (rest := [.int 0, .ref ob]) ⟨hx, hb, hml, hown, hT⟩ (xc_De_loadK l hlt D kA s.heap.size ad E RL Z g ml nd len wn cs ix kx hCI hTX) (cwV 2 hT (wT_V k7e_13 k7e_14 k7e_15 k7e_4 k7e_12) rfl rfl rfl (by decide +kernel) ⟨Nat.le_of_ble_eq_true rfl, Nat.le_of_ble_eq_true rfl⟩) (px_preVZ hK hPc hDc (hCI.1 0 (by decide)) hc0 rfl hFc hZc) rfl rfl hl.1 rfl (lv_room (Nat.le_of_ble_eq_true rfl)) xd_La_load_5 ⟨Nat.le_of_ble_eq_true rfl, Nat.le_of_ble_eq_true rfl⟩) hS (fun q _ h => hFc q h) hFc (fun q _ h => hFc q h) (fun E9 ce q9 u t H1 locs ht hvm hpost hB hz1 hk1 hS hce hcv hcl => ?_) (fun r u t H1 locs ht hvm hpost hB hz1 hk1 hS => ?_)
  · obtain ⟨hE9, hP1, hD1⟩ := hB
    rw [ht] at hP1
    obtain ⟨hP, hD⟩ := va_joinP (X := [(ob, .inl (kA 3, 1, .inr (.inl fo)))]) (cx := []) (wr := [(ob, .inl (kA 3, 1, .inr (.inl fo)))]) (rx := []) hP hD [] [0] rfl rfl (by decide) (by decide) hk1 hFc hP1 hD1
    generalize H1 = H at hP hS hce ⊢
    have hl := lv_sub hl [1, 2, 3] rfl
    have hl : lv_has ls 5 [(1, .int ix), (2, .int kx), (3, .ref ob)] := hl
    have hP : va_P D xcl ((ob, .inl (kA 3, 1, .inr (.inl fo))) :: rp ad u RL) H := hP
    have hD : va_D A ((ob, .inl (kA 3, 1, .inr (.inl fo))) :: rp ad u RL) := hD
    rcases hE9 with rfl | rfl
    · refine vx_catch (own := "LayerDeskLaw") (name := "java/lang/IllegalArgumentException") hown [] ⟨0, 10, 13, 13⟩ [⟨0, 10, 17, 21⟩] (by rw [hex]; rfl) (fun z hz => nomatch hz) rfl (by decide) (hT _ k7e_5) (va_Nw.use rfl hK.2.2.2.2.2.1) hce hcv hcl ?_
      refine lv_astore hx hb xd_La_load_13 hl (Nat.le_of_ble_eq_true rfl) rfl (fun ls hl => ?_)
      have hl : lv_has ls 5 [(4, .ref q9), (1, .int ix), (2, .int kx), (3, .ref ob)] := hl
      refine lv_iconst (v := 1) hx hb xd_La_load_15 (by decide) ?_
      refine W.widen (k := 1) (n := 6) (Nat.le_of_ble_eq_true rfl) (Nat.le_of_ble_eq_true rfl) ?_
      exact W.iret (v := 1) hx hb hr (fun t ht hW => ⟨⟨1, ((ad, u, RL), fo), rfl, ⟨hpost.1, hpost.2, rfl, rfl⟩, by rw [ht]; exact hP, hD⟩, hS.F ht⟩) hS.2.2 xd_La_load_16
    · refine vx_catch (own := "LayerDeskLaw") (name := "java/util/NoSuchElementException") hown [⟨0, 10, 13, 13⟩] ⟨0, 10, 17, 21⟩ [] (by rw [hex]; rfl) (fun z hz => by rw [List.mem_singleton] at hz; subst hz; exact Or.inr ⟨(by decide), "java/lang/IllegalArgumentException", hT _ k7e_5, hZ.2.2.2.2.2.1⟩) rfl (by decide) (hT _ k7e_11) (va_Nw.use rfl hK.2.2.2.2.2.2.2) hce hcv hcl ?_
      refine lv_astore hx hb xd_La_load_17 hl (Nat.le_of_ble_eq_true rfl) rfl (fun ls hl => ?_)
      have hl : lv_has ls 5 [(4, .ref q9), (1, .int ix), (2, .int kx), (3, .ref ob)] := hl
      refine lv_iconst (v := 2) hx hb xd_La_load_19 (by decide) ?_
      refine W.widen (k := 1) (n := 6) (Nat.le_of_ble_eq_true rfl) (Nat.le_of_ble_eq_true rfl) ?_
      exact W.iret (v := 2) hx hb hr (fun t ht hW => ⟨⟨2, ((ad, u, RL), fo), rfl, ⟨hpost.1, hpost.2, rfl, rfl⟩, by rw [ht]; exact hP, hD⟩, hS.F ht⟩) hS.2.2 xd_La_load_20
  · obtain ⟨hP1, hD1⟩ := hB
    rw [ht] at hP1
    obtain ⟨hP, hD⟩ := va_joinP (X := [(ob, .inl (kA 3, 1, .inr (.inl fo)))]) (cx := []) (wr := [(ob, .inl (kA 3, 1, .inr (.inl fo)))]) (rx := []) hP hD [] [0] rfl rfl (by decide) (by decide) hk1 hFc hP1 hD1
    generalize H1 = H at hP hS ⊢
    have hl := lv_sub hl [1, 2, 3] rfl
    have hl : lv_has ls 5 [(1, .int ix), (2, .int kx), (3, .ref ob)] := hl
    have hP : va_P D xcl ((ob, .inl (kA 3, 1, .inr (.inl fo))) :: rp ad u RL) H := hP
    have hD : va_D A ((ob, .inl (kA 3, 1, .inr (.inl fo))) :: rp ad u RL) := hD
    refine lv_i2l (v := ((r : Int32).toInt64)) hx hb xd_La_load_8 rfl ?_
    refine va_last hx hb hK.1 hP hD hS 0 3 rfl rfl (show ¬ _ by decide) xd_La_load_9 (fun H locs hP hD hS => ?_)
    have hP : va_P D xcl ((ob, .inl (kA 3, 1, .inr (.inl (vp_updL fo (0 : Int32).toNatClampNeg ((r : Int32).toInt64))))) :: rp ad u RL) H := hP
    have hD : va_D A ((ob, .inl (kA 3, 1, .inr (.inl (vp_updL fo (0 : Int32).toNatClampNeg ((r : Int32).toInt64))))) :: rp ad u RL) := hD
    refine lv_goto (tgt := 21) hx hb xd_La_load_10 (by decide) ?_
    refine lv_iconst (v := 0) hx hb xd_La_load_21 (by decide) ?_
    refine W.widen (k := 1) (n := 6) (Nat.le_of_ble_eq_true rfl) (Nat.le_of_ble_eq_true rfl) ?_
    exact W.iret (v := 0) hx hb hr (fun t ht hW => ⟨⟨0, ((ad, u, RL), (vp_updL fo (0 : Int32).toNatClampNeg ((r : Int32).toInt64))), rfl, ⟨hpost.1, hpost.2, rfl, rfl⟩, by rw [ht]; exact hP, hD⟩, hS.F ht⟩) hS.2.2 xd_La_load_22
set_option maxHeartbeats 4000000 in
set_option maxRecDepth 100000 in
theorem xc_La_peekX (l : Launch) (hlt : l.stackTraces = false) (D : va_G) (kA : Nat → ClassId) (sz : Nat) (ad : Nat → Nat → Nat) (E : Nat → Nat → va_E) (RL : List (Nat × Nat)) (Z : zT) (g : Nat → Nat → Int32) (ml : Nat) (nd : Nat) (len : Nat) (wn : Nat) (cs : Nat) (ob : Nat) (fo : Nat → Int64) (ix : Int32) (kx : Int32) (tx : Int32) (dx : Int32) (hCI : CI kA ad E RL ml nd len wn cs) (hTX : ∀ i, i < len → eA (E 0 2) i = g 0 i) : Met l xy_La_peek (.codeWith xy_La_peek xb_La_peek 7 (some .int) [(0, 21, 24, 13), (0, 21, 28, 21)] :: wT) { frames := 7, cells := 1, slots := 6, locals := 109 } (va_Pc [.ref (ad 0 0), .int ix, .int kx, .int tx, .int dx, .ref ob] (xPreZ D kA sz ((ob, .inl (kA 3, 1, .inr (.inl fo))) :: rp ad E RL) Z)) (va_Qi (fun (r : Int32) (u : ((Nat → Nat → Nat) × (Nat → Nat → va_E) × List (Nat × Nat)) × (Nat → Int64)) => (∃ wn2, CI kA ad u.1.2.1 RL ml nd 0 wn2 cs) ∧ F134 E u.1.2.1 ∧ u.1.1 = ad ∧ u.1.2.2 = RL) (fun (u : ((Nat → Nat → Nat) × (Nat → Nat → va_E) × List (Nat × Nat)) × (Nat → Int64)) t => va_P D xcl ((ob, .inl (kA 3, 1, .inr (.inl u.2))) :: rp u.1.1 u.1.2.1 u.1.2.2) t.heap ∧ va_D (va_A ((ob, .inl (kA 3, 1, .inr (.inl fo))) :: rp ad E RL) sz) ((ob, .inl (kA 3, 1, .inr (.inl u.2))) :: rp u.1.1 u.1.2.1 u.1.2.2)) (va_A ((ob, .inl (kA 3, 1, .inr (.inl fo))) :: rp ad E RL) sz)) 1 6 (va_A ((ob, .inl (kA 3, 1, .inr (.inl fo))) :: rp ad E RL) sz) := by
  refine va_MetW (cc := xb_La_peek) (maxL := 7) (ret := (some .int)) (by decide) rfl ?_
  intro p e s m args below meth c s₁ B hml hv
  obtain ⟨rfl, ⟨hsz, hP, hK, hD0⟩, hZ⟩ := hv
  have hx := B.exec
  have hb := B.bytes
  have hr := B.returns
  have hT := x_hT B.pre
  have hown : s.vm.findClass xR_La = some m.cls := findClass_of_methodNamed B.named
  have hlocks := B.notSynchronized
  subst hsz
  have hD := hD0.self (sz := s.heap.size)
  generalize hAe : va_A ((ob, .inl (kA 3, 1, .inr (.inl fo))) :: rp ad E RL) s.heap.size = A at hD hZ ⊢
  have hA : ∀ q : Nat, s.heap.size ≤ q → A q := fun q h => by rw [← hAe]; exact Or.inr h
  have hS : va_S A s.heap s.heap [] := va_S.rf
  have hl := lv_entry ([.ref (ad 0 0), .int ix, .int kx, .int tx, .int dx, .ref ob]) (n := 7) (Nat.le_of_ble_eq_true rfl)
  rw [lg_entry_eq]
  generalize (lg_sl ([.ref (ad 0 0), .int ix, .int kx, .int tx, .int dx, .ref ob]) ++ List.replicate (7 - (lg_sl ([.ref (ad 0 0), .int ix, .int kx, .int tx, .int dx, .ref ob])).length) Slot.unset).toArray = ls at hl ⊢
  have hl : lv_has ls 7 [(0, .ref (ad 0 0)), (1, .int ix), (2, .int kx), (3, .int tx), (4, .int dx), (5, .ref ob)] := hl
  have hP : va_P D xcl ((ob, .inl (kA 3, 1, .inr (.inl fo))) :: rp ad E RL) s.heap := hP
  have hex := vx_table (x := xy_La_peek) B (atoms_spec (ws := .codeWith xy_La_peek xb_La_peek 7 (some .int) [(0, 21, 24, 13), (0, 21, 28, 21)] :: wT) B.pre _ List.mem_cons_self)
  refine lv_aload hx hb xd_La_peek_0 (lv_at hl 5 rfl) ?_
  refine lv_iconst (v := 0) hx hb xd_La_peek_2 (by decide) ?_
  refine lv_aload_n hx hb xd_La_peek_3 rfl (lv_at hl 0 rfl) ?_
  refine lv_iload_n hx hb xd_La_peek_4 rfl (lv_at hl 1 rfl) ?_
  refine lv_iload_n hx hb xd_La_peek_5 rfl (lv_at hl 2 rfl) ?_
  refine lv_iload_n hx hb xd_La_peek_6 rfl (lv_at hl 3 rfl) ?_
  refine lv_iload hx hb xd_La_peek_7 (lv_at hl 4 rfl) ?_
  have hPc := xp_P (X := [(ob, .inl (kA 3, 1, .inr (.inl fo)))]) hP
  have hDc := xp_D (X := [(ob, .inl (kA 3, 1, .inr (.inl fo)))]) hD
  have hFc := va_freeP (X := [(ob, .inl (kA 3, 1, .inr (.inl fo)))]) (cx := []) hD hS hA [] rfl
  have hZc := hZ.kept hS
  obtain ⟨lf, hc0⟩ := hCI.2.1
  refine vx_calli (vx_runV (As := [.int ix, .int kx, .int tx, .int dx]) (rest := [.int 0, .ref ob]) ⟨hx, hb, hml, hown, hT⟩ (xc_De_peekK l hlt D kA s.heap.size ad E RL Z g ml nd len wn cs ix kx tx dx hCI hTX) (cwV 4 hT (wT_V k7e_17 k7e_18 k7e_19 k7e_4 k7e_16) rfl rfl rfl (by decide +kernel) ⟨Nat.le_of_ble_eq_true rfl, Nat.le_of_ble_eq_true rfl⟩) (px_preVZ hK hPc hDc (hCI.1 0 (by decide)) hc0 rfl hFc hZc) rfl rfl hl.1 rfl (lv_room (Nat.le_of_ble_eq_true rfl)) xd_La_peek_9 ⟨Nat.le_of_ble_eq_true rfl, Nat.le_of_ble_eq_true rfl⟩) hS (fun q _ h => hFc q h) hFc (fun q _ h => hFc q h) (fun E9 ce q9 u t H1 locs ht hvm hpost hB hz1 hk1 hS hce hcv hcl => ?_) (fun r u t H1 locs ht hvm hpost hB hz1 hk1 hS => ?_)
  · obtain ⟨hE9, hP1, hD1⟩ := hB
    rw [ht] at hP1
    obtain ⟨hP, hD⟩ := va_joinP (X := [(ob, .inl (kA 3, 1, .inr (.inl fo)))]) (cx := []) (wr := [(ob, .inl (kA 3, 1, .inr (.inl fo)))]) (rx := []) hP hD [] [0] rfl rfl (by decide) (by decide) hk1 hFc hP1 hD1
    generalize H1 = H at hP hS hce ⊢
    have hl := lv_sub hl [1, 2, 3, 4, 5] rfl
    have hl : lv_has ls 7 [(1, .int ix), (2, .int kx), (3, .int tx), (4, .int dx), (5, .ref ob)] := hl
    have hP : va_P D xcl ((ob, .inl (kA 3, 1, .inr (.inl fo))) :: rp ad u RL) H := hP
    have hD : va_D A ((ob, .inl (kA 3, 1, .inr (.inl fo))) :: rp ad u RL) := hD
    rcases hE9 with rfl | rfl
    · refine vx_catch (own := "LayerDeskLaw") (name := "java/lang/IllegalArgumentException") hown [] ⟨0, 21, 24, 13⟩ [⟨0, 21, 28, 21⟩] (by rw [hex]; rfl) (fun z hz => nomatch hz) rfl (by decide) (hT _ k7e_5) (va_Nw.use rfl hK.2.2.2.2.2.1) hce hcv hcl ?_
      refine lv_astore hx hb xd_La_peek_24 hl (Nat.le_of_ble_eq_true rfl) rfl (fun ls hl => ?_)
      have hl : lv_has ls 7 [(6, .ref q9), (1, .int ix), (2, .int kx), (3, .int tx), (4, .int dx), (5, .ref ob)] := hl
      refine lv_iconst (v := 1) hx hb xd_La_peek_26 (by decide) ?_
      refine W.widen (k := 1) (n := 6) (Nat.le_of_ble_eq_true rfl) (Nat.le_of_ble_eq_true rfl) ?_
      exact W.iret (v := 1) hx hb hr (fun t ht hW => ⟨⟨1, ((ad, u, RL), fo), rfl, ⟨hpost.1, hpost.2, rfl, rfl⟩, by rw [ht]; exact hP, hD⟩, hS.F ht⟩) hS.2.2 xd_La_peek_27
    · refine vx_catch (own := "LayerDeskLaw") (name := "java/util/NoSuchElementException") hown [⟨0, 21, 24, 13⟩] ⟨0, 21, 28, 21⟩ [] (by rw [hex]; rfl) (fun z hz => by rw [List.mem_singleton] at hz; subst hz; exact Or.inr ⟨(by decide), "java/lang/IllegalArgumentException", hT _ k7e_5, hZ.2.2.2.2.2.1⟩) rfl (by decide) (hT _ k7e_11) (va_Nw.use rfl hK.2.2.2.2.2.2.2) hce hcv hcl ?_
      refine lv_astore hx hb xd_La_peek_28 hl (Nat.le_of_ble_eq_true rfl) rfl (fun ls hl => ?_)
      have hl : lv_has ls 7 [(6, .ref q9), (1, .int ix), (2, .int kx), (3, .int tx), (4, .int dx), (5, .ref ob)] := hl
      refine lv_iconst (v := 2) hx hb xd_La_peek_30 (by decide) ?_
      refine W.widen (k := 1) (n := 6) (Nat.le_of_ble_eq_true rfl) (Nat.le_of_ble_eq_true rfl) ?_
      exact W.iret (v := 2) hx hb hr (fun t ht hW => ⟨⟨2, ((ad, u, RL), fo), rfl, ⟨hpost.1, hpost.2, rfl, rfl⟩, by rw [ht]; exact hP, hD⟩, hS.F ht⟩) hS.2.2 xd_La_peek_31
  · obtain ⟨hP1, hD1⟩ := hB
    rw [ht] at hP1
    obtain ⟨hP, hD⟩ := va_joinP (X := [(ob, .inl (kA 3, 1, .inr (.inl fo)))]) (cx := []) (wr := [(ob, .inl (kA 3, 1, .inr (.inl fo)))]) (rx := []) hP hD [] [0] rfl rfl (by decide) (by decide) hk1 hFc hP1 hD1
    generalize H1 = H at hP hS ⊢
    have hl := lv_sub hl [1, 2, 3, 4, 5] rfl
    have hl : lv_has ls 7 [(1, .int ix), (2, .int kx), (3, .int tx), (4, .int dx), (5, .ref ob)] := hl
    have hP : va_P D xcl ((ob, .inl (kA 3, 1, .inr (.inl fo))) :: rp ad u RL) H := hP
    have hD : va_D A ((ob, .inl (kA 3, 1, .inr (.inl fo))) :: rp ad u RL) := hD
    refine lv_if_eq (tgt := 19) hx hb xd_La_peek_12 (by decide) (fun hc1 => ?_) (fun hc1 => ?_)
    · refine lv_lconst (v := 0) hx hb xd_La_peek_19 (by decide) ?_
      refine va_last hx hb hK.1 hP hD hS 0 3 rfl rfl (show ¬ _ by decide) xd_La_peek_20 (fun H locs hP hD hS => ?_)
      have hP : va_P D xcl ((ob, .inl (kA 3, 1, .inr (.inl (vp_updL fo (0 : Int32).toNatClampNeg 0)))) :: rp ad u RL) H := hP
      have hD : va_D A ((ob, .inl (kA 3, 1, .inr (.inl (vp_updL fo (0 : Int32).toNatClampNeg 0)))) :: rp ad u RL) := hD
      refine lv_goto (tgt := 32) hx hb xd_La_peek_21 (by decide) ?_
      refine lv_iconst (v := 0) hx hb xd_La_peek_32 (by decide) ?_
      refine W.widen (k := 1) (n := 6) (Nat.le_of_ble_eq_true rfl) (Nat.le_of_ble_eq_true rfl) ?_
      exact W.iret (v := 0) hx hb hr (fun t ht hW => ⟨⟨0, ((ad, u, RL), (vp_updL fo (0 : Int32).toNatClampNeg 0)), rfl, ⟨hpost.1, hpost.2, rfl, rfl⟩, by rw [ht]; exact hP, hD⟩, hS.F ht⟩) hS.2.2 xd_La_peek_33
    · refine lv_lconst (v := 1) hx hb xd_La_peek_15 (by decide) ?_
      refine lv_goto (tgt := 20) hx hb xd_La_peek_16 (by decide) ?_
      refine va_last hx hb hK.1 hP hD hS 0 3 rfl rfl (show ¬ _ by decide) xd_La_peek_20 (fun H locs hP hD hS => ?_)
      have hP : va_P D xcl ((ob, .inl (kA 3, 1, .inr (.inl (vp_updL fo (0 : Int32).toNatClampNeg 1)))) :: rp ad u RL) H := hP
      have hD : va_D A ((ob, .inl (kA 3, 1, .inr (.inl (vp_updL fo (0 : Int32).toNatClampNeg 1)))) :: rp ad u RL) := hD
      refine lv_goto (tgt := 32) hx hb xd_La_peek_21 (by decide) ?_
      refine lv_iconst (v := 0) hx hb xd_La_peek_32 (by decide) ?_
      refine W.widen (k := 1) (n := 6) (Nat.le_of_ble_eq_true rfl) (Nat.le_of_ble_eq_true rfl) ?_
      exact W.iret (v := 0) hx hb hr (fun t ht hW => ⟨⟨0, ((ad, u, RL), (vp_updL fo (0 : Int32).toNatClampNeg 1)), rfl, ⟨hpost.1, hpost.2, rfl, rfl⟩, by rw [ht]; exact hP, hD⟩, hS.F ht⟩) hS.2.2 xd_La_peek_33
set_option maxHeartbeats 4000000 in
set_option maxRecDepth 100000 in
theorem xc_La_providerX (l : Launch) (hlt : l.stackTraces = false) (D : va_G) (kA : Nat → ClassId) (sz : Nat) (ad : Nat → Nat → Nat) (E : Nat → Nat → va_E) (RL : List (Nat × Nat)) (Z : zT) (g : Nat → Nat → Int32) (ml : Nat) (nd : Nat) (len : Nat) (wn : Nat) (cs : Nat) (ob : Nat) (fo : Nat → Int64) (ix : Int32) (kx : Int32) (hCI : CI kA ad E RL ml nd len wn cs) (hXT : XT g ad E nd ml len) : Met l xy_La_provider (.codeWith xy_La_provider xb_La_provider 5 (some .int) [(0, 10, 13, 13)] :: wT) { frames := 7, cells := 1, slots := 6, locals := 107 } (va_Pc [.ref (ad 0 0), .int ix, .int kx, .ref ob] (xPreZ D kA sz ((ob, .inl (kA 3, 1, .inr (.inl fo))) :: rp ad E RL) Z)) (va_Qi (fun (r : Int32) (u : ((Nat → Nat → Nat) × (Nat → Nat → va_E) × List (Nat × Nat)) × (Nat → Int64)) => ((∃ wn2, CI kA ad u.1.2.1 RL ml nd 0 wn2 cs) ∧ F134 E u.1.2.1 ∧ u.1.1 = ad ∧ u.1.2.2 = RL) ∧ ∃ a : Int32, pvA g ml (n1 (g 0) (w_all (g 0) len)) ix kx r a ∧ (r = 0 → u.2 0 = a.toInt64)) (fun (u : ((Nat → Nat → Nat) × (Nat → Nat → va_E) × List (Nat × Nat)) × (Nat → Int64)) t => va_P D xcl ((ob, .inl (kA 3, 1, .inr (.inl u.2))) :: rp u.1.1 u.1.2.1 u.1.2.2) t.heap ∧ va_D (va_A ((ob, .inl (kA 3, 1, .inr (.inl fo))) :: rp ad E RL) sz) ((ob, .inl (kA 3, 1, .inr (.inl u.2))) :: rp u.1.1 u.1.2.1 u.1.2.2)) (va_A ((ob, .inl (kA 3, 1, .inr (.inl fo))) :: rp ad E RL) sz)) 1 6 (va_A ((ob, .inl (kA 3, 1, .inr (.inl fo))) :: rp ad E RL) sz) := by
  refine va_MetW (cc := xb_La_provider) (maxL := 5) (ret := (some .int)) (by decide) rfl ?_
  intro p e s m args below meth c s₁ B hml hv
  obtain ⟨rfl, ⟨hsz, hP, hK, hD0⟩, hZ⟩ := hv
  have hx := B.exec
  have hb := B.bytes
  have hr := B.returns
  have hT := x_hT B.pre
  have hown : s.vm.findClass xR_La = some m.cls := findClass_of_methodNamed B.named
  have hlocks := B.notSynchronized
  subst hsz
  have hD := hD0.self (sz := s.heap.size)
  generalize hAe : va_A ((ob, .inl (kA 3, 1, .inr (.inl fo))) :: rp ad E RL) s.heap.size = A at hD hZ ⊢
  have hA : ∀ q : Nat, s.heap.size ≤ q → A q := fun q h => by rw [← hAe]; exact Or.inr h
  have hS : va_S A s.heap s.heap [] := va_S.rf
  have hl := lv_entry ([.ref (ad 0 0), .int ix, .int kx, .ref ob]) (n := 5) (Nat.le_of_ble_eq_true rfl)
  rw [lg_entry_eq]
  generalize (lg_sl ([.ref (ad 0 0), .int ix, .int kx, .ref ob]) ++ List.replicate (5 - (lg_sl ([.ref (ad 0 0), .int ix, .int kx, .ref ob])).length) Slot.unset).toArray = ls at hl ⊢
  have hl : lv_has ls 5 [(0, .ref (ad 0 0)), (1, .int ix), (2, .int kx), (3, .ref ob)] := hl
  have hP : va_P D xcl ((ob, .inl (kA 3, 1, .inr (.inl fo))) :: rp ad E RL) s.heap := hP
  have hex := vx_table (x := xy_La_provider) B (atoms_spec (ws := .codeWith xy_La_provider xb_La_provider 5 (some .int) [(0, 10, 13, 13)] :: wT) B.pre _ List.mem_cons_self)
  refine lv_aload_n hx hb xd_La_provider_0 rfl (lv_at hl 3 rfl) ?_
  refine lv_iconst (v := 0) hx hb xd_La_provider_1 (by decide) ?_
  refine lv_aload_n hx hb xd_La_provider_2 rfl (lv_at hl 0 rfl) ?_
  refine lv_iload_n hx hb xd_La_provider_3 rfl (lv_at hl 1 rfl) ?_
  refine lv_iload_n hx hb xd_La_provider_4 rfl (lv_at hl 2 rfl) ?_
  have hPc := xp_P (X := [(ob, .inl (kA 3, 1, .inr (.inl fo)))]) hP
  have hDc := xp_D (X := [(ob, .inl (kA 3, 1, .inr (.inl fo)))]) hD
  have hFc := va_freeP (X := [(ob, .inl (kA 3, 1, .inr (.inl fo)))]) (cx := []) hD hS hA [] rfl
  have hZc := hZ.kept hS
  obtain ⟨lf, hc0⟩ := hCI.2.1
  refine vx_calli (vx_runV (As := [.int ix, .int kx]) (rest := [.int 0, .ref ob]) ⟨hx, hb, hml, hown, hT⟩ (xc_De_providerA l hlt D kA s.heap.size ad E RL Z g ml nd len wn cs ix kx hCI hXT) (cwV 2 hT (wT_V k7e_21 k7e_22 k7e_23 k7e_4 k7e_20) rfl rfl rfl (by decide +kernel) ⟨Nat.le_of_ble_eq_true rfl, Nat.le_of_ble_eq_true rfl⟩) (px_preVZ hK hPc hDc (hCI.1 0 (by decide)) hc0 rfl hFc hZc) rfl rfl hl.1 rfl (lv_room (Nat.le_of_ble_eq_true rfl)) xd_La_provider_5 ⟨Nat.le_of_ble_eq_true rfl, Nat.le_of_ble_eq_true rfl⟩) hS (fun q _ h => hFc q h) hFc (fun q _ h => hFc q h) (fun E9 ce q9 u t H1 locs ht hvm hpost hB hz1 hk1 hS hce hcv hcl => ?_) (fun r u t H1 locs ht hvm hpost hB hz1 hk1 hS => ?_)
  · obtain ⟨hE9, hP1, hD1⟩ := hB
    rw [ht] at hP1
    obtain ⟨hP, hD⟩ := va_joinP (X := [(ob, .inl (kA 3, 1, .inr (.inl fo)))]) (cx := []) (wr := [(ob, .inl (kA 3, 1, .inr (.inl fo)))]) (rx := []) hP hD [] [0] rfl rfl (by decide) (by decide) hk1 hFc hP1 hD1
    generalize H1 = H at hP hS hce ⊢
    have hl := lv_sub hl [1, 2, 3] rfl
    have hl : lv_has ls 5 [(1, .int ix), (2, .int kx), (3, .ref ob)] := hl
    have hP : va_P D xcl ((ob, .inl (kA 3, 1, .inr (.inl fo))) :: rp ad u RL) H := hP
    have hD : va_D A ((ob, .inl (kA 3, 1, .inr (.inl fo))) :: rp ad u RL) := hD
    obtain ⟨rfl, hz9⟩ := hE9
    · refine vx_catch (own := "LayerDeskLaw") (name := "java/lang/IllegalArgumentException") hown [] ⟨0, 10, 13, 13⟩ [] (by rw [hex]; rfl) (fun z hz => nomatch hz) rfl (by decide) (hT _ k7e_5) (va_Nw.use rfl hK.2.2.2.2.2.1) hce hcv hcl ?_
      refine lv_astore hx hb xd_La_provider_13 hl (Nat.le_of_ble_eq_true rfl) rfl (fun ls hl => ?_)
      have hl : lv_has ls 5 [(4, .ref q9), (1, .int ix), (2, .int kx), (3, .ref ob)] := hl
      refine lv_iconst (v := 1) hx hb xd_La_provider_15 (by decide) ?_
      refine W.widen (k := 1) (n := 6) (Nat.le_of_ble_eq_true rfl) (Nat.le_of_ble_eq_true rfl) ?_
      exact W.iret (v := 1) hx hb hr (fun t ht hW => ⟨⟨1, ((ad, u, RL), fo), rfl, ⟨⟨hpost.1, hpost.2, rfl, rfl⟩, 0, Or.inl ⟨rfl, hz9⟩, fun h9 => absurd h9 (by decide)⟩, by rw [ht]; exact hP, hD⟩, hS.F ht⟩) hS.2.2 xd_La_provider_16
  · obtain ⟨hP1, hD1⟩ := hB
    rw [ht] at hP1
    obtain ⟨hP, hD⟩ := va_joinP (X := [(ob, .inl (kA 3, 1, .inr (.inl fo)))]) (cx := []) (wr := [(ob, .inl (kA 3, 1, .inr (.inl fo)))]) (rx := []) hP hD [] [0] rfl rfl (by decide) (by decide) hk1 hFc hP1 hD1
    generalize H1 = H at hP hS ⊢
    have hl := lv_sub hl [1, 2, 3] rfl
    have hl : lv_has ls 5 [(1, .int ix), (2, .int kx), (3, .ref ob)] := hl
    have hP : va_P D xcl ((ob, .inl (kA 3, 1, .inr (.inl fo))) :: rp ad u RL) H := hP
    have hD : va_D A ((ob, .inl (kA 3, 1, .inr (.inl fo))) :: rp ad u RL) := hD
    refine lv_i2l (v := ((r : Int32).toInt64)) hx hb xd_La_provider_8 rfl ?_
    refine va_last hx hb hK.1 hP hD hS 0 3 rfl rfl (show ¬ _ by decide) xd_La_provider_9 (fun H locs hP hD hS => ?_)
    have hP : va_P D xcl ((ob, .inl (kA 3, 1, .inr (.inl (vp_updL fo (0 : Int32).toNatClampNeg ((r : Int32).toInt64))))) :: rp ad u RL) H := hP
    have hD : va_D A ((ob, .inl (kA 3, 1, .inr (.inl (vp_updL fo (0 : Int32).toNatClampNeg ((r : Int32).toInt64))))) :: rp ad u RL) := hD
    refine lv_goto (tgt := 17) hx hb xd_La_provider_10 (by decide) ?_
    refine lv_iconst (v := 0) hx hb xd_La_provider_17 (by decide) ?_
    refine W.widen (k := 1) (n := 6) (Nat.le_of_ble_eq_true rfl) (Nat.le_of_ble_eq_true rfl) ?_
    exact W.iret (v := 0) hx hb hr (fun t ht hW => ⟨⟨0, ((ad, u, RL), (vp_updL fo (0 : Int32).toNatClampNeg ((r : Int32).toInt64))), rfl, ⟨⟨hpost.1.1, hpost.1.2, rfl, rfl⟩, r, hpost.2, fun _ => by simp [vp_updL]⟩, by rw [ht]; exact hP, hD⟩, hS.F ht⟩) hS.2.2 xd_La_provider_18
theorem xd_Mo_thrown_0 : decode xb_Mo_thrown 0 = .ok (.aload_n 0, 1) := by decide +kernel
theorem xd_Mo_thrown_1 : decode xb_Mo_thrown 1 = .ok (.getfield 87, 3) := by decide +kernel
theorem xd_Mo_thrown_4 : decode xb_Mo_thrown 4 = .ok (.ireturn, 1) := by decide +kernel
theorem k4s_0 : (Cond.fieldLink "LayerDeskModel" 87 "LayerDeskModel" "fault" "I") ∈ wT := wT_t (List.mem_append_right _ (List.mem_append_right _ (List.mem_append_right _ (List.mem_append_left _ (List.mem_of_getElem? (i := 84) rfl))))) rfl
set_option maxHeartbeats 4000000 in
set_option maxRecDepth 100000 in
theorem xc_Mo_thrown (l : Launch) (D : va_G) (kA : Nat → ClassId) (sz h : Nat) (mm : Nat → Nat) (v : Nat → Int32) (g : Nat → Nat → Int32) (hMI : MI v g) : Met l xy_Mo_thrown (.code xy_Mo_thrown xb_Mo_thrown 1 (some .int) :: wT) { frames := 0, cells := 0, slots := 0, locals := 0 } (va_Pc [.ref h] (xPre D kA sz (moW h mm kA v g))) (va_Qi (fun (r : Int32) (u : (Nat → Int32) × (Nat → Nat → Int32)) => u.1 = v ∧ u.2 = g ∧ r = v 0) (fun (u : (Nat → Int32) × (Nat → Nat → Int32)) t => va_P D xcl (moW h mm kA u.1 u.2) t.heap ∧ va_D (va_A (moW h mm kA v g) sz) (moW h mm kA u.1 u.2)) (va_A (moW h mm kA v g) sz)) 0 0 (va_A (moW h mm kA v g) sz) := by
  refine Met.ofW (cc := xb_Mo_thrown) (maxL := 1) (ret := (some .int)) (by decide) rfl ?_
  intro p e s m args below meth c s₁ B hml hv
  obtain ⟨rfl, hsz, hP, hK, hD0⟩ := hv
  have hx := B.exec
  have hb := B.bytes
  have hr := B.returns
  have hT := x_hT B.pre
  have hown : s.vm.findClass xR_Mo = some m.cls := findClass_of_methodNamed B.named
  have hlocks := B.notSynchronized
  subst hsz
  have hD := hD0.self (sz := s.heap.size)
  generalize hAe : va_A (moW h mm kA v g) s.heap.size = A at hD ⊢
  have hA : ∀ q : Nat, s.heap.size ≤ q → A q := fun q h => by rw [← hAe]; exact Or.inr h
  have hS : va_S A s.heap s.heap [] := va_S.rf
  have hl := lv_entry ([.ref h]) (n := 1) (Nat.le_of_ble_eq_true rfl)
  rw [lg_entry_eq]
  generalize (lg_sl ([.ref h]) ++ List.replicate (1 - (lg_sl ([.ref h])).length) Slot.unset).toArray = ls at hl ⊢
  have hl : lv_has ls 1 [(0, .ref h)] := hl
  have hP : va_P D xcl (moW h mm kA v g) s.heap := hP
  refine lv_aload_n hx hb xd_Mo_thrown_0 rfl (lv_at hl 0 rfl) ?_
  refine va_get (D := D) (ci := 4) (v := .int (v 0)) (C := xR_Mo) (T := xT_Mo) (N := 31) hx hb hT xi_Mo hown hK.1 hP 0 rfl rfl 0 (by decide) (hT _ k4s_0) (fun _ h9 => h9) rfl xd_Mo_thrown_1 ?_
  exact W.iret (v := (v 0)) hx hb hr (fun t ht hW => ⟨⟨(v 0), (v, g), rfl, ⟨rfl, rfl, rfl⟩, by rw [ht]; exact hP, hD⟩, hS.F ht⟩) hS.2.2 xd_Mo_thrown_4
