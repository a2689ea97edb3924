theorem k5x_0 : (Cond.fieldLink "LayerDesk$Member" 24 "LayerDesk$Member" "home" "LLayerDesk$Layer;") ∈ wT := wT_t (List.mem_append_right _ (List.mem_append_right _ (List.mem_append_left _ (List.mem_of_getElem? (i := 179) rfl)))) rfl
theorem k5x_1 : (Cond.fieldLink "LayerDesk$Member" 75 "LayerDesk$Layer" "members" "[LLayerDesk$Member;") ∈ wT := wT_t (List.mem_append_right _ (List.mem_append_right _ (List.mem_append_left _ (List.mem_of_getElem? (i := 148) rfl)))) rfl
theorem k5x_2 : (Cond.fieldLink "LayerDesk$Member" 89 "LayerDesk$Layer" "parent" "LLayerDesk$Layer;") ∈ wT := wT_t (List.mem_append_right _ (List.mem_append_right _ (List.mem_append_left _ (List.mem_of_getElem? (i := 144) rfl)))) rfl
theorem k5x_3 : (Cond.fieldLink "LayerDesk$Member" 21 "LayerDesk$Member" "reading" "LLayerDesk$Reach;") ∈ wT := wT_t (List.mem_append_right _ (List.mem_append_right _ (List.mem_append_left _ (List.mem_of_getElem? (i := 191) rfl)))) rfl
theorem k5x_4 : (Cond.code xy_Re_marks xb_Re_marks 2 (some .boolean)) ∈ wT := wT_t (List.mem_append_left _ (List.mem_of_getElem? (i := 177) rfl)) rfl
theorem k5x_5 : (Cond.methodLink "LayerDesk$Member" 78 xy_Re_marks) ∈ wT := wT_t (List.mem_append_right _ (List.mem_append_right _ (List.mem_append_right _ (List.mem_append_left _ (List.mem_of_getElem? (i := 16) rfl))))) rfl
theorem k5x_6 : (Cond.instanceMethod xy_Re_marks) ∈ wT := wT_t (List.mem_append_left _ (List.mem_of_getElem? (i := 175) rfl)) rfl
theorem k5x_7 : (Cond.selects "LayerDesk$Reach" xy_Re_marks xy_Re_marks) ∈ wT := wT_t (List.mem_append_left _ (List.mem_of_getElem? (i := 176) rfl)) rfl
theorem k5x_8 : (Cond.initialized "LayerDesk$Reach") ∈ wT := wT_t (List.mem_append_left _ (List.mem_of_getElem? (i := 21) rfl)) rfl
theorem k5x_9 : (Cond.fieldLink "LayerDesk$Member" 28 "LayerDesk$Member" "descriptor" "LLayerDesk$Descriptor;") ∈ wT := wT_t (List.mem_append_right _ (List.mem_append_right _ (List.mem_append_left _ (List.mem_of_getElem? (i := 181) rfl)))) rfl
theorem k5x_10 : (Cond.fieldLink "LayerDesk$Member" 82 "LayerDesk$Descriptor" "name" "I") ∈ wT := wT_t (List.mem_append_right _ (List.mem_append_left _ (List.mem_of_getElem? (i := 57) rfl))) rfl
theorem k5x_11 : (Cond.code xy_Ds_exportsTo xb_Ds_exportsTo 4 (some .boolean)) ∈ wT := wT_t (List.mem_append_right _ (List.mem_append_right _ (List.mem_append_right _ (List.mem_append_left _ (List.mem_of_getElem? (i := 20) rfl))))) rfl
theorem k5x_12 : (Cond.methodLink "LayerDesk$Member" 85 xy_Ds_exportsTo) ∈ wT := wT_t (List.mem_append_right _ (List.mem_append_right _ (List.mem_append_right _ (List.mem_append_left _ (List.mem_of_getElem? (i := 17) rfl))))) rfl
theorem k5x_13 : (Cond.instanceMethod xy_Ds_exportsTo) ∈ wT := wT_t (List.mem_append_right _ (List.mem_append_right _ (List.mem_append_right _ (List.mem_append_left _ (List.mem_of_getElem? (i := 18) rfl))))) rfl
theorem k5x_14 : (Cond.selects "LayerDesk$Descriptor" xy_Ds_exportsTo xy_Ds_exportsTo) ∈ wT := wT_t (List.mem_append_right _ (List.mem_append_right _ (List.mem_append_right _ (List.mem_append_left _ (List.mem_of_getElem? (i := 19) rfl))))) rfl
theorem k5x_15 : (Cond.initialized "LayerDesk$Descriptor") ∈ wT := wT_t (List.mem_append_left _ (List.mem_of_getElem? (i := 10) rfl)) rfl
set_option maxHeartbeats 4000000 in
set_option maxRecDepth 100000 in
theorem xc_Me_sourceOfX (l : Launch) (D : va_G) (kA : Nat → ClassId) (sz : Nat) (ad : Nat → Nat → Nat) (E : Nat → Nat → va_E) (RL : List (Nat × Nat)) (g : Nat → Nat → Int32) (nd : Nat) (nL : Nat) (n : Nat) (k : Nat) (pn : Int32) (hDIs : DIs kA ad E RL nd) (hLIs : LIs kA ad E RL nd nL) (hnL : nL ≤ 6) (hn : n < nL) (hTD : TDs g E nd) (hTL : TLas g ad E nd nL) (hnd12 : nd ≤ 12) (hME : MEI kA ad E RL nd n k) (hkm : k < iN (g 20 n)) (hNZ : NZ g nd) : Met l xy_Me_sourceOf (.code xy_Me_sourceOf xb_Me_sourceOf 5 (some (.object "LayerDesk$Member")) :: wT) { frames := 3, cells := 0, slots := 0, locals := 66 } (va_Pc [.ref (ad (20 + n) (10 + 10 * k)), .int pn] (xPre D kA sz (rp ad E RL))) (va_Qq (fun (r : Option Nat) (u : Unit) => (r = none ∧ srG g (RWb E n k) pn (g 4 (mdv g n k)) (n + 1) = none) ∨ ∃ x kk, x ≤ n ∧ r = some (ad (20 + x) (10 + 10 * kk)) ∧ MEI kA ad E RL nd x kk ∧ srG g (RWb E n k) pn (g 4 (mdv g n k)) (n + 1) = some (x, kk)) (fun (u : Unit) t => va_P D xcl (rp ad E RL) t.heap ∧ va_D (va_A (rp ad E RL) sz) (rp ad E RL)) (va_A (rp ad E RL) sz)) 0 0 (va_A (rp ad E RL) sz) := by
  refine Met.ofW (cc := xb_Me_sourceOf) (maxL := 5) (ret := (some (.object "LayerDesk$Member"))) (by decide) rfl ?_
  intro p e s m args below meth c s₁ B hml hv
  obtain ⟨rfl, hsz, hP, hK, hD0⟩ := hv
  have hx := B.exec
  have hb := B.bytes
  have hr := B.returns
  have hT := x_hT B.pre
  have hown : s.vm.findClass xR_Me = some m.cls := findClass_of_methodNamed B.named
  have hlocks := B.notSynchronized
  subst hsz
  have hD := hD0.self (sz := s.heap.size)
  generalize hAe : va_A (rp ad E RL) s.heap.size = A at hD ⊢
  have hA : ∀ q : Nat, s.heap.size ≤ q → A q := fun q h => by rw [← hAe]; exact Or.inr h
  have hS : va_S A s.heap s.heap [] := va_S.rf
  have hl := lv_entry ([.ref (ad (20 + n) (10 + 10 * k)), .int pn]) (n := 5) (Nat.le_of_ble_eq_true rfl)
  rw [lg_entry_eq]
  generalize (lg_sl ([.ref (ad (20 + n) (10 + 10 * k)), .int pn]) ++ List.replicate (5 - (lg_sl ([.ref (ad (20 + n) (10 + 10 * k)), .int pn])).length) Slot.unset).toArray = ls at hl ⊢
  have hl : lv_has ls 5 [(0, .ref (ad (20 + n) (10 + 10 * k))), (1, .int pn)] := hl
  have hP : va_P D xcl (rp ad E RL) s.heap := hP
  obtain ⟨m0_1, m1_1, pv_1, op_1, mk_1, fm_1, hmk_1, hpv_1, q0_1, q1_1, hk_1⟩ := id (hLIs n (by omega))
  have c_2 : E (20 + n) 0 = .inr (5, [.int (nI n), pv_1, .ref (ad (20 + n) 1), .int op_1]) := q0_1
  have m_3 : (20 + n, 0) ∈ RL := m0_1
  have c_4 : E (20 + n) 1 = .inl (kA 6, mk_1, .inr (.inr (.inr (.inr fm_1)))) := q1_1
  have m_5 : (20 + n, 1) ∈ RL := m1_1
  obtain ⟨top_1, ⟨lq_1, hlq_1, h19_1, hpv2_1⟩, h20_1, tmd_1⟩ := TLa_get c_2 c_4 (hTL n (by omega))
  have c_6 : E (20 + n) 0 = .inr (5, [.int (nI n), (lyv ad lq_1), .ref (ad (20 + n) 1), .int op_1]) := by rw [← hpv2_1]; exact c_2
  have i20_1 : iN (g 20 n) = mk_1 := by rw [h20_1, iN_nI (by omega)]
  have hkq : k < mk_1 := by have q := hkm; rw [i20_1] at q; exact q
  obtain ⟨hm_7, d_7, rs_7, fr_7, g2_7, g3_7, g4_7, hd_7, hrs_7, q0_7, q1_7, q2_7, q3_7, q4_7, q5_7, q6_7, q7_7⟩ := id hME
  have c_8 : E (20 + n) (10 + 10 * k) = .inr (6, [.ref (ad (20 + n) 0), .ref (ad (1 + d_7) 0), .ref (ad (20 + n) (11 + 10 * k)), .ref (ad (20 + n) (12 + 10 * k)), .ref (ad (20 + n) (13 + 10 * k)), .ref (ad (20 + n) (14 + 10 * k))]) := q0_7
  have m_9 : (20 + n, 10 + 10 * k) ∈ RL := hm_7 0 (by omega)
  have c_10 : E (20 + n) (11 + 10 * k) = .inl (kA 6, rs_7, .inr (.inr (.inr (.inr fr_7)))) := q1_7
  have m_11 : (20 + n, 11 + 10 * k) ∈ RL := hm_7 1 (by omega)
  have c_12 : E (20 + n) (12 + 10 * k) = .inr (10, [.ref (ad (20 + n) (15 + 10 * k))]) := q2_7
  have m_13 : (20 + n, 12 + 10 * k) ∈ RL := hm_7 2 (by omega)
  have c_14 : E (20 + n) (13 + 10 * k) = .inr (10, [.ref (ad (20 + n) (16 + 10 * k))]) := q3_7
  have m_15 : (20 + n, 13 + 10 * k) ∈ RL := hm_7 3 (by omega)
  have c_16 : E (20 + n) (14 + 10 * k) = .inr (10, [.ref (ad (20 + n) (17 + 10 * k))]) := q4_7
  have m_17 : (20 + n, 14 + 10 * k) ∈ RL := hm_7 4 (by omega)
  have c_18 : E (20 + n) (15 + 10 * k) = .inl (kA 0, 6, .inl g2_7) := q5_7
  have m_19 : (20 + n, 15 + 10 * k) ∈ RL := hm_7 5 (by omega)
  have c_20 : E (20 + n) (16 + 10 * k) = .inl (kA 0, 6, .inl g3_7) := q6_7
  have m_21 : (20 + n, 16 + 10 * k) ∈ RL := hm_7 6 (by omega)
  have c_22 : E (20 + n) (17 + 10 * k) = .inl (kA 0, 6, .inl g4_7) := q7_7
  have m_23 : (20 + n, 17 + 10 * k) ∈ RL := hm_7 7 (by omega)
  have hdm_7 : mdv g n k = d_7 := by
    obtain ⟨dz, hdz, h21z, hvz⟩ := tmd_1 k (by omega)
    rw [c_8] at hvz
    have ez := (rp_inj hD ((hDIs d_7 hd_7).1 0 (by omega)) ((hDIs dz hdz).1 0 (by omega)) (Value.ref.inj hvz)).1
    unfold mdv
    rw [h21z, iN_nI (by omega)]; omega
  obtain ⟨hm_24, fd_24, nm_24, sd_24, k0_24, k1_24, k2_24, k3_24, f0_24, f1_24, f2_24, f3_24, fe_24, fo_24, tr_24, op_24, hk0_24, hk1_24, hk2_24, hk3_24, q0_24, q1_24, q2_24, q3_24, q4_24, q5_24, q6_24, q7_24, q8_24, q9_24, q10_24, q11_24, q12_24, hg_24⟩ := id (hDIs d_7 (by omega))
  have c_25 : E (1 + d_7) 0 = .inr (7, [.int (nI d_7), .int fd_24, .int nm_24, .ref (ad (1 + d_7) 1), .ref (ad (1 + d_7) 9), .ref (ad (1 + d_7) 10), .ref (ad (1 + d_7) 2), .ref (ad (1 + d_7) 11), .ref (ad (1 + d_7) 12), .ref (ad (1 + d_7) 3), .ref (ad (1 + d_7) 4), .int sd_24]) := q0_24
  have m_26 : (1 + d_7, 0) ∈ RL := hm_24 0 (by omega)
  have c_27 : E (1 + d_7) 1 = .inr (8, [.ref (ad (1 + d_7) 5), .int (nI k0_24)]) := q1_24
  have m_28 : (1 + d_7, 1) ∈ RL := hm_24 1 (by omega)
  have c_29 : E (1 + d_7) 2 = .inr (8, [.ref (ad (1 + d_7) 6), .int (nI k1_24)]) := q2_24
  have m_30 : (1 + d_7, 2) ∈ RL := hm_24 2 (by omega)
  have c_31 : E (1 + d_7) 3 = .inr (8, [.ref (ad (1 + d_7) 7), .int (nI k2_24)]) := q3_24
  have m_32 : (1 + d_7, 3) ∈ RL := hm_24 3 (by omega)
  have c_33 : E (1 + d_7) 4 = .inr (8, [.ref (ad (1 + d_7) 8), .int (nI k3_24)]) := q4_24
  have m_34 : (1 + d_7, 4) ∈ RL := hm_24 4 (by omega)
  have c_35 : E (1 + d_7) 5 = .inl (kA 0, 6, .inl f0_24) := q5_24
  have m_36 : (1 + d_7, 5) ∈ RL := hm_24 5 (by omega)
  have c_37 : E (1 + d_7) 6 = .inl (kA 0, 5, .inl f1_24) := q6_24
  have m_38 : (1 + d_7, 6) ∈ RL := hm_24 6 (by omega)
  have c_39 : E (1 + d_7) 7 = .inl (kA 0, 3, .inl f2_24) := q7_24
  have m_40 : (1 + d_7, 7) ∈ RL := hm_24 7 (by omega)
  have c_41 : E (1 + d_7) 8 = .inl (kA 0, 3, .inl f3_24) := q8_24
  have m_42 : (1 + d_7, 8) ∈ RL := hm_24 8 (by omega)
  have c_43 : E (1 + d_7) 9 = .inl (kA 8, 6, .inr (.inr (.inr (.inr fe_24)))) := q9_24
  have m_44 : (1 + d_7, 9) ∈ RL := hm_24 9 (by omega)
  have c_45 : E (1 + d_7) 10 = .inl (kA 8, 6, .inr (.inr (.inr (.inr fo_24)))) := q10_24
  have m_46 : (1 + d_7, 10) ∈ RL := hm_24 10 (by omega)
  have c_47 : E (1 + d_7) 11 = .inl (kA 2, 5, .inl tr_24) := q11_24
  have m_48 : (1 + d_7, 11) ∈ RL := hm_24 11 (by omega)
  have c_49 : E (1 + d_7) 12 = .inl (kA 2, 5, .inl op_24) := q12_24
  have m_50 : (1 + d_7, 12) ∈ RL := hm_24 12 (by omega)
  have hg_24 : ∀ w9, w9 < k0_24 → fe_24 w9 = some (ad (1 + d_7) (20 + 3 * w9)) ∧ fo_24 w9 = some (ad (1 + d_7) (38 + 3 * w9)) ∧ GI kA (ad (1 + d_7)) (E (1 + d_7)) (fun o => (1 + d_7, o) ∈ RL) (20 + 3 * w9) (21 + 3 * w9) (22 + 3 * w9) ∧ GI kA (ad (1 + d_7)) (E (1 + d_7)) (fun o => (1 + d_7, o) ∈ RL) (38 + 3 * w9) (39 + 3 * w9) (40 + 3 * w9) := hg_24
  obtain ⟨hTT_24, tgr_24⟩ := TD_get hk0_24 hk1_24 hk2_24 hk3_24 c_25 c_27 c_29 c_31 c_33 c_35 c_37 c_39 c_41 c_47 c_49 (hTD d_7 (by omega))
  obtain ⟨tfd_24, tnm_24, tsd_24, tk0_24, tf0_24, tk1_24, tf1_24, tk2_24, tk3_24⟩ := id hTT_24
  have ik0_24 : iN (g 5 d_7) = k0_24 := by rw [← tk0_24, iN_nI (by omega)]
  have ik1_24 : iN (g 12 d_7) = k1_24 := by rw [← tk1_24, iN_nI (by omega)]
  have hrow : ∀ t, RWb E n k t ↔ BS g4_7 t := fun t => by unfold RWb; rw [c_22]; rfl
  have hrd0 : ¬ nm_24 = 0 := by rw [tnm_24]; exact hNZ _ hd_7
  refine lv_aload_n hx hb xd_Me_sourceOf_0 rfl (lv_at hl 0 rfl) ?_
  refine px_get (D := D) (ci := 6) (v := .ref (ad (20 + n) 0)) (C := xR_Me) (T := xT_Me) (N := 6) hx hb hT xi_Me hown hK.1 hP m_9 c_8 rfl 0 (by decide) (hT _ k5x_0) (fun _ h9 => h9) rfl xd_Me_sourceOf_1 ?_
  refine lv_astore_n hx hb xd_Me_sourceOf_4 rfl hl (Nat.le_of_ble_eq_true rfl) rfl (fun ls hl => ?_)
  have hl : lv_has ls 5 [(2, .ref (ad (20 + n) 0)), (0, .ref (ad (20 + n) (10 + 10 * k))), (1, .int pn)] := hl
  refine xlab (σ := Nat) (ml := 5) 5 (fun (y : Nat) => [(2, (lyv ad y)), (0, .ref (ad (20 + n) (10 + 10 * k))), (1, .int pn)]) (fun (y : Nat) => []) (fun (y : Nat) => rp ad E RL) (fun (y : Nat) => (y ≤ n + 1) ∧ (srG g (RWb E n k) pn (g 4 (mdv g n k)) (n + 1) = srG g (RWb E n k) pn (g 4 (mdv g n k)) y)) (fun (y : Nat) => y) ?_ (n + 1) _ _ _ (lv_sub hl [0, 1, 2] rfl) hP hD hS ⟨(show (n + 1) ≤ n + 1 from by first | assumption | omega), (show srG g (RWb E n k) pn (g 4 (mdv g n k)) (n + 1) = srG g (RWb E n k) pn (g 4 (mdv g n k)) (n + 1) from rfl)⟩
  intro n9 ih51 a9 ls H locs hμ hl hP hD hS hI
  subst hμ
  obtain ⟨y, rfl⟩ : ∃ z, z = a9 := ⟨_, rfl⟩
  obtain ⟨hy, hsr⟩ := hI
  have hy : y ≤ n + 1 := hy
  have hsr : srG g (RWb E n k) pn (g 4 (mdv g n k)) (n + 1) = srG g (RWb E n k) pn (g 4 (mdv g n k)) y := hsr
  have hl : lv_has ls 5 [(2, (lyv ad y)), (0, .ref (ad (20 + n) (10 + 10 * k))), (1, .int pn)] := hl
  have hP : va_P D xcl (rp ad E RL) H := hP
  have hD : va_D A (rp ad E RL) := hD
  rcases y with _ | y
  · have hl : lv_has ls 5 [(2, .null), (0, .ref (ad (20 + n) (10 + 10 * k))), (1, .int pn)] := hl
    refine lv_aload_nN hx hb xd_Me_sourceOf_5 rfl (lv_at hl 0 rfl) ?_
    refine lv_ifnullN (tgt := 76) hx hb xd_Me_sourceOf_6 (by decide) ?_
    refine lv_null hx hb xd_Me_sourceOf_76 ?_
    exact W.aret (v := .null) hx hb hr (Or.inl ⟨_, rfl⟩) (Or.inl rfl) (fun t ht hW => ⟨⟨none, (), rfl, Or.inl ⟨rfl, by rw [hsr]; rfl⟩, by rw [ht]; exact hP, hD⟩, hS.F ht⟩) hS.2.2 xd_Me_sourceOf_77
  · have hl : lv_has ls 5 [(2, .ref (ad (20 + y) 0)), (0, .ref (ad (20 + n) (10 + 10 * k))), (1, .int pn)] := hl
    refine lv_aload_n hx hb xd_Me_sourceOf_5 rfl (lv_at hl 0 rfl) ?_
    refine lv_ifnull hx hb xd_Me_sourceOf_6 ?_
    refine lv_iconst (v := 0) hx hb xd_Me_sourceOf_9 (by decide) ?_
    refine lv_istore_n hx hb xd_Me_sourceOf_10 rfl hl (Nat.le_of_ble_eq_true rfl) rfl (fun ls hl => ?_)
    have hl : lv_has ls 5 [(3, .int 0), (2, .ref (ad (20 + y) 0)), (0, .ref (ad (20 + n) (10 + 10 * k))), (1, .int pn)] := hl
    obtain ⟨m0_52, m1_52, pv_52, op_52, mk_52, fm_52, hmk_52, hpv_52, q0_52, q1_52, hk_52⟩ := id (hLIs y (by omega))
    have c_53 : E (20 + y) 0 = .inr (5, [.int (nI y), pv_52, .ref (ad (20 + y) 1), .int op_52]) := q0_52
    have m_54 : (20 + y, 0) ∈ RL := m0_52
    have c_55 : E (20 + y) 1 = .inl (kA 6, mk_52, .inr (.inr (.inr (.inr fm_52)))) := q1_52
    have m_56 : (20 + y, 1) ∈ RL := m1_52
    obtain ⟨top_52, ⟨lq_52, hlq_52, h19_52, hpv2_52⟩, h20_52, tmd_52⟩ := TLa_get c_53 c_55 (hTL y (by omega))
    have c_57 : E (20 + y) 0 = .inr (5, [.int (nI y), (lyv ad lq_52), .ref (ad (20 + y) 1), .int op_52]) := by rw [← hpv2_52]; exact c_53
    have i20_52 : iN (g 20 y) = mk_52 := by rw [h20_52, iN_nI (by omega)]
    refine xlab (σ := Nat) (ml := 5) 11 (fun (k2 : Nat) => [(3, .int (nI k2)), (2, .ref (ad (20 + y) 0)), (0, .ref (ad (20 + n) (10 + 10 * k))), (1, .int pn)]) (fun (k2 : Nat) => []) (fun (k2 : Nat) => rp ad E RL) (fun (k2 : Nat) => (k2 ≤ mk_52) ∧ (∀ j8, j8 < k2 → ¬ SRT g (RWb E n k) pn (g 4 (mdv g n k)) y j8)) (fun (k2 : Nat) => mk_52 - k2) ?_ 0 _ _ _ (lv_sub hl [0, 1, 2, 3] rfl) hP hD hS ⟨(show 0 ≤ mk_52 from by first | assumption | omega), (show ∀ j8, j8 < 0 → ¬ SRT g (RWb E n k) pn (g 4 (mdv g n k)) y j8 from fun j hj => absurd hj (by omega))⟩
    intro n9 ih58 a9 ls H locs hμ hl hP hD hS hI
    subst hμ
    obtain ⟨k2, rfl⟩ : ∃ z, z = a9 := ⟨_, rfl⟩
    obtain ⟨hk2, hno⟩ := hI
    have hk2 : k2 ≤ mk_52 := hk2
    have hno : ∀ j8, j8 < k2 → ¬ SRT g (RWb E n k) pn (g 4 (mdv g n k)) y j8 := hno
    have hl : lv_has ls 5 [(3, .int (nI k2)), (2, .ref (ad (20 + y) 0)), (0, .ref (ad (20 + n) (10 + 10 * k))), (1, .int pn)] := hl
    have hP : va_P D xcl (rp ad E RL) H := hP
    have hD : va_D A (rp ad E RL) := hD
    refine lv_iload_n hx hb xd_Me_sourceOf_11 rfl (lv_at hl 0 rfl) ?_
    refine lv_aload_n hx hb xd_Me_sourceOf_12 rfl (lv_at hl 1 rfl) ?_
    refine px_get (D := D) (ci := 5) (v := .ref (ad (20 + y) 1)) (C := xR_Ly) (T := xT_Ly) (N := 4) hx hb hT xi_Ly hown hK.1 hP m_54 c_57 rfl 2 (by decide) (hT _ k5x_1) (fun _ h9 => h9) rfl xd_Me_sourceOf_13 ?_
    refine px_alen hx hb hK.1 hP m_56 c_55 6 rfl xd_Me_sourceOf_16 ?_
    refine W.eq (g2 := F0 m 17 ls [.int (nI mk_52), .int (nI k2)]) rfl ?_
    refine xn_ge (a := k2) (b := mk_52) (tgt := 68) hx hb xd_Me_sourceOf_17 (by decide) (by omega) (by omega) (fun hc59 => ?_) (fun hc59 => ?_)
    · refine lv_aload_n hx hb xd_Me_sourceOf_68 rfl (lv_at hl 1 rfl) ?_
      refine px_get (D := D) (ci := 5) (v := (lyv ad lq_52)) (C := xR_Ly) (T := xT_Ly) (N := 4) hx hb hT xi_Ly hown hK.1 hP m_54 c_57 rfl 1 (by decide) (hT _ k5x_2) (fun _ h9 => h9) rfl xd_Me_sourceOf_69 ?_
      rcases (show lq_52 = 0 ∨ ∃ yq, lq_52 = yq + 1 from by rcases Nat.eq_zero_or_pos lq_52 with q | q; exact Or.inl q; exact Or.inr ⟨lq_52 - 1, by omega⟩) with hyq | ⟨yq, hyq⟩
      · refine W.eq (g2 := F0 m 72 ls [.null]) (by rw [lyv_0 hyq]) ?_
        refine lv_astore_nN hx hb xd_Me_sourceOf_72 rfl hl (Nat.le_of_ble_eq_true rfl) rfl (fun ls hl => ?_)
        have hl : lv_has ls 5 [(2, .null), (3, .int (nI k2)), (0, .ref (ad (20 + n) (10 + 10 * k))), (1, .int pn)] := hl
        refine lv_goto (tgt := 5) hx hb xd_Me_sourceOf_73 (by decide) ?_
        exact ih51 0 _ _ _ (show 0 < y + 1 by omega) (lv_sub hl [0, 2, 3] rfl) hP hD hS ⟨(show 0 ≤ n + 1 from by first | assumption | omega), (show srG g (RWb E n k) pn (g 4 (mdv g n k)) (n + 1) = srG g (RWb E n k) pn (g 4 (mdv g n k)) 0 from hsr.trans ((srU_miss (fun x hx => prv_T hnL hTL x (by omega)) (fun j hj => hno j (by
        unfold mcv at hj
        rw [h20_52, iN_nI (by omega)] at hj
        omega))).trans (by rw [prv_of h19_52 (by omega), hyq]; rfl)))⟩
      · refine W.eq (g2 := F0 m 72 ls [.ref (ad (20 + yq) 0)]) (by rw [lyv_s hyq]) ?_
        refine lv_astore_n hx hb xd_Me_sourceOf_72 rfl hl (Nat.le_of_ble_eq_true rfl) rfl (fun ls hl => ?_)
        have hl : lv_has ls 5 [(2, .ref (ad (20 + yq) 0)), (3, .int (nI k2)), (0, .ref (ad (20 + n) (10 + 10 * k))), (1, .int pn)] := hl
        refine lv_goto (tgt := 5) hx hb xd_Me_sourceOf_73 (by decide) ?_
        exact ih51 (yq + 1) _ _ _ (show (yq + 1) < y + 1 by omega) (lv_sub hl [0, 2, 3] rfl) hP hD hS ⟨(show (yq + 1) ≤ n + 1 from by first | assumption | omega), (show srG g (RWb E n k) pn (g 4 (mdv g n k)) (n + 1) = srG g (RWb E n k) pn (g 4 (mdv g n k)) (yq + 1) from hsr.trans ((srU_miss (fun x hx => prv_T hnL hTL x (by omega)) (fun j hj => hno j (by
        unfold mcv at hj
        rw [h20_52, iN_nI (by omega)] at hj
        omega))).trans (by rw [prv_of h19_52 (by omega), hyq]; rfl)))⟩
    · refine lv_aload_n hx hb xd_Me_sourceOf_20 rfl (lv_at hl 1 rfl) ?_
      refine px_get (D := D) (ci := 5) (v := .ref (ad (20 + y) 1)) (C := xR_Ly) (T := xT_Ly) (N := 4) hx hb hT xi_Ly hown hK.1 hP m_54 c_57 rfl 2 (by decide) (hT _ k5x_1) (fun _ h9 => h9) rfl xd_Me_sourceOf_21 ?_
      refine lv_iload_n hx hb xd_Me_sourceOf_24 rfl (lv_at hl 0 rfl) ?_
      refine px_aald (i := k2) (x := (some (ad (20 + y) (10 + 10 * k2)))) hx hb hK.1 hP m_56 c_55 6 rfl ((hk_52 k2 (by omega)).1) (by omega) (by omega) xd_Me_sourceOf_25 ?_
      refine lv_astore hx hb xd_Me_sourceOf_26 hl (Nat.le_of_ble_eq_true rfl) rfl (fun ls hl => ?_)
      have hl : lv_has ls 5 [(4, .ref (ad (20 + y) (10 + 10 * k2))), (3, .int (nI k2)), (2, .ref (ad (20 + y) 0)), (0, .ref (ad (20 + n) (10 + 10 * k))), (1, .int pn)] := hl
      refine lv_aload_n hx hb xd_Me_sourceOf_28 rfl (lv_at hl 3 rfl) ?_
      refine px_get (D := D) (ci := 6) (v := .ref (ad (20 + n) (14 + 10 * k))) (C := xR_Me) (T := xT_Me) (N := 6) hx hb hT xi_Me hown hK.1 hP m_9 c_8 rfl 5 (by decide) (hT _ k5x_3) (fun _ h9 => h9) rfl xd_Me_sourceOf_29 ?_
      refine lv_aload hx hb xd_Me_sourceOf_32 (lv_at hl 0 rfl) ?_
      obtain ⟨hm_60, d_60, rs_60, fr_60, g2_60, g3_60, g4_60, hd_60, hrs_60, q0_60, q1_60, q2_60, q3_60, q4_60, q5_60, q6_60, q7_60⟩ := (hk_52 k2 (by omega)).2
      have c_61 : E (20 + y) (10 + 10 * k2) = .inr (6, [.ref (ad (20 + y) 0), .ref (ad (1 + d_60) 0), .ref (ad (20 + y) (11 + 10 * k2)), .ref (ad (20 + y) (12 + 10 * k2)), .ref (ad (20 + y) (13 + 10 * k2)), .ref (ad (20 + y) (14 + 10 * k2))]) := q0_60
      have m_62 : (20 + y, 10 + 10 * k2) ∈ RL := hm_60 0 (by omega)
      have c_63 : E (20 + y) (11 + 10 * k2) = .inl (kA 6, rs_60, .inr (.inr (.inr (.inr fr_60)))) := q1_60
      have m_64 : (20 + y, 11 + 10 * k2) ∈ RL := hm_60 1 (by omega)
      have c_65 : E (20 + y) (12 + 10 * k2) = .inr (10, [.ref (ad (20 + y) (15 + 10 * k2))]) := q2_60
      have m_66 : (20 + y, 12 + 10 * k2) ∈ RL := hm_60 2 (by omega)
      have c_67 : E (20 + y) (13 + 10 * k2) = .inr (10, [.ref (ad (20 + y) (16 + 10 * k2))]) := q3_60
      have m_68 : (20 + y, 13 + 10 * k2) ∈ RL := hm_60 3 (by omega)
      have c_69 : E (20 + y) (14 + 10 * k2) = .inr (10, [.ref (ad (20 + y) (17 + 10 * k2))]) := q4_60
      have m_70 : (20 + y, 14 + 10 * k2) ∈ RL := hm_60 4 (by omega)
      have c_71 : E (20 + y) (15 + 10 * k2) = .inl (kA 0, 6, .inl g2_60) := q5_60
      have m_72 : (20 + y, 15 + 10 * k2) ∈ RL := hm_60 5 (by omega)
      have c_73 : E (20 + y) (16 + 10 * k2) = .inl (kA 0, 6, .inl g3_60) := q6_60
      have m_74 : (20 + y, 16 + 10 * k2) ∈ RL := hm_60 6 (by omega)
      have c_75 : E (20 + y) (17 + 10 * k2) = .inl (kA 0, 6, .inl g4_60) := q7_60
      have m_76 : (20 + y, 17 + 10 * k2) ∈ RL := hm_60 7 (by omega)
      have hdm_60 : mdv g y k2 = d_60 := by
        obtain ⟨dz, hdz, h21z, hvz⟩ := tmd_52 k2 (by omega)
        rw [c_61] at hvz
        have ez := (rp_inj hD ((hDIs d_60 hd_60).1 0 (by omega)) ((hDIs dz hdz).1 0 (by omega)) (Value.ref.inj hvz)).1
        unfold mdv
        rw [h21z, iN_nI (by omega)]; omega
      obtain ⟨hm_77, fd_77, nm_77, sd_77, k0_77, k1_77, k2_77, k3_77, f0_77, f1_77, f2_77, f3_77, fe_77, fo_77, tr_77, op_77, hk0_77, hk1_77, hk2_77, hk3_77, q0_77, q1_77, q2_77, q3_77, q4_77, q5_77, q6_77, q7_77, q8_77, q9_77, q10_77, q11_77, q12_77, hg_77⟩ := id (hDIs d_60 (by omega))
      have c_78 : E (1 + d_60) 0 = .inr (7, [.int (nI d_60), .int fd_77, .int nm_77, .ref (ad (1 + d_60) 1), .ref (ad (1 + d_60) 9), .ref (ad (1 + d_60) 10), .ref (ad (1 + d_60) 2), .ref (ad (1 + d_60) 11), .ref (ad (1 + d_60) 12), .ref (ad (1 + d_60) 3), .ref (ad (1 + d_60) 4), .int sd_77]) := q0_77
      have m_79 : (1 + d_60, 0) ∈ RL := hm_77 0 (by omega)
      have c_80 : E (1 + d_60) 1 = .inr (8, [.ref (ad (1 + d_60) 5), .int (nI k0_77)]) := q1_77
      have m_81 : (1 + d_60, 1) ∈ RL := hm_77 1 (by omega)
      have c_82 : E (1 + d_60) 2 = .inr (8, [.ref (ad (1 + d_60) 6), .int (nI k1_77)]) := q2_77
      have m_83 : (1 + d_60, 2) ∈ RL := hm_77 2 (by omega)
      have c_84 : E (1 + d_60) 3 = .inr (8, [.ref (ad (1 + d_60) 7), .int (nI k2_77)]) := q3_77
      have m_85 : (1 + d_60, 3) ∈ RL := hm_77 3 (by omega)
      have c_86 : E (1 + d_60) 4 = .inr (8, [.ref (ad (1 + d_60) 8), .int (nI k3_77)]) := q4_77
      have m_87 : (1 + d_60, 4) ∈ RL := hm_77 4 (by omega)
      have c_88 : E (1 + d_60) 5 = .inl (kA 0, 6, .inl f0_77) := q5_77
      have m_89 : (1 + d_60, 5) ∈ RL := hm_77 5 (by omega)
      have c_90 : E (1 + d_60) 6 = .inl (kA 0, 5, .inl f1_77) := q6_77
      have m_91 : (1 + d_60, 6) ∈ RL := hm_77 6 (by omega)
      have c_92 : E (1 + d_60) 7 = .inl (kA 0, 3, .inl f2_77) := q7_77
      have m_93 : (1 + d_60, 7) ∈ RL := hm_77 7 (by omega)
      have c_94 : E (1 + d_60) 8 = .inl (kA 0, 3, .inl f3_77) := q8_77
      have m_95 : (1 + d_60, 8) ∈ RL := hm_77 8 (by omega)
      have c_96 : E (1 + d_60) 9 = .inl (kA 8, 6, .inr (.inr (.inr (.inr fe_77)))) := q9_77
      have m_97 : (1 + d_60, 9) ∈ RL := hm_77 9 (by omega)
      have c_98 : E (1 + d_60) 10 = .inl (kA 8, 6, .inr (.inr (.inr (.inr fo_77)))) := q10_77
      have m_99 : (1 + d_60, 10) ∈ RL := hm_77 10 (by omega)
      have c_100 : E (1 + d_60) 11 = .inl (kA 2, 5, .inl tr_77) := q11_77
      have m_101 : (1 + d_60, 11) ∈ RL := hm_77 11 (by omega)
      have c_102 : E (1 + d_60) 12 = .inl (kA 2, 5, .inl op_77) := q12_77
      have m_103 : (1 + d_60, 12) ∈ RL := hm_77 12 (by omega)
      have hg_77 : ∀ w9, w9 < k0_77 → fe_77 w9 = some (ad (1 + d_60) (20 + 3 * w9)) ∧ fo_77 w9 = some (ad (1 + d_60) (38 + 3 * w9)) ∧ GI kA (ad (1 + d_60)) (E (1 + d_60)) (fun o => (1 + d_60, o) ∈ RL) (20 + 3 * w9) (21 + 3 * w9) (22 + 3 * w9) ∧ GI kA (ad (1 + d_60)) (E (1 + d_60)) (fun o => (1 + d_60, o) ∈ RL) (38 + 3 * w9) (39 + 3 * w9) (40 + 3 * w9) := hg_77
      obtain ⟨hTT_77, tgr_77⟩ := TD_get hk0_77 hk1_77 hk2_77 hk3_77 c_78 c_80 c_82 c_84 c_86 c_88 c_90 c_92 c_94 c_100 c_102 (hTD d_60 (by omega))
      obtain ⟨tfd_77, tnm_77, tsd_77, tk0_77, tf0_77, tk1_77, tf1_77, tk2_77, tk3_77⟩ := id hTT_77
      have ik0_77 : iN (g 5 d_60) = k0_77 := by rw [← tk0_77, iN_nI (by omega)]
      have ik1_77 : iN (g 12 d_60) = k1_77 := by rw [← tk1_77, iN_nI (by omega)]
      have hFc := px_free hD hS hA
      refine va_calli (va_runV (As := [.ref (ad (20 + y) (10 + 10 * k2))]) (rest := []) ⟨hx, hb, hml, hown, hT⟩ (xc_Re_marks l D kA H.size ad E RL (20 + n) (14 + 10 * k) (17 + 10 * k) g4_7 y k2 d_60 (lyv ad lq_52) op_52 fd_77 nm_77 sd_77 m_17 c_16 m_23 c_22 m_62 c_61 m_54 c_57 m_79 c_78 (by first | assumption | omega)) (cwV 1 hT (wT_V k5x_5 k5x_6 k5x_7 k5x_8 k5x_4) rfl rfl rfl (by decide +kernel) ⟨Nat.le_of_ble_eq_true rfl, Nat.le_of_ble_eq_true rfl⟩) (px_preV hK hP hD m_17 c_16 rfl) rfl rfl hl.1 rfl (lv_room (Nat.le_of_ble_eq_true rfl)) xd_Me_sourceOf_34 ⟨(Nat.le_of_ble_eq_true rfl), (Nat.le_of_ble_eq_true rfl)⟩) hS (fun q _ h => hFc q h) hFc (fun r104 u105 t H1 locs ht hvm hp106 hB hz1 hk1 hS => ?_)
      obtain ⟨hP1, hD1⟩ := hB
      rw [ht] at hP1
      have hD1 := hD1.weaken (fun _ _ _ h => hFc _ h)
      generalize H1 = H at hP1 hS ⊢
      have hP := hP1
      have hD := hD1
      have hP : va_P D xcl (rp ad E RL) H := hP
      have hD : va_D A (rp ad E RL) := hD
      rcases hp106 with ⟨rfl, z107⟩ | ⟨rfl, z108⟩
      · refine W.eq (g2 := F0 m 37 ls [.int 1]) rfl ?_
        refine lv_if_eq (tgt := 62) hx hb xd_Me_sourceOf_37 (by decide) (fun hc109 => absurd hc109 (by decide)) (fun _ => ?_)
        refine lv_aload hx hb xd_Me_sourceOf_40 (lv_at hl 0 rfl) ?_
        refine px_get (D := D) (ci := 6) (v := .ref (ad (1 + d_60) 0)) (C := xR_Me) (T := xT_Me) (N := 6) hx hb hT xi_Me hown hK.1 hP m_62 c_61 rfl 1 (by decide) (hT _ k5x_9) (fun _ h9 => h9) rfl xd_Me_sourceOf_42 ?_
        refine lv_iload_n hx hb xd_Me_sourceOf_45 rfl (lv_at hl 4 rfl) ?_
        refine lv_aload_n hx hb xd_Me_sourceOf_46 rfl (lv_at hl 3 rfl) ?_
        refine px_get (D := D) (ci := 6) (v := .ref (ad (1 + d_7) 0)) (C := xR_Me) (T := xT_Me) (N := 6) hx hb hT xi_Me hown hK.1 hP m_9 c_8 rfl 1 (by decide) (hT _ k5x_9) (fun _ h9 => h9) rfl xd_Me_sourceOf_47 ?_
        refine px_get (D := D) (ci := 7) (v := .int nm_24) (C := xR_Ds) (T := xT_Ds) (N := 12) hx hb hT xi_Ds hown hK.1 hP m_26 c_25 rfl 2 (by decide) (hT _ k5x_10) (fun _ h9 => h9) rfl xd_Me_sourceOf_50 ?_
        have hFc := px_free hD hS hA
        refine va_calli (va_runV (As := [.int pn, .int nm_24]) (rest := []) ⟨hx, hb, hml, hown, hT⟩ (xc_Ds_exportsToX l D kA H.size ad E RL g nd d_60 pn nm_24 (by first | assumption | omega) (by first | assumption | omega) (by first | assumption | omega) hrd0) (cwV 2 hT (wT_V k5x_12 k5x_13 k5x_14 k5x_15 k5x_11) rfl rfl rfl (by decide +kernel) ⟨Nat.le_of_ble_eq_true rfl, Nat.le_of_ble_eq_true rfl⟩) (px_preV hK hP hD m_79 c_78 rfl) rfl rfl hl.1 rfl (lv_room (Nat.le_of_ble_eq_true rfl)) xd_Me_sourceOf_53 ⟨(Nat.le_of_ble_eq_true rfl), (Nat.le_of_ble_eq_true rfl)⟩) hS (fun q _ h => hFc q h) hFc (fun r110 u111 t H1 locs ht hvm hp112 hB hz1 hk1 hS => ?_)
        obtain ⟨hP1, hD1⟩ := hB
        rw [ht] at hP1
        have hD1 := hD1.weaken (fun _ _ _ h => hFc _ h)
        generalize H1 = H at hP1 hS ⊢
        have hP := hP1
        have hD := hD1
        have hP : va_P D xcl (rp ad E RL) H := hP
        have hD : va_D A (rp ad E RL) := hD
        rcases hp112 with ⟨rfl, z113⟩ | ⟨rfl, z114⟩
        · refine W.eq (g2 := F0 m 56 ls [.int 1]) rfl ?_
          refine lv_if_eq (tgt := 62) hx hb xd_Me_sourceOf_56 (by decide) (fun hc115 => absurd hc115 (by decide)) (fun _ => ?_)
          refine lv_aload hx hb xd_Me_sourceOf_59 (lv_at hl 0 rfl) ?_
          exact W.aret (v := .ref (ad (20 + y) (10 + 10 * k2))) hx hb hr (Or.inl ⟨_, rfl⟩) (Or.inr ⟨_, rfl⟩) (fun t ht hW => ⟨⟨(some (ad (20 + y) (10 + 10 * k2))), (), rfl, Or.inr ⟨y, k2, by omega, rfl, (hk_52 k2 (by omega)).2, hsr.trans (srU_hit (by unfold mcv; rw [h20_52, iN_nI (by omega)]; omega) ⟨((hrow (12 * y + mdv g y k2)).trans (by rw [hdm_60]; exact (BS_marks (f := g4_7) (n := y) (d := d_60) (by omega)).symm)).mpr z107, (by rw [hdm_60, hdm_7, ← tnm_24]; exact z113)⟩ hno)⟩, by rw [ht]; exact hP, hD⟩, hS.F ht⟩) hS.2.2 xd_Me_sourceOf_61
        · refine W.eq (g2 := F0 m 56 ls [.int 0]) rfl ?_
          refine lv_if_eq (tgt := 62) hx hb xd_Me_sourceOf_56 (by decide) (fun _ => ?_) (fun hc116 => absurd (by decide) hc116)
          refine lv_iinc (k := 1) (x := (nI k2)) (v := (nI (k2 + 1))) hx hb xd_Me_sourceOf_62 hl rfl (xb_inc k2 1) (Nat.le_of_ble_eq_true rfl) rfl (fun ls hl => ?_)
          have hl : lv_has ls 5 [(3, .int (nI (k2 + 1))), (4, .ref (ad (20 + y) (10 + 10 * k2))), (2, .ref (ad (20 + y) 0)), (0, .ref (ad (20 + n) (10 + 10 * k))), (1, .int pn)] := hl
          refine lv_goto (tgt := 11) hx hb xd_Me_sourceOf_65 (by decide) ?_
          exact ih58 (k2 + 1) _ _ _ (show mk_52 - (k2 + 1) < mk_52 - k2 by omega) (lv_sub hl [0, 2, 3, 4] rfl) hP hD hS ⟨(show (k2 + 1) ≤ mk_52 from by first | assumption | omega), (show ∀ j8, j8 < (k2 + 1) → ¬ SRT g (RWb E n k) pn (g 4 (mdv g n k)) y j8 from fun j hj => by
        rcases Nat.lt_or_ge j k2 with z | z
        · exact hno j z
        · rw [show j = k2 by omega]; exact fun q => z114 (by
            have q2 := q.2
            rw [hdm_60, hdm_7, ← tnm_24] at q2
            exact q2))⟩
      · refine W.eq (g2 := F0 m 37 ls [.int 0]) rfl ?_
        refine lv_if_eq (tgt := 62) hx hb xd_Me_sourceOf_37 (by decide) (fun _ => ?_) (fun hc117 => absurd (by decide) hc117)
        refine lv_iinc (k := 1) (x := (nI k2)) (v := (nI (k2 + 1))) hx hb xd_Me_sourceOf_62 hl rfl (xb_inc k2 1) (Nat.le_of_ble_eq_true rfl) rfl (fun ls hl => ?_)
        have hl : lv_has ls 5 [(3, .int (nI (k2 + 1))), (4, .ref (ad (20 + y) (10 + 10 * k2))), (2, .ref (ad (20 + y) 0)), (0, .ref (ad (20 + n) (10 + 10 * k))), (1, .int pn)] := hl
        refine lv_goto (tgt := 11) hx hb xd_Me_sourceOf_65 (by decide) ?_
        exact ih58 (k2 + 1) _ _ _ (show mk_52 - (k2 + 1) < mk_52 - k2 by omega) (lv_sub hl [0, 2, 3, 4] rfl) hP hD hS ⟨(show (k2 + 1) ≤ mk_52 from by first | assumption | omega), (show ∀ j8, j8 < (k2 + 1) → ¬ SRT g (RWb E n k) pn (g 4 (mdv g n k)) y j8 from fun j hj => by
        rcases Nat.lt_or_ge j k2 with z | z
        · exact hno j z
        · rw [show j = k2 by omega]; exact fun q => absurd z108 (((hrow (12 * y + mdv g y k2)).trans (by rw [hdm_60]; exact (BS_marks (f := g4_7) (n := y) (d := d_60) (by omega)).symm)).mp q.1))⟩
