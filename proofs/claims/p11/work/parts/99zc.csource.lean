theorem k5x_0 : (Cond.fieldLink "LayerDesk$Member" 24 "LayerDesk$Member" "home" "LLayerDesk$Layer;") ∈ wT := wT_t (List.mem_append_right _ (List.mem_append_right _ (List.mem_append_left _ (List.mem_of_getElem? (i := 179) rfl)))) rfl
theorem k5x_1 : (Cond.fieldLink "LayerDesk$Member" 75 "LayerDesk$Layer" "members" "[LLayerDesk$Member;") ∈ wT := wT_t (List.mem_append_right _ (List.mem_append_right _ (List.mem_append_left _ (List.mem_of_getElem? (i := 148) rfl)))) rfl
theorem k5x_2 : (Cond.fieldLink "LayerDesk$Member" 89 "LayerDesk$Layer" "parent" "LLayerDesk$Layer;") ∈ wT := wT_t (List.mem_append_right _ (List.mem_append_right _ (List.mem_append_left _ (List.mem_of_getElem? (i := 144) rfl)))) rfl
theorem k5x_3 : (Cond.fieldLink "LayerDesk$Member" 21 "LayerDesk$Member" "reading" "LLayerDesk$Reach;") ∈ wT := wT_t (List.mem_append_right _ (List.mem_append_right _ (List.mem_append_left _ (List.mem_of_getElem? (i := 191) rfl)))) rfl
theorem k5x_4 : (Cond.code xy_Re_marks xb_Re_marks 2 (some .boolean)) ∈ wT := wT_t (List.mem_append_left _ (List.mem_of_getElem? (i := 177) rfl)) rfl
theorem k5x_5 : (Cond.methodLink "LayerDesk$Member" 78 xy_Re_marks) ∈ wT := wT_t (List.mem_append_right _ (List.mem_append_right _ (List.mem_append_right _ (List.mem_append_left _ (List.mem_of_getElem? (i := 16) rfl))))) rfl
theorem k5x_6 : (Cond.instanceMethod xy_Re_marks) ∈ wT := wT_t (List.mem_append_left _ (List.mem_of_getElem? (i := 175) rfl)) rfl
theorem k5x_7 : (Cond.selects "LayerDesk$Reach" xy_Re_marks xy_Re_marks) ∈ wT := wT_t (List.mem_append_left _ (List.mem_of_getElem? (i := 176) rfl)) rfl
theorem k5x_8 : (Cond.initialized "LayerDesk$Reach") ∈ wT := wT_t (List.mem_append_left _ (List.mem_of_getElem? (i := 21) rfl)) rfl
theorem k5x_9 : (Cond.fieldLink "LayerDesk$Member" 28 "LayerDesk$Member" "descriptor" "LLayerDesk$Descriptor;") ∈ wT := wT_t (List.mem_append_right _ (List.mem_append_right _ (List.mem_append_left _ (List.mem_of_getElem? (i := 181) rfl)))) rfl
theorem k5x_10 : (Cond.fieldLink "LayerDesk$Member" 82 "LayerDesk$Descriptor" "name" "I") ∈ wT := wT_t (List.mem_append_right _ (List.mem_append_left _ (List.mem_of_getElem? (i := 57) rfl))) rfl
theorem k5x_11 : (Cond.code xy_Ds_exportsTo xb_Ds_exportsTo 4 (some .boolean)) ∈ wT := wT_t (List.mem_append_right _ (List.mem_append_right _ (List.mem_append_right _ (List.mem_append_left _ (List.mem_of_getElem? (i := 20) rfl))))) rfl
theorem k5x_12 : (Cond.methodLink "LayerDesk$Member" 85 xy_Ds_exportsTo) ∈ wT := wT_t (List.mem_append_right _ (List.mem_append_right _ (List.mem_append_right _ (List.mem_append_left _ (List.mem_of_getElem? (i := 17) rfl))))) rfl
theorem k5x_13 : (Cond.instanceMethod xy_Ds_exportsTo) ∈ wT := wT_t (List.mem_append_right _ (List.mem_append_right _ (List.mem_append_right _ (List.mem_append_left _ (List.mem_of_getElem? (i := 18) rfl))))) rfl
theorem k5x_14 : (Cond.selects "LayerDesk$Descriptor" xy_Ds_exportsTo xy_Ds_exportsTo) ∈ wT := wT_t (List.mem_append_right _ (List.mem_append_right _ (List.mem_append_right _ (List.mem_append_left _ (List.mem_of_getElem? (i := 19) rfl))))) rfl
theorem k5x_15 : (Cond.initialized "LayerDesk$Descriptor") ∈ wT := wT_t (List.mem_append_left _ (List.mem_of_getElem? (i := 10) rfl)) rfl
set_option maxHeartbeats 4000000 in
set_option maxRecDepth 100000 in
theorem xc_Me_sourceOfX (l : Launch) (D : va_G) (kA : Nat → ClassId) (sz : Nat) (ad : Nat → Nat → Nat) (E : Nat → Nat → va_E) (RL : List (Nat × Nat)) (g : Nat → Nat → Int32) (nd : Nat) (nL : Nat) (n : Nat) (k : Nat) (pn : Int32) (hDIs : DIs kA ad E RL nd) (hLIs : LIs kA ad E RL nd nL) (hnL : nL ≤ 6) (hn : n < nL) (hTD : TDs g E nd) (hTL : TLas g ad E nd nL) (hnd12 : nd ≤ 12) (hME : MEI kA ad E RL nd n k) (hkm : k < iN (g 20 n)) (hNZ : NZ g nd) : Met l xy_Me_sourceOf (.code xy_Me_sourceOf xb_Me_sourceOf 5 (some (.object "LayerDesk$Member")) :: wT) { frames := 3, cells := 0, slots := 0, locals := 66 } (va_Pc [.ref (ad (20 + n) (10 + 10 * k)), .int pn] (xPre D kA sz (rp ad E RL))) (va_Qq (fun (r : Option Nat) (u : Unit) => (r = none ∧ srG g (RWb E n k) pn (g 4 (mdv g n k)) (n + 1) = none) ∨ ∃ x kk, x ≤ n ∧ r = some (ad (20 + x) (10 + 10 * kk)) ∧ MEI kA ad E RL nd x kk ∧ srG g (RWb E n k) pn (g 4 (mdv g n k)) (n + 1) = some (x, kk)) (fun (u : Unit) t => va_P D xcl (rp ad E RL) t.heap ∧ va_D (va_A (rp ad E RL) sz) (rp ad E RL)) (va_A (rp ad E RL) sz)) 0 0 (va_A (rp ad E RL) sz) := by
  refine Met.ofW (cc := xb_Me_sourceOf) (maxL := 5) (ret := (some (.object "LayerDesk$Member"))) (by decide) rfl ?_
  intro p e s m args below meth c s₁ B hml hv
  obtain ⟨rfl, hsz, hP, hK, hD0⟩ := hv
  have hx := B.exec
  have hb := B.bytes
  have hr := B.returns
  have hT := x_hT B.pre
  have hown : s.vm.findClass xR_Me = some m.cls := findClass_of_methodNamed B.named
  have hlocks := B.notSynchronized
  subst hsz
  have hD := hD0.self (sz := s.heap.size)
  generalize hAe : va_A (rp ad E RL) s.heap.size = A at hD ⊢
  have hA : ∀ q : Nat, s.heap.size ≤ q → A q := fun q h => by rw [← hAe]; exact Or.inr h
  have hS : va_S A s.heap s.heap [] := va_S.rf
  have hl := lv_entry ([.ref (ad (20 + n) (10 + 10 * k)), .int pn]) (n := 5) (Nat.le_of_ble_eq_true rfl)
  rw [lg_entry_eq]
  generalize (lg_sl ([.ref (ad (20 + n) (10 + 10 * k)), .int pn]) ++ List.replicate (5 - (lg_sl ([.ref (ad (20 + n) (10 + 10 * k)), .int pn])).length) Slot.unset).toArray = ls at hl ⊢
  have hl : lv_has ls 5 [(0, .ref (ad (20 + n) (10 + 10 * k))), (1, .int pn)] := hl
  have hP : va_P D xcl (rp ad E RL) s.heap := hP
  obtain ⟨m0_1, m1_1, pv_1, op_1, mk_1, fm_1, hmk_1, hpv_1, q0_1, q1_1, hk_1⟩ := id (hLIs n (by omega))
  have c_2 : E (20 + n) 0 = .inr (5, [.int (nI n), pv_1, .ref (ad (20 + n) 1), .int op_1]) := q0_1
  have m_3 : (20 + n, 0) ∈ RL := m0_1
  have c_4 : E (20 + n) 1 = .inl (kA 6, mk_1, .inr (.inr (.inr (.inr fm_1)))) := q1_1
  have m_5 : (20 + n, 1) ∈ RL := m1_1
  obtain ⟨top_1, ⟨lq_1, hlq_1, h19_1, hpv2_1⟩, h20_1, tmd_1⟩ := TLa_get c_2 c_4 (hTL n (by omega))
  have c_6 : E (20 + n) 0 = .inr (5, [.int (nI n), (lyv ad lq_1), .ref (ad (20 + n) 1), .int op_1]) := by rw [← hpv2_1]; exact c_2
  have i20_1 : iN (g 20 n) = mk_1 := by rw [h20_1, iN_nI (by omega)]
  have hkq : k < mk_1 := by have q := hkm; rw [i20_1] at q; exact q
  obtain ⟨hm_7, d_7, rs_7, fr_7, g2_7, g3_7, g4_7, hd_7, hrs_7, q0_7, q1_7, q2_7, q3_7, q4_7, q5_7, q6_7, q7_7⟩ := id hME
  have c_8 : E (20 + n) (10 + 10 * k) = .inr (6, [.ref (ad (20 + n) 0), .ref (ad (1 + d_7) 0), .ref (ad (20 + n) (11 + 10 * k)), .ref (ad (20 + n) (12 + 10 * k)), .ref (ad (20 + n) (13 + 10 * k)), .ref (ad (20 + n) (14 + 10 * k))]) := q0_7
  have m_9 : (20 + n, 10 + 10 * k) ∈ RL := hm_7 0 (by decide)
  have c_10 : E (20 + n) (11 + 10 * k) = .inl (kA 6, rs_7, .inr (.inr (.inr (.inr fr_7)))) := q1_7
  have m_11 : (20 + n, 11 + 10 * k) ∈ RL := hm_7 1 (by decide)
  have c_12 : E (20 + n) (12 + 10 * k) = .inr (10, [.ref (ad (20 + n) (15 + 10 * k))]) := q2_7
  have m_13 : (20 + n, 12 + 10 * k) ∈ RL := hm_7 2 (by decide)
  have c_14 : E (20 + n) (13 + 10 * k) = .inr (10, [.ref (ad (20 + n) (16 + 10 * k))]) := q3_7
  have m_15 : (20 + n, 13 + 10 * k) ∈ RL := hm_7 3 (by decide)
  have c_16 : E (20 + n) (14 + 10 * k) = .inr (10, [.ref (ad (20 + n) (17 + 10 * k))]) := q4_7
  have m_17 : (20 + n, 14 + 10 * k) ∈ RL := hm_7 4 (by decide)
  have c_18 : E (20 + n) (15 + 10 * k) = .inl (kA 0, 6, .inl g2_7) := q5_7
  have m_19 : (20 + n, 15 + 10 * k) ∈ RL := hm_7 5 (by decide)
  have c_20 : E (20 + n) (16 + 10 * k) = .inl (kA 0, 6, .inl g3_7) := q6_7
  have m_21 : (20 + n, 16 + 10 * k) ∈ RL := hm_7 6 (by decide)
  have c_22 : E (20 + n) (17 + 10 * k) = .inl (kA 0, 6, .inl g4_7) := q7_7
  have m_23 : (20 + n, 17 + 10 * k) ∈ RL := hm_7 7 (by decide)
  have hdm_7 : mdv g n k = d_7 := by
    obtain ⟨dz, hdz, h21z, hvz⟩ := tmd_1 k (by omega)
    rw [c_8] at hvz
    have ez := (rp_inj hD ((hDIs d_7 hd_7).1 0 (by omega)) ((hDIs dz hdz).1 0 (by omega)) (Value.ref.inj hvz)).1
    unfold mdv
    rw [h21z, iN_nI (by omega)]; omega
  obtain ⟨hm_24, fd_24, nm_24, sd_24, k0_24, k1_24, k2_24, k3_24, f0_24, f1_24, f2_24, f3_24, fe_24, fo_24, tr_24, op_24, hk0_24, hk1_24, hk2_24, hk3_24, q0_24, q1_24, q2_24, q3_24, q4_24, q5_24, q6_24, q7_24, q8_24, q9_24, q10_24, q11_24, q12_24, hg_24⟩ := id (hDIs d_7 (by omega))
  have c_25 : E (1 + d_7) 0 = .inr (7, [.int (nI d_7), .int fd_24, .int nm_24, .ref (ad (1 + d_7) 1), .ref (ad (1 + d_7) 9), .ref (ad (1 + d_7) 10), .ref (ad (1 + d_7) 2), .ref (ad (1 + d_7) 11), .ref (ad (1 + d_7) 12), .ref (ad (1 + d_7) 3), .ref (ad (1 + d_7) 4), .int sd_24]) := q0_24
  have m_26 : (1 + d_7, 0) ∈ RL := hm_24 0 (by decide)
  have c_27 : E (1 + d_7) 1 = .inr (8, [.ref (ad (1 + d_7) 5), .int (nI k0_24)]) := q1_24
  have m_28 : (1 + d_7, 1) ∈ RL := hm_24 1 (by decide)
  have c_29 : E (1 + d_7) 2 = .inr (8, [.ref (ad (1 + d_7) 6), .int (nI k1_24)]) := q2_24
  have m_30 : (1 + d_7, 2) ∈ RL := hm_24 2 (by decide)
  have c_31 : E (1 + d_7) 3 = .inr (8, [.ref (ad (1 + d_7) 7), .int (nI k2_24)]) := q3_24
  have m_32 : (1 + d_7, 3) ∈ RL := hm_24 3 (by decide)
  have c_33 : E (1 + d_7) 4 = .inr (8, [.ref (ad (1 + d_7) 8), .int (nI k3_24)]) := q4_24
  have m_34 : (1 + d_7, 4) ∈ RL := hm_24 4 (by decide)
  have c_35 : E (1 + d_7) 5 = .inl (kA 0, 6, .inl f0_24) := q5_24
  have m_36 : (1 + d_7, 5) ∈ RL := hm_24 5 (by decide)
  have c_37 : E (1 + d_7) 6 = .inl (kA 0, 5, .inl f1_24) := q6_24
  have m_38 : (1 + d_7, 6) ∈ RL := hm_24 6 (by decide)
  have c_39 : E (1 + d_7) 7 = .inl (kA 0, 3, .inl f2_24) := q7_24
  have m_40 : (1 + d_7, 7) ∈ RL := hm_24 7 (by decide)
  have c_41 : E (1 + d_7) 8 = .inl (kA 0, 3, .inl f3_24) := q8_24
  have m_42 : (1 + d_7, 8) ∈ RL := hm_24 8 (by decide)
  have c_43 : E (1 + d_7) 9 = .inl (kA 8, 6, .inr (.inr (.inr (.inr fe_24)))) := q9_24
  have m_44 : (1 + d_7, 9) ∈ RL := hm_24 9 (by decide)
  have c_45 : E (1 + d_7) 10 = .inl (kA 8, 6, .inr (.inr (.inr (.inr fo_24)))) := q10_24
  have m_46 : (1 + d_7, 10) ∈ RL := hm_24 10 (by decide)
  have c_47 : E (1 + d_7) 11 = .inl (kA 2, 5, .inl tr_24) := q11_24
  have m_48 : (1 + d_7, 11) ∈ RL := hm_24 11 (by decide)
  have c_49 : E (1 + d_7) 12 = .inl (kA 2, 5, .inl op_24) := q12_24
  have m_50 : (1 + d_7, 12) ∈ RL := hm_24 12 (by decide)
  have hg_24 : ∀ w9, w9 < k0_24 → fe_24 w9 = some (ad (1 + d_7) (20 + 3 * w9)) ∧ fo_24 w9 = some (ad (1 + d_7) (38 + 3 * w9)) ∧ GI kA (ad (1 + d_7)) (E (1 + d_7)) (fun o => (1 + d_7, o) ∈ RL) (20 + 3 * w9) (21 + 3 * w9) (22 + 3 * w9) ∧ GI kA (ad (1 + d_7)) (E (1 + d_7)) (fun o => (1 + d_7, o) ∈ RL) (38 + 3 * w9) (39 + 3 * w9) (40 + 3 * w9) := hg_24
  obtain ⟨hTT_24, tgr_24⟩ := TD_get hk0_24 hk1_24 hk2_24 hk3_24 c_25 c_27 c_29 c_31 c_33 c_35 c_37 c_39 c_41 c_47 c_49 (hTD d_7 (by omega))
  obtain ⟨tfd_24, tnm_24, tsd_24, tk0_24, tf0_24, tk1_24, tf1_24, tk2_24, tk3_24⟩ := id hTT_24
  have ik0_24 : iN (g 5 d_7) = k0_24 := by rw [← tk0_24, iN_nI (by omega)]
  have ik1_24 : iN (g 12 d_7) = k1_24 := by rw [← tk1_24, iN_nI (by omega)]
  have hrow : ∀ t, RWb E n k t ↔ BS g4_7 t := fun t => by unfold RWb; rw [c_22]; rfl
  have hrd0 : ¬ nm_24 = 0 := by rw [tnm_24]; exact hNZ _ hd_7
  refine lv_aload_n hx hb xd_Me_sourceOf_0 rfl (lv_at hl 0 rfl) ?_
  refine px_get (D := D) (ci := 6) (v := .ref (ad (20 + n) 0)) (C := xR_Me) (T := xT_Me) (N := 6) hx hb hT xi_Me hown hK.1 hP m_9 c_8 rfl 0 (by decide) (hT _ k5x_0) (fun _ h9 => h9) rfl xd_Me_sourceOf_1 ?_
  refine lv_astore_n hx hb xd_Me_sourceOf_4 rfl hl (Nat.le_of_ble_eq_true rfl) rfl (fun ls hl => ?_)
  have hl : lv_has ls 5 [(2, .ref (ad (20 + n) 0)), (0, .ref (ad (20 + n) (10 + 10 * k))), (1, .int pn)] := hl
  refine xlab (σ := Nat) (ml := 5) 5 (fun (y : Nat) => [(2, (lyv ad y)), (0, .ref (ad (20 + n) (10 + 10 * k))), (1, .int pn)]) (fun (y : Nat) => []) (fun (y : Nat) => rp ad E RL) (fun (y : Nat) => (y ≤ n + 1) ∧ (srG g (RWb E n k) pn (g 4 (mdv g n k)) (n + 1) = srG g (RWb E n k) pn (g 4 (mdv g n k)) y)) (fun (y : Nat) => y) ?_ (n + 1) _ _ _ (lv_sub hl [0, 1, 2] rfl) hP hD hS ⟨(show (n + 1) ≤ n + 1 from by first | assumption | omega), (show srG g (RWb E n k) pn (g 4 (mdv g n k)) (n + 1) = srG g (RWb E n k) pn (g 4 (mdv g n k)) (n + 1) from rfl)⟩
  intro n9 ih51 a9 ls H locs hμ hl hP hD hS hI
  subst hμ
  obtain ⟨y, rfl⟩ : ∃ z, z = a9 := ⟨_, rfl⟩
  obtain ⟨hy, hsr⟩ := hI
  have hy : y ≤ n + 1 := hy
  have hsr : srG g (RWb E n k) pn (g 4 (mdv g n k)) (n + 1) = srG g (RWb E n k) pn (g 4 (mdv g n k)) y := hsr
  have hl : lv_has ls 5 [(2, (lyv ad y)), (0, .ref (ad (20 + n) (10 + 10 * k))), (1, .int pn)] := hl
  have hP : va_P D xcl (rp ad E RL) H := hP
  have hD : va_D A (rp ad E RL) := hD
  rcases y with _ | y
  · have hl : lv_has ls 5 [(2, .null), (0, .ref (ad (20 + n) (10 + 10 * k))), (1, .int pn)] := hl
    refine lv_aload_nN hx hb xd_Me_sourceOf_5 rfl (lv_at hl 0 rfl) ?_
    refine lv_ifnullN (tgt := 76) hx hb xd_Me_sourceOf_6 (by decide) ?_
    refine lv_null hx hb xd_Me_sourceOf_76 ?_
    exact W.aret (v := .null) hx hb hr (Or.inl ⟨_, rfl⟩) (Or.inl rfl) (fun t ht hW => ⟨⟨none, (), rfl, Or.inl ⟨rfl, by rw [hsr]; rfl⟩, by rw [ht]; exact hP, hD⟩, hS.F ht⟩) hS.2.2 xd_Me_sourceOf_77
  · have hl : lv_has ls 5 [(2, .ref (ad (20 + y) 0)), (0, .ref (ad (20 + n) (10 + 10 * k))), (1, .int pn)] := hl
    refine lv_aload_n hx hb xd_Me_sourceOf_5 rfl (lv_at hl 0 rfl) ?_
    refine lv_ifnull hx hb xd_Me_sourceOf_6 ?_
    refine lv_iconst (v := 0) hx hb xd_Me_sourceOf_9 (by decide) ?_
    refine lv_istore_n hx hb xd_Me_sourceOf_10 rfl hl (Nat.le_of_ble_eq_true rfl) rfl (fun ls hl => ?_)
    have hl : lv_has ls 5 [(3, .int 0), (2, .ref (ad (20 + y) 0)), (0, .ref (ad (20 + n) (10 + 10 * k))), (1, .int pn)] := hl
    obtain ⟨m0_52, m1_52, pv_52, op_52, mk_52, fm_52, hmk_52, hpv_52, q0_52, q1_52, hk_52⟩ := id (hLIs y (by omega))
    have c_53 : E (20 + y) 0 = .inr (5, [.int (nI y), pv_52, .ref (ad (20 + y) 1), .int op_52]) := q0_52
    have m_54 : (20 + y, 0) ∈ RL := m0_52
    have c_55 : E (20 + y) 1 = .inl (kA 6, mk_52, .inr (.inr (.inr (.inr fm_52)))) := q1_52
    have m_56 : (20 + y, 1) ∈ RL := m1_52
    obtain ⟨top_52, ⟨lq_52, hlq_52, h19_52, hpv2_52⟩, h20_52, tmd_52⟩ := TLa_get c_53 c_55 (hTL y (by omega))
    have c_57 : E (20 + y) 0 = .inr (5, [.int (nI y), (lyv ad lq_52), .ref (ad (20 + y) 1), .int op_52]) := by rw [← hpv2_52]; exact c_53
    have i20_52 : iN (g 20 y) = mk_52 := by rw [h20_52, iN_nI (by omega)]
    refine xlab (σ := Nat) (ml := 5) 11 (fun (k2 : Nat) => [(3, .int (nI k2)), (2, .ref (ad (20 + y) 0)), (0, .ref (ad (20 + n) (10 + 10 * k))), (1, .int pn)]) (fun (k2 : Nat) => []) (fun (k2 : Nat) => rp ad E RL) (fun (k2 : Nat) => (k2 ≤ mk_52) ∧ (∀ j8, j8 < k2 → ¬ SRT g (RWb E n k) pn (g 4 (mdv g n k)) y j8)) (fun (k2 : Nat) => mk_52 - k2) ?_ 0 _ _ _ (lv_sub hl [0, 1, 2, 3] rfl) hP hD hS ⟨(show 0 ≤ mk_52 from by first | assumption | omega), (show ∀ j8, j8 < 0 → ¬ SRT g (RWb E n k) pn (g 4 (mdv g n k)) y j8 from fun j hj => absurd hj (by omega))⟩
    intro n9 ih58 a9 ls H locs hμ hl hP hD hS hI
    subst hμ
    obtain ⟨k2, rfl⟩ : ∃ z, z = a9 := ⟨_, rfl⟩
    obtain ⟨hk2, hno⟩ := hI
    have hk2 : k2 ≤ mk_52 := hk2
    have hno : ∀ j8, j8 < k2 → ¬ SRT g (RWb E n k) pn (g 4 (mdv g n k)) y j8 := hno
    have hl : lv_has ls 5 [(3, .int (nI k2)), (2, .ref (ad (20 + y) 0)), (0, .ref (ad (20 + n) (10 + 10 * k))), (1, .int pn)] := hl
    have hP : va_P D xcl (rp ad E RL) H := hP
    have hD : va_D A (rp ad E RL) := hD
    refine lv_iload_n hx hb xd_Me_sourceOf_11 rfl (lv_at hl 0 rfl) ?_
    refine lv_aload_n hx hb xd_Me_sourceOf_12 rfl (lv_at hl 1 rfl) ?_
    refine px_get (D := D) (ci := 5) (v := .ref (ad (20 + y) 1)) (C := xR_Ly) (T := xT_Ly) (N := 4) hx hb hT xi_Ly hown hK.1 hP m_54 c_57 rfl 2 (by decide) (hT _ k5x_1) (fun _ h9 => h9) rfl xd_Me_sourceOf_13 ?_
    refine px_alen hx hb hK.1 hP m_56 c_55 6 rfl xd_Me_sourceOf_16 ?_
    refine W.eq (g2 := F0 m 17 ls [.int (nI mk_52), .int (nI k2)]) rfl ?_
    refine xn_ge (a := k2) (b := mk_52) (tgt := 68) hx hb xd_Me_sourceOf_17 (by decide) (by omega) (by omega) (fun hc59 => ?_) (fun hc59 => ?_)
    · refine lv_aload_n hx hb xd_Me_sourceOf_68 rfl (lv_at hl 1 rfl) ?_
      refine px_get (D := D) (ci := 5) (v := (lyv ad lq_52)) (C := xR_Ly) (T := xT_Ly) (N := 4) hx hb hT xi_Ly hown hK.1 hP m_54 c_57 rfl 1 (by decide) (hT _ k5x_2) (fun _ h9 => h9) rfl xd_Me_sourceOf_69 ?_
      rcases (show lq_52 = 0 ∨ ∃ yq, lq_52 = yq + 1 from by rcases Nat.eq_zero_or_pos lq_52 with q | q; exact Or.inl q; exact Or.inr ⟨lq_52 - 1, by omega⟩) with hyq | ⟨yq, hyq⟩
      · refine W.eq (g2 := F0 m 72 ls [.null]) (by rw [lyv_0 hyq]) ?_
        refine lv_astore_nN hx hb xd_Me_sourceOf_72 rfl hl (Nat.le_of_ble_eq_true rfl) rfl (fun ls hl => ?_)
        have hl : lv_has ls 5 [(2, .null), (3, .int (nI k2)), (0, .ref (ad (20 + n) (10 + 10 * k))), (1, .int pn)] := hl
        refine lv_goto (tgt := 5) hx hb xd_Me_sourceOf_73 (by decide) ?_
        exact ih51 0 _ _ _ (show 0 < y + 1 by omega) (lv_sub hl [0, 2, 3] rfl) hP hD hS ⟨(show 0 ≤ n + 1 from by first | assumption | omega), (show srG g (RWb E n k) pn (g 4 (mdv g n k)) (n + 1) = srG g (RWb E n k) pn (g 4 (mdv g n k)) 0 from hsr.trans ((srU_miss (fun x hx => prv_T hnL hTL x (by omega)) (fun j hj => hno j (by
        unfold mcv at hj
        rw [h20_52, iN_nI (by omega)] at hj
        omega))).trans (by rw [prv_of h19_52 (by omega), hyq]; rfl)))⟩
      · refine W.eq (g2 := F0 m 72 ls [.ref (ad (20 + yq) 0)]) (by rw [lyv_s hyq]) ?_
        refine lv_astore_n hx hb xd_Me_sourceOf_72 rfl hl (Nat.le_of_ble_eq_true rfl) rfl (fun ls hl => ?_)
        have hl : lv_has ls 5 [(2, .ref (ad (20 + yq) 0)), (3, .int (nI k2)), (0, .ref (ad (20 + n) (10 + 10 * k))), (1, .int pn)] := hl
        refine lv_goto (tgt := 5) hx hb xd_Me_sourceOf_73 (by decide) ?_
        exact ih51 (yq + 1) _ _ _ (show (yq + 1) < y + 1 by omega) (lv_sub hl [0, 2, 3] rfl) hP hD hS ⟨(show (yq + 1) ≤ n + 1 from by first | assumption | omega), (show srG g (RWb E n k) pn (g 4 (mdv g n k)) (n + 1) = srG g (RWb E n k) pn (g 4 (mdv g n k)) (yq + 1) from hsr.trans ((srU_miss (fun x hx => prv_T hnL hTL x (by omega)) (fun j hj => hno j (by
        unfold mcv at hj
        rw [h20_52, iN_nI (by omega)] at hj
        omega))).trans (by rw [prv_of h19_52 (by omega), hyq]; rfl)))⟩
    · refine lv_aload_n hx hb xd_Me_sourceOf_20 rfl (lv_at hl 1 rfl) ?_
      refine px_get (D := D) (ci := 5) (v := .ref (ad (20 + y) 1)) (C := xR_Ly) (T := xT_Ly) (N := 4) hx hb hT xi_Ly hown hK.1 hP m_54 c_57 rfl 2 (by decide) (hT _ k5x_1) (fun _ h9 => h9) rfl xd_Me_sourceOf_21 ?_
      refine lv_iload_n hx hb xd_Me_sourceOf_24 rfl (lv_at hl 0 rfl) ?_
      refine px_aald (i := k2) (x := (some (ad (20 + y) (10 + 10 * k2)))) hx hb hK.1 hP m_56 c_55 6 rfl ((hk_52 k2 (by omega)).1) (by omega) (by omega) xd_Me_sourceOf_25 ?_
      refine lv_astore hx hb xd_Me_sourceOf_26 hl (Nat.le_of_ble_eq_true rfl) rfl (fun ls hl => ?_)
      have hl : lv_has ls 5 [(4, .ref (ad (20 + y) (10 + 10 * k2))), (3, .int (nI k2)), (2, .ref (ad (20 + y) 0)), (0, .ref (ad (20 + n) (10 + 10 * k))), (1, .int pn)] := hl
      refine lv_aload_n hx hb xd_Me_sourceOf_28 rfl (lv_at hl 3 rfl) ?_
      refine px_get (D := D) (ci := 6) (v := .ref (ad (20 + n) (14 + 10 * k))) (C := xR_Me) (T := xT_Me) (N := 6) hx hb hT xi_Me hown hK.1 hP m_9 c_8 rfl 5 (by decide) (hT _ k5x_3) (fun _ h9 => h9) rfl xd_Me_sourceOf_29 ?_
      refine lv_aload hx hb xd_Me_sourceOf_32 (lv_at hl 0 rfl) ?_
      obtain ⟨hm_60, d_60, rs_60, fr_60, g2_60, g3_60, g4_60, hd_60, hrs_60, q0_60, q1_60, q2_60, q3_60, q4_60, q5_60, q6_60, q7_60⟩ := (hk_52 k2 (by omega)).2
      have c_61 : E (20 + y) (10 + 10 * k2) = .inr (6, [.ref (ad (20 + y) 0), .ref (ad (1 + d_60) 0), .ref (ad (20 + y) (11 + 10 * k2)), .ref (ad (20 + y) (12 + 10 * k2)), .ref (ad (20 + y) (13 + 10 * k2)), .ref (ad (20 + y) (14 + 10 * k2))]) := q0_60
      have m_62 : (20 + y, 10 + 10 * k2) ∈ RL := hm_60 0 (by decide)
      have c_63 : E (20 + y) (11 + 10 * k2) = .inl (kA 6, rs_60, .inr (.inr (.inr (.inr fr_60)))) := q1_60
      have m_64 : (20 + y, 11 + 10 * k2) ∈ RL := hm_60 1 (by decide)
      have c_65 : E (20 + y) (12 + 10 * k2) = .inr (10, [.ref (ad (20 + y) (15 + 10 * k2))]) := q2_60
      have m_66 : (20 + y, 12 + 10 * k2) ∈ RL := hm_60 2 (by decide)
      have c_67 : E (20 + y) (13 + 10 * k2) = .inr (10, [.ref (ad (20 + y) (16 + 10 * k2))]) := q3_60
      have m_68 : (20 + y, 13 + 10 * k2) ∈ RL := hm_60 3 (by decide)
      have c_69 : E (20 + y) (14 + 10 * k2) = .inr (10, [.ref (ad (20 + y) (17 + 10 * k2))]) := q4_60
      have m_70 : (20 + y, 14 + 10 * k2) ∈ RL := hm_60 4 (by decide)
      have c_71 : E (20 + y) (15 + 10 * k2) = .inl (kA 0, 6, .inl g2_60) := q5_60
      have m_72 : (20 + y, 15 + 10 * k2) ∈ RL := hm_60 5 (by decide)
      have c_73 : E (20 + y) (16 + 10 * k2) = .inl (kA 0, 6, .inl g3_60) := q6_60
      have m_74 : (20 + y, 16 + 10 * k2) ∈ RL := hm_60 6 (by decide)
      have c_75 : E (20 + y) (17 + 10 * k2) = .inl (kA 0, 6, .inl g4_60) := q7_60
      have m_76 : (20 + y, 17 + 10 * k2) ∈ RL := hm_60 7 (by decide)
      have hdm_60 : mdv g y k2 = d_60 := by
        obtain ⟨dz, hdz, h21z, hvz⟩ := tmd_52 k2 (by omega)
        rw [c_61] at hvz
        have ez := (rp_inj hD ((hDIs d_60 hd_60).1 0 (by omega)) ((hDIs dz hdz).1 0 (by omega)) (Value.ref.inj hvz)).1
        unfold mdv
        rw [h21z, iN_nI (by omega)]; omega
      obtain ⟨hm_77, fd_77, nm_77, sd_77, k0_77, k1_77, k2_77, k3_77, f0_77, f1_77, f2_77, f3_77, fe_77, fo_77, tr_77, op_77, hk0_77, hk1_77, hk2_77, hk3_77, q0_77, q1_77, q2_77, q3_77, q4_77, q5_77, q6_77, q7_77, q8_77, q9_77, q10_77, q11_77, q12_77, hg_77⟩ := id (hDIs d_60 (by omega))
      have c_78 : E (1 + d_60) 0 = .inr (7, [.int (nI d_60), .int fd_77, .int nm_77, .ref (ad (1 + d_60) 1), .ref (ad (1 + d_60) 9), .ref (ad (1 + d_60) 10), .ref (ad (1 + d_60) 2), .ref (ad (1 + d_60) 11), .ref (ad (1 + d_60) 12), .ref (ad (1 + d_60) 3), .ref (ad (1 + d_60) 4), .int sd_77]) := q0_77
      have m_79 : (1 + d_60, 0) ∈ RL := hm_77 0 (by decide)
      have c_80 : E (1 + d_60) 1 = .inr (8, [.ref (ad (1 + d_60) 5), .int (nI k0_77)]) := q1_77
      have m_81 : (1 + d_60, 1) ∈ RL := hm_77 1 (by decide)
      have c_82 : E (1 + d_60) 2 = .inr (8, [.ref (ad (1 + d_60) 6), .int (nI k1_77)]) := q2_77
      have m_83 : (1 + d_60, 2) ∈ RL := hm_77 2 (by decide)
      have c_84 : E (1 + d_60) 3 = .inr (8, [.ref (ad (1 + d_60) 7), .int (nI k2_77)]) := q3_77
      have m_85 : (1 + d_60, 3) ∈ RL := hm_77 3 (by decide)
      have c_86 : E (1 + d_60) 4 = .inr (8, [.ref (ad (1 + d_60) 8), .int (nI k3_77)]) := q4_77
      have m_87 : (1 + d_60, 4) ∈ RL := hm_77 4 (by decide)
      have c_88 : E (1 + d_60) 5 = .inl (kA 0, 6, .inl f0_77) := q5_77
      have m_89 : (1 + d_60, 5) ∈ RL := hm_77 5 (by decide)
      have c_90 : E (1 + d_60) 6 = .inl (kA 0, 5, .inl f1_77) := q6_77
      have m_91 : (1 + d_60, 6) ∈ RL := hm_77 6 (by decide)
      have c_92 : E (1 + d_60) 7 = .inl (kA 0, 3, .inl f2_77) := q7_77
      have m_93 : (1 + d_60, 7) ∈ RL := hm_77 7 (by decide)
      have c_94 : E (1 + d_60) 8 = .inl (kA 0, 3, .inl f3_77) := q8_77
      have m_95 : (1 + d_60, 8) ∈ RL := hm_77 8 (by decide)
      have c_96 : E (1 + d_60) 9 = .inl (kA 8, 6, .inr (.inr (.inr (.inr fe_77)))) := q9_77
      have m_97 : (1 + d_60, 9) ∈ RL := hm_77 9 (by decide)
      have c_98 : E (1 + d_60) 10 = .inl (kA 8, 6, .inr (.inr (.inr (.inr fo_77)))) := q10_77
      have m_99 : (1 + d_60, 10) ∈ RL := hm_77 10 (by decide)
      have c_100 : E (1 + d_60) 11 = .inl (kA 2, 5, .inl tr_77) := q11_77
      have m_101 : (1 + d_60, 11) ∈ RL := hm_77 11 (by decide)
      have c_102 : E (1 + d_60) 12 = .inl (kA 2, 5, .inl op_77) := q12_77
      have m_103 : (1 + d_60, 12) ∈ RL := hm_77 12 (by decide)
      have hg_77 : ∀ w9, w9 < k0_77 → fe_77 w9 = some (ad (1 + d_60) (20 + 3 * w9)) ∧ fo_77 w9 = some (ad (1 + d_60) (38 + 3 * w9)) ∧ GI kA (ad (1 + d_60)) (E (1 + d_60)) (fun o => (1 + d_60, o) ∈ RL) (20 + 3 * w9) (21 + 3 * w9) (22 + 3 * w9) ∧ GI kA (ad (1 + d_60)) (E (1 + d_60)) (fun o => (1 + d_60, o) ∈ RL) (38 + 3 * w9) (39 + 3 * w9) (40 + 3 * w9) := hg_77
      obtain ⟨hTT_77, tgr_77⟩ := TD_get hk0_77 hk1_77 hk2_77 hk3_77 c_78 c_80 c_82 c_84 c_86 c_88 c_90 c_92 c_94 c_100 c_102 (hTD d_60 (by omega))
      obtain ⟨tfd_77, tnm_77, tsd_77, tk0_77, tf0_77, tk1_77, tf1_77, tk2_77, tk3_77⟩ := id hTT_77
      have ik0_77 : iN (g 5 d_60) = k0_77 := by rw [← tk0_77, iN_nI (by omega)]
      have ik1_77 : iN (g 12 d_60) = k1_77 := by rw [← tk1_77, iN_nI (by omega)]
      have hFc := px_free hD hS hA
      refine va_calli (va_runV (As := [.ref (ad (20 + y) (10 + 10 * k2))]) (rest := []) ⟨hx, hb, hml, hown, hT⟩ (xc_Re_marks l D kA H.size ad E RL (20 + n) (14 + 10 * k) (17 + 10 * k) g4_7 y k2 d_60 (lyv ad lq_52) op_52 fd_77 nm_77 sd_77 m_17 c_16 m_23 c_22 m_62 c_61 m_54 c_57 m_79 c_78 (by first | assumption | omega)) (cwV 1 hT (wT_V k5x_5 k5x_6 k5x_7 k5x_8 k5x_4) rfl rfl rfl (by decide +kernel) ⟨Nat.le_of_ble_eq_true rfl, Nat.le_of_ble_eq_true rfl⟩) (px_preV hK hP hD m_17 c_16 rfl) rfl rfl hl.1 rfl (lv_room (Nat.le_of_ble_eq_true rfl)) xd_Me_sourceOf_34 ⟨(Nat.le_of_ble_eq_true rfl), (Nat.le_of_ble_eq_true rfl)⟩) hS (fun q _ h => hFc q h) hFc (fun r104 u105 t H1 locs ht hvm hp106 hB hz1 hk1 hS => ?_)
      obtain ⟨hP1, hD1⟩ := hB
      rw [ht] at hP1
      have hD1 := hD1.weaken (fun _ _ _ h => hFc _ h)
      generalize H1 = H at hP1 hS ⊢
      have hP := hP1
      have hD := hD1
      have hP : va_P D xcl (rp ad E RL) H := hP
      have hD : va_D A (rp ad E RL) := hD
      rcases hp106 with ⟨rfl, z107⟩ | ⟨rfl, z108⟩
      · refine W.eq (g2 := F0 m 37 ls [.int 1]) rfl ?_
        refine lv_if_eq (tgt := 62) hx hb xd_Me_sourceOf_37 (by decide) (fun hc109 => absurd hc109 (by decide)) (fun _ => ?_)
        refine lv_aload hx hb xd_Me_sourceOf_40 (lv_at hl 0 rfl) ?_
        refine px_get (D := D) (ci := 6) (v := .ref (ad (1 + d_60) 0)) (C := xR_Me) (T := xT_Me) (N := 6) hx hb hT xi_Me hown hK.1 hP m_62 c_61 rfl 1 (by decide) (hT _ k5x_9) (fun _ h9 => h9) rfl xd_Me_sourceOf_42 ?_
        refine lv_iload_n hx hb xd_Me_sourceOf_45 rfl (lv_at hl 4 rfl) ?_
        refine lv_aload_n hx hb xd_Me_sourceOf_46 rfl (lv_at hl 3 rfl) ?_
        refine px_get (D := D) (ci := 6) (v := .ref (ad (1 + d_7) 0)) (C := xR_Me) (T := xT_Me) (N := 6) hx hb hT xi_Me hown hK.1 hP m_9 c_8 rfl 1 (by decide) (hT _ k5x_9) (fun _ h9 => h9) rfl xd_Me_sourceOf_47 ?_
        refine px_get (D := D) (ci := 7) (v := .int nm_24) (C := xR_Ds) (T := xT_Ds) (N := 12) hx hb hT xi_Ds hown hK.1 hP m_26 c_25 rfl 2 (by decide) (hT _ k5x_10) (fun _ h9 => h9) rfl xd_Me_sourceOf_50 ?_
        have hFc := px_free hD hS hA
        refine va_calli (va_runV (As := [.int pn, .int nm_24]) (rest := []) ⟨hx, hb, hml, hown, hT⟩ (xc_Ds_exportsToX l D kA H.size ad E RL g nd d_60 pn nm_24 (by first | assumption | omega) (by first | assumption | omega) (by first | assumption | omega) hrd0) (cwV 2 hT (wT_V k5x_12 k5x_13 k5x_14 k5x_15 k5x_11) rfl rfl rfl (by decide +kernel) ⟨Nat.le_of_ble_eq_true rfl, Nat.le_of_ble_eq_true rfl⟩) (px_preV hK hP hD m_79 c_78 rfl) rfl rfl hl.1 rfl (lv_room (Nat.le_of_ble_eq_true rfl)) xd_Me_sourceOf_53 ⟨(Nat.le_of_ble_eq_true rfl), (Nat.le_of_ble_eq_true rfl)⟩) hS (fun q _ h => hFc q h) hFc (fun r110 u111 t H1 locs ht hvm hp112 hB hz1 hk1 hS => ?_)
        obtain ⟨hP1, hD1⟩ := hB
        rw [ht] at hP1
        have hD1 := hD1.weaken (fun _ _ _ h => hFc _ h)
        generalize H1 = H at hP1 hS ⊢
        have hP := hP1
        have hD := hD1
        have hP : va_P D xcl (rp ad E RL) H := hP
        have hD : va_D A (rp ad E RL) := hD
        rcases hp112 with ⟨rfl, z113⟩ | ⟨rfl, z114⟩
        · refine W.eq (g2 := F0 m 56 ls [.int 1]) rfl ?_
          refine lv_if_eq (tgt := 62) hx hb xd_Me_sourceOf_56 (by decide) (fun hc115 => absurd hc115 (by decide)) (fun _ => ?_)
          refine lv_aload hx hb xd_Me_sourceOf_59 (lv_at hl 0 rfl) ?_
          exact W.aret (v := .ref (ad (20 + y) (10 + 10 * k2))) hx hb hr (Or.inl ⟨_, rfl⟩) (Or.inr ⟨_, rfl⟩) (fun t ht hW => ⟨⟨(some (ad (20 + y) (10 + 10 * k2))), (), rfl, Or.inr ⟨y, k2, by omega, rfl, (hk_52 k2 (by omega)).2, hsr.trans (srU_hit (by unfold mcv; rw [h20_52, iN_nI (by omega)]; omega) ⟨((hrow (12 * y + mdv g y k2)).trans (by rw [hdm_60]; exact (BS_marks (f := g4_7) (n := y) (d := d_60) (by omega)).symm)).mpr z107, (by rw [hdm_60, hdm_7, ← tnm_24]; exact z113)⟩ hno)⟩, by rw [ht]; exact hP, hD⟩, hS.F ht⟩) hS.2.2 xd_Me_sourceOf_61
        · refine W.eq (g2 := F0 m 56 ls [.int 0]) rfl ?_
          refine lv_if_eq (tgt := 62) hx hb xd_Me_sourceOf_56 (by decide) (fun _ => ?_) (fun hc116 => absurd (by decide) hc116)
          refine lv_iinc (k := 1) (x := (nI k2)) (v := (nI (k2 + 1))) hx hb xd_Me_sourceOf_62 hl rfl (xb_inc k2 1) (Nat.le_of_ble_eq_true rfl) rfl (fun ls hl => ?_)
          have hl : lv_has ls 5 [(3, .int (nI (k2 + 1))), (4, .ref (ad (20 + y) (10 + 10 * k2))), (2, .ref (ad (20 + y) 0)), (0, .ref (ad (20 + n) (10 + 10 * k))), (1, .int pn)] := hl
          refine lv_goto (tgt := 11) hx hb xd_Me_sourceOf_65 (by decide) ?_
          exact ih58 (k2 + 1) _ _ _ (show mk_52 - (k2 + 1) < mk_52 - k2 by omega) (lv_sub hl [0, 2, 3, 4] rfl) hP hD hS ⟨(show (k2 + 1) ≤ mk_52 from by first | assumption | omega), (show ∀ j8, j8 < (k2 + 1) → ¬ SRT g (RWb E n k) pn (g 4 (mdv g n k)) y j8 from fun j hj => by
        rcases Nat.lt_or_ge j k2 with z | z
        · exact hno j z
        · rw [show j = k2 by omega]; exact fun q => z114 (by
            have q2 := q.2
            rw [hdm_60, hdm_7, ← tnm_24] at q2
            exact q2))⟩
      · refine W.eq (g2 := F0 m 37 ls [.int 0]) rfl ?_
        refine lv_if_eq (tgt := 62) hx hb xd_Me_sourceOf_37 (by decide) (fun _ => ?_) (fun hc117 => absurd (by decide) hc117)
        refine lv_iinc (k := 1) (x := (nI k2)) (v := (nI (k2 + 1))) hx hb xd_Me_sourceOf_62 hl rfl (xb_inc k2 1) (Nat.le_of_ble_eq_true rfl) rfl (fun ls hl => ?_)
        have hl : lv_has ls 5 [(3, .int (nI (k2 + 1))), (4, .ref (ad (20 + y) (10 + 10 * k2))), (2, .ref (ad (20 + y) 0)), (0, .ref (ad (20 + n) (10 + 10 * k))), (1, .int pn)] := hl
        refine lv_goto (tgt := 11) hx hb xd_Me_sourceOf_65 (by decide) ?_
        exact ih58 (k2 + 1) _ _ _ (show mk_52 - (k2 + 1) < mk_52 - k2 by omega) (lv_sub hl [0, 2, 3, 4] rfl) hP hD hS ⟨(show (k2 + 1) ≤ mk_52 from by first | assumption | omega), (show ∀ j8, j8 < (k2 + 1) → ¬ SRT g (RWb E n k) pn (g 4 (mdv g n k)) y j8 from fun j hj => by
        rcases Nat.lt_or_ge j k2 with z | z
        · exact hno j z
        · rw [show j = k2 by omega]; exact fun q => absurd z108 (((hrow (12 * y + mdv g y k2)).trans (by rw [hdm_60]; exact (BS_marks (f := g4_7) (n := y) (d := d_60) (by omega)).symm)).mp q.1))⟩
theorem k5y_0 : (Cond.fieldLink "LayerDesk$Member" 21 "LayerDesk$Member" "reading" "LLayerDesk$Reach;") ∈ wT := wT_t (List.mem_append_right _ (List.mem_append_right _ (List.mem_append_left _ (List.mem_of_getElem? (i := 191) rfl)))) rfl
theorem k5y_1 : (Cond.code xy_Re_marks xb_Re_marks 2 (some .boolean)) ∈ wT := wT_t (List.mem_append_left _ (List.mem_of_getElem? (i := 177) rfl)) rfl
theorem k5y_2 : (Cond.methodLink "LayerDesk$Member" 78 xy_Re_marks) ∈ wT := wT_t (List.mem_append_right _ (List.mem_append_right _ (List.mem_append_right _ (List.mem_append_left _ (List.mem_of_getElem? (i := 16) rfl))))) rfl
theorem k5y_3 : (Cond.instanceMethod xy_Re_marks) ∈ wT := wT_t (List.mem_append_left _ (List.mem_of_getElem? (i := 175) rfl)) rfl
theorem k5y_4 : (Cond.selects "LayerDesk$Reach" xy_Re_marks xy_Re_marks) ∈ wT := wT_t (List.mem_append_left _ (List.mem_of_getElem? (i := 176) rfl)) rfl
theorem k5y_5 : (Cond.initialized "LayerDesk$Reach") ∈ wT := wT_t (List.mem_append_left _ (List.mem_of_getElem? (i := 21) rfl)) rfl
theorem k5y_6 : (Cond.fieldLink "LayerDesk$Member" 28 "LayerDesk$Member" "descriptor" "LLayerDesk$Descriptor;") ∈ wT := wT_t (List.mem_append_right _ (List.mem_append_right _ (List.mem_append_left _ (List.mem_of_getElem? (i := 181) rfl)))) rfl
theorem k5y_7 : (Cond.fieldLink "LayerDesk$Member" 92 "LayerDesk$Descriptor" "packages" "LLayerDesk$Names;") ∈ wT := wT_t (List.mem_append_right _ (List.mem_append_left _ (List.mem_of_getElem? (i := 61) rfl))) rfl
theorem k5y_8 : (Cond.fieldLink "LayerDesk$Member" 38 "LayerDesk$Names" "size" "I") ∈ wT := wT_t (List.mem_append_right _ (List.mem_append_left _ (List.mem_of_getElem? (i := 35) rfl))) rfl
theorem k5y_9 : (Cond.code xy_Na_at xb_Na_at 2 (some .int)) ∈ wT := wT_t (List.mem_append_right _ (List.mem_append_right _ (List.mem_append_left _ (List.mem_of_getElem? (i := 93) rfl)))) rfl
theorem k5y_10 : (Cond.methodLink "LayerDesk$Member" 47 xy_Na_at) ∈ wT := wT_t (List.mem_append_right _ (List.mem_append_right _ (List.mem_append_left _ (List.mem_of_getElem? (i := 216) rfl)))) rfl
theorem k5y_11 : (Cond.instanceMethod xy_Na_at) ∈ wT := wT_t (List.mem_append_right _ (List.mem_append_right _ (List.mem_append_left _ (List.mem_of_getElem? (i := 91) rfl)))) rfl
theorem k5y_12 : (Cond.selects "LayerDesk$Names" xy_Na_at xy_Na_at) ∈ wT := wT_t (List.mem_append_right _ (List.mem_append_right _ (List.mem_append_left _ (List.mem_of_getElem? (i := 92) rfl)))) rfl
theorem k5y_13 : (Cond.initialized "LayerDesk$Names") ∈ wT := wT_t (List.mem_append_left _ (List.mem_of_getElem? (i := 11) rfl)) rfl
theorem k5y_14 : (Cond.fieldLink "LayerDesk$Member" 82 "LayerDesk$Descriptor" "name" "I") ∈ wT := wT_t (List.mem_append_right _ (List.mem_append_left _ (List.mem_of_getElem? (i := 57) rfl))) rfl
theorem k5y_15 : (Cond.code xy_Ds_exportsTo xb_Ds_exportsTo 4 (some .boolean)) ∈ wT := wT_t (List.mem_append_right _ (List.mem_append_right _ (List.mem_append_right _ (List.mem_append_left _ (List.mem_of_getElem? (i := 20) rfl))))) rfl
theorem k5y_16 : (Cond.methodLink "LayerDesk$Member" 85 xy_Ds_exportsTo) ∈ wT := wT_t (List.mem_append_right _ (List.mem_append_right _ (List.mem_append_right _ (List.mem_append_left _ (List.mem_of_getElem? (i := 17) rfl))))) rfl
theorem k5y_17 : (Cond.instanceMethod xy_Ds_exportsTo) ∈ wT := wT_t (List.mem_append_right _ (List.mem_append_right _ (List.mem_append_right _ (List.mem_append_left _ (List.mem_of_getElem? (i := 18) rfl))))) rfl
theorem k5y_18 : (Cond.selects "LayerDesk$Descriptor" xy_Ds_exportsTo xy_Ds_exportsTo) ∈ wT := wT_t (List.mem_append_right _ (List.mem_append_right _ (List.mem_append_right _ (List.mem_append_left _ (List.mem_of_getElem? (i := 19) rfl))))) rfl
theorem k5y_19 : (Cond.initialized "LayerDesk$Descriptor") ∈ wT := wT_t (List.mem_append_left _ (List.mem_of_getElem? (i := 10) rfl)) rfl
theorem k5y_20 : (Cond.code xy_Na_holds xb_Na_holds 2 (some .boolean)) ∈ wT := wT_t (List.mem_append_right _ (List.mem_append_left _ (List.mem_of_getElem? (i := 123) rfl))) rfl
theorem k5y_21 : (Cond.methodLink "LayerDesk$Member" 95 xy_Na_holds) ∈ wT := wT_t (List.mem_append_right _ (List.mem_append_right _ (List.mem_append_right _ (List.mem_append_left _ (List.mem_of_getElem? (i := 22) rfl))))) rfl
theorem k5y_22 : (Cond.instanceMethod xy_Na_holds) ∈ wT := wT_t (List.mem_append_right _ (List.mem_append_left _ (List.mem_of_getElem? (i := 121) rfl))) rfl
theorem k5y_23 : (Cond.selects "LayerDesk$Names" xy_Na_holds xy_Na_holds) ∈ wT := wT_t (List.mem_append_right _ (List.mem_append_left _ (List.mem_of_getElem? (i := 122) rfl))) rfl
theorem k5y_24 : (Cond.code xy_Me_sourceOf xb_Me_sourceOf 5 (some (.object "LayerDesk$Member"))) ∈ wT := wT_t (List.mem_append_right _ (List.mem_append_right _ (List.mem_append_right _ (List.mem_append_left _ (List.mem_of_getElem? (i := 26) rfl))))) rfl
theorem k5y_25 : (Cond.methodLink "LayerDesk$Member" 99 xy_Me_sourceOf) ∈ wT := wT_t (List.mem_append_right _ (List.mem_append_right _ (List.mem_append_right _ (List.mem_append_left _ (List.mem_of_getElem? (i := 23) rfl))))) rfl
theorem k5y_26 : (Cond.instanceMethod xy_Me_sourceOf) ∈ wT := wT_t (List.mem_append_right _ (List.mem_append_right _ (List.mem_append_right _ (List.mem_append_left _ (List.mem_of_getElem? (i := 24) rfl))))) rfl
theorem k5y_27 : (Cond.selects "LayerDesk$Member" xy_Me_sourceOf xy_Me_sourceOf) ∈ wT := wT_t (List.mem_append_right _ (List.mem_append_right _ (List.mem_append_right _ (List.mem_append_left _ (List.mem_of_getElem? (i := 25) rfl))))) rfl
theorem k5y_28 : (Cond.initialized "LayerDesk$Member") ∈ wT := wT_t (List.mem_append_left _ (List.mem_of_getElem? (i := 20) rfl)) rfl
set_option maxHeartbeats 4000000 in
set_option maxRecDepth 100000 in
theorem xc_Me_isSplitByX (l : Launch) (D : va_G) (kA : Nat → ClassId) (sz : Nat) (ad : Nat → Nat → Nat) (E : Nat → Nat → va_E) (RL : List (Nat × Nat)) (g : Nat → Nat → Int32) (nd : Nat) (nL : Nat) (n : Nat) (k : Nat) (n2 : Nat) (k2 : Nat) (hDIs : DIs kA ad E RL nd) (hLIs : LIs kA ad E RL nd nL) (hnL : nL ≤ 6) (hn : n < nL) (hTD : TDs g E nd) (hTL : TLas g ad E nd nL) (hnd12 : nd ≤ 12) (hME : MEI kA ad E RL nd n k) (hkm : k < iN (g 20 n)) (hNZ : NZ g nd) (hn2 : n2 < nL) (hME2 : MEI kA ad E RL nd n2 k2) (hkm2 : k2 < iN (g 20 n2)) : Met l xy_Me_isSplitBy (.code xy_Me_isSplitBy xb_Me_isSplitBy 5 (some .boolean) :: wT) { frames := 4, cells := 0, slots := 0, locals := 90 } (va_Pc [.ref (ad (20 + n) (10 + 10 * k)), .ref (ad (20 + n2) (10 + 10 * k2))] (xPre D kA sz (rp ad E RL))) (va_Qi (fun (r : Int32) (u : Unit) => (r = 1 ∧ SB g (RWb E n k) n (mdv g n k) n2 k2) ∨ (r = 0 ∧ ¬ SB g (RWb E n k) n (mdv g n k) n2 k2)) (fun (u : Unit) t => va_P D xcl (rp ad E RL) t.heap ∧ va_D (va_A (rp ad E RL) sz) (rp ad E RL)) (va_A (rp ad E RL) sz)) 0 0 (va_A (rp ad E RL) sz) := by
  refine Met.ofW (cc := xb_Me_isSplitBy) (maxL := 5) (ret := (some .boolean)) (by decide) rfl ?_
  intro p e s m args below meth c s₁ B hml hv
  obtain ⟨rfl, hsz, hP, hK, hD0⟩ := hv
  have hx := B.exec
  have hb := B.bytes
  have hr := B.returns
  have hT := x_hT B.pre
  have hown : s.vm.findClass xR_Me = some m.cls := findClass_of_methodNamed B.named
  have hlocks := B.notSynchronized
  subst hsz
  have hD := hD0.self (sz := s.heap.size)
  generalize hAe : va_A (rp ad E RL) s.heap.size = A at hD ⊢
  have hA : ∀ q : Nat, s.heap.size ≤ q → A q := fun q h => by rw [← hAe]; exact Or.inr h
  have hS : va_S A s.heap s.heap [] := va_S.rf
  have hl := lv_entry ([.ref (ad (20 + n) (10 + 10 * k)), .ref (ad (20 + n2) (10 + 10 * k2))]) (n := 5) (Nat.le_of_ble_eq_true rfl)
  rw [lg_entry_eq]
  generalize (lg_sl ([.ref (ad (20 + n) (10 + 10 * k)), .ref (ad (20 + n2) (10 + 10 * k2))]) ++ List.replicate (5 - (lg_sl ([.ref (ad (20 + n) (10 + 10 * k)), .ref (ad (20 + n2) (10 + 10 * k2))])).length) Slot.unset).toArray = ls at hl ⊢
  have hl : lv_has ls 5 [(0, .ref (ad (20 + n) (10 + 10 * k))), (1, .ref (ad (20 + n2) (10 + 10 * k2)))] := hl
  have hP : va_P D xcl (rp ad E RL) s.heap := hP
  obtain ⟨m0_1, m1_1, pv_1, op_1, mk_1, fm_1, hmk_1, hpv_1, q0_1, q1_1, hk_1⟩ := id (hLIs n (by omega))
  have c_2 : E (20 + n) 0 = .inr (5, [.int (nI n), pv_1, .ref (ad (20 + n) 1), .int op_1]) := q0_1
  have m_3 : (20 + n, 0) ∈ RL := m0_1
  have c_4 : E (20 + n) 1 = .inl (kA 6, mk_1, .inr (.inr (.inr (.inr fm_1)))) := q1_1
  have m_5 : (20 + n, 1) ∈ RL := m1_1
  obtain ⟨top_1, ⟨lq_1, hlq_1, h19_1, hpv2_1⟩, h20_1, tmd_1⟩ := TLa_get c_2 c_4 (hTL n (by omega))
  have c_6 : E (20 + n) 0 = .inr (5, [.int (nI n), (lyv ad lq_1), .ref (ad (20 + n) 1), .int op_1]) := by rw [← hpv2_1]; exact c_2
  have i20_1 : iN (g 20 n) = mk_1 := by rw [h20_1, iN_nI (by omega)]
  have hkq : k < mk_1 := by have q := hkm; rw [i20_1] at q; exact q
  obtain ⟨hm_7, d_7, rs_7, fr_7, g2_7, g3_7, g4_7, hd_7, hrs_7, q0_7, q1_7, q2_7, q3_7, q4_7, q5_7, q6_7, q7_7⟩ := id hME
  have c_8 : E (20 + n) (10 + 10 * k) = .inr (6, [.ref (ad (20 + n) 0), .ref (ad (1 + d_7) 0), .ref (ad (20 + n) (11 + 10 * k)), .ref (ad (20 + n) (12 + 10 * k)), .ref (ad (20 + n) (13 + 10 * k)), .ref (ad (20 + n) (14 + 10 * k))]) := q0_7
  have m_9 : (20 + n, 10 + 10 * k) ∈ RL := hm_7 0 (by decide)
  have c_10 : E (20 + n) (11 + 10 * k) = .inl (kA 6, rs_7, .inr (.inr (.inr (.inr fr_7)))) := q1_7
  have m_11 : (20 + n, 11 + 10 * k) ∈ RL := hm_7 1 (by decide)
  have c_12 : E (20 + n) (12 + 10 * k) = .inr (10, [.ref (ad (20 + n) (15 + 10 * k))]) := q2_7
  have m_13 : (20 + n, 12 + 10 * k) ∈ RL := hm_7 2 (by decide)
  have c_14 : E (20 + n) (13 + 10 * k) = .inr (10, [.ref (ad (20 + n) (16 + 10 * k))]) := q3_7
  have m_15 : (20 + n, 13 + 10 * k) ∈ RL := hm_7 3 (by decide)
  have c_16 : E (20 + n) (14 + 10 * k) = .inr (10, [.ref (ad (20 + n) (17 + 10 * k))]) := q4_7
  have m_17 : (20 + n, 14 + 10 * k) ∈ RL := hm_7 4 (by decide)
  have c_18 : E (20 + n) (15 + 10 * k) = .inl (kA 0, 6, .inl g2_7) := q5_7
  have m_19 : (20 + n, 15 + 10 * k) ∈ RL := hm_7 5 (by decide)
  have c_20 : E (20 + n) (16 + 10 * k) = .inl (kA 0, 6, .inl g3_7) := q6_7
  have m_21 : (20 + n, 16 + 10 * k) ∈ RL := hm_7 6 (by decide)
  have c_22 : E (20 + n) (17 + 10 * k) = .inl (kA 0, 6, .inl g4_7) := q7_7
  have m_23 : (20 + n, 17 + 10 * k) ∈ RL := hm_7 7 (by decide)
  have hdm_7 : mdv g n k = d_7 := by
    obtain ⟨dz, hdz, h21z, hvz⟩ := tmd_1 k (by omega)
    rw [c_8] at hvz
    have ez := (rp_inj hD ((hDIs d_7 hd_7).1 0 (by omega)) ((hDIs dz hdz).1 0 (by omega)) (Value.ref.inj hvz)).1
    unfold mdv
    rw [h21z, iN_nI (by omega)]; omega
  obtain ⟨hm_24, fd_24, nm_24, sd_24, k0_24, k1_24, k2_24, k3_24, f0_24, f1_24, f2_24, f3_24, fe_24, fo_24, tr_24, op_24, hk0_24, hk1_24, hk2_24, hk3_24, q0_24, q1_24, q2_24, q3_24, q4_24, q5_24, q6_24, q7_24, q8_24, q9_24, q10_24, q11_24, q12_24, hg_24⟩ := id (hDIs d_7 (by omega))
  have c_25 : E (1 + d_7) 0 = .inr (7, [.int (nI d_7), .int fd_24, .int nm_24, .ref (ad (1 + d_7) 1), .ref (ad (1 + d_7) 9), .ref (ad (1 + d_7) 10), .ref (ad (1 + d_7) 2), .ref (ad (1 + d_7) 11), .ref (ad (1 + d_7) 12), .ref (ad (1 + d_7) 3), .ref (ad (1 + d_7) 4), .int sd_24]) := q0_24
  have m_26 : (1 + d_7, 0) ∈ RL := hm_24 0 (by decide)
  have c_27 : E (1 + d_7) 1 = .inr (8, [.ref (ad (1 + d_7) 5), .int (nI k0_24)]) := q1_24
  have m_28 : (1 + d_7, 1) ∈ RL := hm_24 1 (by decide)
  have c_29 : E (1 + d_7) 2 = .inr (8, [.ref (ad (1 + d_7) 6), .int (nI k1_24)]) := q2_24
  have m_30 : (1 + d_7, 2) ∈ RL := hm_24 2 (by decide)
  have c_31 : E (1 + d_7) 3 = .inr (8, [.ref (ad (1 + d_7) 7), .int (nI k2_24)]) := q3_24
  have m_32 : (1 + d_7, 3) ∈ RL := hm_24 3 (by decide)
  have c_33 : E (1 + d_7) 4 = .inr (8, [.ref (ad (1 + d_7) 8), .int (nI k3_24)]) := q4_24
  have m_34 : (1 + d_7, 4) ∈ RL := hm_24 4 (by decide)
  have c_35 : E (1 + d_7) 5 = .inl (kA 0, 6, .inl f0_24) := q5_24
  have m_36 : (1 + d_7, 5) ∈ RL := hm_24 5 (by decide)
  have c_37 : E (1 + d_7) 6 = .inl (kA 0, 5, .inl f1_24) := q6_24
  have m_38 : (1 + d_7, 6) ∈ RL := hm_24 6 (by decide)
  have c_39 : E (1 + d_7) 7 = .inl (kA 0, 3, .inl f2_24) := q7_24
  have m_40 : (1 + d_7, 7) ∈ RL := hm_24 7 (by decide)
  have c_41 : E (1 + d_7) 8 = .inl (kA 0, 3, .inl f3_24) := q8_24
  have m_42 : (1 + d_7, 8) ∈ RL := hm_24 8 (by decide)
  have c_43 : E (1 + d_7) 9 = .inl (kA 8, 6, .inr (.inr (.inr (.inr fe_24)))) := q9_24
  have m_44 : (1 + d_7, 9) ∈ RL := hm_24 9 (by decide)
  have c_45 : E (1 + d_7) 10 = .inl (kA 8, 6, .inr (.inr (.inr (.inr fo_24)))) := q10_24
  have m_46 : (1 + d_7, 10) ∈ RL := hm_24 10 (by decide)
  have c_47 : E (1 + d_7) 11 = .inl (kA 2, 5, .inl tr_24) := q11_24
  have m_48 : (1 + d_7, 11) ∈ RL := hm_24 11 (by decide)
  have c_49 : E (1 + d_7) 12 = .inl (kA 2, 5, .inl op_24) := q12_24
  have m_50 : (1 + d_7, 12) ∈ RL := hm_24 12 (by decide)
  have hg_24 : ∀ w9, w9 < k0_24 → fe_24 w9 = some (ad (1 + d_7) (20 + 3 * w9)) ∧ fo_24 w9 = some (ad (1 + d_7) (38 + 3 * w9)) ∧ GI kA (ad (1 + d_7)) (E (1 + d_7)) (fun o => (1 + d_7, o) ∈ RL) (20 + 3 * w9) (21 + 3 * w9) (22 + 3 * w9) ∧ GI kA (ad (1 + d_7)) (E (1 + d_7)) (fun o => (1 + d_7, o) ∈ RL) (38 + 3 * w9) (39 + 3 * w9) (40 + 3 * w9) := hg_24
  obtain ⟨hTT_24, tgr_24⟩ := TD_get hk0_24 hk1_24 hk2_24 hk3_24 c_25 c_27 c_29 c_31 c_33 c_35 c_37 c_39 c_41 c_47 c_49 (hTD d_7 (by omega))
  obtain ⟨tfd_24, tnm_24, tsd_24, tk0_24, tf0_24, tk1_24, tf1_24, tk2_24, tk3_24⟩ := id hTT_24
  have ik0_24 : iN (g 5 d_7) = k0_24 := by rw [← tk0_24, iN_nI (by omega)]
  have ik1_24 : iN (g 12 d_7) = k1_24 := by rw [← tk1_24, iN_nI (by omega)]
  have hrow : ∀ t, RWb E n k t ↔ BS g4_7 t := fun t => by unfold RWb; rw [c_22]; rfl
  have hrd0 : ¬ nm_24 = 0 := by rw [tnm_24]; exact hNZ _ hd_7
  obtain ⟨m0_51, m1_51, pv_51, op_51, mk_51, fm_51, hmk_51, hpv_51, q0_51, q1_51, hk_51⟩ := id (hLIs n2 (by omega))
  have c_52 : E (20 + n2) 0 = .inr (5, [.int (nI n2), pv_51, .ref (ad (20 + n2) 1), .int op_51]) := q0_51
  have m_53 : (20 + n2, 0) ∈ RL := m0_51
  have c_54 : E (20 + n2) 1 = .inl (kA 6, mk_51, .inr (.inr (.inr (.inr fm_51)))) := q1_51
  have m_55 : (20 + n2, 1) ∈ RL := m1_51
  obtain ⟨top_51, ⟨lq_51, hlq_51, h19_51, hpv2_51⟩, h20_51, tmd_51⟩ := TLa_get c_52 c_54 (hTL n2 (by omega))
  have c_56 : E (20 + n2) 0 = .inr (5, [.int (nI n2), (lyv ad lq_51), .ref (ad (20 + n2) 1), .int op_51]) := by rw [← hpv2_51]; exact c_52
  have i20_51 : iN (g 20 n2) = mk_51 := by rw [h20_51, iN_nI (by omega)]
  have hkq2 : k2 < mk_51 := by have q := hkm2; rw [i20_51] at q; exact q
  obtain ⟨hm_57, d_57, rs_57, fr_57, g2_57, g3_57, g4_57, hd_57, hrs_57, q0_57, q1_57, q2_57, q3_57, q4_57, q5_57, q6_57, q7_57⟩ := id hME2
  have c_58 : E (20 + n2) (10 + 10 * k2) = .inr (6, [.ref (ad (20 + n2) 0), .ref (ad (1 + d_57) 0), .ref (ad (20 + n2) (11 + 10 * k2)), .ref (ad (20 + n2) (12 + 10 * k2)), .ref (ad (20 + n2) (13 + 10 * k2)), .ref (ad (20 + n2) (14 + 10 * k2))]) := q0_57
  have m_59 : (20 + n2, 10 + 10 * k2) ∈ RL := hm_57 0 (by decide)
  have c_60 : E (20 + n2) (11 + 10 * k2) = .inl (kA 6, rs_57, .inr (.inr (.inr (.inr fr_57)))) := q1_57
  have m_61 : (20 + n2, 11 + 10 * k2) ∈ RL := hm_57 1 (by decide)
  have c_62 : E (20 + n2) (12 + 10 * k2) = .inr (10, [.ref (ad (20 + n2) (15 + 10 * k2))]) := q2_57
  have m_63 : (20 + n2, 12 + 10 * k2) ∈ RL := hm_57 2 (by decide)
  have c_64 : E (20 + n2) (13 + 10 * k2) = .inr (10, [.ref (ad (20 + n2) (16 + 10 * k2))]) := q3_57
  have m_65 : (20 + n2, 13 + 10 * k2) ∈ RL := hm_57 3 (by decide)
  have c_66 : E (20 + n2) (14 + 10 * k2) = .inr (10, [.ref (ad (20 + n2) (17 + 10 * k2))]) := q4_57
  have m_67 : (20 + n2, 14 + 10 * k2) ∈ RL := hm_57 4 (by decide)
  have c_68 : E (20 + n2) (15 + 10 * k2) = .inl (kA 0, 6, .inl g2_57) := q5_57
  have m_69 : (20 + n2, 15 + 10 * k2) ∈ RL := hm_57 5 (by decide)
  have c_70 : E (20 + n2) (16 + 10 * k2) = .inl (kA 0, 6, .inl g3_57) := q6_57
  have m_71 : (20 + n2, 16 + 10 * k2) ∈ RL := hm_57 6 (by decide)
  have c_72 : E (20 + n2) (17 + 10 * k2) = .inl (kA 0, 6, .inl g4_57) := q7_57
  have m_73 : (20 + n2, 17 + 10 * k2) ∈ RL := hm_57 7 (by decide)
  have hdm_57 : mdv g n2 k2 = d_57 := by
    obtain ⟨dz, hdz, h21z, hvz⟩ := tmd_51 k2 (by omega)
    rw [c_58] at hvz
    have ez := (rp_inj hD ((hDIs d_57 hd_57).1 0 (by omega)) ((hDIs dz hdz).1 0 (by omega)) (Value.ref.inj hvz)).1
    unfold mdv
    rw [h21z, iN_nI (by omega)]; omega
  obtain ⟨hm_74, fd_74, nm_74, sd_74, k0_74, k1_74, k2_74, k3_74, f0_74, f1_74, f2_74, f3_74, fe_74, fo_74, tr_74, op_74, hk0_74, hk1_74, hk2_74, hk3_74, q0_74, q1_74, q2_74, q3_74, q4_74, q5_74, q6_74, q7_74, q8_74, q9_74, q10_74, q11_74, q12_74, hg_74⟩ := id (hDIs d_57 (by omega))
  have c_75 : E (1 + d_57) 0 = .inr (7, [.int (nI d_57), .int fd_74, .int nm_74, .ref (ad (1 + d_57) 1), .ref (ad (1 + d_57) 9), .ref (ad (1 + d_57) 10), .ref (ad (1 + d_57) 2), .ref (ad (1 + d_57) 11), .ref (ad (1 + d_57) 12), .ref (ad (1 + d_57) 3), .ref (ad (1 + d_57) 4), .int sd_74]) := q0_74
  have m_76 : (1 + d_57, 0) ∈ RL := hm_74 0 (by decide)
  have c_77 : E (1 + d_57) 1 = .inr (8, [.ref (ad (1 + d_57) 5), .int (nI k0_74)]) := q1_74
  have m_78 : (1 + d_57, 1) ∈ RL := hm_74 1 (by decide)
  have c_79 : E (1 + d_57) 2 = .inr (8, [.ref (ad (1 + d_57) 6), .int (nI k1_74)]) := q2_74
  have m_80 : (1 + d_57, 2) ∈ RL := hm_74 2 (by decide)
  have c_81 : E (1 + d_57) 3 = .inr (8, [.ref (ad (1 + d_57) 7), .int (nI k2_74)]) := q3_74
  have m_82 : (1 + d_57, 3) ∈ RL := hm_74 3 (by decide)
  have c_83 : E (1 + d_57) 4 = .inr (8, [.ref (ad (1 + d_57) 8), .int (nI k3_74)]) := q4_74
  have m_84 : (1 + d_57, 4) ∈ RL := hm_74 4 (by decide)
  have c_85 : E (1 + d_57) 5 = .inl (kA 0, 6, .inl f0_74) := q5_74
  have m_86 : (1 + d_57, 5) ∈ RL := hm_74 5 (by decide)
  have c_87 : E (1 + d_57) 6 = .inl (kA 0, 5, .inl f1_74) := q6_74
  have m_88 : (1 + d_57, 6) ∈ RL := hm_74 6 (by decide)
  have c_89 : E (1 + d_57) 7 = .inl (kA 0, 3, .inl f2_74) := q7_74
  have m_90 : (1 + d_57, 7) ∈ RL := hm_74 7 (by decide)
  have c_91 : E (1 + d_57) 8 = .inl (kA 0, 3, .inl f3_74) := q8_74
  have m_92 : (1 + d_57, 8) ∈ RL := hm_74 8 (by decide)
  have c_93 : E (1 + d_57) 9 = .inl (kA 8, 6, .inr (.inr (.inr (.inr fe_74)))) := q9_74
  have m_94 : (1 + d_57, 9) ∈ RL := hm_74 9 (by decide)
  have c_95 : E (1 + d_57) 10 = .inl (kA 8, 6, .inr (.inr (.inr (.inr fo_74)))) := q10_74
  have m_96 : (1 + d_57, 10) ∈ RL := hm_74 10 (by decide)
  have c_97 : E (1 + d_57) 11 = .inl (kA 2, 5, .inl tr_74) := q11_74
  have m_98 : (1 + d_57, 11) ∈ RL := hm_74 11 (by decide)
  have c_99 : E (1 + d_57) 12 = .inl (kA 2, 5, .inl op_74) := q12_74
  have m_100 : (1 + d_57, 12) ∈ RL := hm_74 12 (by decide)
  have hg_74 : ∀ w9, w9 < k0_74 → fe_74 w9 = some (ad (1 + d_57) (20 + 3 * w9)) ∧ fo_74 w9 = some (ad (1 + d_57) (38 + 3 * w9)) ∧ GI kA (ad (1 + d_57)) (E (1 + d_57)) (fun o => (1 + d_57, o) ∈ RL) (20 + 3 * w9) (21 + 3 * w9) (22 + 3 * w9) ∧ GI kA (ad (1 + d_57)) (E (1 + d_57)) (fun o => (1 + d_57, o) ∈ RL) (38 + 3 * w9) (39 + 3 * w9) (40 + 3 * w9) := hg_74
  obtain ⟨hTT_74, tgr_74⟩ := TD_get hk0_74 hk1_74 hk2_74 hk3_74 c_75 c_77 c_79 c_81 c_83 c_85 c_87 c_89 c_91 c_97 c_99 (hTD d_57 (by omega))
  obtain ⟨tfd_74, tnm_74, tsd_74, tk0_74, tf0_74, tk1_74, tf1_74, tk2_74, tk3_74⟩ := id hTT_74
  have ik0_74 : iN (g 5 d_57) = k0_74 := by rw [← tk0_74, iN_nI (by omega)]
  have ik1_74 : iN (g 12 d_57) = k1_74 := by rw [← tk1_74, iN_nI (by omega)]
  refine lv_aload_n hx hb xd_Me_isSplitBy_0 rfl (lv_at hl 0 rfl) ?_
  refine px_get (D := D) (ci := 6) (v := .ref (ad (20 + n) (14 + 10 * k))) (C := xR_Me) (T := xT_Me) (N := 6) hx hb hT xi_Me hown hK.1 hP m_9 c_8 rfl 5 (by decide) (hT _ k5y_0) (fun _ h9 => h9) rfl xd_Me_isSplitBy_1 ?_
  refine lv_aload_n hx hb xd_Me_isSplitBy_4 rfl (lv_at hl 1 rfl) ?_
  have hFc := px_free hD hS hA
  refine va_calli (va_runV (As := [.ref (ad (20 + n2) (10 + 10 * k2))]) (rest := []) ⟨hx, hb, hml, hown, hT⟩ (xc_Re_marks l D kA s.heap.size ad E RL (20 + n) (14 + 10 * k) (17 + 10 * k) g4_7 n2 k2 d_57 (lyv ad lq_51) op_51 fd_74 nm_74 sd_74 m_17 c_16 m_23 c_22 m_59 c_58 m_53 c_56 m_76 c_75 (by first | assumption | omega)) (cwV 1 hT (wT_V k5y_2 k5y_3 k5y_4 k5y_5 k5y_1) rfl rfl rfl (by decide +kernel) ⟨Nat.le_of_ble_eq_true rfl, Nat.le_of_ble_eq_true rfl⟩) (px_preV hK hP hD m_17 c_16 rfl) rfl rfl hl.1 rfl (lv_room (Nat.le_of_ble_eq_true rfl)) xd_Me_isSplitBy_5 ⟨(Nat.le_of_ble_eq_true rfl), (Nat.le_of_ble_eq_true rfl)⟩) hS (fun q _ h => hFc q h) hFc (fun r101 u102 t H1 locs ht hvm hp103 hB hz1 hk1 hS => ?_)
  obtain ⟨hP1, hD1⟩ := hB
  rw [ht] at hP1
  have hD1 := hD1.weaken (fun _ _ _ h => hFc _ h)
  generalize H1 = H at hP1 hS ⊢
  have hP := hP1
  have hD := hD1
  have hP : va_P D xcl (rp ad E RL) H := hP
  have hD : va_D A (rp ad E RL) := hD
  rcases hp103 with ⟨rfl, z104⟩ | ⟨rfl, z105⟩
  · refine W.eq (g2 := F0 m 8 ls [.int 1]) rfl ?_
    refine lv_if_ne (tgt := 13) hx hb xd_Me_isSplitBy_8 (by decide) (fun _ => ?_) (fun hc106 => absurd hc106 (by decide))
    refine lv_aload_n hx hb xd_Me_isSplitBy_13 rfl (lv_at hl 1 rfl) ?_
    refine px_get (D := D) (ci := 6) (v := .ref (ad (1 + d_57) 0)) (C := xR_Me) (T := xT_Me) (N := 6) hx hb hT xi_Me hown hK.1 hP m_59 c_58 rfl 1 (by decide) (hT _ k5y_6) (fun _ h9 => h9) rfl xd_Me_isSplitBy_14 ?_
    refine px_get (D := D) (ci := 7) (v := .ref (ad (1 + d_57) 1)) (C := xR_Ds) (T := xT_Ds) (N := 12) hx hb hT xi_Ds hown hK.1 hP m_76 c_75 rfl 3 (by decide) (hT _ k5y_7) (fun _ h9 => h9) rfl xd_Me_isSplitBy_17 ?_
    refine lv_astore_n hx hb xd_Me_isSplitBy_20 rfl hl (Nat.le_of_ble_eq_true rfl) rfl (fun ls hl => ?_)
    have hl : lv_has ls 5 [(2, .ref (ad (1 + d_57) 1)), (0, .ref (ad (20 + n) (10 + 10 * k))), (1, .ref (ad (20 + n2) (10 + 10 * k2)))] := hl
    refine lv_iconst (v := 0) hx hb xd_Me_isSplitBy_21 (by decide) ?_
    refine lv_istore_n hx hb xd_Me_isSplitBy_22 rfl hl (Nat.le_of_ble_eq_true rfl) rfl (fun ls hl => ?_)
    have hl : lv_has ls 5 [(3, .int 0), (2, .ref (ad (1 + d_57) 1)), (0, .ref (ad (20 + n) (10 + 10 * k))), (1, .ref (ad (20 + n2) (10 + 10 * k2)))] := hl
    refine xlab (σ := Nat) (ml := 5) 23 (fun (i : Nat) => [(3, .int (nI i)), (2, .ref (ad (1 + d_57) 1)), (1, .ref (ad (20 + n2) (10 + 10 * k2))), (0, .ref (ad (20 + n) (10 + 10 * k)))]) (fun (i : Nat) => []) (fun (i : Nat) => rp ad E RL) (fun (i : Nat) => (i ≤ k0_74) ∧ (∀ j8, j8 < i → ¬ SBi g (RWb E n k) n (mdv g n k) n2 k2 j8)) (fun (i : Nat) => k0_74 - i) ?_ 0 _ _ _ (lv_sub hl [0, 1, 3, 2] rfl) hP hD hS ⟨(show 0 ≤ k0_74 from by first | assumption | omega), (show ∀ j8, j8 < 0 → ¬ SBi g (RWb E n k) n (mdv g n k) n2 k2 j8 from fun j hj => absurd hj (by omega))⟩
    intro n9 ih107 a9 ls H locs hμ hl hP hD hS hI
    subst hμ
    obtain ⟨i, rfl⟩ : ∃ z, z = a9 := ⟨_, rfl⟩
    obtain ⟨hi, hno⟩ := hI
    have hi : i ≤ k0_74 := hi
    have hno : ∀ j8, j8 < i → ¬ SBi g (RWb E n k) n (mdv g n k) n2 k2 j8 := hno
    have hl : lv_has ls 5 [(3, .int (nI i)), (2, .ref (ad (1 + d_57) 1)), (1, .ref (ad (20 + n2) (10 + 10 * k2))), (0, .ref (ad (20 + n) (10 + 10 * k)))] := hl
    have hP : va_P D xcl (rp ad E RL) H := hP
    have hD : va_D A (rp ad E RL) := hD
    refine lv_iload_n hx hb xd_Me_isSplitBy_23 rfl (lv_at hl 0 rfl) ?_
    refine lv_aload_n hx hb xd_Me_isSplitBy_24 rfl (lv_at hl 1 rfl) ?_
    refine px_get (D := D) (ci := 8) (v := .int (nI k0_74)) (C := xR_Na) (T := xT_Na) (N := 2) hx hb hT xi_Na hown hK.1 hP m_78 c_77 rfl 1 (by decide) (hT _ k5y_8) (fun _ h9 => h9) rfl xd_Me_isSplitBy_25 ?_
    refine xn_ge (a := i) (b := k0_74) (tgt := 90) hx hb xd_Me_isSplitBy_28 (by decide) (by omega) (by omega) (fun hc108 => ?_) (fun hc108 => ?_)
    · refine lv_iconst (v := 0) hx hb xd_Me_isSplitBy_90 (by decide) ?_
      exact W.zret (v := 0) hx hb hr rfl (fun t ht hW => ⟨⟨0, (), rfl, Or.inr ⟨rfl, fun ⟨_, i9, q1, q2⟩ => hno i9 (by
        rw [hdm_57, ← tk0_74, iN_nI (by omega)] at q1
        omega) q2⟩, by rw [ht]; exact hP, hD⟩, hS.F ht⟩) hS.2.2 xd_Me_isSplitBy_91
    · refine lv_aload_n hx hb xd_Me_isSplitBy_31 rfl (lv_at hl 1 rfl) ?_
      refine lv_iload_n hx hb xd_Me_isSplitBy_32 rfl (lv_at hl 0 rfl) ?_
      have hFc := px_free hD hS hA
      refine va_calli (va_runV (As := [.int (nI i)]) (rest := []) ⟨hx, hb, hml, hown, hT⟩ (xc_Na_at l D kA H.size ad E RL (1 + d_57) 1 5 6 k0_74 f0_74 i m_78 c_77 m_86 c_85 (by first | assumption | omega) (by first | assumption | omega) (by first | assumption | omega)) (cwV 1 hT (wT_V k5y_10 k5y_11 k5y_12 k5y_13 k5y_9) rfl rfl rfl (by decide +kernel) ⟨Nat.le_of_ble_eq_true rfl, Nat.le_of_ble_eq_true rfl⟩) (px_preV hK hP hD m_78 c_77 rfl) rfl rfl hl.1 rfl (lv_room (Nat.le_of_ble_eq_true rfl)) xd_Me_isSplitBy_33 ⟨(Nat.le_of_ble_eq_true rfl), (Nat.le_of_ble_eq_true rfl)⟩) hS (fun q _ h => hFc q h) hFc (fun r109 u110 t H1 locs ht hvm hp111 hB hz1 hk1 hS => ?_)
      obtain ⟨hP1, hD1⟩ := hB
      rw [ht] at hP1
      have hD1 := hD1.weaken (fun _ _ _ h => hFc _ h)
      generalize H1 = H at hP1 hS ⊢
      have hP := hP1
      have hD := hD1
      have hP : va_P D xcl (rp ad E RL) H := hP
      have hD : va_D A (rp ad E RL) := hD
      have hp111 : r109 = (g 6 (6 * mdv g n2 k2 + i)) := by
        rcases hp111 with ⟨q, q2⟩ | ⟨q, _⟩
        · rw [q2, hdm_57]; exact tf0_74 i q
        · omega
      subst hp111
      have hP : va_P D xcl (rp ad E RL) H := hP
      have hD : va_D A (rp ad E RL) := hD
      refine lv_istore hx hb xd_Me_isSplitBy_36 hl (Nat.le_of_ble_eq_true rfl) rfl (fun ls hl => ?_)
      have hl : lv_has ls 5 [(4, .int (g 6 (6 * mdv g n2 k2 + i))), (3, .int (nI i)), (2, .ref (ad (1 + d_57) 1)), (1, .ref (ad (20 + n2) (10 + 10 * k2))), (0, .ref (ad (20 + n) (10 + 10 * k)))] := hl
      refine lv_aload_n hx hb xd_Me_isSplitBy_38 rfl (lv_at hl 3 rfl) ?_
      refine px_get (D := D) (ci := 6) (v := .ref (ad (1 + d_57) 0)) (C := xR_Me) (T := xT_Me) (N := 6) hx hb hT xi_Me hown hK.1 hP m_59 c_58 rfl 1 (by decide) (hT _ k5y_6) (fun _ h9 => h9) rfl xd_Me_isSplitBy_39 ?_
      refine lv_iload hx hb xd_Me_isSplitBy_42 (lv_at hl 0 rfl) ?_
      refine lv_aload_n hx hb xd_Me_isSplitBy_44 rfl (lv_at hl 4 rfl) ?_
      refine px_get (D := D) (ci := 6) (v := .ref (ad (1 + d_7) 0)) (C := xR_Me) (T := xT_Me) (N := 6) hx hb hT xi_Me hown hK.1 hP m_9 c_8 rfl 1 (by decide) (hT _ k5y_6) (fun _ h9 => h9) rfl xd_Me_isSplitBy_45 ?_
      refine px_get (D := D) (ci := 7) (v := .int nm_24) (C := xR_Ds) (T := xT_Ds) (N := 12) hx hb hT xi_Ds hown hK.1 hP m_26 c_25 rfl 2 (by decide) (hT _ k5y_14) (fun _ h9 => h9) rfl xd_Me_isSplitBy_48 ?_
      have hFc := px_free hD hS hA
      refine va_calli (va_runV (As := [.int (g 6 (6 * mdv g n2 k2 + i)), .int nm_24]) (rest := []) ⟨hx, hb, hml, hown, hT⟩ (xc_Ds_exportsToX l D kA H.size ad E RL g nd d_57 (g 6 (6 * mdv g n2 k2 + i)) nm_24 (by first | assumption | omega) (by first | assumption | omega) (by first | assumption | omega) hrd0) (cwV 2 hT (wT_V k5y_16 k5y_17 k5y_18 k5y_19 k5y_15) rfl rfl rfl (by decide +kernel) ⟨Nat.le_of_ble_eq_true rfl, Nat.le_of_ble_eq_true rfl⟩) (px_preV hK hP hD m_76 c_75 rfl) rfl rfl hl.1 rfl (lv_room (Nat.le_of_ble_eq_true rfl)) xd_Me_isSplitBy_51 ⟨(Nat.le_of_ble_eq_true rfl), (Nat.le_of_ble_eq_true rfl)⟩) hS (fun q _ h => hFc q h) hFc (fun r112 u113 t H1 locs ht hvm hp114 hB hz1 hk1 hS => ?_)
      obtain ⟨hP1, hD1⟩ := hB
      rw [ht] at hP1
      have hD1 := hD1.weaken (fun _ _ _ h => hFc _ h)
      generalize H1 = H at hP1 hS ⊢
      have hP := hP1
      have hD := hD1
      have hP : va_P D xcl (rp ad E RL) H := hP
      have hD : va_D A (rp ad E RL) := hD
      rcases hp114 with ⟨rfl, z115⟩ | ⟨rfl, z116⟩
      · have hx51 : (∃ q, pI g (mdv g n2 k2) (g 6 (6 * mdv g n2 k2 + i)) = some q ∧ exP g (6 * mdv g n2 k2 + q) (g 4 (mdv g n k))) := by have q9 := z115; rw [← hdm_57, tnm_24, ← hdm_7] at q9; exact q9
        refine W.eq (g2 := F0 m 54 ls [.int 1]) rfl ?_
        refine lv_if_eq (tgt := 84) hx hb xd_Me_isSplitBy_54 (by decide) (fun hc117 => absurd hc117 (by decide)) (fun _ => ?_)
        refine lv_aload_n hx hb xd_Me_isSplitBy_57 rfl (lv_at hl 4 rfl) ?_
        refine px_get (D := D) (ci := 6) (v := .ref (ad (1 + d_7) 0)) (C := xR_Me) (T := xT_Me) (N := 6) hx hb hT xi_Me hown hK.1 hP m_9 c_8 rfl 1 (by decide) (hT _ k5y_6) (fun _ h9 => h9) rfl xd_Me_isSplitBy_58 ?_
        refine px_get (D := D) (ci := 7) (v := .ref (ad (1 + d_7) 1)) (C := xR_Ds) (T := xT_Ds) (N := 12) hx hb hT xi_Ds hown hK.1 hP m_26 c_25 rfl 3 (by decide) (hT _ k5y_7) (fun _ h9 => h9) rfl xd_Me_isSplitBy_61 ?_
        refine lv_iload hx hb xd_Me_isSplitBy_64 (lv_at hl 0 rfl) ?_
        have hFc := px_free hD hS hA
        refine va_calli (va_runV (As := [.int (g 6 (6 * mdv g n2 k2 + i))]) (rest := []) ⟨hx, hb, hml, hown, hT⟩ (xc_Na_holds l D kA H.size ad E RL (1 + d_7) 1 5 6 k0_24 f0_24 (g 6 (6 * mdv g n2 k2 + i)) m_28 c_27 m_36 c_35 (by first | assumption | omega) (by first | assumption | omega)) (cwV 1 hT (wT_V k5y_21 k5y_22 k5y_23 k5y_13 k5y_20) rfl rfl rfl (by decide +kernel) ⟨Nat.le_of_ble_eq_true rfl, Nat.le_of_ble_eq_true rfl⟩) (px_preV hK hP hD m_28 c_27 rfl) rfl rfl hl.1 rfl (lv_room (Nat.le_of_ble_eq_true rfl)) xd_Me_isSplitBy_66 ⟨(Nat.le_of_ble_eq_true rfl), (Nat.le_of_ble_eq_true rfl)⟩) hS (fun q _ h => hFc q h) hFc (fun r118 u119 t H1 locs ht hvm hp120 hB hz1 hk1 hS => ?_)
        obtain ⟨hP1, hD1⟩ := hB
        rw [ht] at hP1
        have hD1 := hD1.weaken (fun _ _ _ h => hFc _ h)
        generalize H1 = H at hP1 hS ⊢
        have hP := hP1
        have hD := hD1
        have hP : va_P D xcl (rp ad E RL) H := hP
        have hD : va_D A (rp ad E RL) := hD
        rcases hp120 with ⟨rfl, z121, z122, z123⟩ | ⟨rfl, z124⟩
        · have hx66 : (∃ q, pI g (mdv g n k) (g 6 (6 * mdv g n2 k2 + i)) = some q) := by rw [hdm_7]; exact pI_ex hk0_24 tk0_24 tf0_24 ⟨z121, z122, z123⟩
          refine W.eq (g2 := F0 m 69 ls [.int 1]) rfl ?_
          refine lv_if_ne (tgt := 82) hx hb xd_Me_isSplitBy_69 (by decide) (fun _ => ?_) (fun hc125 => absurd hc125 (by decide))
          refine lv_iconst (v := 1) hx hb xd_Me_isSplitBy_82 (by decide) ?_
          exact W.zret (v := 1) hx hb hr rfl (fun t ht hW => ⟨⟨1, (), rfl, Or.inl ⟨rfl, ((hrow (12 * n2 + mdv g n2 k2)).trans (by rw [hdm_57]; exact (BS_marks (f := g4_7) (n := n2) (d := d_57) (by omega)).symm)).mpr z104, i, (by rw [hdm_57, ← tk0_74, iN_nI (by omega)]; omega), hx51, Or.inl hx66⟩, by rw [ht]; exact hP, hD⟩, hS.F ht⟩) hS.2.2 xd_Me_isSplitBy_83
        · have hx66 : ¬ (∃ q, pI g (mdv g n k) (g 6 (6 * mdv g n2 k2 + i)) = some q) := fun ⟨q, q2⟩ => by rw [hdm_7, pI_x hk0_24 tk0_24 tf0_24 z124] at q2; cases q2
          refine W.eq (g2 := F0 m 69 ls [.int 0]) rfl ?_
          refine lv_if_ne (tgt := 82) hx hb xd_Me_isSplitBy_69 (by decide) (fun hc126 => absurd (by decide) hc126) (fun _ => ?_)
          refine lv_aload_n hx hb xd_Me_isSplitBy_72 rfl (lv_at hl 4 rfl) ?_
          refine lv_iload hx hb xd_Me_isSplitBy_73 (lv_at hl 0 rfl) ?_
          have hFc := px_free hD hS hA
          refine va_callq (va_runV (As := [.int (g 6 (6 * mdv g n2 k2 + i))]) (rest := []) ⟨hx, hb, hml, hown, hT⟩ (xc_Me_sourceOfX l D kA H.size ad E RL g nd nL n k (g 6 (6 * mdv g n2 k2 + i)) (by first | assumption | omega) (by first | assumption | omega) (by first | assumption | omega) (by first | assumption | omega) (by first | assumption | omega) (by first | assumption | omega) (by first | assumption | omega) (by first | assumption | omega) (by first | assumption | omega) (by first | assumption | omega)) (cwV 1 hT (wT_V k5y_25 k5y_26 k5y_27 k5y_28 k5y_24) rfl rfl rfl (by decide +kernel) ⟨Nat.le_of_ble_eq_true rfl, Nat.le_of_ble_eq_true rfl⟩) (px_preV hK hP hD m_9 c_8 rfl) rfl rfl hl.1 rfl (lv_room (Nat.le_of_ble_eq_true rfl)) xd_Me_isSplitBy_75 ⟨(Nat.le_of_ble_eq_true rfl), (Nat.le_of_ble_eq_true rfl)⟩) hS (fun q _ h => hFc q h) hFc (fun r127 u128 t H1 locs ht hvm hp129 hB hz1 hk1 hS => ?_)
          obtain ⟨hP1, hD1⟩ := hB
          rw [ht] at hP1
          have hD1 := hD1.weaken (fun _ _ _ h => hFc _ h)
          generalize H1 = H at hP1 hS ⊢
          have hP := hP1
          have hD := hD1
          have hP : va_P D xcl (rp ad E RL) H := hP
          have hD : va_D A (rp ad E RL) := hD
          refine lv_aload_n hx hb xd_Me_isSplitBy_78 rfl (lv_at hl 3 rfl) ?_
          refine lv_acmp_eq (rx := r127) (ry := (some (ad (20 + n2) (10 + 10 * k2)))) (tgt := 84) hx hb xd_Me_isSplitBy_79 (by decide) (fun hc130 => ?_) (fun hc130 => ?_)
          · refine lv_iinc (k := 1) (x := (nI i)) (v := (nI (i + 1))) hx hb xd_Me_isSplitBy_84 hl rfl (xb_inc i 1) (Nat.le_of_ble_eq_true rfl) rfl (fun ls hl => ?_)
            have hl : lv_has ls 5 [(3, .int (nI (i + 1))), (4, .int (g 6 (6 * mdv g n2 k2 + i))), (2, .ref (ad (1 + d_57) 1)), (1, .ref (ad (20 + n2) (10 + 10 * k2))), (0, .ref (ad (20 + n) (10 + 10 * k)))] := hl
            refine lv_goto (tgt := 23) hx hb xd_Me_isSplitBy_87 (by decide) ?_
            exact ih107 (i + 1) _ _ _ (show k0_74 - (i + 1) < k0_74 - i by omega) (lv_sub hl [0, 2, 3, 4] rfl) hP hD hS ⟨(show (i + 1) ≤ k0_74 from by first | assumption | omega), (show ∀ j8, j8 < (i + 1) → ¬ SBi g (RWb E n k) n (mdv g n k) n2 k2 j8 from fun j hj => by
        rcases Nat.lt_or_ge j i with z | z
        · exact hno j z
        · rw [show j = i by omega]; exact (by
          have hae9 := hc130
          exact fun q => q.2.elim hx66 (fun q9 => q9 (by
            rcases hp129 with ⟨z1, _⟩ | ⟨x9, kk9, hx9, z1, z2, z3⟩
            · rw [z1] at hae9; cases hae9
            · rw [z1] at hae9
              have e9 := rp_inj hD (z2.1 0 (by omega)) (hME2.1 0 (by omega)) (Option.some.inj hae9)
              rw [z3, show x9 = n2 by omega, show kk9 = k2 by omega]))))⟩
          · refine lv_iconst (v := 1) hx hb xd_Me_isSplitBy_82 (by decide) ?_
            exact W.zret (v := 1) hx hb hr rfl (fun t ht hW => ⟨⟨1, (), rfl, Or.inl ⟨rfl, ((hrow (12 * n2 + mdv g n2 k2)).trans (by rw [hdm_57]; exact (BS_marks (f := g4_7) (n := n2) (d := d_57) (by omega)).symm)).mpr z104, i, (by rw [hdm_57, ← tk0_74, iN_nI (by omega)]; omega), hx51, Or.inr (fun q => by
        have hae9 := hc130
        rcases hp129 with ⟨_, z2⟩ | ⟨x9, kk9, hx9, z1, z2, z3⟩
        · rw [z2] at q; cases q
        · rw [z3] at q
          have q1 := congrArg Prod.fst (Option.some.inj q)
          have q2 := congrArg Prod.snd (Option.some.inj q)
          simp only at q1 q2
          exact hae9 (by rw [z1, q1, q2]))⟩, by rw [ht]; exact hP, hD⟩, hS.F ht⟩) hS.2.2 xd_Me_isSplitBy_83
      · have hx51 : ¬ (∃ q, pI g (mdv g n2 k2) (g 6 (6 * mdv g n2 k2 + i)) = some q ∧ exP g (6 * mdv g n2 k2 + q) (g 4 (mdv g n k))) := by have q9 := z116; rw [← hdm_57, tnm_24, ← hdm_7] at q9; exact q9
        refine W.eq (g2 := F0 m 54 ls [.int 0]) rfl ?_
        refine lv_if_eq (tgt := 84) hx hb xd_Me_isSplitBy_54 (by decide) (fun _ => ?_) (fun hc131 => absurd (by decide) hc131)
        refine lv_iinc (k := 1) (x := (nI i)) (v := (nI (i + 1))) hx hb xd_Me_isSplitBy_84 hl rfl (xb_inc i 1) (Nat.le_of_ble_eq_true rfl) rfl (fun ls hl => ?_)
        have hl : lv_has ls 5 [(3, .int (nI (i + 1))), (4, .int (g 6 (6 * mdv g n2 k2 + i))), (2, .ref (ad (1 + d_57) 1)), (1, .ref (ad (20 + n2) (10 + 10 * k2))), (0, .ref (ad (20 + n) (10 + 10 * k)))] := hl
        refine lv_goto (tgt := 23) hx hb xd_Me_isSplitBy_87 (by decide) ?_
        exact ih107 (i + 1) _ _ _ (show k0_74 - (i + 1) < k0_74 - i by omega) (lv_sub hl [0, 2, 3, 4] rfl) hP hD hS ⟨(show (i + 1) ≤ k0_74 from by first | assumption | omega), (show ∀ j8, j8 < (i + 1) → ¬ SBi g (RWb E n k) n (mdv g n k) n2 k2 j8 from fun j hj => by
        rcases Nat.lt_or_ge j i with z | z
        · exact hno j z
        · rw [show j = i by omega]; exact fun q => hx51 q.1)⟩
  · refine W.eq (g2 := F0 m 8 ls [.int 0]) rfl ?_
    refine lv_if_ne (tgt := 13) hx hb xd_Me_isSplitBy_8 (by decide) (fun hc132 => absurd (by decide) hc132) (fun _ => ?_)
    refine lv_iconst (v := 0) hx hb xd_Me_isSplitBy_11 (by decide) ?_
    exact W.zret (v := 0) hx hb hr rfl (fun t ht hW => ⟨⟨0, (), rfl, Or.inr ⟨rfl, fun q => absurd z105 (((hrow (12 * n2 + mdv g n2 k2)).trans (by rw [hdm_57]; exact (BS_marks (f := g4_7) (n := n2) (d := d_57) (by omega)).symm)).mp q.1)⟩, by rw [ht]; exact hP, hD⟩, hS.F ht⟩) hS.2.2 xd_Me_isSplitBy_12
theorem AG_11 {g : gT} {f1 f2 : Nat → Int32} {d : Nat} (h : f2 d = f1 d) : AG (va_up g 11 f1) (va_up g 11 f2) d := by
  have e : ∀ j, j ≠ 11 → va_up g 11 f2 j = va_up g 11 f1 j := fun j hj => by rw [vu_ne hj, vu_ne hj]
  exact ⟨congrFun (e 3 (by decide)) d, congrFun (e 4 (by decide)) d, congrFun (e 5 (by decide)) d, by rw [vu_eq, vu_eq]; exact h, congrFun (e 12 (by decide)) d, fun i _ => ⟨congrFun (e 6 (by decide)) _, congrFun (e 9 (by decide)) _, congrFun (e 10 (by decide)) _, fun j _ => ⟨congrFun (e 7 (by decide)) _, congrFun (e 8 (by decide)) _⟩⟩, fun i _ => ⟨congrFun (e 13 (by decide)) _, congrFun (e 16 (by decide)) _, congrFun (e 17 (by decide)) _⟩, fun i _ => ⟨congrFun (e 14 (by decide)) _, congrFun (e 15 (by decide)) _⟩⟩
theorem AG_11g {g : gT} {f : Nat → Int32} {d : Nat} (h : f d = g 11 d) : AG g (va_up g 11 f) d := by
  have q := AG_11 (g := g) (f1 := g 11) (f2 := f) (d := d) h
  rw [up_self rfl] at q; exact q
theorem TD_set11 {g : gT} {f : Nat → Int32} {e e' : Nat → va_E} {d : Nat} {fd nm sd x : Int32} {v0 v3 v4 v5 v6 v7 v8 v9 v10 w0 w3 w4 w5 w6 w7 w8 w9 w10 : Value} (h : TD g e d) (c0 : e 0 = .inr (7, [v0, .int fd, .int nm, v3, v4, v5, v6, v7, v8, v9, v10, .int sd])) (c1 : e' 0 = .inr (7, [w0, .int fd, .int nm, w3, w4, w5, w6, w7, w8, w9, w10, .int x])) (he : ∀ o, ¬ o = 0 → e' o = e o) (hf : f d = x) : TD (va_up g 11 f) e' d := by
  have eg : ∀ j, j ≠ 11 → va_up g 11 f j = g j := fun j hj => vu_ne hj
  unfold TD at h ⊢
  rw [eg 3 (by decide), eg 4 (by decide), eg 5 (by decide), eg 6 (by decide), eg 7 (by decide), eg 8 (by decide), eg 9 (by decide), eg 10 (by decide), eg 12 (by decide), eg 13 (by decide), eg 14 (by decide), eg 15 (by decide), eg 16 (by decide), eg 17 (by decide), vu_eq, he 1 (by decide), he 2 (by decide), he 3 (by decide), he 4 (by decide), he 5 (by decide), he 6 (by decide), he 7 (by decide), he 8 (by decide), he 11 (by decide), he 12 (by decide), c1]
  rw [c0] at h
  obtain ⟨h1, h2, h3, h4, h5, h6, h7, h8, h9, h10⟩ := h
  refine ⟨h1, h2, hf.symm, h4, h5, h6, h7, h8, h9, fun i hi => ?_⟩
  rw [he (20 + 3 * i) (by omega), he (21 + 3 * i) (by omega), he (22 + 3 * i) (by omega), he (38 + 3 * i) (by omega), he (39 + 3 * i) (by omega), he (40 + 3 * i) (by omega)]
  exact h10 i hi
noncomputable def kf (g : gT) (L : List Nat) (k : Nat) : Nat → Int32 := fun d => cif (∃ j, j < k ∧ L.getD j 0 = d) 1 (g 11 d)
theorem kf_0 {g : gT} {L : List Nat} {d : Nat} : kf g L 0 d = g 11 d := cif_neg (fun ⟨j, h, _⟩ => absurd h (Nat.not_lt_zero _))
theorem kf_s {g : gT} {L : List Nat} {k x : Nat} (h : L.getD k 0 = x) : kf g L (k + 1) x = 1 := cif_pos ⟨k, by omega, h⟩
theorem kf_o {g : gT} {L : List Nat} {k d : Nat} (h : ¬ L.getD k 0 = d) : kf g L (k + 1) d = kf g L k d := by
  unfold kf
  by_cases q : ∃ j, j < k ∧ L.getD j 0 = d
  · obtain ⟨j, h1, h2⟩ := q
    rw [cif_pos ⟨j, by omega, h2⟩, cif_pos ⟨j, h1, h2⟩]
  · rw [cif_neg q, cif_neg (fun ⟨j, h1, h2⟩ => q ⟨j, by
      rcases Nat.lt_or_ge j k with z | z
      · exact z
      · exact absurd (by rw [show k = j by omega]; exact h2) h, h2⟩)]
noncomputable def gKl (g : gT) (L : List Nat) : gT := va_up g 11 (fun d => cif (d ∈ L) 1 (g 11 d))
theorem kf_end {g : gT} {L : List Nat} {k : Nat} (h : k = L.length) : va_up g 11 (kf g L k) = gKl g L := by
  unfold gKl
  congr 1
  funext d
  unfold kf
  subst h
  by_cases q : d ∈ L
  · obtain ⟨j, h1, h2⟩ := mem_getD q
    rw [cif_pos q, cif_pos ⟨j, h1, h2⟩]
  · rw [cif_neg q, cif_neg (fun ⟨j, h1, h2⟩ => q (by rw [← h2]; exact getD_mem h1))]
theorem T_21 {g : gT} {kA : Nat → ClassId} {ad : Nat → Nat → Nat} {E : Nat → Nat → va_E} {RL : List (Nat × Nat)} {nd nL n k : Nat} (hnd : nd ≤ 12) (hn : n < nL) (hI : LIs kA ad E RL nd nL) (h : TLas g ad E nd nL) (hk : k < mcv g n) : g 21 (12 * n + k) = nI (mdv g n k) := by
  obtain ⟨_, _, q3, q4⟩ := h n hn
  have q := LIs_12 hI n hn
  unfold mcv at hk
  rw [q3, iN_nI (by omega)] at hk
  obtain ⟨d, q5, q6, _⟩ := q4 k hk
  unfold mdv
  rw [q6, iN_nI (by omega)]
theorem k5z_0 : (Cond.fieldLink "LayerDesk$Layer" 19 "LayerDesk$Layer" "members" "[LLayerDesk$Member;") ∈ wT := wT_t (List.mem_append_right _ (List.mem_append_right _ (List.mem_append_left _ (List.mem_of_getElem? (i := 147) rfl)))) rfl
theorem k5z_1 : (Cond.fieldLink "LayerDesk$Layer" 52 "LayerDesk$Member" "leading" "LLayerDesk$Reach;") ∈ wT := wT_t (List.mem_append_right _ (List.mem_append_right _ (List.mem_append_left _ (List.mem_of_getElem? (i := 188) rfl)))) rfl
theorem k5z_2 : (Cond.code xy_Re_marks xb_Re_marks 2 (some .boolean)) ∈ wT := wT_t (List.mem_append_left _ (List.mem_of_getElem? (i := 177) rfl)) rfl
theorem k5z_3 : (Cond.methodLink "LayerDesk$Layer" 66 xy_Re_marks) ∈ wT := wT_t (List.mem_append_right _ (List.mem_append_right _ (List.mem_append_left _ (List.mem_of_getElem? (i := 230) rfl)))) rfl
theorem k5z_4 : (Cond.instanceMethod xy_Re_marks) ∈ wT := wT_t (List.mem_append_left _ (List.mem_of_getElem? (i := 175) rfl)) rfl
theorem k5z_5 : (Cond.selects "LayerDesk$Reach" xy_Re_marks xy_Re_marks) ∈ wT := wT_t (List.mem_append_left _ (List.mem_of_getElem? (i := 176) rfl)) rfl
theorem k5z_6 : (Cond.initialized "LayerDesk$Reach") ∈ wT := wT_t (List.mem_append_left _ (List.mem_of_getElem? (i := 21) rfl)) rfl
theorem k5z_7 : (Cond.fieldLink "LayerDesk$Layer" 13 "LayerDesk$Layer" "parent" "LLayerDesk$Layer;") ∈ wT := wT_t (List.mem_append_right _ (List.mem_append_right _ (List.mem_append_left _ (List.mem_of_getElem? (i := 143) rfl)))) rfl
theorem k5z_8 : (Cond.code xy_Me_isSplitBy xb_Me_isSplitBy 5 (some .boolean)) ∈ wT := wT_t (List.mem_append_right _ (List.mem_append_right _ (List.mem_append_right _ (List.mem_append_left _ (List.mem_of_getElem? (i := 15) rfl))))) rfl
theorem k5z_9 : (Cond.methodLink "LayerDesk$Layer" 70 xy_Me_isSplitBy) ∈ wT := wT_t (List.mem_append_right _ (List.mem_append_right _ (List.mem_append_right _ (List.mem_append_left _ (List.mem_of_getElem? (i := 12) rfl))))) rfl
theorem k5z_10 : (Cond.instanceMethod xy_Me_isSplitBy) ∈ wT := wT_t (List.mem_append_right _ (List.mem_append_right _ (List.mem_append_right _ (List.mem_append_left _ (List.mem_of_getElem? (i := 13) rfl))))) rfl
theorem k5z_11 : (Cond.selects "LayerDesk$Member" xy_Me_isSplitBy xy_Me_isSplitBy) ∈ wT := wT_t (List.mem_append_right _ (List.mem_append_right _ (List.mem_append_right _ (List.mem_append_left _ (List.mem_of_getElem? (i := 14) rfl))))) rfl
theorem k5z_12 : (Cond.initialized "LayerDesk$Member") ∈ wT := wT_t (List.mem_append_left _ (List.mem_of_getElem? (i := 20) rfl)) rfl
set_option maxHeartbeats 4000000 in
set_option maxRecDepth 100000 in
theorem xc_Ly_hasCycleX (l : Launch) (D : va_G) (kA : Nat → ClassId) (sz : Nat) (ad : Nat → Nat → Nat) (E : Nat → Nat → va_E) (RL : List (Nat × Nat)) (g : Nat → Nat → Int32) (nd : Nat) (nL : Nat) (n : Nat) (hDIs : DIs kA ad E RL nd) (hLIs : LIs kA ad E RL nd nL) (hnL : nL ≤ 6) (hn : n < nL) (hTD : TDs g E nd) (hTL : TLas g ad E nd nL) (hnd12 : nd ≤ 12) : Met l xy_Ly_hasCycle (.code xy_Ly_hasCycle xb_Ly_hasCycle 2 (some .boolean) :: wT) { frames := 1, cells := 0, slots := 0, locals := 21 } (va_Pc [.ref (ad (20 + n) 0)] (xPre D kA sz (rp ad E RL))) (va_Qi (fun (r : Int32) (u : Unit) => (r = 1 ∧ (∃ k8, k8 < mcv g n ∧ BS (eA (E (20 + n) (15 + 10 * k8))) (12 * n + mdv g n k8))) ∨ (r = 0 ∧ ¬ (∃ k8, k8 < mcv g n ∧ BS (eA (E (20 + n) (15 + 10 * k8))) (12 * n + mdv g n k8)))) (fun (u : Unit) t => va_P D xcl (rp ad E RL) t.heap ∧ va_D (va_A (rp ad E RL) sz) (rp ad E RL)) (va_A (rp ad E RL) sz)) 0 0 (va_A (rp ad E RL) sz) := by
  refine Met.ofW (cc := xb_Ly_hasCycle) (maxL := 2) (ret := (some .boolean)) (by decide) rfl ?_
  intro p e s m args below meth c s₁ B hml hv
  obtain ⟨rfl, hsz, hP, hK, hD0⟩ := hv
  have hx := B.exec
  have hb := B.bytes
  have hr := B.returns
  have hT := x_hT B.pre
  have hown : s.vm.findClass xR_Ly = some m.cls := findClass_of_methodNamed B.named
  have hlocks := B.notSynchronized
  subst hsz
  have hD := hD0.self (sz := s.heap.size)
  generalize hAe : va_A (rp ad E RL) s.heap.size = A at hD ⊢
  have hA : ∀ q : Nat, s.heap.size ≤ q → A q := fun q h => by rw [← hAe]; exact Or.inr h
  have hS : va_S A s.heap s.heap [] := va_S.rf
  have hl := lv_entry ([.ref (ad (20 + n) 0)]) (n := 2) (Nat.le_of_ble_eq_true rfl)
  rw [lg_entry_eq]
  generalize (lg_sl ([.ref (ad (20 + n) 0)]) ++ List.replicate (2 - (lg_sl ([.ref (ad (20 + n) 0)])).length) Slot.unset).toArray = ls at hl ⊢
  have hl : lv_has ls 2 [(0, .ref (ad (20 + n) 0))] := hl
  have hP : va_P D xcl (rp ad E RL) s.heap := hP
  refine lv_iconst (v := 0) hx hb xd_Ly_hasCycle_0 (by decide) ?_
  refine lv_istore_n hx hb xd_Ly_hasCycle_1 rfl hl (Nat.le_of_ble_eq_true rfl) rfl (fun ls hl => ?_)
  have hl : lv_has ls 2 [(1, .int 0), (0, .ref (ad (20 + n) 0))] := hl
  obtain ⟨m0_1, m1_1, pv_1, op_1, mk_1, fm_1, hmk_1, hpv_1, q0_1, q1_1, hk_1⟩ := id (hLIs n (by omega))
  have c_2 : E (20 + n) 0 = .inr (5, [.int (nI n), pv_1, .ref (ad (20 + n) 1), .int op_1]) := q0_1
  have m_3 : (20 + n, 0) ∈ RL := m0_1
  have c_4 : E (20 + n) 1 = .inl (kA 6, mk_1, .inr (.inr (.inr (.inr fm_1)))) := q1_1
  have m_5 : (20 + n, 1) ∈ RL := m1_1
  obtain ⟨top_1, ⟨lq_1, hlq_1, h19_1, hpv2_1⟩, h20_1, tmd_1⟩ := TLa_get c_2 c_4 (hTL n (by omega))
  have c_6 : E (20 + n) 0 = .inr (5, [.int (nI n), (lyv ad lq_1), .ref (ad (20 + n) 1), .int op_1]) := by rw [← hpv2_1]; exact c_2
  have i20_1 : iN (g 20 n) = mk_1 := by rw [h20_1, iN_nI (by omega)]
  refine xlab (σ := Nat) (ml := 2) 2 (fun (k : Nat) => [(1, .int (nI k)), (0, .ref (ad (20 + n) 0))]) (fun (k : Nat) => []) (fun (k : Nat) => rp ad E RL) (fun (k : Nat) => (k ≤ mk_1) ∧ (∀ j8, j8 < k → ¬ BS (eA (E (20 + n) (15 + 10 * j8))) (12 * n + mdv g n j8))) (fun (k : Nat) => mk_1 - k) ?_ 0 _ _ _ (lv_sub hl [0, 1] rfl) hP hD hS ⟨(show 0 ≤ mk_1 from by first | assumption | omega), (show ∀ j8, j8 < 0 → ¬ BS (eA (E (20 + n) (15 + 10 * j8))) (12 * n + mdv g n j8) from fun j hj => absurd hj (by omega))⟩
  intro n9 ih7 a9 ls H locs hμ hl hP hD hS hI
  subst hμ
  obtain ⟨k, rfl⟩ : ∃ z, z = a9 := ⟨_, rfl⟩
  obtain ⟨hk, hno⟩ := hI
  have hk : k ≤ mk_1 := hk
  have hno : ∀ j8, j8 < k → ¬ BS (eA (E (20 + n) (15 + 10 * j8))) (12 * n + mdv g n j8) := hno
  have hl : lv_has ls 2 [(1, .int (nI k)), (0, .ref (ad (20 + n) 0))] := hl
  have hP : va_P D xcl (rp ad E RL) H := hP
  have hD : va_D A (rp ad E RL) := hD
  refine lv_iload_n hx hb xd_Ly_hasCycle_2 rfl (lv_at hl 0 rfl) ?_
  refine lv_aload_n hx hb xd_Ly_hasCycle_3 rfl (lv_at hl 1 rfl) ?_
  refine px_get (D := D) (ci := 5) (v := .ref (ad (20 + n) 1)) (C := xR_Ly) (T := xT_Ly) (N := 4) hx hb hT xi_Ly hown hK.1 hP m_3 c_6 rfl 2 (by decide) (hT _ k5z_0) (fun _ h9 => h9) rfl xd_Ly_hasCycle_4 ?_
  refine px_alen hx hb hK.1 hP m_5 c_4 6 rfl xd_Ly_hasCycle_7 ?_
  refine W.eq (g2 := F0 m 8 ls [.int (nI mk_1), .int (nI k)]) rfl ?_
  refine xn_ge (a := k) (b := mk_1) (tgt := 40) hx hb xd_Ly_hasCycle_8 (by decide) (by omega) (by omega) (fun hc8 => ?_) (fun hc8 => ?_)
  · refine lv_iconst (v := 0) hx hb xd_Ly_hasCycle_40 (by decide) ?_
    exact W.zret (v := 0) hx hb hr rfl (fun t ht hW => ⟨⟨0, (), rfl, Or.inr ⟨rfl, fun ⟨k8, q1, q2⟩ => hno k8 (by
        unfold mcv at q1
        rw [h20_1, iN_nI (by omega)] at q1
        omega) q2⟩, by rw [ht]; exact hP, hD⟩, hS.F ht⟩) hS.2.2 xd_Ly_hasCycle_41
  · refine lv_aload_n hx hb xd_Ly_hasCycle_11 rfl (lv_at hl 1 rfl) ?_
    refine px_get (D := D) (ci := 5) (v := .ref (ad (20 + n) 1)) (C := xR_Ly) (T := xT_Ly) (N := 4) hx hb hT xi_Ly hown hK.1 hP m_3 c_6 rfl 2 (by decide) (hT _ k5z_0) (fun _ h9 => h9) rfl xd_Ly_hasCycle_12 ?_
    refine lv_iload_n hx hb xd_Ly_hasCycle_15 rfl (lv_at hl 0 rfl) ?_
    refine px_aald (i := k) (x := (some (ad (20 + n) (10 + 10 * k)))) hx hb hK.1 hP m_5 c_4 6 rfl ((hk_1 k (by omega)).1) (by omega) (by omega) xd_Ly_hasCycle_16 ?_
    obtain ⟨hm_9, d_9, rs_9, fr_9, g2_9, g3_9, g4_9, hd_9, hrs_9, q0_9, q1_9, q2_9, q3_9, q4_9, q5_9, q6_9, q7_9⟩ := (hk_1 k (by omega)).2
    have c_10 : E (20 + n) (10 + 10 * k) = .inr (6, [.ref (ad (20 + n) 0), .ref (ad (1 + d_9) 0), .ref (ad (20 + n) (11 + 10 * k)), .ref (ad (20 + n) (12 + 10 * k)), .ref (ad (20 + n) (13 + 10 * k)), .ref (ad (20 + n) (14 + 10 * k))]) := q0_9
    have m_11 : (20 + n, 10 + 10 * k) ∈ RL := hm_9 0 (by decide)
    have c_12 : E (20 + n) (11 + 10 * k) = .inl (kA 6, rs_9, .inr (.inr (.inr (.inr fr_9)))) := q1_9
    have m_13 : (20 + n, 11 + 10 * k) ∈ RL := hm_9 1 (by decide)
    have c_14 : E (20 + n) (12 + 10 * k) = .inr (10, [.ref (ad (20 + n) (15 + 10 * k))]) := q2_9
    have m_15 : (20 + n, 12 + 10 * k) ∈ RL := hm_9 2 (by decide)
    have c_16 : E (20 + n) (13 + 10 * k) = .inr (10, [.ref (ad (20 + n) (16 + 10 * k))]) := q3_9
    have m_17 : (20 + n, 13 + 10 * k) ∈ RL := hm_9 3 (by decide)
    have c_18 : E (20 + n) (14 + 10 * k) = .inr (10, [.ref (ad (20 + n) (17 + 10 * k))]) := q4_9
    have m_19 : (20 + n, 14 + 10 * k) ∈ RL := hm_9 4 (by decide)
    have c_20 : E (20 + n) (15 + 10 * k) = .inl (kA 0, 6, .inl g2_9) := q5_9
    have m_21 : (20 + n, 15 + 10 * k) ∈ RL := hm_9 5 (by decide)
    have c_22 : E (20 + n) (16 + 10 * k) = .inl (kA 0, 6, .inl g3_9) := q6_9
    have m_23 : (20 + n, 16 + 10 * k) ∈ RL := hm_9 6 (by decide)
    have c_24 : E (20 + n) (17 + 10 * k) = .inl (kA 0, 6, .inl g4_9) := q7_9
    have m_25 : (20 + n, 17 + 10 * k) ∈ RL := hm_9 7 (by decide)
    have hdm_9 : mdv g n k = d_9 := by
      obtain ⟨dz, hdz, h21z, hvz⟩ := tmd_1 k (by omega)
      rw [c_10] at hvz
      have ez := (rp_inj hD ((hDIs d_9 hd_9).1 0 (by omega)) ((hDIs dz hdz).1 0 (by omega)) (Value.ref.inj hvz)).1
      unfold mdv
      rw [h21z, iN_nI (by omega)]; omega
    refine px_get (D := D) (ci := 6) (v := .ref (ad (20 + n) (12 + 10 * k))) (C := xR_Me) (T := xT_Me) (N := 6) hx hb hT xi_Me hown hK.1 hP m_11 c_10 rfl 3 (by decide) (hT _ k5z_1) (fun _ h9 => h9) rfl xd_Ly_hasCycle_17 ?_
    refine lv_aload_n hx hb xd_Ly_hasCycle_20 rfl (lv_at hl 1 rfl) ?_
    refine px_get (D := D) (ci := 5) (v := .ref (ad (20 + n) 1)) (C := xR_Ly) (T := xT_Ly) (N := 4) hx hb hT xi_Ly hown hK.1 hP m_3 c_6 rfl 2 (by decide) (hT _ k5z_0) (fun _ h9 => h9) rfl xd_Ly_hasCycle_21 ?_
    refine lv_iload_n hx hb xd_Ly_hasCycle_24 rfl (lv_at hl 0 rfl) ?_
    refine px_aald (i := k) (x := (some (ad (20 + n) (10 + 10 * k)))) hx hb hK.1 hP m_5 c_4 6 rfl ((hk_1 k (by omega)).1) (by omega) (by omega) xd_Ly_hasCycle_25 ?_
    obtain ⟨hm_26, fd_26, nm_26, sd_26, k0_26, k1_26, k2_26, k3_26, f0_26, f1_26, f2_26, f3_26, fe_26, fo_26, tr_26, op_26, hk0_26, hk1_26, hk2_26, hk3_26, q0_26, q1_26, q2_26, q3_26, q4_26, q5_26, q6_26, q7_26, q8_26, q9_26, q10_26, q11_26, q12_26, hg_26⟩ := id (hDIs d_9 (by omega))
    have c_27 : E (1 + d_9) 0 = .inr (7, [.int (nI d_9), .int fd_26, .int nm_26, .ref (ad (1 + d_9) 1), .ref (ad (1 + d_9) 9), .ref (ad (1 + d_9) 10), .ref (ad (1 + d_9) 2), .ref (ad (1 + d_9) 11), .ref (ad (1 + d_9) 12), .ref (ad (1 + d_9) 3), .ref (ad (1 + d_9) 4), .int sd_26]) := q0_26
    have m_28 : (1 + d_9, 0) ∈ RL := hm_26 0 (by decide)
    have c_29 : E (1 + d_9) 1 = .inr (8, [.ref (ad (1 + d_9) 5), .int (nI k0_26)]) := q1_26
    have m_30 : (1 + d_9, 1) ∈ RL := hm_26 1 (by decide)
    have c_31 : E (1 + d_9) 2 = .inr (8, [.ref (ad (1 + d_9) 6), .int (nI k1_26)]) := q2_26
    have m_32 : (1 + d_9, 2) ∈ RL := hm_26 2 (by decide)
    have c_33 : E (1 + d_9) 3 = .inr (8, [.ref (ad (1 + d_9) 7), .int (nI k2_26)]) := q3_26
    have m_34 : (1 + d_9, 3) ∈ RL := hm_26 3 (by decide)
    have c_35 : E (1 + d_9) 4 = .inr (8, [.ref (ad (1 + d_9) 8), .int (nI k3_26)]) := q4_26
    have m_36 : (1 + d_9, 4) ∈ RL := hm_26 4 (by decide)
    have c_37 : E (1 + d_9) 5 = .inl (kA 0, 6, .inl f0_26) := q5_26
    have m_38 : (1 + d_9, 5) ∈ RL := hm_26 5 (by decide)
    have c_39 : E (1 + d_9) 6 = .inl (kA 0, 5, .inl f1_26) := q6_26
    have m_40 : (1 + d_9, 6) ∈ RL := hm_26 6 (by decide)
    have c_41 : E (1 + d_9) 7 = .inl (kA 0, 3, .inl f2_26) := q7_26
    have m_42 : (1 + d_9, 7) ∈ RL := hm_26 7 (by decide)
    have c_43 : E (1 + d_9) 8 = .inl (kA 0, 3, .inl f3_26) := q8_26
    have m_44 : (1 + d_9, 8) ∈ RL := hm_26 8 (by decide)
    have c_45 : E (1 + d_9) 9 = .inl (kA 8, 6, .inr (.inr (.inr (.inr fe_26)))) := q9_26
    have m_46 : (1 + d_9, 9) ∈ RL := hm_26 9 (by decide)
    have c_47 : E (1 + d_9) 10 = .inl (kA 8, 6, .inr (.inr (.inr (.inr fo_26)))) := q10_26
    have m_48 : (1 + d_9, 10) ∈ RL := hm_26 10 (by decide)
    have c_49 : E (1 + d_9) 11 = .inl (kA 2, 5, .inl tr_26) := q11_26
    have m_50 : (1 + d_9, 11) ∈ RL := hm_26 11 (by decide)
    have c_51 : E (1 + d_9) 12 = .inl (kA 2, 5, .inl op_26) := q12_26
    have m_52 : (1 + d_9, 12) ∈ RL := hm_26 12 (by decide)
    have hg_26 : ∀ w9, w9 < k0_26 → fe_26 w9 = some (ad (1 + d_9) (20 + 3 * w9)) ∧ fo_26 w9 = some (ad (1 + d_9) (38 + 3 * w9)) ∧ GI kA (ad (1 + d_9)) (E (1 + d_9)) (fun o => (1 + d_9, o) ∈ RL) (20 + 3 * w9) (21 + 3 * w9) (22 + 3 * w9) ∧ GI kA (ad (1 + d_9)) (E (1 + d_9)) (fun o => (1 + d_9, o) ∈ RL) (38 + 3 * w9) (39 + 3 * w9) (40 + 3 * w9) := hg_26
    obtain ⟨hTT_26, tgr_26⟩ := TD_get hk0_26 hk1_26 hk2_26 hk3_26 c_27 c_29 c_31 c_33 c_35 c_37 c_39 c_41 c_43 c_49 c_51 (hTD d_9 (by omega))
    obtain ⟨tfd_26, tnm_26, tsd_26, tk0_26, tf0_26, tk1_26, tf1_26, tk2_26, tk3_26⟩ := id hTT_26
    have ik0_26 : iN (g 5 d_9) = k0_26 := by rw [← tk0_26, iN_nI (by omega)]
    have ik1_26 : iN (g 12 d_9) = k1_26 := by rw [← tk1_26, iN_nI (by omega)]
    have hFc := px_free hD hS hA
    refine va_calli (va_runV (As := [.ref (ad (20 + n) (10 + 10 * k))]) (rest := []) ⟨hx, hb, hml, hown, hT⟩ (xc_Re_marks l D kA H.size ad E RL (20 + n) (12 + 10 * k) (15 + 10 * k) g2_9 n k d_9 (lyv ad lq_1) op_1 fd_26 nm_26 sd_26 m_15 c_14 m_21 c_20 m_11 c_10 m_3 c_6 m_28 c_27 (by first | assumption | omega)) (cwV 1 hT (wT_V k5z_3 k5z_4 k5z_5 k5z_6 k5z_2) rfl rfl rfl (by decide +kernel) ⟨Nat.le_of_ble_eq_true rfl, Nat.le_of_ble_eq_true rfl⟩) (px_preV hK hP hD m_15 c_14 rfl) rfl rfl hl.1 rfl (lv_room (Nat.le_of_ble_eq_true rfl)) xd_Ly_hasCycle_26 ⟨(Nat.le_of_ble_eq_true rfl), (Nat.le_of_ble_eq_true rfl)⟩) hS (fun q _ h => hFc q h) hFc (fun r53 u54 t H1 locs ht hvm hp55 hB hz1 hk1 hS => ?_)
    obtain ⟨hP1, hD1⟩ := hB
    rw [ht] at hP1
    have hD1 := hD1.weaken (fun _ _ _ h => hFc _ h)
    generalize H1 = H at hP1 hS ⊢
    have hP := hP1
    have hD := hD1
    have hP : va_P D xcl (rp ad E RL) H := hP
    have hD : va_D A (rp ad E RL) := hD
    rcases hp55 with ⟨rfl, z56⟩ | ⟨rfl, z57⟩
    · refine W.eq (g2 := F0 m 29 ls [.int 1]) rfl ?_
      refine lv_if_eq (tgt := 34) hx hb xd_Ly_hasCycle_29 (by decide) (fun hc58 => absurd hc58 (by decide)) (fun _ => ?_)
      refine lv_iconst (v := 1) hx hb xd_Ly_hasCycle_32 (by decide) ?_
      exact W.zret (v := 1) hx hb hr rfl (fun t ht hW => ⟨⟨1, (), rfl, Or.inl ⟨rfl, k, (by unfold mcv; rw [h20_1, iN_nI (by omega)]; omega), (show BS (eA (E (20 + n) (15 + 10 * k))) (12 * n + mdv g n k) ↔ ¬ ((g2_9 n >>> (nI d_9 &&& 31)) &&& 1) = 0 from by
          rw [hdm_9, show eA (E (20 + n) (15 + 10 * k)) = g2_9 from by rw [c_20]; rfl]
          exact (BS_marks (by omega)).symm).mpr z56⟩, by rw [ht]; exact hP, hD⟩, hS.F ht⟩) hS.2.2 xd_Ly_hasCycle_33
    · refine W.eq (g2 := F0 m 29 ls [.int 0]) rfl ?_
      refine lv_if_eq (tgt := 34) hx hb xd_Ly_hasCycle_29 (by decide) (fun _ => ?_) (fun hc59 => absurd (by decide) hc59)
      refine lv_iinc (k := 0) (x := (nI k)) (v := (nI (k + 1))) hx hb xd_Ly_hasCycle_34 hl rfl (xb_inc k 1) (Nat.le_of_ble_eq_true rfl) rfl (fun ls hl => ?_)
      have hl : lv_has ls 2 [(1, .int (nI (k + 1))), (0, .ref (ad (20 + n) 0))] := hl
      refine lv_goto (tgt := 2) hx hb xd_Ly_hasCycle_37 (by decide) ?_
      exact ih7 (k + 1) _ _ _ (show mk_1 - (k + 1) < mk_1 - k by omega) (lv_sub hl [0, 1] rfl) hP hD hS ⟨(show (k + 1) ≤ mk_1 from by first | assumption | omega), (show ∀ j8, j8 < (k + 1) → ¬ BS (eA (E (20 + n) (15 + 10 * j8))) (12 * n + mdv g n j8) from fun j hj => by
        rcases Nat.lt_or_ge j k with z | z
        · exact hno j z
        · rw [show j = k by omega]
          exact fun q => absurd z57 ((show BS (eA (E (20 + n) (15 + 10 * k))) (12 * n + mdv g n k) ↔ ¬ ((g2_9 n >>> (nI d_9 &&& 31)) &&& 1) = 0 from by
          rw [hdm_9, show eA (E (20 + n) (15 + 10 * k)) = g2_9 from by rw [c_20]; rfl]
          exact (BS_marks (by omega)).symm).mp q))⟩
set_option maxHeartbeats 4000000 in
set_option maxRecDepth 100000 in
theorem xc_Ly_hasSplitX (l : Launch) (D : va_G) (kA : Nat → ClassId) (sz : Nat) (ad : Nat → Nat → Nat) (E : Nat → Nat → va_E) (RL : List (Nat × Nat)) (g : Nat → Nat → Int32) (nd : Nat) (nL : Nat) (n : Nat) (hDIs : DIs kA ad E RL nd) (hLIs : LIs kA ad E RL nd nL) (hnL : nL ≤ 6) (hn : n < nL) (hTD : TDs g E nd) (hTL : TLas g ad E nd nL) (hnd12 : nd ≤ 12) (hNZ : NZ g nd) : Met l xy_Ly_hasSplit (.code xy_Ly_hasSplit xb_Ly_hasSplit 4 (some .boolean) :: wT) { frames := 5, cells := 0, slots := 0, locals := 114 } (va_Pc [.ref (ad (20 + n) 0)] (xPre D kA sz (rp ad E RL))) (va_Qi (fun (r : Int32) (u : Unit) => (r = 1 ∧ (∃ k8, k8 < mcv g n ∧ ∃ la8, Ch (prv g) (n + 1) la8 ∧ ∃ j8, j8 < mcv g la8 ∧ SB g (RWb E n k8) n (mdv g n k8) la8 j8)) ∨ (r = 0 ∧ ¬ (∃ k8, k8 < mcv g n ∧ ∃ la8, Ch (prv g) (n + 1) la8 ∧ ∃ j8, j8 < mcv g la8 ∧ SB g (RWb E n k8) n (mdv g n k8) la8 j8))) (fun (u : Unit) t => va_P D xcl (rp ad E RL) t.heap ∧ va_D (va_A (rp ad E RL) sz) (rp ad E RL)) (va_A (rp ad E RL) sz)) 0 0 (va_A (rp ad E RL) sz) := by
  refine Met.ofW (cc := xb_Ly_hasSplit) (maxL := 4) (ret := (some .boolean)) (by decide) rfl ?_
  intro p e s m args below meth c s₁ B hml hv
  obtain ⟨rfl, hsz, hP, hK, hD0⟩ := hv
  have hx := B.exec
  have hb := B.bytes
  have hr := B.returns
  have hT := x_hT B.pre
  have hown : s.vm.findClass xR_Ly = some m.cls := findClass_of_methodNamed B.named
  have hlocks := B.notSynchronized
  subst hsz
  have hD := hD0.self (sz := s.heap.size)
  generalize hAe : va_A (rp ad E RL) s.heap.size = A at hD ⊢
  have hA : ∀ q : Nat, s.heap.size ≤ q → A q := fun q h => by rw [← hAe]; exact Or.inr h
  have hS : va_S A s.heap s.heap [] := va_S.rf
  have hl := lv_entry ([.ref (ad (20 + n) 0)]) (n := 4) (Nat.le_of_ble_eq_true rfl)
  rw [lg_entry_eq]
  generalize (lg_sl ([.ref (ad (20 + n) 0)]) ++ List.replicate (4 - (lg_sl ([.ref (ad (20 + n) 0)])).length) Slot.unset).toArray = ls at hl ⊢
  have hl : lv_has ls 4 [(0, .ref (ad (20 + n) 0))] := hl
  have hP : va_P D xcl (rp ad E RL) s.heap := hP
  refine lv_iconst (v := 0) hx hb xd_Ly_hasSplit_0 (by decide) ?_
  refine lv_istore_n hx hb xd_Ly_hasSplit_1 rfl hl (Nat.le_of_ble_eq_true rfl) rfl (fun ls hl => ?_)
  have hl : lv_has ls 4 [(1, .int 0), (0, .ref (ad (20 + n) 0))] := hl
  obtain ⟨m0_1, m1_1, pv_1, op_1, mk_1, fm_1, hmk_1, hpv_1, q0_1, q1_1, hk_1⟩ := id (hLIs n (by omega))
  have c_2 : E (20 + n) 0 = .inr (5, [.int (nI n), pv_1, .ref (ad (20 + n) 1), .int op_1]) := q0_1
  have m_3 : (20 + n, 0) ∈ RL := m0_1
  have c_4 : E (20 + n) 1 = .inl (kA 6, mk_1, .inr (.inr (.inr (.inr fm_1)))) := q1_1
  have m_5 : (20 + n, 1) ∈ RL := m1_1
  obtain ⟨top_1, ⟨lq_1, hlq_1, h19_1, hpv2_1⟩, h20_1, tmd_1⟩ := TLa_get c_2 c_4 (hTL n (by omega))
  have c_6 : E (20 + n) 0 = .inr (5, [.int (nI n), (lyv ad lq_1), .ref (ad (20 + n) 1), .int op_1]) := by rw [← hpv2_1]; exact c_2
  have i20_1 : iN (g 20 n) = mk_1 := by rw [h20_1, iN_nI (by omega)]
  refine xlab (σ := Nat) (ml := 4) 2 (fun (k : Nat) => [(1, .int (nI k)), (0, .ref (ad (20 + n) 0))]) (fun (k : Nat) => []) (fun (k : Nat) => rp ad E RL) (fun (k : Nat) => (k ≤ mk_1) ∧ (∀ k8, k8 < k → ∀ la8, Ch (prv g) (n + 1) la8 → ∀ j8, j8 < mcv g la8 → ¬ SB g (RWb E n k8) n (mdv g n k8) la8 j8)) (fun (k : Nat) => mk_1 - k) ?_ 0 _ _ _ (lv_sub hl [0, 1] rfl) hP hD hS ⟨(show 0 ≤ mk_1 from by first | assumption | omega), (show ∀ k8, k8 < 0 → ∀ la8, Ch (prv g) (n + 1) la8 → ∀ j8, j8 < mcv g la8 → ¬ SB g (RWb E n k8) n (mdv g n k8) la8 j8 from fun k8 hk8 => absurd hk8 (by omega))⟩
  intro n9 ih7 a9 ls H locs hμ hl hP hD hS hI
  subst hμ
  obtain ⟨k, rfl⟩ : ∃ z, z = a9 := ⟨_, rfl⟩
  obtain ⟨hk, hno2⟩ := hI
  have hk : k ≤ mk_1 := hk
  have hno2 : ∀ k8, k8 < k → ∀ la8, Ch (prv g) (n + 1) la8 → ∀ j8, j8 < mcv g la8 → ¬ SB g (RWb E n k8) n (mdv g n k8) la8 j8 := hno2
  have hl : lv_has ls 4 [(1, .int (nI k)), (0, .ref (ad (20 + n) 0))] := hl
  have hP : va_P D xcl (rp ad E RL) H := hP
  have hD : va_D A (rp ad E RL) := hD
  refine lv_iload_n hx hb xd_Ly_hasSplit_2 rfl (lv_at hl 0 rfl) ?_
  refine lv_aload_n hx hb xd_Ly_hasSplit_3 rfl (lv_at hl 1 rfl) ?_
  refine px_get (D := D) (ci := 5) (v := .ref (ad (20 + n) 1)) (C := xR_Ly) (T := xT_Ly) (N := 4) hx hb hT xi_Ly hown hK.1 hP m_3 c_6 rfl 2 (by decide) (hT _ k5z_0) (fun _ h9 => h9) rfl xd_Ly_hasSplit_4 ?_
  refine px_alen hx hb hK.1 hP m_5 c_4 6 rfl xd_Ly_hasSplit_7 ?_
  refine W.eq (g2 := F0 m 8 ls [.int (nI mk_1), .int (nI k)]) rfl ?_
  refine xn_ge (a := k) (b := mk_1) (tgt := 68) hx hb xd_Ly_hasSplit_8 (by decide) (by omega) (by omega) (fun hc8 => ?_) (fun hc8 => ?_)
  · refine lv_iconst (v := 0) hx hb xd_Ly_hasSplit_68 (by decide) ?_
    exact W.zret (v := 0) hx hb hr rfl (fun t ht hW => ⟨⟨0, (), rfl, Or.inr ⟨rfl, fun ⟨k8, q1, la8, q2, j8, q3, q4⟩ => hno2 k8 (by
        unfold mcv at q1
        rw [h20_1, iN_nI (by omega)] at q1
        omega) la8 q2 j8 q3 q4⟩, by rw [ht]; exact hP, hD⟩, hS.F ht⟩) hS.2.2 xd_Ly_hasSplit_69
  · refine lv_aload_n hx hb xd_Ly_hasSplit_11 rfl (lv_at hl 1 rfl) ?_
    refine lv_astore_n hx hb xd_Ly_hasSplit_12 rfl hl (Nat.le_of_ble_eq_true rfl) rfl (fun ls hl => ?_)
    have hl : lv_has ls 4 [(2, .ref (ad (20 + n) 0)), (1, .int (nI k)), (0, .ref (ad (20 + n) 0))] := hl
    refine xlab (σ := Nat) (ml := 4) 13 (fun (y : Nat) => [(2, (lyv ad y)), (1, .int (nI k)), (0, .ref (ad (20 + n) 0))]) (fun (y : Nat) => []) (fun (y : Nat) => rp ad E RL) (fun (y : Nat) => (y ≤ n + 1) ∧ ((∀ la8, Ch (prv g) y la8 → ∀ j8, j8 < mcv g la8 → ¬ SB g (RWb E n k) n (mdv g n k) la8 j8) → ∀ la8, Ch (prv g) (n + 1) la8 → ∀ j8, j8 < mcv g la8 → ¬ SB g (RWb E n k) n (mdv g n k) la8 j8) ∧ (∀ la8, Ch (prv g) y la8 → Ch (prv g) (n + 1) la8)) (fun (y : Nat) => y) ?_ (n + 1) _ _ _ (lv_sub hl [0, 1, 2] rfl) hP hD hS ⟨(show (n + 1) ≤ n + 1 from by first | assumption | omega), (show (∀ la8, Ch (prv g) (n + 1) la8 → ∀ j8, j8 < mcv g la8 → ¬ SB g (RWb E n k) n (mdv g n k) la8 j8) → ∀ la8, Ch (prv g) (n + 1) la8 → ∀ j8, j8 < mcv g la8 → ¬ SB g (RWb E n k) n (mdv g n k) la8 j8 from fun q => q), (show ∀ la8, Ch (prv g) (n + 1) la8 → Ch (prv g) (n + 1) la8 from fun la8 hc => hc)⟩
    intro n9 ih9 a9 ls H locs hμ hl hP hD hS hI
    subst hμ
    obtain ⟨y, rfl⟩ : ∃ z, z = a9 := ⟨_, rfl⟩
    obtain ⟨hy, hN13, hC13⟩ := hI
    have hy : y ≤ n + 1 := hy
    have hN13 : (∀ la8, Ch (prv g) y la8 → ∀ j8, j8 < mcv g la8 → ¬ SB g (RWb E n k) n (mdv g n k) la8 j8) → ∀ la8, Ch (prv g) (n + 1) la8 → ∀ j8, j8 < mcv g la8 → ¬ SB g (RWb E n k) n (mdv g n k) la8 j8 := hN13
    have hC13 : ∀ la8, Ch (prv g) y la8 → Ch (prv g) (n + 1) la8 := hC13
    have hl : lv_has ls 4 [(2, (lyv ad y)), (1, .int (nI k)), (0, .ref (ad (20 + n) 0))] := hl
    have hP : va_P D xcl (rp ad E RL) H := hP
    have hD : va_D A (rp ad E RL) := hD
    rcases y with _ | y
    · have hl : lv_has ls 4 [(2, .null), (1, .int (nI k)), (0, .ref (ad (20 + n) 0))] := hl
      refine lv_aload_nN hx hb xd_Ly_hasSplit_13 rfl (lv_at hl 0 rfl) ?_
      refine lv_ifnullN (tgt := 62) hx hb xd_Ly_hasSplit_14 (by decide) ?_
      refine lv_iinc (k := 1) (x := (nI k)) (v := (nI (k + 1))) hx hb xd_Ly_hasSplit_62 hl rfl (xb_inc k 1) (Nat.le_of_ble_eq_true rfl) rfl (fun ls hl => ?_)
      have hl : lv_has ls 4 [(1, .int (nI (k + 1))), (2, .null), (0, .ref (ad (20 + n) 0))] := hl
      refine lv_goto (tgt := 2) hx hb xd_Ly_hasSplit_65 (by decide) ?_
      exact ih7 (k + 1) _ _ _ (show mk_1 - (k + 1) < mk_1 - k by omega) (lv_sub hl [0, 2] rfl) hP hD hS ⟨(show (k + 1) ≤ mk_1 from by first | assumption | omega), (show ∀ k8, k8 < (k + 1) → ∀ la8, Ch (prv g) (n + 1) la8 → ∀ j8, j8 < mcv g la8 → ¬ SB g (RWb E n k8) n (mdv g n k8) la8 j8 from fun k8 hk8 => by
        rcases Nat.lt_or_ge k8 k with z | z
        · exact hno2 k8 z
        · rw [show k8 = k by omega]; exact hN13 (fun la8 hc => absurd hc Ch_0))⟩
    · have hl : lv_has ls 4 [(2, .ref (ad (20 + y) 0)), (1, .int (nI k)), (0, .ref (ad (20 + n) 0))] := hl
      refine lv_aload_n hx hb xd_Ly_hasSplit_13 rfl (lv_at hl 0 rfl) ?_
      refine lv_ifnull hx hb xd_Ly_hasSplit_14 ?_
      refine lv_iconst (v := 0) hx hb xd_Ly_hasSplit_17 (by decide) ?_
      refine lv_istore_n hx hb xd_Ly_hasSplit_18 rfl hl (Nat.le_of_ble_eq_true rfl) rfl (fun ls hl => ?_)
      have hl : lv_has ls 4 [(3, .int 0), (2, .ref (ad (20 + y) 0)), (1, .int (nI k)), (0, .ref (ad (20 + n) 0))] := hl
      obtain ⟨m0_10, m1_10, pv_10, op_10, mk_10, fm_10, hmk_10, hpv_10, q0_10, q1_10, hk_10⟩ := id (hLIs y (by omega))
      have c_11 : E (20 + y) 0 = .inr (5, [.int (nI y), pv_10, .ref (ad (20 + y) 1), .int op_10]) := q0_10
      have m_12 : (20 + y, 0) ∈ RL := m0_10
      have c_13 : E (20 + y) 1 = .inl (kA 6, mk_10, .inr (.inr (.inr (.inr fm_10)))) := q1_10
      have m_14 : (20 + y, 1) ∈ RL := m1_10
      obtain ⟨top_10, ⟨lq_10, hlq_10, h19_10, hpv2_10⟩, h20_10, tmd_10⟩ := TLa_get c_11 c_13 (hTL y (by omega))
      have c_15 : E (20 + y) 0 = .inr (5, [.int (nI y), (lyv ad lq_10), .ref (ad (20 + y) 1), .int op_10]) := by rw [← hpv2_10]; exact c_11
      have i20_10 : iN (g 20 y) = mk_10 := by rw [h20_10, iN_nI (by omega)]
      refine xlab (σ := Nat) (ml := 4) 19 (fun (k3 : Nat) => [(3, .int (nI k3)), (2, .ref (ad (20 + y) 0)), (1, .int (nI k)), (0, .ref (ad (20 + n) 0))]) (fun (k3 : Nat) => []) (fun (k3 : Nat) => rp ad E RL) (fun (k3 : Nat) => (k3 ≤ mk_10) ∧ (∀ j8, j8 < k3 → ¬ SB g (RWb E n k) n (mdv g n k) y j8)) (fun (k3 : Nat) => mk_10 - k3) ?_ 0 _ _ _ (lv_sub hl [0, 1, 2, 3] rfl) hP hD hS ⟨(show 0 ≤ mk_10 from by first | assumption | omega), (show ∀ j8, j8 < 0 → ¬ SB g (RWb E n k) n (mdv g n k) y j8 from fun j hj => absurd hj (by omega))⟩
      intro n9 ih16 a9 ls H locs hμ hl hP hD hS hI
      subst hμ
      obtain ⟨k3, rfl⟩ : ∃ z, z = a9 := ⟨_, rfl⟩
      obtain ⟨hk3, hno3⟩ := hI
      have hk3 : k3 ≤ mk_10 := hk3
      have hno3 : ∀ j8, j8 < k3 → ¬ SB g (RWb E n k) n (mdv g n k) y j8 := hno3
      have hl : lv_has ls 4 [(3, .int (nI k3)), (2, .ref (ad (20 + y) 0)), (1, .int (nI k)), (0, .ref (ad (20 + n) 0))] := hl
      have hP : va_P D xcl (rp ad E RL) H := hP
      have hD : va_D A (rp ad E RL) := hD
      refine lv_iload_n hx hb xd_Ly_hasSplit_19 rfl (lv_at hl 0 rfl) ?_
      refine lv_aload_n hx hb xd_Ly_hasSplit_20 rfl (lv_at hl 1 rfl) ?_
      refine px_get (D := D) (ci := 5) (v := .ref (ad (20 + y) 1)) (C := xR_Ly) (T := xT_Ly) (N := 4) hx hb hT xi_Ly hown hK.1 hP m_12 c_15 rfl 2 (by decide) (hT _ k5z_0) (fun _ h9 => h9) rfl xd_Ly_hasSplit_21 ?_
      refine px_alen hx hb hK.1 hP m_14 c_13 6 rfl xd_Ly_hasSplit_24 ?_
      refine W.eq (g2 := F0 m 25 ls [.int (nI mk_10), .int (nI k3)]) rfl ?_
      refine xn_ge (a := k3) (b := mk_10) (tgt := 54) hx hb xd_Ly_hasSplit_25 (by decide) (by omega) (by omega) (fun hc17 => ?_) (fun hc17 => ?_)
      · refine lv_aload_n hx hb xd_Ly_hasSplit_54 rfl (lv_at hl 1 rfl) ?_
        refine px_get (D := D) (ci := 5) (v := (lyv ad lq_10)) (C := xR_Ly) (T := xT_Ly) (N := 4) hx hb hT xi_Ly hown hK.1 hP m_12 c_15 rfl 1 (by decide) (hT _ k5z_7) (fun _ h9 => h9) rfl xd_Ly_hasSplit_55 ?_
        rcases (show lq_10 = 0 ∨ ∃ yq, lq_10 = yq + 1 from by rcases Nat.eq_zero_or_pos lq_10 with q | q; exact Or.inl q; exact Or.inr ⟨lq_10 - 1, by omega⟩) with hyq | ⟨yq, hyq⟩
        · refine W.eq (g2 := F0 m 58 ls [.null]) (by rw [lyv_0 hyq]) ?_
          refine lv_astore_nN hx hb xd_Ly_hasSplit_58 rfl hl (Nat.le_of_ble_eq_true rfl) rfl (fun ls hl => ?_)
          have hl : lv_has ls 4 [(2, .null), (3, .int (nI k3)), (1, .int (nI k)), (0, .ref (ad (20 + n) 0))] := hl
          refine lv_goto (tgt := 13) hx hb xd_Ly_hasSplit_59 (by decide) ?_
          exact ih9 0 _ _ _ (show 0 < y + 1 by omega) (lv_sub hl [0, 2, 3] rfl) hP hD hS ⟨(show 0 ≤ n + 1 from by first | assumption | omega), (show (∀ la8, Ch (prv g) 0 la8 → ∀ j8, j8 < mcv g la8 → ¬ SB g (RWb E n k) n (mdv g n k) la8 j8) → ∀ la8, Ch (prv g) (n + 1) la8 → ∀ j8, j8 < mcv g la8 → ¬ SB g (RWb E n k) n (mdv g n k) la8 j8 from fun q => hN13 (fun la8 hc j8 hj8 => by
        rcases Ch_s.mp hc with e | c9
        · rw [e] at hj8 ⊢
          exact hno3 j8 (by
            unfold mcv at hj8
            rw [h20_10, iN_nI (by omega)] at hj8
            omega)
        · rw [prv_of h19_10 (by omega), hyq] at c9
          exact q la8 c9 j8 hj8)), (show ∀ la8, Ch (prv g) 0 la8 → Ch (prv g) (n + 1) la8 from fun la8 hc => hC13 la8 (Ch_s.mpr (Or.inr (by rw [prv_of h19_10 (by omega), hyq]; exact hc))))⟩
        · refine W.eq (g2 := F0 m 58 ls [.ref (ad (20 + yq) 0)]) (by rw [lyv_s hyq]) ?_
          refine lv_astore_n hx hb xd_Ly_hasSplit_58 rfl hl (Nat.le_of_ble_eq_true rfl) rfl (fun ls hl => ?_)
          have hl : lv_has ls 4 [(2, .ref (ad (20 + yq) 0)), (3, .int (nI k3)), (1, .int (nI k)), (0, .ref (ad (20 + n) 0))] := hl
          refine lv_goto (tgt := 13) hx hb xd_Ly_hasSplit_59 (by decide) ?_
          exact ih9 (yq + 1) _ _ _ (show (yq + 1) < y + 1 by omega) (lv_sub hl [0, 2, 3] rfl) hP hD hS ⟨(show (yq + 1) ≤ n + 1 from by first | assumption | omega), (show (∀ la8, Ch (prv g) (yq + 1) la8 → ∀ j8, j8 < mcv g la8 → ¬ SB g (RWb E n k) n (mdv g n k) la8 j8) → ∀ la8, Ch (prv g) (n + 1) la8 → ∀ j8, j8 < mcv g la8 → ¬ SB g (RWb E n k) n (mdv g n k) la8 j8 from fun q => hN13 (fun la8 hc j8 hj8 => by
        rcases Ch_s.mp hc with e | c9
        · rw [e] at hj8 ⊢
          exact hno3 j8 (by
            unfold mcv at hj8
            rw [h20_10, iN_nI (by omega)] at hj8
            omega)
        · rw [prv_of h19_10 (by omega), hyq] at c9
          exact q la8 c9 j8 hj8)), (show ∀ la8, Ch (prv g) (yq + 1) la8 → Ch (prv g) (n + 1) la8 from fun la8 hc => hC13 la8 (Ch_s.mpr (Or.inr (by rw [prv_of h19_10 (by omega), hyq]; exact hc))))⟩
      · refine lv_aload_n hx hb xd_Ly_hasSplit_28 rfl (lv_at hl 3 rfl) ?_
        refine px_get (D := D) (ci := 5) (v := .ref (ad (20 + n) 1)) (C := xR_Ly) (T := xT_Ly) (N := 4) hx hb hT xi_Ly hown hK.1 hP m_3 c_6 rfl 2 (by decide) (hT _ k5z_0) (fun _ h9 => h9) rfl xd_Ly_hasSplit_29 ?_
        refine lv_iload_n hx hb xd_Ly_hasSplit_32 rfl (lv_at hl 2 rfl) ?_
        refine px_aald (i := k) (x := (some (ad (20 + n) (10 + 10 * k)))) hx hb hK.1 hP m_5 c_4 6 rfl ((hk_1 k (by omega)).1) (by omega) (by omega) xd_Ly_hasSplit_33 ?_
        refine lv_aload_n hx hb xd_Ly_hasSplit_34 rfl (lv_at hl 1 rfl) ?_
        refine px_get (D := D) (ci := 5) (v := .ref (ad (20 + y) 1)) (C := xR_Ly) (T := xT_Ly) (N := 4) hx hb hT xi_Ly hown hK.1 hP m_12 c_15 rfl 2 (by decide) (hT _ k5z_0) (fun _ h9 => h9) rfl xd_Ly_hasSplit_35 ?_
        refine lv_iload_n hx hb xd_Ly_hasSplit_38 rfl (lv_at hl 0 rfl) ?_
        refine px_aald (i := k3) (x := (some (ad (20 + y) (10 + 10 * k3)))) hx hb hK.1 hP m_14 c_13 6 rfl ((hk_10 k3 (by omega)).1) (by omega) (by omega) xd_Ly_hasSplit_39 ?_
        have hFc := px_free hD hS hA
        obtain ⟨hm_18, d_18, rs_18, fr_18, g2_18, g3_18, g4_18, hd_18, hrs_18, q0_18, q1_18, q2_18, q3_18, q4_18, q5_18, q6_18, q7_18⟩ := (hk_1 k (by omega)).2
        have c_19 : E (20 + n) (10 + 10 * k) = .inr (6, [.ref (ad (20 + n) 0), .ref (ad (1 + d_18) 0), .ref (ad (20 + n) (11 + 10 * k)), .ref (ad (20 + n) (12 + 10 * k)), .ref (ad (20 + n) (13 + 10 * k)), .ref (ad (20 + n) (14 + 10 * k))]) := q0_18
        have m_20 : (20 + n, 10 + 10 * k) ∈ RL := hm_18 0 (by decide)
        have c_21 : E (20 + n) (11 + 10 * k) = .inl (kA 6, rs_18, .inr (.inr (.inr (.inr fr_18)))) := q1_18
        have m_22 : (20 + n, 11 + 10 * k) ∈ RL := hm_18 1 (by decide)
        have c_23 : E (20 + n) (12 + 10 * k) = .inr (10, [.ref (ad (20 + n) (15 + 10 * k))]) := q2_18
        have m_24 : (20 + n, 12 + 10 * k) ∈ RL := hm_18 2 (by decide)
        have c_25 : E (20 + n) (13 + 10 * k) = .inr (10, [.ref (ad (20 + n) (16 + 10 * k))]) := q3_18
        have m_26 : (20 + n, 13 + 10 * k) ∈ RL := hm_18 3 (by decide)
        have c_27 : E (20 + n) (14 + 10 * k) = .inr (10, [.ref (ad (20 + n) (17 + 10 * k))]) := q4_18
        have m_28 : (20 + n, 14 + 10 * k) ∈ RL := hm_18 4 (by decide)
        have c_29 : E (20 + n) (15 + 10 * k) = .inl (kA 0, 6, .inl g2_18) := q5_18
        have m_30 : (20 + n, 15 + 10 * k) ∈ RL := hm_18 5 (by decide)
        have c_31 : E (20 + n) (16 + 10 * k) = .inl (kA 0, 6, .inl g3_18) := q6_18
        have m_32 : (20 + n, 16 + 10 * k) ∈ RL := hm_18 6 (by decide)
        have c_33 : E (20 + n) (17 + 10 * k) = .inl (kA 0, 6, .inl g4_18) := q7_18
        have m_34 : (20 + n, 17 + 10 * k) ∈ RL := hm_18 7 (by decide)
        have hdm_18 : mdv g n k = d_18 := by
          obtain ⟨dz, hdz, h21z, hvz⟩ := tmd_1 k (by omega)
          rw [c_19] at hvz
          have ez := (rp_inj hD ((hDIs d_18 hd_18).1 0 (by omega)) ((hDIs dz hdz).1 0 (by omega)) (Value.ref.inj hvz)).1
          unfold mdv
          rw [h21z, iN_nI (by omega)]; omega
        refine va_calli (va_runV (As := [.ref (ad (20 + y) (10 + 10 * k3))]) (rest := []) ⟨hx, hb, hml, hown, hT⟩ (xc_Me_isSplitByX l D kA H.size ad E RL g nd nL n k y k3 (by first | assumption | omega) (by first | assumption | omega) (by first | assumption | omega) (by first | assumption | omega) (by first | assumption | omega) (by first | assumption | omega) (by first | assumption | omega) ((hk_1 k (by omega)).2) (by rw [i20_1]; omega) (by first | assumption | omega) (by first | assumption | omega) ((hk_10 k3 (by omega)).2) (by rw [i20_10]; omega)) (cwV 1 hT (wT_V k5z_9 k5z_10 k5z_11 k5z_12 k5z_8) rfl rfl rfl (by decide +kernel) ⟨Nat.le_of_ble_eq_true rfl, Nat.le_of_ble_eq_true rfl⟩) (px_preV hK hP hD m_20 c_19 rfl) rfl rfl hl.1 rfl (lv_room (Nat.le_of_ble_eq_true rfl)) xd_Ly_hasSplit_40 ⟨(Nat.le_of_ble_eq_true rfl), (Nat.le_of_ble_eq_true rfl)⟩) hS (fun q _ h => hFc q h) hFc (fun r35 u36 t H1 locs ht hvm hp37 hB hz1 hk1 hS => ?_)
        obtain ⟨hP1, hD1⟩ := hB
        rw [ht] at hP1
        have hD1 := hD1.weaken (fun _ _ _ h => hFc _ h)
        generalize H1 = H at hP1 hS ⊢
        have hP := hP1
        have hD := hD1
        have hP : va_P D xcl (rp ad E RL) H := hP
        have hD : va_D A (rp ad E RL) := hD
        rcases hp37 with ⟨rfl, z38⟩ | ⟨rfl, z39⟩
        · refine W.eq (g2 := F0 m 43 ls [.int 1]) rfl ?_
          refine lv_if_eq (tgt := 48) hx hb xd_Ly_hasSplit_43 (by decide) (fun hc40 => absurd hc40 (by decide)) (fun _ => ?_)
          refine lv_iconst (v := 1) hx hb xd_Ly_hasSplit_46 (by decide) ?_
          exact W.zret (v := 1) hx hb hr rfl (fun t ht hW => ⟨⟨1, (), rfl, Or.inl ⟨rfl, k, (by unfold mcv; rw [h20_1, iN_nI (by omega)]; omega), y, hC13 y (Ch_s.mpr (Or.inl rfl)), k3, (by unfold mcv; rw [h20_10, iN_nI (by omega)]; omega), z38⟩, by rw [ht]; exact hP, hD⟩, hS.F ht⟩) hS.2.2 xd_Ly_hasSplit_47
        · refine W.eq (g2 := F0 m 43 ls [.int 0]) rfl ?_
          refine lv_if_eq (tgt := 48) hx hb xd_Ly_hasSplit_43 (by decide) (fun _ => ?_) (fun hc41 => absurd (by decide) hc41)
          refine lv_iinc (k := 0) (x := (nI k3)) (v := (nI (k3 + 1))) hx hb xd_Ly_hasSplit_48 hl rfl (xb_inc k3 1) (Nat.le_of_ble_eq_true rfl) rfl (fun ls hl => ?_)
          have hl : lv_has ls 4 [(3, .int (nI (k3 + 1))), (2, .ref (ad (20 + y) 0)), (1, .int (nI k)), (0, .ref (ad (20 + n) 0))] := hl
          refine lv_goto (tgt := 19) hx hb xd_Ly_hasSplit_51 (by decide) ?_
          exact ih16 (k3 + 1) _ _ _ (show mk_10 - (k3 + 1) < mk_10 - k3 by omega) (lv_sub hl [0, 1, 2, 3] rfl) hP hD hS ⟨(show (k3 + 1) ≤ mk_10 from by first | assumption | omega), (show ∀ j8, j8 < (k3 + 1) → ¬ SB g (RWb E n k) n (mdv g n k) y j8 from fun j hj => by
        rcases Nat.lt_or_ge j k3 with z | z
        · exact hno3 j z
        · rw [show j = k3 by omega]; exact z39)⟩
theorem k6a_0 : (Cond.code xy_Ly_hasCycle xb_Ly_hasCycle 2 (some .boolean)) ∈ wT := wT_t (List.mem_append_right _ (List.mem_append_right _ (List.mem_append_right _ (List.mem_append_left _ (List.mem_of_getElem? (i := 7) rfl))))) rfl
theorem k6a_1 : (Cond.methodLink "LayerDesk" 208 xy_Ly_hasCycle) ∈ wT := wT_t (List.mem_append_right _ (List.mem_append_right _ (List.mem_append_right _ (List.mem_append_left _ (List.mem_of_getElem? (i := 4) rfl))))) rfl
theorem k6a_2 : (Cond.instanceMethod xy_Ly_hasCycle) ∈ wT := wT_t (List.mem_append_right _ (List.mem_append_right _ (List.mem_append_right _ (List.mem_append_left _ (List.mem_of_getElem? (i := 5) rfl))))) rfl
theorem k6a_3 : (Cond.selects "LayerDesk$Layer" xy_Ly_hasCycle xy_Ly_hasCycle) ∈ wT := wT_t (List.mem_append_right _ (List.mem_append_right _ (List.mem_append_right _ (List.mem_append_left _ (List.mem_of_getElem? (i := 6) rfl))))) rfl
theorem k6a_4 : (Cond.initialized "LayerDesk$Layer") ∈ wT := wT_t (List.mem_append_left _ (List.mem_of_getElem? (i := 19) rfl)) rfl
theorem k6a_5 : (Cond.code xy_Ly_hasSplit xb_Ly_hasSplit 4 (some .boolean)) ∈ wT := wT_t (List.mem_append_right _ (List.mem_append_right _ (List.mem_append_right _ (List.mem_append_left _ (List.mem_of_getElem? (i := 11) rfl))))) rfl
theorem k6a_6 : (Cond.methodLink "LayerDesk" 211 xy_Ly_hasSplit) ∈ wT := wT_t (List.mem_append_right _ (List.mem_append_right _ (List.mem_append_right _ (List.mem_append_left _ (List.mem_of_getElem? (i := 8) rfl))))) rfl
theorem k6a_7 : (Cond.instanceMethod xy_Ly_hasSplit) ∈ wT := wT_t (List.mem_append_right _ (List.mem_append_right _ (List.mem_append_right _ (List.mem_append_left _ (List.mem_of_getElem? (i := 9) rfl))))) rfl
theorem k6a_8 : (Cond.selects "LayerDesk$Layer" xy_Ly_hasSplit xy_Ly_hasSplit) ∈ wT := wT_t (List.mem_append_right _ (List.mem_append_right _ (List.mem_append_right _ (List.mem_append_left _ (List.mem_of_getElem? (i := 10) rfl))))) rfl
theorem k6a_9 : (Cond.fieldLink "LayerDesk" 38 "LayerDesk" "made" "I") ∈ wT := wT_t (List.mem_append_left _ (List.mem_of_getElem? (i := 103) rfl)) rfl
set_option maxHeartbeats 4000000 in
set_option maxRecDepth 100000 in
theorem xc_De_faultOfX (l : Launch) (D : va_G) (kA : Nat → ClassId) (sz : Nat) (ad : Nat → Nat → Nat) (E : Nat → Nat → va_E) (RL : List (Nat × Nat)) (g : Nat → Nat → Int32) (ml : Nat) (nd : Nat) (len : Nat) (wn : Nat) (cs : Nat) (hCI : CI kA ad E RL ml nd len wn cs) (hLI : LI kA ad E RL nd ml) (hTD : TDs g E nd) (hTLx : TLas g ad E nd (ml + 1)) (hLB : LBs g E ml) (hRB : RBs g E ml) (hNZ : NZ g nd) (hND : NDq g (ml + 1)) (hU : ∀ la, la < ml + 1 → ∀ k, k < mcv g la → UQ1 g (mdv g la k)) : Met l xy_De_faultOf (.code xy_De_faultOf xb_De_faultOf 2 (some .int) :: wT) { frames := 6, cells := 0, slots := 0, locals := 137 } (va_Pc [.ref (ad 0 0), .ref (ad (20 + ml) 0)] (xPre D kA sz (rp ad E RL))) (va_Qi (fun (r : Int32) (u : Unit) => r = nI (rsW g ml (mcv g ml))) (fun (u : Unit) t => va_P D xcl (rp ad E RL) t.heap ∧ va_D (va_A (rp ad E RL) sz) (rp ad E RL)) (va_A (rp ad E RL) sz)) 0 0 (va_A (rp ad E RL) sz) := by
  refine Met.ofW (cc := xb_De_faultOf) (maxL := 2) (ret := (some .int)) (by decide) rfl ?_
  intro p e s m args below meth c s₁ B hml hv
  obtain ⟨rfl, hsz, hP, hK, hD0⟩ := hv
  have hx := B.exec
  have hb := B.bytes
  have hr := B.returns
  have hT := x_hT B.pre
  have hown : s.vm.findClass xR_De = some m.cls := findClass_of_methodNamed B.named
  have hlocks := B.notSynchronized
  subst hsz
  have hD := hD0.self (sz := s.heap.size)
  generalize hAe : va_A (rp ad E RL) s.heap.size = A at hD ⊢
  have hA : ∀ q : Nat, s.heap.size ≤ q → A q := fun q h => by rw [← hAe]; exact Or.inr h
  have hS : va_S A s.heap s.heap [] := va_S.rf
  have hl := lv_entry ([.ref (ad 0 0), .ref (ad (20 + ml) 0)]) (n := 2) (Nat.le_of_ble_eq_true rfl)
  rw [lg_entry_eq]
  generalize (lg_sl ([.ref (ad 0 0), .ref (ad (20 + ml) 0)]) ++ List.replicate (2 - (lg_sl ([.ref (ad 0 0), .ref (ad (20 + ml) 0)])).length) Slot.unset).toArray = ls at hl ⊢
  have hl : lv_has ls 2 [(0, .ref (ad 0 0)), (1, .ref (ad (20 + ml) 0))] := hl
  have hP : va_P D xcl (rp ad E RL) s.heap := hP
  obtain ⟨hmB, hDk, hLi, hSh, hCh, hLa, hDIs, hLIs⟩ := id hCI
  obtain ⟨lf_1, q_1⟩ := id (hDk)
  have c_2 : E 0 0 = .inr (0, [.ref (ad 0 1), .ref (ad 0 5), .ref (ad 0 7), .ref (ad 0 9), .int (nI ml), .int lf_1]) := q_1
  have m_3 : (0, 0) ∈ RL := hmB 0 (by decide)
  obtain ⟨fd_4, hnd_4, q5_4, q6_4, hds_4⟩ := id (hSh)
  have c_5 : E 0 5 = .inr (2, [.ref (ad 0 6), .int (nI nd)]) := q5_4
  have m_6 : (0, 5) ∈ RL := hmB 5 (by decide)
  have c_7 : E 0 6 = .inl (kA 4, 12, .inr (.inr (.inr (.inr fd_4)))) := q6_4
  have m_8 : (0, 6) ∈ RL := hmB 6 (by decide)
  obtain ⟨fl_9, hml_9, q9_9, hla_9⟩ := id (hLa)
  have c_10 : E 0 9 = .inl (kA 5, 5, .inr (.inr (.inr (.inr fl_9)))) := q9_9
  have m_11 : (0, 9) ∈ RL := hmB 9 (by decide)
  have hLIx := LIs_add hLIs hLI
  have hnd12 : nd ≤ 12 := by omega
  have hml5 : ml ≤ 5 := by omega
  have hLKP : LKP g (ml + 1) := LKP_L (by omega) hnd12 hLIx hTLx
  have h21x : ∀ k, k < mcv g ml → g 21 (12 * ml + k) = nI (mdv g ml k) := fun k hk => T_21 hnd12 (by omega) hLIx hTLx hk
  have hCYi := CYC_iff (R := fun k t => BS (eA (E (20 + ml) (15 + 10 * k))) t) hLKP h21x hLB
  have hSPi := SPL_iff (R := fun k => RWb E ml k) (by omega) hLKP hND hU h21x hRB
  refine lv_aload_n hx hb xd_De_faultOf_0 rfl (lv_at hl 1 rfl) ?_
  have hFc := px_free hD hS hA
  obtain ⟨m0_12, m1_12, pv_12, op_12, mk_12, fm_12, hmk_12, hpv_12, q0_12, q1_12, hk_12⟩ := id (hLI)
  have c_13 : E (20 + ml) 0 = .inr (5, [.int (nI ml), pv_12, .ref (ad (20 + ml) 1), .int op_12]) := q0_12
  have m_14 : (20 + ml, 0) ∈ RL := m0_12
  have c_15 : E (20 + ml) 1 = .inl (kA 6, mk_12, .inr (.inr (.inr (.inr fm_12)))) := q1_12
  have m_16 : (20 + ml, 1) ∈ RL := m1_12
  refine va_calli (va_runV (As := []) (rest := []) ⟨hx, hb, hml, hown, hT⟩ (xc_Ly_hasCycleX l D kA s.heap.size ad E RL g nd (ml + 1) ml (by first | assumption | omega) hLIx (by first | assumption | omega) (by first | assumption | omega) (by first | assumption | omega) hTLx (by first | assumption | omega)) (cwV 0 hT (wT_V k6a_1 k6a_2 k6a_3 k6a_4 k6a_0) rfl rfl rfl (by decide +kernel) ⟨Nat.le_of_ble_eq_true rfl, Nat.le_of_ble_eq_true rfl⟩) (px_preV hK hP hD m_14 c_13 rfl) rfl rfl hl.1 rfl (lv_room (Nat.le_of_ble_eq_true rfl)) xd_De_faultOf_1 ⟨(Nat.le_of_ble_eq_true rfl), (Nat.le_of_ble_eq_true rfl)⟩) hS (fun q _ h => hFc q h) hFc (fun r17 u18 t H1 locs ht hvm hp19 hB hz1 hk1 hS => ?_)
  obtain ⟨hP1, hD1⟩ := hB
  rw [ht] at hP1
  have hD1 := hD1.weaken (fun _ _ _ h => hFc _ h)
  generalize H1 = H at hP1 hS ⊢
  have hP := hP1
  have hD := hD1
  have hP : va_P D xcl (rp ad E RL) H := hP
  have hD : va_D A (rp ad E RL) := hD
  rcases hp19 with ⟨rfl, z20⟩ | ⟨rfl, z21⟩
  · refine W.eq (g2 := F0 m 4 ls [.int 1]) rfl ?_
    refine lv_if_eq (tgt := 9) hx hb xd_De_faultOf_4 (by decide) (fun hc22 => absurd hc22 (by decide)) (fun _ => ?_)
    refine lv_iconst (v := 1) hx hb xd_De_faultOf_7 (by decide) ?_
    exact W.iret (v := 1) hx hb hr (fun t ht hW => ⟨⟨1, (), rfl, by rw [show rsW g ml (mcv g ml) = 1 from by unfold rsW; rw [cif_pos (hCYi.mp z20)]]; rfl, by rw [ht]; exact hP, hD⟩, hS.F ht⟩) hS.2.2 xd_De_faultOf_8
  · refine W.eq (g2 := F0 m 4 ls [.int 0]) rfl ?_
    refine lv_if_eq (tgt := 9) hx hb xd_De_faultOf_4 (by decide) (fun _ => ?_) (fun hc23 => absurd (by decide) hc23)
    refine lv_aload_n hx hb xd_De_faultOf_9 rfl (lv_at hl 1 rfl) ?_
    have hFc := px_free hD hS hA
    refine va_calli (va_runV (As := []) (rest := []) ⟨hx, hb, hml, hown, hT⟩ (xc_Ly_hasSplitX l D kA H.size ad E RL g nd (ml + 1) ml (by first | assumption | omega) hLIx (by first | assumption | omega) (by first | assumption | omega) (by first | assumption | omega) hTLx (by first | assumption | omega) (by first | assumption | omega)) (cwV 0 hT (wT_V k6a_6 k6a_7 k6a_8 k6a_4 k6a_5) rfl rfl rfl (by decide +kernel) ⟨Nat.le_of_ble_eq_true rfl, Nat.le_of_ble_eq_true rfl⟩) (px_preV hK hP hD m_14 c_13 rfl) rfl rfl hl.1 rfl (lv_room (Nat.le_of_ble_eq_true rfl)) xd_De_faultOf_10 ⟨(Nat.le_of_ble_eq_true rfl), (Nat.le_of_ble_eq_true rfl)⟩) hS (fun q _ h => hFc q h) hFc (fun r24 u25 t H1 locs ht hvm hp26 hB hz1 hk1 hS => ?_)
    obtain ⟨hP1, hD1⟩ := hB
    rw [ht] at hP1
    have hD1 := hD1.weaken (fun _ _ _ h => hFc _ h)
    generalize H1 = H at hP1 hS ⊢
    have hP := hP1
    have hD := hD1
    have hP : va_P D xcl (rp ad E RL) H := hP
    have hD : va_D A (rp ad E RL) := hD
    rcases hp26 with ⟨rfl, z27⟩ | ⟨rfl, z28⟩
    · refine W.eq (g2 := F0 m 13 ls [.int 1]) rfl ?_
      refine lv_if_eq (tgt := 18) hx hb xd_De_faultOf_13 (by decide) (fun hc29 => absurd hc29 (by decide)) (fun _ => ?_)
      refine lv_iconst (v := 2) hx hb xd_De_faultOf_16 (by decide) ?_
      exact W.iret (v := 2) hx hb hr (fun t ht hW => ⟨⟨2, (), rfl, by rw [show rsW g ml (mcv g ml) = 2 from by unfold rsW; rw [cif_neg (fun q => z21 (hCYi.mpr q)), cif_pos (hSPi.mp z27)]]; rfl, by rw [ht]; exact hP, hD⟩, hS.F ht⟩) hS.2.2 xd_De_faultOf_17
    · refine W.eq (g2 := F0 m 13 ls [.int 0]) rfl ?_
      refine lv_if_eq (tgt := 18) hx hb xd_De_faultOf_13 (by decide) (fun _ => ?_) (fun hc30 => absurd (by decide) hc30)
      refine lv_aload_n hx hb xd_De_faultOf_18 rfl (lv_at hl 0 rfl) ?_
      refine px_get (D := D) (ci := 0) (v := .int (nI ml)) (C := xR_De) (T := xT_De) (N := 6) hx hb hT xi_De hown hK.1 hP m_3 c_2 rfl 4 (by decide) (hT _ k6a_9) (fun _ h9 => h9) rfl xd_De_faultOf_19 ?_
      refine lv_iconst (v := 5) hx hb xd_De_faultOf_22 (by decide) ?_
      refine xn_lt (a := ml) (b := 5) (tgt := 30) hx hb xd_De_faultOf_23 (by decide) (by omega) (by omega) (fun hc31 => ?_) (fun hc31 => ?_)
      · refine lv_iconst (v := 0) hx hb xd_De_faultOf_30 (by decide) ?_
        exact W.iret (v := 0) hx hb hr (fun t ht hW => ⟨⟨0, (), rfl, by rw [show rsW g ml (mcv g ml) = 0 from by unfold rsW; rw [cif_neg (fun q => z21 (hCYi.mpr q)), cif_neg (fun q => z28 (hSPi.mpr q)), cif_neg (by omega)]]; rfl, by rw [ht]; exact hP, hD⟩, hS.F ht⟩) hS.2.2 xd_De_faultOf_31
      · refine lv_iconst (v := 3) hx hb xd_De_faultOf_26 (by decide) ?_
        refine lv_goto (tgt := 31) hx hb xd_De_faultOf_27 (by decide) ?_
        exact W.iret (v := 3) hx hb hr (fun t ht hW => ⟨⟨3, (), rfl, by rw [show rsW g ml (mcv g ml) = 3 from by unfold rsW; rw [cif_neg (fun q => z21 (hCYi.mpr q)), cif_neg (fun q => z28 (hSPi.mpr q)), cif_pos (by omega)]]; rfl, by rw [ht]; exact hP, hD⟩, hS.F ht⟩) hS.2.2 xd_De_faultOf_31
theorem up_up {g : gT} {k : Nat} {f1 f2 : Nat → Int32} : va_up (va_up g k f1) k f2 = va_up g k f2 := by
  funext j
  by_cases h : j = k
  · rw [h, vu_eq, vu_eq]
  · rw [vu_ne h, vu_ne h, vu_ne h]
theorem TD_k {g : gT} {f1 f2 : Nat → Int32} {e e' : Nat → va_E} {d : Nat} {fd nm sd x : Int32} {v0 v3 v4 v5 v6 v7 v8 v9 v10 w0 w3 w4 w5 w6 w7 w8 w9 w10 : Value} (h : TD (va_up g 11 f1) e d) (c0 : e 0 = .inr (7, [v0, .int fd, .int nm, v3, v4, v5, v6, v7, v8, v9, v10, .int sd])) (c1 : e' 0 = .inr (7, [w0, .int fd, .int nm, w3, w4, w5, w6, w7, w8, w9, w10, .int x])) (he : ∀ o, ¬ o = 0 → e' o = e o) (hf : f2 d = x) : TD (va_up g 11 f2) e' d := by
  have q := TD_set11 (f := f2) h c0 c1 he hf
  rw [up_up] at q; exact q
theorem k6b_0 : (Cond.fieldLink "LayerDesk" 38 "LayerDesk" "made" "I") ∈ wT := wT_t (List.mem_append_left _ (List.mem_of_getElem? (i := 103) rfl)) rfl
theorem k6b_1 : (Cond.fieldLink "LayerDesk" 34 "LayerDesk" "layers" "[LLayerDesk$Layer;") ∈ wT := wT_t (List.mem_append_left _ (List.mem_of_getElem? (i := 102) rfl)) rfl
theorem k6b_2 : (Cond.fieldLink "LayerDesk" 128 "LayerDesk$Layer" "members" "[LLayerDesk$Member;") ∈ wT := wT_t (List.mem_append_right _ (List.mem_append_right _ (List.mem_append_left _ (List.mem_of_getElem? (i := 150) rfl)))) rfl
theorem k6b_3 : (Cond.fieldLink "LayerDesk" 136 "LayerDesk$Member" "descriptor" "LLayerDesk$Descriptor;") ∈ wT := wT_t (List.mem_append_right _ (List.mem_append_right _ (List.mem_append_left _ (List.mem_of_getElem? (i := 185) rfl)))) rfl
theorem k6b_4 : (Cond.fieldLink "LayerDesk" 214 "LayerDesk$Descriptor" "settled" "Z") ∈ wT := wT_t (List.mem_append_right _ (List.mem_append_left _ (List.mem_of_getElem? (i := 84) rfl))) rfl
set_option maxHeartbeats 4000000 in
set_option maxRecDepth 100000 in
theorem xc_De_keepX (l : Launch) (D : va_G) (kA : Nat → ClassId) (sz : Nat) (ad : Nat → Nat → Nat) (E : Nat → Nat → va_E) (RL : List (Nat × Nat)) (g : Nat → Nat → Int32) (ml : Nat) (nd : Nat) (len : Nat) (wn : Nat) (cs : Nat) (L : List Nat) (hCI : CI kA ad E RL ml nd len wn cs) (hLI : LI kA ad E RL nd ml) (hml5 : ml < 5) (hTD : TDs g E nd) (hTLx : TLas g ad E nd (ml + 1)) (hmL : mcv g ml = L.length) (hmD : ∀ k, k < L.length → mdv g ml k = L.getD k 0) : Met l xy_De_keep (.code xy_De_keep xb_De_keep 3 none :: wT) { frames := 0, cells := 0, slots := 0, locals := 0 } (va_Pc [.ref (ad 0 0), .ref (ad (20 + ml) 0)] (xPre D kA sz (rp ad E RL))) (va_Qv (fun (u : Nat → Nat → va_E) => CI kA ad u RL (ml + 1) nd len wn cs ∧ TDs (gKl g L) u nd ∧ (∀ n9, n9 < ml + 1 → u (20 + n9) = E (20 + n9)) ∧ eI (u 0 0) 5 = eI (E 0 0) 5) (fun (u : Nat → Nat → va_E) t => va_P D xcl (rp ad u RL) t.heap ∧ va_D (va_A (rp ad E RL) sz) (rp ad u RL)) (va_A (rp ad E RL) sz)) 0 0 (va_A (rp ad E RL) sz) := by
  refine Met.ofW (cc := xb_De_keep) (maxL := 3) (ret := none) (by decide) rfl ?_
  intro p e s m args below meth c s₁ B hml hv
  obtain ⟨rfl, hsz, hP, hK, hD0⟩ := hv
  have hx := B.exec
  have hb := B.bytes
  have hr := B.returns
  have hT := x_hT B.pre
  have hown : s.vm.findClass xR_De = some m.cls := findClass_of_methodNamed B.named
  have hlocks := B.notSynchronized
  subst hsz
  have hD := hD0.self (sz := s.heap.size)
  generalize hAe : va_A (rp ad E RL) s.heap.size = A at hD ⊢
  have hA : ∀ q : Nat, s.heap.size ≤ q → A q := fun q h => by rw [← hAe]; exact Or.inr h
  have hS : va_S A s.heap s.heap [] := va_S.rf
  have hl := lv_entry ([.ref (ad 0 0), .ref (ad (20 + ml) 0)]) (n := 3) (Nat.le_of_ble_eq_true rfl)
  rw [lg_entry_eq]
  generalize (lg_sl ([.ref (ad 0 0), .ref (ad (20 + ml) 0)]) ++ List.replicate (3 - (lg_sl ([.ref (ad 0 0), .ref (ad (20 + ml) 0)])).length) Slot.unset).toArray = ls at hl ⊢
  have hl : lv_has ls 3 [(0, .ref (ad 0 0)), (1, .ref (ad (20 + ml) 0))] := hl
  have hP : va_P D xcl (rp ad E RL) s.heap := hP
  obtain ⟨hmB, hDk, hLi, hSh, hCh, hLa, hDIs, hLIs⟩ := id hCI
  obtain ⟨lf_1, q_1⟩ := id (hDk)
  have c_2 : E 0 0 = .inr (0, [.ref (ad 0 1), .ref (ad 0 5), .ref (ad 0 7), .ref (ad 0 9), .int (nI ml), .int lf_1]) := q_1
  have m_3 : (0, 0) ∈ RL := hmB 0 (by decide)
  obtain ⟨tx_4, fb_4, fe_4, hl1_4, hw2_4, q1_4, q2_4, q3_4, q4_4, hws_4⟩ := id (hLi)
  have c_5 : E 0 1 = .inr (1, [.ref (ad 0 2), .ref (ad 0 3), .ref (ad 0 4), .int (nI len), .int (nI wn)]) := q1_4
  have m_6 : (0, 1) ∈ RL := hmB 1 (by decide)
  have c_7 : E 0 2 = .inl (kA 1, 40, .inl tx_4) := q2_4
  have m_8 : (0, 2) ∈ RL := hmB 2 (by decide)
  have c_9 : E 0 3 = .inl (kA 0, 20, .inl fb_4) := q3_4
  have m_10 : (0, 3) ∈ RL := hmB 3 (by decide)
  have c_11 : E 0 4 = .inl (kA 0, 20, .inl fe_4) := q4_4
  have m_12 : (0, 4) ∈ RL := hmB 4 (by decide)
  obtain ⟨fd_13, hnd_13, q5_13, q6_13, hds_13⟩ := id (hSh)
  have c_14 : E 0 5 = .inr (2, [.ref (ad 0 6), .int (nI nd)]) := q5_13
  have m_15 : (0, 5) ∈ RL := hmB 5 (by decide)
  have c_16 : E 0 6 = .inl (kA 4, 12, .inr (.inr (.inr (.inr fd_13)))) := q6_13
  have m_17 : (0, 6) ∈ RL := hmB 6 (by decide)
  obtain ⟨cf_18, pv_18, fc_18, hcs_18, hpv_18, q7_18, q8_18, hfc_18⟩ := id (hCh)
  have c_19 : E 0 7 = .inr (3, [.ref (ad 0 5), .ref (ad 0 8), .int (nI cs), .int cf_18, pv_18]) := q7_18
  have m_20 : (0, 7) ∈ RL := hmB 7 (by decide)
  have c_21 : E 0 8 = .inl (kA 4, 12, .inr (.inr (.inr (.inr fc_18)))) := q8_18
  have m_22 : (0, 8) ∈ RL := hmB 8 (by decide)
  obtain ⟨fl_23, hml_23, q9_23, hla_23⟩ := id (hLa)
  have c_24 : E 0 9 = .inl (kA 5, 5, .inr (.inr (.inr (.inr fl_23)))) := q9_23
  have m_25 : (0, 9) ∈ RL := hmB 9 (by decide)
  obtain ⟨m0_26, m1_26, pv_26, op_26, mk_26, fm_26, hmk_26, hpv_26, q0_26, q1_26, hk_26⟩ := id (hLI)
  have c_27 : E (20 + ml) 0 = .inr (5, [.int (nI ml), pv_26, .ref (ad (20 + ml) 1), .int op_26]) := q0_26
  have m_28 : (20 + ml, 0) ∈ RL := m0_26
  have c_29 : E (20 + ml) 1 = .inl (kA 6, mk_26, .inr (.inr (.inr (.inr fm_26)))) := q1_26
  have m_30 : (20 + ml, 1) ∈ RL := m1_26
  refine lv_aload_n hx hb xd_De_keep_0 rfl (lv_at hl 0 rfl) ?_
  refine px_get (D := D) (ci := 0) (v := .int (nI ml)) (C := xR_De) (T := xT_De) (N := 6) hx hb hT xi_De hown hK.1 hP m_3 c_2 rfl 4 (by decide) (hT _ k6b_0) (fun _ h9 => h9) rfl xd_De_keep_1 ?_
  refine lv_iconst (v := 5) hx hb xd_De_keep_4 (by decide) ?_
  refine xn_lt (a := ml) (b := 5) (tgt := 9) hx hb xd_De_keep_5 (by decide) (by omega) (by omega) (fun _ => ?_) (fun hc31 => absurd hc31 (by omega))
  refine lv_aload_n hx hb xd_De_keep_9 rfl (lv_at hl 0 rfl) ?_
  refine px_get (D := D) (ci := 0) (v := .ref (ad 0 9)) (C := xR_De) (T := xT_De) (N := 6) hx hb hT xi_De hown hK.1 hP m_3 c_2 rfl 3 (by decide) (hT _ k6b_1) (fun _ h9 => h9) rfl xd_De_keep_10 ?_
  refine lv_aload_n hx hb xd_De_keep_13 rfl (lv_at hl 0 rfl) ?_
  refine px_get (D := D) (ci := 0) (v := .int (nI ml)) (C := xR_De) (T := xT_De) (N := 6) hx hb hT xi_De hown hK.1 hP m_3 c_2 rfl 4 (by decide) (hT _ k6b_0) (fun _ h9 => h9) rfl xd_De_keep_14 ?_
  refine lv_aload_n hx hb xd_De_keep_17 rfl (lv_at hl 1 rfl) ?_
  refine px_aast (i := ml) (r := (xR_Ly, xT_Ly, 4)) hx hb hK.1 hP hD hS m_25 c_24 5 rfl m_28 c_27 rfl (by omega) (by decide) xd_De_keep_18 (fun H locs hP hD hS => ?_)
  have hP : va_P D xcl (rp ad (up2 E 0 9 (.inl (kA 5, 5, .inr (.inr (.inr (.inr (va_up fl_23 ml (some (ad (20 + ml) 0))))))))) RL) H := hP
  have hD : va_D A (rp ad (up2 E 0 9 (.inl (kA 5, 5, .inr (.inr (.inr (.inr (va_up fl_23 ml (some (ad (20 + ml) 0))))))))) RL) := hD
  generalize hE33 : up2 E 0 9 (.inl (kA 5, 5, .inr (.inr (.inr (.inr (va_up fl_23 ml (some (ad (20 + ml) 0)))))))) = E32 at hP hD
  have fE34 : ∀ b2 o2, ¬ (b2 = 0 ∧ o2 = 9) → E32 b2 o2 = E b2 o2 := fun b2 o2 h9 => by rw [← hE33]; exact up2_ne (nr_or h9)
  have c_35 : E32 0 9 = .inl (kA 5, 5, .inr (.inr (.inr (.inr (va_up fl_23 ml (some (ad (20 + ml) 0))))))) := by rw [← hE33]; exact up2_eq
  have c_36 : E32 0 0 = .inr (0, [.ref (ad 0 1), .ref (ad 0 5), .ref (ad 0 7), .ref (ad 0 9), .int (nI ml), .int lf_1]) := (fE34 0 0 (fun q9 => absurd q9.2 (by decide))).trans c_2
  have c_37 : E32 0 1 = .inr (1, [.ref (ad 0 2), .ref (ad 0 3), .ref (ad 0 4), .int (nI len), .int (nI wn)]) := (fE34 0 1 (fun q9 => absurd q9.2 (by decide))).trans c_5
  have c_38 : E32 0 2 = .inl (kA 1, 40, .inl tx_4) := (fE34 0 2 (fun q9 => absurd q9.2 (by decide))).trans c_7
  have c_39 : E32 0 3 = .inl (kA 0, 20, .inl fb_4) := (fE34 0 3 (fun q9 => absurd q9.2 (by decide))).trans c_9
  have c_40 : E32 0 4 = .inl (kA 0, 20, .inl fe_4) := (fE34 0 4 (fun q9 => absurd q9.2 (by decide))).trans c_11
  have c_41 : E32 0 5 = .inr (2, [.ref (ad 0 6), .int (nI nd)]) := (fE34 0 5 (fun q9 => absurd q9.2 (by decide))).trans c_14
  have c_42 : E32 0 6 = .inl (kA 4, 12, .inr (.inr (.inr (.inr fd_13)))) := (fE34 0 6 (fun q9 => absurd q9.2 (by decide))).trans c_16
  have c_43 : E32 0 7 = .inr (3, [.ref (ad 0 5), .ref (ad 0 8), .int (nI cs), .int cf_18, pv_18]) := (fE34 0 7 (fun q9 => absurd q9.2 (by decide))).trans c_19
  have c_44 : E32 0 8 = .inl (kA 4, 12, .inr (.inr (.inr (.inr fc_18)))) := (fE34 0 8 (fun q9 => absurd q9.2 (by decide))).trans c_21
  have c_45 : E32 (20 + ml) 0 = .inr (5, [.int (nI ml), pv_26, .ref (ad (20 + ml) 1), .int op_26]) := (fE34 (20 + ml) 0 (fun q9 => absurd q9.2 (by decide))).trans c_27
  have c_46 : E32 (20 + ml) 1 = .inl (kA 6, mk_26, .inr (.inr (.inr (.inr fm_26)))) := (fE34 (20 + ml) 1 (fun q9 => absurd q9.2 (by decide))).trans c_29
  refine lv_aload_n hx hb xd_De_keep_19 rfl (lv_at hl 0 rfl) ?_
  refine lv_dup hx hb xd_De_keep_20 rfl ?_
  refine px_get (D := D) (ci := 0) (v := .int (nI ml)) (C := xR_De) (T := xT_De) (N := 6) hx hb hT xi_De hown hK.1 hP m_3 c_36 rfl 4 (by decide) (hT _ k6b_0) (fun _ h9 => h9) rfl xd_De_keep_21 ?_
  refine lv_iconst (v := 1) hx hb xd_De_keep_24 (by decide) ?_
  refine lv_iadd hx hb xd_De_keep_25 ?_
  refine xn_top (y := nI (ml + 1)) (nI_add ml 1) ?_
  refine px_put (D := D) (ci := 0) (v := .int (nI (ml + 1))) (ty := .int) (C := xR_De) (T := xT_De) (N := 6) hx hb hT xi_De xt_De xt_De_ok xn_De hown hK.1 hP hD hS m_3 c_36 rfl 4 (by decide) (hT _ k6b_0) (fun _ h9 => h9) rfl (by decide +kernel) rfl rfl (Nat.le_of_ble_eq_true rfl) xd_De_keep_26 (fun H locs hP hD hS => ?_)
  have hP : va_P D xcl (rp ad (up2 E32 0 0 (.inr (0, [.ref (ad 0 1), .ref (ad 0 5), .ref (ad 0 7), .ref (ad 0 9), .int (nI (ml + 1)), .int lf_1]))) RL) H := hP
  have hD : va_D A (rp ad (up2 E32 0 0 (.inr (0, [.ref (ad 0 1), .ref (ad 0 5), .ref (ad 0 7), .ref (ad 0 9), .int (nI (ml + 1)), .int lf_1]))) RL) := hD
  generalize hE48 : up2 E32 0 0 (.inr (0, [.ref (ad 0 1), .ref (ad 0 5), .ref (ad 0 7), .ref (ad 0 9), .int (nI (ml + 1)), .int lf_1])) = E47 at hP hD
  have fE49 : ∀ b2 o2, ¬ (b2 = 0 ∧ o2 = 0) → E47 b2 o2 = E32 b2 o2 := fun b2 o2 h9 => by rw [← hE48]; exact up2_ne (nr_or h9)
  have c_50 : E47 0 0 = .inr (0, [.ref (ad 0 1), .ref (ad 0 5), .ref (ad 0 7), .ref (ad 0 9), .int (nI (ml + 1)), .int lf_1]) := by rw [← hE48]; exact up2_eq
  have c_51 : E47 0 9 = .inl (kA 5, 5, .inr (.inr (.inr (.inr (va_up fl_23 ml (some (ad (20 + ml) 0))))))) := (fE49 0 9 (fun q9 => absurd q9.2 (by decide))).trans c_35
  have c_52 : E47 0 1 = .inr (1, [.ref (ad 0 2), .ref (ad 0 3), .ref (ad 0 4), .int (nI len), .int (nI wn)]) := (fE49 0 1 (fun q9 => absurd q9.2 (by decide))).trans c_37
  have c_53 : E47 0 2 = .inl (kA 1, 40, .inl tx_4) := (fE49 0 2 (fun q9 => absurd q9.2 (by decide))).trans c_38
  have c_54 : E47 0 3 = .inl (kA 0, 20, .inl fb_4) := (fE49 0 3 (fun q9 => absurd q9.2 (by decide))).trans c_39
  have c_55 : E47 0 4 = .inl (kA 0, 20, .inl fe_4) := (fE49 0 4 (fun q9 => absurd q9.2 (by decide))).trans c_40
  have c_56 : E47 0 5 = .inr (2, [.ref (ad 0 6), .int (nI nd)]) := (fE49 0 5 (fun q9 => absurd q9.2 (by decide))).trans c_41
  have c_57 : E47 0 6 = .inl (kA 4, 12, .inr (.inr (.inr (.inr fd_13)))) := (fE49 0 6 (fun q9 => absurd q9.2 (by decide))).trans c_42
  have c_58 : E47 0 7 = .inr (3, [.ref (ad 0 5), .ref (ad 0 8), .int (nI cs), .int cf_18, pv_18]) := (fE49 0 7 (fun q9 => absurd q9.2 (by decide))).trans c_43
  have c_59 : E47 0 8 = .inl (kA 4, 12, .inr (.inr (.inr (.inr fc_18)))) := (fE49 0 8 (fun q9 => absurd q9.2 (by decide))).trans c_44
  have nb_60 : ¬ (20 + ml = 0) := by omega
  have c_61 : E47 (20 + ml) 0 = .inr (5, [.int (nI ml), pv_26, .ref (ad (20 + ml) 1), .int op_26]) := (fE49 (20 + ml) 0 (fun q9 => nb_60 q9.1)).trans c_45
  have c_62 : E47 (20 + ml) 1 = .inl (kA 6, mk_26, .inr (.inr (.inr (.inr fm_26)))) := (fE49 (20 + ml) 1 (fun q9 => absurd q9.2 (by decide))).trans c_46
  have hTDz : TDs (va_up g 11 (kf g L 0)) E47 nd := TDs_same (fun d9 hd9 => fun2 fun o9 => by show E47 (1 + d9) o9 = _; rw [fE49 (1 + d9) o9 (by omega), fE34 (1 + d9) o9 (by omega)]) (TDs_AG hDIs (fun d9 hd9 => AG_11g kf_0) hTD)
  have hLyz : ∀ n9, n9 < ml + 1 → E47 (20 + n9) = E (20 + n9) := fun n9 hn9 => fun2 fun o9 => by show E47 (20 + n9) o9 = _; rw [fE49 (20 + n9) o9 (by omega), fE34 (20 + n9) o9 (by omega)]
  have hF0z : eI (E47 0 0) 5 = eI (E 0 0) 5 := by rw [c_50, c_2]; rfl
  have hCI : CI kA ad E47 RL (ml + 1) nd len wn cs := ⟨hmB, ⟨lf_1, c_50⟩, ⟨tx_4, fb_4, fe_4, (by omega), (by omega), c_52, c_53, c_54, c_55, hws_4⟩, ⟨fd_13, (by omega), c_56, c_57, hds_13⟩, ⟨cf_18, pv_18, fc_18, (by omega), (PV_le hpv_18 (by omega)), c_58, c_59, hfc_18⟩, ⟨(va_up fl_23 ml (some (ad (20 + ml) 0))), (by omega), c_51, (LA_add hla_23)⟩, (DIs_same (fun d9 hd9 => fun2 fun o9 => by show E47 (1 + d9) o9 = _; rw [fE49 (1 + d9) o9 (by omega), fE34 (1 + d9) o9 (by omega)]) (fun _ _ => rfl) (fun _ h9 => h9) hDIs), (LIs_add (LIs_same (Nat.le_refl _) (fun n9 hn9 => fun2 fun o9 => by show E47 (20 + n9) o9 = _; rw [fE49 (20 + n9) o9 (by omega), fE34 (20 + n9) o9 (by omega)]) (fun _ _ => rfl) (fun _ _ => rfl) (fun _ h9 => h9) hLIs) (LI_same (Nat.le_refl _) (fun2 fun o9 => by show E47 (20 + ml) o9 = _; rw [fE49 (20 + ml) o9 (by omega), fE34 (20 + ml) o9 (by omega)]) rfl (fun _ _ => rfl) (fun _ _ => rfl) (fun _ h => h) hLI))⟩
  obtain ⟨hmB, hDk, hLi, hSh, hCh, hLa, hDIs, hLIs⟩ := id hCI
  refine lv_iconst (v := 0) hx hb xd_De_keep_29 (by decide) ?_
  refine lv_istore_n hx hb xd_De_keep_30 rfl hl (Nat.le_of_ble_eq_true rfl) rfl (fun ls hl => ?_)
  have hl : lv_has ls 3 [(2, .int 0), (0, .ref (ad 0 0)), (1, .ref (ad (20 + ml) 0))] := hl
  refine xlab (σ := Nat × (Nat → Nat → va_E)) (ml := 3) 31 (fun (k, E1) => [(2, .int (nI k)), (1, .ref (ad (20 + ml) 0)), (0, .ref (ad 0 0))]) (fun (k, E1) => []) (fun (k, E1) => rp ad E1 RL) (fun (k, E1) => (k ≤ L.length) ∧ (CI kA ad E1 RL (ml + 1) nd len wn cs) ∧ (TDs (va_up g 11 (kf g L k)) E1 nd) ∧ (∀ n9, n9 < ml + 1 → E1 (20 + n9) = E (20 + n9)) ∧ (eI (E1 0 0) 5 = eI (E 0 0) 5)) (fun (k, E1) => L.length - k) ?_ (0, E47) _ _ _ (lv_sub hl [0, 2, 1] rfl) hP hD hS ⟨(show 0 ≤ L.length from by first | assumption | omega), (show CI kA ad E47 RL (ml + 1) nd len wn cs from hCI), (show TDs (va_up g 11 (kf g L 0)) E47 nd from hTDz), (show ∀ n9, n9 < ml + 1 → E47 (20 + n9) = E (20 + n9) from hLyz), (show eI (E47 0 0) 5 = eI (E 0 0) 5 from hF0z)⟩
  intro n9 ih63 a9 ls H locs hμ hl hP hD hS hI
  subst hμ
  obtain ⟨k, E1⟩ := a9
  obtain ⟨hk0, hCI, hTDk, hLy, hF0⟩ := hI
  have hk0 : k ≤ L.length := hk0
  have hCI : CI kA ad E1 RL (ml + 1) nd len wn cs := hCI
  have hTDk : TDs (va_up g 11 (kf g L k)) E1 nd := hTDk
  have hLy : ∀ n9, n9 < ml + 1 → E1 (20 + n9) = E (20 + n9) := hLy
  have hF0 : eI (E1 0 0) 5 = eI (E 0 0) 5 := hF0
  have hl : lv_has ls 3 [(2, .int (nI k)), (1, .ref (ad (20 + ml) 0)), (0, .ref (ad 0 0))] := hl
  have hP : va_P D xcl (rp ad E1 RL) H := hP
  have hD : va_D A (rp ad E1 RL) := hD
  have hTLk : TLas g ad E1 nd (ml + 1) := TLas_same (Nat.le_refl _) (fun n9 hn9 => hLy n9 hn9) (fun _ _ => rfl) (fun _ _ => rfl) hTLx
  obtain ⟨hmB, hDk, hLi, hSh, hCh, hLa, hDIs, hLIs⟩ := id hCI
  obtain ⟨lf_64, q_64⟩ := id (hDk)
  have c_65 : E1 0 0 = .inr (0, [.ref (ad 0 1), .ref (ad 0 5), .ref (ad 0 7), .ref (ad 0 9), .int (nI (ml + 1)), .int lf_64]) := q_64
  have m_66 : (0, 0) ∈ RL := hmB 0 (by decide)
  obtain ⟨tx_67, fb_67, fe_67, hl1_67, hw2_67, q1_67, q2_67, q3_67, q4_67, hws_67⟩ := id (hLi)
  have c_68 : E1 0 1 = .inr (1, [.ref (ad 0 2), .ref (ad 0 3), .ref (ad 0 4), .int (nI len), .int (nI wn)]) := q1_67
  have m_69 : (0, 1) ∈ RL := hmB 1 (by decide)
  have c_70 : E1 0 2 = .inl (kA 1, 40, .inl tx_67) := q2_67
  have m_71 : (0, 2) ∈ RL := hmB 2 (by decide)
  have c_72 : E1 0 3 = .inl (kA 0, 20, .inl fb_67) := q3_67
  have m_73 : (0, 3) ∈ RL := hmB 3 (by decide)
  have c_74 : E1 0 4 = .inl (kA 0, 20, .inl fe_67) := q4_67
  have m_75 : (0, 4) ∈ RL := hmB 4 (by decide)
  obtain ⟨fd_76, hnd_76, q5_76, q6_76, hds_76⟩ := id (hSh)
  have c_77 : E1 0 5 = .inr (2, [.ref (ad 0 6), .int (nI nd)]) := q5_76
  have m_78 : (0, 5) ∈ RL := hmB 5 (by decide)
  have c_79 : E1 0 6 = .inl (kA 4, 12, .inr (.inr (.inr (.inr fd_76)))) := q6_76
  have m_80 : (0, 6) ∈ RL := hmB 6 (by decide)
  obtain ⟨cf_81, pv_81, fc_81, hcs_81, hpv_81, q7_81, q8_81, hfc_81⟩ := id (hCh)
  have c_82 : E1 0 7 = .inr (3, [.ref (ad 0 5), .ref (ad 0 8), .int (nI cs), .int cf_81, pv_81]) := q7_81
  have m_83 : (0, 7) ∈ RL := hmB 7 (by decide)
  have c_84 : E1 0 8 = .inl (kA 4, 12, .inr (.inr (.inr (.inr fc_81)))) := q8_81
  have m_85 : (0, 8) ∈ RL := hmB 8 (by decide)
  obtain ⟨fl_86, hml_86, q9_86, hla_86⟩ := id (hLa)
  have c_87 : E1 0 9 = .inl (kA 5, 5, .inr (.inr (.inr (.inr fl_86)))) := q9_86
  have m_88 : (0, 9) ∈ RL := hmB 9 (by decide)
  obtain ⟨m0_89, m1_89, pv_89, op_89, mk_89, fm_89, hmk_89, hpv_89, q0_89, q1_89, hk_89⟩ := id (hLIs ml (by omega))
  have c_90 : E1 (20 + ml) 0 = .inr (5, [.int (nI ml), pv_89, .ref (ad (20 + ml) 1), .int op_89]) := q0_89
  have m_91 : (20 + ml, 0) ∈ RL := m0_89
  have c_92 : E1 (20 + ml) 1 = .inl (kA 6, mk_89, .inr (.inr (.inr (.inr fm_89)))) := q1_89
  have m_93 : (20 + ml, 1) ∈ RL := m1_89
  obtain ⟨top_89, ⟨lq_89, hlq_89, h19_89, hpv2_89⟩, h20_89, tmd_89⟩ := TLa_get c_90 c_92 (hTLk ml (by omega))
  have c_94 : E1 (20 + ml) 0 = .inr (5, [.int (nI ml), (lyv ad lq_89), .ref (ad (20 + ml) 1), .int op_89]) := by rw [← hpv2_89]; exact c_90
  have i20_89 : iN (g 20 ml) = mk_89 := by rw [h20_89, iN_nI (by omega)]
  have hmkL : mk_89 = L.length := by have q := hmL; unfold mcv at q; rw [h20_89, iN_nI (by omega)] at q; exact q
  refine lv_iload_n hx hb xd_De_keep_31 rfl (lv_at hl 0 rfl) ?_
  refine lv_aload_n hx hb xd_De_keep_32 rfl (lv_at hl 1 rfl) ?_
  refine px_get (D := D) (ci := 5) (v := .ref (ad (20 + ml) 1)) (C := xR_Ly) (T := xT_Ly) (N := 4) hx hb hT xi_Ly hown hK.1 hP m_91 c_94 rfl 2 (by decide) (hT _ k6b_2) (fun _ h9 => h9) rfl xd_De_keep_33 ?_
  refine px_alen hx hb hK.1 hP m_93 c_92 6 rfl xd_De_keep_36 ?_
  refine W.eq (g2 := F0 m 37 ls [.int (nI mk_89), .int (nI k)]) rfl ?_
  refine xn_ge (a := k) (b := mk_89) (tgt := 59) hx hb xd_De_keep_37 (by decide) (by omega) (by omega) (fun hc95 => ?_) (fun hc95 => ?_)
  · exact W.vret hx hb hr (fun t ht hW => ⟨⟨E1, rfl, ⟨hCI, by rw [← kf_end (k := k) (by omega)]; exact hTDk, hLy, hF0⟩, by rw [ht]; exact hP, hD⟩, hS.F ht⟩) hS.2.2 xd_De_keep_59
  · refine lv_aload_n hx hb xd_De_keep_40 rfl (lv_at hl 1 rfl) ?_
    refine px_get (D := D) (ci := 5) (v := .ref (ad (20 + ml) 1)) (C := xR_Ly) (T := xT_Ly) (N := 4) hx hb hT xi_Ly hown hK.1 hP m_91 c_94 rfl 2 (by decide) (hT _ k6b_2) (fun _ h9 => h9) rfl xd_De_keep_41 ?_
    refine lv_iload_n hx hb xd_De_keep_44 rfl (lv_at hl 0 rfl) ?_
    refine px_aald (i := k) (x := (some (ad (20 + ml) (10 + 10 * k)))) hx hb hK.1 hP m_93 c_92 6 rfl ((hk_89 k (by omega)).1) (by omega) (by omega) xd_De_keep_45 ?_
    obtain ⟨hm_96, d_96, rs_96, fr_96, g2_96, g3_96, g4_96, hd_96, hrs_96, q0_96, q1_96, q2_96, q3_96, q4_96, q5_96, q6_96, q7_96⟩ := (hk_89 k (by omega)).2
    have c_97 : E1 (20 + ml) (10 + 10 * k) = .inr (6, [.ref (ad (20 + ml) 0), .ref (ad (1 + d_96) 0), .ref (ad (20 + ml) (11 + 10 * k)), .ref (ad (20 + ml) (12 + 10 * k)), .ref (ad (20 + ml) (13 + 10 * k)), .ref (ad (20 + ml) (14 + 10 * k))]) := q0_96
    have m_98 : (20 + ml, 10 + 10 * k) ∈ RL := hm_96 0 (by decide)
    have c_99 : E1 (20 + ml) (11 + 10 * k) = .inl (kA 6, rs_96, .inr (.inr (.inr (.inr fr_96)))) := q1_96
    have m_100 : (20 + ml, 11 + 10 * k) ∈ RL := hm_96 1 (by decide)
    have c_101 : E1 (20 + ml) (12 + 10 * k) = .inr (10, [.ref (ad (20 + ml) (15 + 10 * k))]) := q2_96
    have m_102 : (20 + ml, 12 + 10 * k) ∈ RL := hm_96 2 (by decide)
    have c_103 : E1 (20 + ml) (13 + 10 * k) = .inr (10, [.ref (ad (20 + ml) (16 + 10 * k))]) := q3_96
    have m_104 : (20 + ml, 13 + 10 * k) ∈ RL := hm_96 3 (by decide)
    have c_105 : E1 (20 + ml) (14 + 10 * k) = .inr (10, [.ref (ad (20 + ml) (17 + 10 * k))]) := q4_96
    have m_106 : (20 + ml, 14 + 10 * k) ∈ RL := hm_96 4 (by decide)
    have c_107 : E1 (20 + ml) (15 + 10 * k) = .inl (kA 0, 6, .inl g2_96) := q5_96
    have m_108 : (20 + ml, 15 + 10 * k) ∈ RL := hm_96 5 (by decide)
    have c_109 : E1 (20 + ml) (16 + 10 * k) = .inl (kA 0, 6, .inl g3_96) := q6_96
    have m_110 : (20 + ml, 16 + 10 * k) ∈ RL := hm_96 6 (by decide)
    have c_111 : E1 (20 + ml) (17 + 10 * k) = .inl (kA 0, 6, .inl g4_96) := q7_96
    have m_112 : (20 + ml, 17 + 10 * k) ∈ RL := hm_96 7 (by decide)
    have hdm_96 : mdv g ml k = d_96 := by
      obtain ⟨dz, hdz, h21z, hvz⟩ := tmd_89 k (by omega)
      rw [c_97] at hvz
      have ez := (rp_inj hD ((hDIs d_96 hd_96).1 0 (by omega)) ((hDIs dz hdz).1 0 (by omega)) (Value.ref.inj hvz)).1
      unfold mdv
      rw [h21z, iN_nI (by omega)]; omega
    refine px_get (D := D) (ci := 6) (v := .ref (ad (1 + d_96) 0)) (C := xR_Me) (T := xT_Me) (N := 6) hx hb hT xi_Me hown hK.1 hP m_98 c_97 rfl 1 (by decide) (hT _ k6b_3) (fun _ h9 => h9) rfl xd_De_keep_46 ?_
    refine lv_iconst (v := 1) hx hb xd_De_keep_49 (by decide) ?_
    obtain ⟨hm_113, fd_113, nm_113, sd_113, k0_113, k1_113, k2_113, k3_113, f0_113, f1_113, f2_113, f3_113, fe_113, fo_113, tr_113, op_113, hk0_113, hk1_113, hk2_113, hk3_113, q0_113, q1_113, q2_113, q3_113, q4_113, q5_113, q6_113, q7_113, q8_113, q9_113, q10_113, q11_113, q12_113, hg_113⟩ := id (hDIs d_96 (by omega))
    have c_114 : E1 (1 + d_96) 0 = .inr (7, [.int (nI d_96), .int fd_113, .int nm_113, .ref (ad (1 + d_96) 1), .ref (ad (1 + d_96) 9), .ref (ad (1 + d_96) 10), .ref (ad (1 + d_96) 2), .ref (ad (1 + d_96) 11), .ref (ad (1 + d_96) 12), .ref (ad (1 + d_96) 3), .ref (ad (1 + d_96) 4), .int sd_113]) := q0_113
    have m_115 : (1 + d_96, 0) ∈ RL := hm_113 0 (by decide)
    have c_116 : E1 (1 + d_96) 1 = .inr (8, [.ref (ad (1 + d_96) 5), .int (nI k0_113)]) := q1_113
    have m_117 : (1 + d_96, 1) ∈ RL := hm_113 1 (by decide)
    have c_118 : E1 (1 + d_96) 2 = .inr (8, [.ref (ad (1 + d_96) 6), .int (nI k1_113)]) := q2_113
    have m_119 : (1 + d_96, 2) ∈ RL := hm_113 2 (by decide)
    have c_120 : E1 (1 + d_96) 3 = .inr (8, [.ref (ad (1 + d_96) 7), .int (nI k2_113)]) := q3_113
    have m_121 : (1 + d_96, 3) ∈ RL := hm_113 3 (by decide)
    have c_122 : E1 (1 + d_96) 4 = .inr (8, [.ref (ad (1 + d_96) 8), .int (nI k3_113)]) := q4_113
    have m_123 : (1 + d_96, 4) ∈ RL := hm_113 4 (by decide)
    have c_124 : E1 (1 + d_96) 5 = .inl (kA 0, 6, .inl f0_113) := q5_113
    have m_125 : (1 + d_96, 5) ∈ RL := hm_113 5 (by decide)
    have c_126 : E1 (1 + d_96) 6 = .inl (kA 0, 5, .inl f1_113) := q6_113
    have m_127 : (1 + d_96, 6) ∈ RL := hm_113 6 (by decide)
    have c_128 : E1 (1 + d_96) 7 = .inl (kA 0, 3, .inl f2_113) := q7_113
    have m_129 : (1 + d_96, 7) ∈ RL := hm_113 7 (by decide)
    have c_130 : E1 (1 + d_96) 8 = .inl (kA 0, 3, .inl f3_113) := q8_113
    have m_131 : (1 + d_96, 8) ∈ RL := hm_113 8 (by decide)
    have c_132 : E1 (1 + d_96) 9 = .inl (kA 8, 6, .inr (.inr (.inr (.inr fe_113)))) := q9_113
    have m_133 : (1 + d_96, 9) ∈ RL := hm_113 9 (by decide)
    have c_134 : E1 (1 + d_96) 10 = .inl (kA 8, 6, .inr (.inr (.inr (.inr fo_113)))) := q10_113
    have m_135 : (1 + d_96, 10) ∈ RL := hm_113 10 (by decide)
    have c_136 : E1 (1 + d_96) 11 = .inl (kA 2, 5, .inl tr_113) := q11_113
    have m_137 : (1 + d_96, 11) ∈ RL := hm_113 11 (by decide)
    have c_138 : E1 (1 + d_96) 12 = .inl (kA 2, 5, .inl op_113) := q12_113
    have m_139 : (1 + d_96, 12) ∈ RL := hm_113 12 (by decide)
    have hg_113 : ∀ w9, w9 < k0_113 → fe_113 w9 = some (ad (1 + d_96) (20 + 3 * w9)) ∧ fo_113 w9 = some (ad (1 + d_96) (38 + 3 * w9)) ∧ GI kA (ad (1 + d_96)) (E1 (1 + d_96)) (fun o => (1 + d_96, o) ∈ RL) (20 + 3 * w9) (21 + 3 * w9) (22 + 3 * w9) ∧ GI kA (ad (1 + d_96)) (E1 (1 + d_96)) (fun o => (1 + d_96, o) ∈ RL) (38 + 3 * w9) (39 + 3 * w9) (40 + 3 * w9) := hg_113
    have hkd9 : L.getD k 0 = d_96 := by have q := hmD k (by omega); rw [hdm_96] at q; exact q.symm
    refine px_put (D := D) (ci := 7) (v := .int 1) (ty := .boolean) (C := xR_Ds) (T := xT_Ds) (N := 12) hx hb hT xi_Ds xt_Ds xt_Ds_ok xn_Ds hown hK.1 hP hD hS m_115 c_114 rfl 11 (by decide) (hT _ k6b_4) (fun _ h9 => h9) rfl (by decide +kernel) rfl rfl (Nat.le_of_ble_eq_true rfl) xd_De_keep_50 (fun H locs hP hD hS => ?_)
    have hP : va_P D xcl (rp ad (up2 E1 (1 + d_96) 0 (.inr (7, [.int (nI d_96), .int fd_113, .int nm_113, .ref (ad (1 + d_96) 1), .ref (ad (1 + d_96) 9), .ref (ad (1 + d_96) 10), .ref (ad (1 + d_96) 2), .ref (ad (1 + d_96) 11), .ref (ad (1 + d_96) 12), .ref (ad (1 + d_96) 3), .ref (ad (1 + d_96) 4), .int 1]))) RL) H := hP
    have hD : va_D A (rp ad (up2 E1 (1 + d_96) 0 (.inr (7, [.int (nI d_96), .int fd_113, .int nm_113, .ref (ad (1 + d_96) 1), .ref (ad (1 + d_96) 9), .ref (ad (1 + d_96) 10), .ref (ad (1 + d_96) 2), .ref (ad (1 + d_96) 11), .ref (ad (1 + d_96) 12), .ref (ad (1 + d_96) 3), .ref (ad (1 + d_96) 4), .int 1]))) RL) := hD
    generalize hE141 : up2 E1 (1 + d_96) 0 (.inr (7, [.int (nI d_96), .int fd_113, .int nm_113, .ref (ad (1 + d_96) 1), .ref (ad (1 + d_96) 9), .ref (ad (1 + d_96) 10), .ref (ad (1 + d_96) 2), .ref (ad (1 + d_96) 11), .ref (ad (1 + d_96) 12), .ref (ad (1 + d_96) 3), .ref (ad (1 + d_96) 4), .int 1])) = E140 at hP hD
    have fE142 : ∀ b2 o2, ¬ (b2 = 1 + d_96 ∧ o2 = 0) → E140 b2 o2 = E1 b2 o2 := fun b2 o2 h9 => by rw [← hE141]; exact up2_ne (nr_or h9)
    have c_143 : E140 (1 + d_96) 0 = .inr (7, [.int (nI d_96), .int fd_113, .int nm_113, .ref (ad (1 + d_96) 1), .ref (ad (1 + d_96) 9), .ref (ad (1 + d_96) 10), .ref (ad (1 + d_96) 2), .ref (ad (1 + d_96) 11), .ref (ad (1 + d_96) 12), .ref (ad (1 + d_96) 3), .ref (ad (1 + d_96) 4), .int 1]) := by rw [← hE141]; exact up2_eq
    have nb_144 : ¬ (0 = 1 + d_96) := by omega
    have c_145 : E140 0 0 = .inr (0, [.ref (ad 0 1), .ref (ad 0 5), .ref (ad 0 7), .ref (ad 0 9), .int (nI (ml + 1)), .int lf_64]) := (fE142 0 0 (fun q9 => nb_144 q9.1)).trans c_65
    have c_146 : E140 0 1 = .inr (1, [.ref (ad 0 2), .ref (ad 0 3), .ref (ad 0 4), .int (nI len), .int (nI wn)]) := (fE142 0 1 (fun q9 => absurd q9.2 (by decide))).trans c_68
    have c_147 : E140 0 2 = .inl (kA 1, 40, .inl tx_67) := (fE142 0 2 (fun q9 => absurd q9.2 (by decide))).trans c_70
    have c_148 : E140 0 3 = .inl (kA 0, 20, .inl fb_67) := (fE142 0 3 (fun q9 => absurd q9.2 (by decide))).trans c_72
    have c_149 : E140 0 4 = .inl (kA 0, 20, .inl fe_67) := (fE142 0 4 (fun q9 => absurd q9.2 (by decide))).trans c_74
    have c_150 : E140 0 5 = .inr (2, [.ref (ad 0 6), .int (nI nd)]) := (fE142 0 5 (fun q9 => absurd q9.2 (by decide))).trans c_77
    have c_151 : E140 0 6 = .inl (kA 4, 12, .inr (.inr (.inr (.inr fd_76)))) := (fE142 0 6 (fun q9 => absurd q9.2 (by decide))).trans c_79
    have c_152 : E140 0 7 = .inr (3, [.ref (ad 0 5), .ref (ad 0 8), .int (nI cs), .int cf_81, pv_81]) := (fE142 0 7 (fun q9 => absurd q9.2 (by decide))).trans c_82
    have c_153 : E140 0 8 = .inl (kA 4, 12, .inr (.inr (.inr (.inr fc_81)))) := (fE142 0 8 (fun q9 => absurd q9.2 (by decide))).trans c_84
    have c_154 : E140 0 9 = .inl (kA 5, 5, .inr (.inr (.inr (.inr fl_86)))) := (fE142 0 9 (fun q9 => absurd q9.2 (by decide))).trans c_87
    have nb_155 : ¬ (20 + ml = 1 + d_96) := by omega
    have c_156 : E140 (20 + ml) 0 = .inr (5, [.int (nI ml), (lyv ad lq_89), .ref (ad (20 + ml) 1), .int op_89]) := (fE142 (20 + ml) 0 (fun q9 => nb_155 q9.1)).trans c_94
    have c_157 : E140 (20 + ml) 1 = .inl (kA 6, mk_89, .inr (.inr (.inr (.inr fm_89)))) := (fE142 (20 + ml) 1 (fun q9 => absurd q9.2 (by decide))).trans c_92
    have c_158 : E140 (20 + ml) (10 + 10 * k) = .inr (6, [.ref (ad (20 + ml) 0), .ref (ad (1 + d_96) 0), .ref (ad (20 + ml) (11 + 10 * k)), .ref (ad (20 + ml) (12 + 10 * k)), .ref (ad (20 + ml) (13 + 10 * k)), .ref (ad (20 + ml) (14 + 10 * k))]) := (fE142 (20 + ml) (10 + 10 * k) (fun q9 => nr_y q9.2 (by decide))).trans c_97
    have c_159 : E140 (20 + ml) (11 + 10 * k) = .inl (kA 6, rs_96, .inr (.inr (.inr (.inr fr_96)))) := (fE142 (20 + ml) (11 + 10 * k) (fun q9 => nr_y q9.2 (by decide))).trans c_99
    have c_160 : E140 (20 + ml) (12 + 10 * k) = .inr (10, [.ref (ad (20 + ml) (15 + 10 * k))]) := (fE142 (20 + ml) (12 + 10 * k) (fun q9 => nr_y q9.2 (by decide))).trans c_101
    have c_161 : E140 (20 + ml) (13 + 10 * k) = .inr (10, [.ref (ad (20 + ml) (16 + 10 * k))]) := (fE142 (20 + ml) (13 + 10 * k) (fun q9 => nr_y q9.2 (by decide))).trans c_103
    have c_162 : E140 (20 + ml) (14 + 10 * k) = .inr (10, [.ref (ad (20 + ml) (17 + 10 * k))]) := (fE142 (20 + ml) (14 + 10 * k) (fun q9 => nr_y q9.2 (by decide))).trans c_105
    have c_163 : E140 (20 + ml) (15 + 10 * k) = .inl (kA 0, 6, .inl g2_96) := (fE142 (20 + ml) (15 + 10 * k) (fun q9 => nr_y q9.2 (by decide))).trans c_107
    have c_164 : E140 (20 + ml) (16 + 10 * k) = .inl (kA 0, 6, .inl g3_96) := (fE142 (20 + ml) (16 + 10 * k) (fun q9 => nr_y q9.2 (by decide))).trans c_109
    have c_165 : E140 (20 + ml) (17 + 10 * k) = .inl (kA 0, 6, .inl g4_96) := (fE142 (20 + ml) (17 + 10 * k) (fun q9 => nr_y q9.2 (by decide))).trans c_111
    have c_166 : E140 (1 + d_96) 1 = .inr (8, [.ref (ad (1 + d_96) 5), .int (nI k0_113)]) := (fE142 (1 + d_96) 1 (fun q9 => absurd q9.2 (by decide))).trans c_116
    have c_167 : E140 (1 + d_96) 2 = .inr (8, [.ref (ad (1 + d_96) 6), .int (nI k1_113)]) := (fE142 (1 + d_96) 2 (fun q9 => absurd q9.2 (by decide))).trans c_118
    have c_168 : E140 (1 + d_96) 3 = .inr (8, [.ref (ad (1 + d_96) 7), .int (nI k2_113)]) := (fE142 (1 + d_96) 3 (fun q9 => absurd q9.2 (by decide))).trans c_120
    have c_169 : E140 (1 + d_96) 4 = .inr (8, [.ref (ad (1 + d_96) 8), .int (nI k3_113)]) := (fE142 (1 + d_96) 4 (fun q9 => absurd q9.2 (by decide))).trans c_122
    have c_170 : E140 (1 + d_96) 5 = .inl (kA 0, 6, .inl f0_113) := (fE142 (1 + d_96) 5 (fun q9 => absurd q9.2 (by decide))).trans c_124
    have c_171 : E140 (1 + d_96) 6 = .inl (kA 0, 5, .inl f1_113) := (fE142 (1 + d_96) 6 (fun q9 => absurd q9.2 (by decide))).trans c_126
    have c_172 : E140 (1 + d_96) 7 = .inl (kA 0, 3, .inl f2_113) := (fE142 (1 + d_96) 7 (fun q9 => absurd q9.2 (by decide))).trans c_128
    have c_173 : E140 (1 + d_96) 8 = .inl (kA 0, 3, .inl f3_113) := (fE142 (1 + d_96) 8 (fun q9 => absurd q9.2 (by decide))).trans c_130
    have c_174 : E140 (1 + d_96) 9 = .inl (kA 8, 6, .inr (.inr (.inr (.inr fe_113)))) := (fE142 (1 + d_96) 9 (fun q9 => absurd q9.2 (by decide))).trans c_132
    have c_175 : E140 (1 + d_96) 10 = .inl (kA 8, 6, .inr (.inr (.inr (.inr fo_113)))) := (fE142 (1 + d_96) 10 (fun q9 => absurd q9.2 (by decide))).trans c_134
    have c_176 : E140 (1 + d_96) 11 = .inl (kA 2, 5, .inl tr_113) := (fE142 (1 + d_96) 11 (fun q9 => absurd q9.2 (by decide))).trans c_136
    have c_177 : E140 (1 + d_96) 12 = .inl (kA 2, 5, .inl op_113) := (fE142 (1 + d_96) 12 (fun q9 => absurd q9.2 (by decide))).trans c_138
    have hTDn : TDs (va_up g 11 (kf g L (k + 1))) E140 nd := TDs_upd (x := d_96) hDIs (fun d9 hd9 hx9 => fun2 fun o9 => by show E140 (1 + d9) o9 = _; rw [fE142 (1 + d9) o9 (by omega)]) (fun d9 hd9 hx9 => AG_11 (kf_o (fun e9 => hx9 (by rw [← e9, hkd9])))) (TD_k (hTDk d_96 (by omega)) c_114 c_143 (fun o9 ho9 => by show E140 (1 + d_96) o9 = _; rw [fE142 (1 + d_96) o9 (by omega)]) (kf_s hkd9)) hTDk
    have hLyn : ∀ n9, n9 < ml + 1 → E140 (20 + n9) = E (20 + n9) := fun n9 hn9 => (show E140 (20 + n9) = E1 (20 + n9) from fun2 fun o9 => by show E140 (20 + n9) o9 = _; rw [fE142 (20 + n9) o9 (by omega)]).trans (hLy n9 hn9)
    have hF0n : eI (E140 0 0) 5 = eI (E 0 0) 5 := by rw [(show E140 0 0 = E1 0 0 from by show E140 0 0 = _; rw [fE142 0 0 (by omega)])]; exact hF0
    have hCI : CI kA ad E140 RL (ml + 1) nd len wn cs := ⟨hmB, ⟨lf_64, c_145⟩, ⟨tx_67, fb_67, fe_67, (by omega), (by omega), c_146, c_147, c_148, c_149, hws_67⟩, ⟨fd_76, (by omega), c_150, c_151, hds_76⟩, ⟨cf_81, pv_81, fc_81, (by omega), hpv_81, c_152, c_153, hfc_81⟩, ⟨fl_86, (by omega), c_154, hla_86⟩, (DIs_set (x := d_96) (fun d9 hd9 hx9 => fun2 fun o9 => by show E140 (1 + d9) o9 = _; rw [fE142 (1 + d9) o9 (by omega)]) (fun _ _ _ => rfl) (fun _ h => h) (DI_set0 (hDIs d_96 (by omega)) (fun o9 ho9 => by show E140 (1 + d_96) o9 = _; rw [fE142 (1 + d_96) o9 (by omega)]) c_143) hDIs), (LIs_same (Nat.le_refl _) (fun n9 hn9 => fun2 fun o9 => by show E140 (20 + n9) o9 = _; rw [fE142 (20 + n9) o9 (by omega)]) (fun _ _ => rfl) (fun _ _ => rfl) (fun _ h9 => h9) hLIs)⟩
    obtain ⟨hmB, hDk, hLi, hSh, hCh, hLa, hDIs, hLIs⟩ := id hCI
    refine lv_iinc (k := 0) (x := (nI k)) (v := (nI (k + 1))) hx hb xd_De_keep_53 hl rfl (xb_inc k 1) (Nat.le_of_ble_eq_true rfl) rfl (fun ls hl => ?_)
    have hl : lv_has ls 3 [(2, .int (nI (k + 1))), (1, .ref (ad (20 + ml) 0)), (0, .ref (ad 0 0))] := hl
    refine lv_goto (tgt := 31) hx hb xd_De_keep_56 (by decide) ?_
    exact ih63 (k + 1, E140) _ _ _ (show L.length - (k + 1) < L.length - k by omega) (lv_sub hl [0, 1, 2] rfl) hP hD hS ⟨(show (k + 1) ≤ L.length from by first | assumption | omega), (show CI kA ad E140 RL (ml + 1) nd len wn cs from hCI), (show TDs (va_up g 11 (kf g L (k + 1))) E140 nd from hTDn), (show ∀ n9, n9 < ml + 1 → E140 (20 + n9) = E (20 + n9) from hLyn), (show eI (E140 0 0) 5 = eI (E 0 0) 5 from hF0n)⟩
def F134 (E E' : Nat → Nat → va_E) : Prop := ∀ b2 o2, ¬ (b2 = 0 ∧ o2 = 1) → ¬ (b2 = 0 ∧ o2 = 3) → ¬ (b2 = 0 ∧ o2 = 4) → E' b2 o2 = E b2 o2
theorem we_le {t : Nat → Int32} {n i : Nat} (h : i < (w_all t n).length) : we (w_all t n) i ≤ n := by
  have q := w_all_ok t (n := n) ((w_all t n).getD i (0, 0)) (by rw [List.getD_eq_getElem?_getD, List.getElem?_eq_getElem h]; exact List.getElem_mem h)
  exact q.2
theorem LW_mk {g : gT} {E : Nat → Nat → va_E} {len : Nat} {wl : List (Nat × Nat)} {tx fb fe : Nat → Int32} {ka kb kc : ClassId} {na nb nc : Nat} {zz : Nat → Nat → Int32} (hwl : wl = w_all (g 0) len) (hl : len ≤ 40) (c2 : E 0 2 = .inl (ka, na, .inl tx)) (c3 : E 0 3 = .inl (kb, nb, .inl fb)) (c4 : E 0 4 = .inl (kc, nc, .inl fe)) (hT : ∀ i, i < len → tx i = g 0 i) (hf : fT zz fb fe wl) : LW g E len wl := by
  refine ⟨by rw [hwl]; exact WL_all _ hl, hl, fun i hi => ⟨?_, ?_, ?_⟩, fun i hi => ?_⟩
  · rw [c3]; exact (hf i hi).1
  · rw [c4]; exact (hf i hi).2
  · rw [hwl] at hi ⊢; exact we_le hi
  · rw [c2]; exact hT i hi
theorem FRL_c {ml nd : Nat} {ad ad' : Nat → Nat → Nat} {E E1 E' : Nat → Nat → va_E} (h : F134 E E1) (h2 : FRL ml nd ad ad' E1 E') : FRL ml nd ad ad' E E' := ⟨fun n hn => ⟨(h2.1 n hn).1.trans (fun2 fun o => h (20 + n) o (by omega) (by omega) (by omega)), (h2.1 n hn).2⟩, h2.2.1, h2.2.2.trans (h 0 0 (by omega) (by omega) (by omega))⟩
theorem m1_ne {n : Nat} (h : n < 100) : ¬ (nI 0 - 1 = nI n) := fun e => by
  have q : nI n < 0 := by rw [← e]; decide
  exact absurd q (nI_pos (by rw [xb_31]; omega))
theorem s1_eq {n : Nat} (h : n < 100) : nI (n + 1) - 1 = nI n := by
  have q : nI (n + 1) - nI 1 = nI (n + 1 - 1) := pk_sub (a := n + 1) (b := 1) (by omega)
  rw [show n + 1 - 1 = n by omega] at q; exact q
def clQ (g : gT) (ml : Nat) (ix : Int32) : Prop := opP g ml ix ∧ ∀ j, j < ml → ¬ g 22 j = 0 → ¬ g 19 j = ix
theorem TLas_cl {g : gT} {ad : Nat → Nat → Nat} {E E' : Nat → Nat → va_E} {nd ml x : Nat} {v0 v2 pv : Value} {lo : Int32} (c0 : E (20 + x) 0 = .inr (5, [v0, pv, v2, .int lo])) (c1 : E' (20 + x) 0 = .inr (5, [v0, pv, v2, .int 0])) (hf : ∀ b o, ¬ (b = 20 + x ∧ o = 0) → E' b o = E b o) (h : TLas g ad E nd ml) : TLas (va_up g 22 (upd (g 22) x 0)) ad E' nd ml := fun n hn => by
  obtain ⟨q1, q2, q3, q4⟩ := h n hn
  have e19 : va_up g 22 (upd (g 22) x 0) 19 = g 19 := vu_ne (by decide)
  have e20 : va_up g 22 (upd (g 22) x 0) 20 = g 20 := vu_ne (by decide)
  have e21 : va_up g 22 (upd (g 22) x 0) 21 = g 21 := vu_ne (by decide)
  unfold TLa
  rw [e19, e20, e21, vu_eq, hf (20 + n) 1 (by omega)]
  have q4 : ∀ k, k < eL (E (20 + n) 1) → ∃ d, d < nd ∧ g 21 (12 * n + k) = nI d ∧ eV (E' (20 + n) (10 + 10 * k)) 1 = .ref (ad (1 + d) 0) := fun k hk => by rw [hf (20 + n) (10 + 10 * k) (by omega)]; exact q4 k hk
  by_cases e : n = x
  · subst e
    rw [c0] at q2
    refine ⟨by rw [c1, pk_us]; rfl, by rw [c1]; exact q2, q3, q4⟩
  · rw [hf (20 + n) 0 (by omega), pk_un e]
    exact ⟨q1, q2, q3, q4⟩
theorem k6c_0 : (Cond.fieldLink "LayerDesk" 10 "LayerDesk" "written" "LLayerDesk$Line;") ∈ wT := wT_t (List.mem_append_left _ (List.mem_of_getElem? (i := 99) rfl)) rfl
theorem k6c_1 : (Cond.code xy_Li_append xb_Li_append 2 (some .boolean)) ∈ wT := wT_t (List.mem_append_left _ (List.mem_of_getElem? (i := 125) rfl)) rfl
theorem k6c_2 : (Cond.methodLink "LayerDesk" 45 xy_Li_append) ∈ wT := wT_t (List.mem_append_left _ (List.mem_of_getElem? (i := 122) rfl)) rfl
theorem k6c_3 : (Cond.instanceMethod xy_Li_append) ∈ wT := wT_t (List.mem_append_left _ (List.mem_of_getElem? (i := 123) rfl)) rfl
theorem k6c_4 : (Cond.selects "LayerDesk$Line" xy_Li_append xy_Li_append) ∈ wT := wT_t (List.mem_append_left _ (List.mem_of_getElem? (i := 124) rfl)) rfl
theorem k6c_5 : (Cond.initialized "LayerDesk$Line") ∈ wT := wT_t (List.mem_append_left _ (List.mem_of_getElem? (i := 2) rfl)) rfl
theorem k6c_6 : (Cond.fieldLink "LayerDesk" 38 "LayerDesk" "made" "I") ∈ wT := wT_t (List.mem_append_left _ (List.mem_of_getElem? (i := 103) rfl)) rfl
theorem k6c_7 : (Cond.code xy_De_openLayer xb_De_openLayer 3 (some (.object "LayerDesk$Layer"))) ∈ wT := wT_t (List.mem_append_left _ (List.mem_of_getElem? (i := 137) rfl)) rfl
theorem k6c_8 : (Cond.methodLink "LayerDesk" 68 xy_De_openLayer) ∈ wT := wT_t (List.mem_append_left _ (List.mem_of_getElem? (i := 134) rfl)) rfl
theorem k6c_9 : (Cond.instanceMethod xy_De_openLayer) ∈ wT := wT_t (List.mem_append_left _ (List.mem_of_getElem? (i := 136) rfl)) rfl
theorem k6c_10 : (Cond.selects "LayerDesk" xy_De_openLayer xy_De_openLayer) ∈ wT := wT_s (q := (xy_De_openLayer, 6)) (by decide +kernel) rfl
theorem k6c_11 : (Cond.initialized "LayerDesk") ∈ wT := wT_t (List.mem_append_left _ (List.mem_of_getElem? (i := 1) rfl)) rfl
theorem k6c_12 : (Cond.fieldLink "LayerDesk" 217 "LayerDesk$Layer" "parent" "LLayerDesk$Layer;") ∈ wT := wT_t (List.mem_append_right _ (List.mem_append_right _ (List.mem_append_left _ (List.mem_of_getElem? (i := 146) rfl)))) rfl
theorem k6c_13 : (Cond.code xy_De_isParentOfOpen xb_De_isParentOfOpen 4 (some .boolean)) ∈ wT := wT_t (List.mem_append_left _ (List.mem_of_getElem? (i := 141) rfl)) rfl
theorem k6c_14 : (Cond.methodLink "LayerDesk" 113 xy_De_isParentOfOpen) ∈ wT := wT_t (List.mem_append_left _ (List.mem_of_getElem? (i := 138) rfl)) rfl
theorem k6c_15 : (Cond.instanceMethod xy_De_isParentOfOpen) ∈ wT := wT_t (List.mem_append_left _ (List.mem_of_getElem? (i := 140) rfl)) rfl
theorem k6c_16 : (Cond.selects "LayerDesk" xy_De_isParentOfOpen xy_De_isParentOfOpen) ∈ wT := wT_s (q := (xy_De_isParentOfOpen, 6)) (by decide +kernel) rfl
theorem k6c_17 : (Cond.fieldLink "LayerDesk" 117 "LayerDesk$Layer" "open" "Z") ∈ wT := wT_t (List.mem_append_right _ (List.mem_append_right _ (List.mem_append_left _ (List.mem_of_getElem? (i := 152) rfl)))) rfl
set_option maxHeartbeats 4000000 in
set_option maxRecDepth 100000 in
theorem xc_De_writeX (l : Launch) (D : va_G) (kA : Nat → ClassId) (sz : Nat) (ad : Nat → Nat → Nat) (E : Nat → Nat → va_E) (RL : List (Nat × Nat)) (ml : Nat) (nd : Nat) (len : Nat) (wn : Nat) (cs : Nat) (cc9 : Int32) (hCI : CI kA ad E RL ml nd len wn cs) : Met l xy_De_write (.code xy_De_write xb_De_write 2 (some .boolean) :: wT) { frames := 1, cells := 0, slots := 0, locals := 21 } (va_Pc [.ref (ad 0 0), .int cc9] (xPre D kA sz (rp ad E RL))) (va_Qi (fun (r : Int32) (u : Nat → Nat → va_E) => ∃ len2, CI kA ad u RL ml nd len2 wn cs ∧ ((r = 0 ∧ len2 = len ∧ eA (u 0 2) = eA (E 0 2) ∧ (cc9 < 32 ∨ 126 < cc9 ∨ len = 40)) ∨ (r = 1 ∧ len2 = len + 1 ∧ eA (u 0 2) = upd (eA (E 0 2)) len (vp_nar .char cc9) ∧ len < 40 ∧ ¬ cc9 < 32 ∧ ¬ 126 < cc9)) ∧ (∀ b2 o2, ¬ (b2 = 0 ∧ o2 = 1) → ¬ (b2 = 0 ∧ o2 = 2) → u b2 o2 = E b2 o2)) (fun (u : Nat → Nat → va_E) t => va_P D xcl (rp ad u RL) t.heap ∧ va_D (va_A (rp ad E RL) sz) (rp ad u RL)) (va_A (rp ad E RL) sz)) 0 0 (va_A (rp ad E RL) sz) := by
  refine Met.ofW (cc := xb_De_write) (maxL := 2) (ret := (some .boolean)) (by decide) rfl ?_
  intro p e s m args below meth c s₁ B hml hv
  obtain ⟨rfl, hsz, hP, hK, hD0⟩ := hv
  have hx := B.exec
  have hb := B.bytes
  have hr := B.returns
  have hT := x_hT B.pre
  have hown : s.vm.findClass xR_De = some m.cls := findClass_of_methodNamed B.named
  have hlocks := B.notSynchronized
  subst hsz
  have hD := hD0.self (sz := s.heap.size)
  generalize hAe : va_A (rp ad E RL) s.heap.size = A at hD ⊢
  have hA : ∀ q : Nat, s.heap.size ≤ q → A q := fun q h => by rw [← hAe]; exact Or.inr h
  have hS : va_S A s.heap s.heap [] := va_S.rf
  have hl := lv_entry ([.ref (ad 0 0), .int cc9]) (n := 2) (Nat.le_of_ble_eq_true rfl)
  rw [lg_entry_eq]
  generalize (lg_sl ([.ref (ad 0 0), .int cc9]) ++ List.replicate (2 - (lg_sl ([.ref (ad 0 0), .int cc9])).length) Slot.unset).toArray = ls at hl ⊢
  have hl : lv_has ls 2 [(0, .ref (ad 0 0)), (1, .int cc9)] := hl
  have hP : va_P D xcl (rp ad E RL) s.heap := hP
  obtain ⟨hmB, hDk, hLi, hSh, hCh, hLa, hDIs, hLIs⟩ := id hCI
  obtain ⟨lf_1, q_1⟩ := id (hDk)
  have c_2 : E 0 0 = .inr (0, [.ref (ad 0 1), .ref (ad 0 5), .ref (ad 0 7), .ref (ad 0 9), .int (nI ml), .int lf_1]) := q_1
  have m_3 : (0, 0) ∈ RL := hmB 0 (by decide)
  obtain ⟨tx_4, fb_4, fe_4, hl1_4, hw2_4, q1_4, q2_4, q3_4, q4_4, hws_4⟩ := id (hLi)
  have c_5 : E 0 1 = .inr (1, [.ref (ad 0 2), .ref (ad 0 3), .ref (ad 0 4), .int (nI len), .int (nI wn)]) := q1_4
  have m_6 : (0, 1) ∈ RL := hmB 1 (by decide)
  have c_7 : E 0 2 = .inl (kA 1, 40, .inl tx_4) := q2_4
  have m_8 : (0, 2) ∈ RL := hmB 2 (by decide)
  have c_9 : E 0 3 = .inl (kA 0, 20, .inl fb_4) := q3_4
  have m_10 : (0, 3) ∈ RL := hmB 3 (by decide)
  have c_11 : E 0 4 = .inl (kA 0, 20, .inl fe_4) := q4_4
  have m_12 : (0, 4) ∈ RL := hmB 4 (by decide)
  obtain ⟨fd_13, hnd_13, q5_13, q6_13, hds_13⟩ := id (hSh)
  have c_14 : E 0 5 = .inr (2, [.ref (ad 0 6), .int (nI nd)]) := q5_13
  have m_15 : (0, 5) ∈ RL := hmB 5 (by decide)
  have c_16 : E 0 6 = .inl (kA 4, 12, .inr (.inr (.inr (.inr fd_13)))) := q6_13
  have m_17 : (0, 6) ∈ RL := hmB 6 (by decide)
  obtain ⟨cf_18, pv_18, fc_18, hcs_18, hpv_18, q7_18, q8_18, hfc_18⟩ := id (hCh)
  have c_19 : E 0 7 = .inr (3, [.ref (ad 0 5), .ref (ad 0 8), .int (nI cs), .int cf_18, pv_18]) := q7_18
  have m_20 : (0, 7) ∈ RL := hmB 7 (by decide)
  have c_21 : E 0 8 = .inl (kA 4, 12, .inr (.inr (.inr (.inr fc_18)))) := q8_18
  have m_22 : (0, 8) ∈ RL := hmB 8 (by decide)
  obtain ⟨fl_23, hml_23, q9_23, hla_23⟩ := id (hLa)
  have c_24 : E 0 9 = .inl (kA 5, 5, .inr (.inr (.inr (.inr fl_23)))) := q9_23
  have m_25 : (0, 9) ∈ RL := hmB 9 (by decide)
  refine lv_aload_n hx hb xd_De_write_0 rfl (lv_at hl 0 rfl) ?_
  refine px_get (D := D) (ci := 0) (v := .ref (ad 0 1)) (C := xR_De) (T := xT_De) (N := 6) hx hb hT xi_De hown hK.1 hP m_3 c_2 rfl 0 (by decide) (hT _ k6c_0) (fun _ h9 => h9) rfl xd_De_write_1 ?_
  refine lv_iload_n hx hb xd_De_write_4 rfl (lv_at hl 1 rfl) ?_
  have hFc := px_free hD hS hA
  refine va_calli (va_runV (As := [.int cc9]) (rest := []) ⟨hx, hb, hml, hown, hT⟩ (xc_Li_appendX l D kA s.heap.size ad E RL len wn tx_4 cc9 m_6 c_5 m_8 c_7 (by first | assumption | omega)) (cwV 1 hT (wT_V k6c_2 k6c_3 k6c_4 k6c_5 k6c_1) rfl rfl rfl (by decide +kernel) ⟨Nat.le_of_ble_eq_true rfl, Nat.le_of_ble_eq_true rfl⟩) (px_preV hK hP hD m_6 c_5 rfl) rfl rfl hl.1 rfl (lv_room (Nat.le_of_ble_eq_true rfl)) xd_De_write_5 ⟨(Nat.le_of_ble_eq_true rfl), (Nat.le_of_ble_eq_true rfl)⟩) hS (fun q _ h => hFc q h) hFc (fun r26 u27 t H1 locs ht hvm hp28 hB hz1 hk1 hS => ?_)
  obtain ⟨hP1, hD1⟩ := hB
  rw [ht] at hP1
  have hD1 := hD1.weaken (fun _ _ _ h => hFc _ h)
  generalize H1 = H at hP1 hS ⊢
  have hP := hP1
  have hD := hD1
  obtain ⟨E29, rfl⟩ : ∃ z, z = u27 := ⟨_, rfl⟩
  obtain ⟨w30, w31, hp35, p_32, p_33, p_34⟩ := hp28
  have p_32 : E29 0 1 = .inr (1, [.ref (ad 0 2), .ref (ad 0 3), .ref (ad 0 4), .int (nI w30), .int (nI wn)]) := p_32
  have p_33 : E29 0 2 = .inl (kA 1, 40, .inl w31) := p_33
  have p_34 : (∀ b2 o2, ¬ (b2 = 0 ∧ o2 = 1) → ¬ (b2 = 0 ∧ o2 = 2) → E29 b2 o2 = E b2 o2) := p_34
  have c_36 : E29 0 0 = .inr (0, [.ref (ad 0 1), .ref (ad 0 5), .ref (ad 0 7), .ref (ad 0 9), .int (nI ml), .int lf_1]) := (p_34 0 0 (fun q9 => absurd q9.2 (by decide)) (fun q9 => absurd q9.2 (by decide))).trans c_2
  have c_37 : E29 0 3 = .inl (kA 0, 20, .inl fb_4) := (p_34 0 3 (fun q9 => absurd q9.2 (by decide)) (fun q9 => absurd q9.2 (by decide))).trans c_9
  have c_38 : E29 0 4 = .inl (kA 0, 20, .inl fe_4) := (p_34 0 4 (fun q9 => absurd q9.2 (by decide)) (fun q9 => absurd q9.2 (by decide))).trans c_11
  have c_39 : E29 0 5 = .inr (2, [.ref (ad 0 6), .int (nI nd)]) := (p_34 0 5 (fun q9 => absurd q9.2 (by decide)) (fun q9 => absurd q9.2 (by decide))).trans c_14
  have c_40 : E29 0 6 = .inl (kA 4, 12, .inr (.inr (.inr (.inr fd_13)))) := (p_34 0 6 (fun q9 => absurd q9.2 (by decide)) (fun q9 => absurd q9.2 (by decide))).trans c_16
  have c_41 : E29 0 7 = .inr (3, [.ref (ad 0 5), .ref (ad 0 8), .int (nI cs), .int cf_18, pv_18]) := (p_34 0 7 (fun q9 => absurd q9.2 (by decide)) (fun q9 => absurd q9.2 (by decide))).trans c_19
  have c_42 : E29 0 8 = .inl (kA 4, 12, .inr (.inr (.inr (.inr fc_18)))) := (p_34 0 8 (fun q9 => absurd q9.2 (by decide)) (fun q9 => absurd q9.2 (by decide))).trans c_21
  have c_43 : E29 0 9 = .inl (kA 5, 5, .inr (.inr (.inr (.inr fl_23)))) := (p_34 0 9 (fun q9 => absurd q9.2 (by decide)) (fun q9 => absurd q9.2 (by decide))).trans c_24
  have hP : va_P D xcl (rp ad E29 RL) H := hP
  have hD : va_D A (rp ad E29 RL) := hD
  have hap : ((r26 = 0 ∧ w30 = len ∧ eA (E29 0 2) = eA (E 0 2) ∧ (cc9 < 32 ∨ 126 < cc9 ∨ len = 40)) ∨ (r26 = 1 ∧ w30 = len + 1 ∧ eA (E29 0 2) = upd (eA (E 0 2)) len (vp_nar .char cc9) ∧ len < 40 ∧ ¬ cc9 < 32 ∧ ¬ 126 < cc9)) := by
    rw [show eA (E29 0 2) = w31 from by rw [p_33]; rfl, show eA (E 0 2) = tx_4 from by rw [c_7]; rfl]; exact hp35
  have hfw : (∀ b2 o2, ¬ (b2 = 0 ∧ o2 = 1) → ¬ (b2 = 0 ∧ o2 = 2) → E29 b2 o2 = E b2 o2) := fun b2 o2 h19 h29 => by show E29 b2 o2 = _; rw [p_34 b2 o2 (by omega) (by omega)]
  have hCI : CI kA ad E29 RL ml nd w30 wn cs := ⟨hmB, ⟨lf_1, c_36⟩, ⟨w31, fb_4, fe_4, (by omega), (by omega), p_32, p_33, c_37, c_38, hws_4⟩, ⟨fd_13, (by omega), c_39, c_40, hds_13⟩, ⟨cf_18, pv_18, fc_18, (by omega), hpv_18, c_41, c_42, hfc_18⟩, ⟨fl_23, (by omega), c_43, hla_23⟩, (DIs_same (fun d9 hd9 => fun2 fun o9 => by show E29 (1 + d9) o9 = _; rw [p_34 (1 + d9) o9 (by omega) (by omega)]) (fun _ _ => rfl) (fun _ h9 => h9) hDIs), (LIs_same (Nat.le_refl _) (fun n9 hn9 => fun2 fun o9 => by show E29 (20 + n9) o9 = _; rw [p_34 (20 + n9) o9 (by omega) (by omega)]) (fun _ _ => rfl) (fun _ _ => rfl) (fun _ h9 => h9) hLIs)⟩
  obtain ⟨hmB, hDk, hLi, hSh, hCh, hLa, hDIs, hLIs⟩ := id hCI
  exact W.zret (v := r26) hx hb hr (by rcases hap with ⟨h, _⟩ | ⟨h, _⟩ <;> rw [h] <;> rfl) (fun t ht hW => ⟨⟨r26, E29, rfl, ⟨w30, hCI, hap, hfw⟩, by rw [ht]; exact hP, hD⟩, hS.F ht⟩) hS.2.2 xd_De_write_8
set_option maxHeartbeats 4000000 in
set_option maxRecDepth 100000 in
theorem xc_De_isParentOfOpenX (l : Launch) (D : va_G) (kA : Nat → ClassId) (sz : Nat) (ad : Nat → Nat → Nat) (E : Nat → Nat → va_E) (RL : List (Nat × Nat)) (g : Nat → Nat → Int32) (ml : Nat) (nd : Nat) (len : Nat) (wn : Nat) (cs : Nat) (n : Nat) (hCI : CI kA ad E RL ml nd len wn cs) (hTL : TLas g ad E nd ml) (hn9 : n < ml) : Met l xy_De_isParentOfOpen (.code xy_De_isParentOfOpen xb_De_isParentOfOpen 4 (some .boolean) :: wT) { frames := 1, cells := 0, slots := 0, locals := 22 } (va_Pc [.ref (ad 0 0), .ref (ad (20 + n) 0)] (xPre D kA sz (rp ad E RL))) (va_Qi (fun (r : Int32) (u : Unit) => (r = 1 ∧ (∃ j8, j8 < ml ∧ ¬ g 22 j8 = 0 ∧ g 19 j8 = nI n)) ∨ (r = 0 ∧ ¬ (∃ j8, j8 < ml ∧ ¬ g 22 j8 = 0 ∧ g 19 j8 = nI n))) (fun (u : Unit) t => va_P D xcl (rp ad E RL) t.heap ∧ va_D (va_A (rp ad E RL) sz) (rp ad E RL)) (va_A (rp ad E RL) sz)) 0 0 (va_A (rp ad E RL) sz) := by
  refine Met.ofW (cc := xb_De_isParentOfOpen) (maxL := 4) (ret := (some .boolean)) (by decide) rfl ?_
  intro p e s m args below meth c s₁ B hml hv
  obtain ⟨rfl, hsz, hP, hK, hD0⟩ := hv
  have hx := B.exec
  have hb := B.bytes
  have hr := B.returns
  have hT := x_hT B.pre
  have hown : s.vm.findClass xR_De = some m.cls := findClass_of_methodNamed B.named
  have hlocks := B.notSynchronized
  subst hsz
  have hD := hD0.self (sz := s.heap.size)
  generalize hAe : va_A (rp ad E RL) s.heap.size = A at hD ⊢
  have hA : ∀ q : Nat, s.heap.size ≤ q → A q := fun q h => by rw [← hAe]; exact Or.inr h
  have hS : va_S A s.heap s.heap [] := va_S.rf
  have hl := lv_entry ([.ref (ad 0 0), .ref (ad (20 + n) 0)]) (n := 4) (Nat.le_of_ble_eq_true rfl)
  rw [lg_entry_eq]
  generalize (lg_sl ([.ref (ad 0 0), .ref (ad (20 + n) 0)]) ++ List.replicate (4 - (lg_sl ([.ref (ad 0 0), .ref (ad (20 + n) 0)])).length) Slot.unset).toArray = ls at hl ⊢
  have hl : lv_has ls 4 [(0, .ref (ad 0 0)), (1, .ref (ad (20 + n) 0))] := hl
  have hP : va_P D xcl (rp ad E RL) s.heap := hP
  obtain ⟨hmB, hDk, hLi, hSh, hCh, hLa, hDIs, hLIs⟩ := id hCI
  obtain ⟨lf_1, q_1⟩ := id (hDk)
  have c_2 : E 0 0 = .inr (0, [.ref (ad 0 1), .ref (ad 0 5), .ref (ad 0 7), .ref (ad 0 9), .int (nI ml), .int lf_1]) := q_1
  have m_3 : (0, 0) ∈ RL := hmB 0 (by decide)
  obtain ⟨fl_4, hml_4, q9_4, hla_4⟩ := id (hLa)
  have c_5 : E 0 9 = .inl (kA 5, 5, .inr (.inr (.inr (.inr fl_4)))) := q9_4
  have m_6 : (0, 9) ∈ RL := hmB 9 (by decide)
  refine lv_iconst (v := 0) hx hb xd_De_isParentOfOpen_0 (by decide) ?_
  refine lv_istore_n hx hb xd_De_isParentOfOpen_1 rfl hl (Nat.le_of_ble_eq_true rfl) rfl (fun ls hl => ?_)
  have hl : lv_has ls 4 [(2, .int 0), (0, .ref (ad 0 0)), (1, .ref (ad (20 + n) 0))] := hl
  refine xlab (σ := Nat) (ml := 4) 2 (fun (i : Nat) => [(2, .int (nI i)), (0, .ref (ad 0 0)), (1, .ref (ad (20 + n) 0))]) (fun (i : Nat) => []) (fun (i : Nat) => rp ad E RL) (fun (i : Nat) => (i ≤ ml) ∧ (∀ j8, j8 < i → ¬ g 22 j8 = 0 → ¬ g 19 j8 = nI n)) (fun (i : Nat) => ml - i) ?_ 0 _ _ _ (lv_sub hl [0, 1, 2] rfl) hP hD hS ⟨(show 0 ≤ ml from by first | assumption | omega), (show ∀ j8, j8 < 0 → ¬ g 22 j8 = 0 → ¬ g 19 j8 = nI n from fun j hj => absurd hj (by omega))⟩
  intro n9 ih7 a9 ls H locs hμ hl hP hD hS hI
  subst hμ
  obtain ⟨i, rfl⟩ : ∃ z, z = a9 := ⟨_, rfl⟩
  obtain ⟨hi, hno⟩ := hI
  have hi : i ≤ ml := hi
  have hno : ∀ j8, j8 < i → ¬ g 22 j8 = 0 → ¬ g 19 j8 = nI n := hno
  have hl : lv_has ls 4 [(2, .int (nI i)), (0, .ref (ad 0 0)), (1, .ref (ad (20 + n) 0))] := hl
  have hP : va_P D xcl (rp ad E RL) H := hP
  have hD : va_D A (rp ad E RL) := hD
  refine lv_iload_n hx hb xd_De_isParentOfOpen_2 rfl (lv_at hl 0 rfl) ?_
  refine lv_aload_n hx hb xd_De_isParentOfOpen_3 rfl (lv_at hl 1 rfl) ?_
  refine px_get (D := D) (ci := 0) (v := .int (nI ml)) (C := xR_De) (T := xT_De) (N := 6) hx hb hT xi_De hown hK.1 hP m_3 c_2 rfl 4 (by decide) (hT _ k6c_6) (fun _ h9 => h9) rfl xd_De_isParentOfOpen_4 ?_
  refine xn_ge (a := i) (b := ml) (tgt := 36) hx hb xd_De_isParentOfOpen_7 (by decide) (by omega) (by omega) (fun hc8 => ?_) (fun hc8 => ?_)
  · refine lv_iconst (v := 0) hx hb xd_De_isParentOfOpen_36 (by decide) ?_
    exact W.zret (v := 0) hx hb hr rfl (fun t ht hW => ⟨⟨0, (), rfl, Or.inr ⟨rfl, fun ⟨j8, q1, q2, q3⟩ => hno j8 (by omega) q2 q3⟩, by rw [ht]; exact hP, hD⟩, hS.F ht⟩) hS.2.2 xd_De_isParentOfOpen_37
  · refine lv_aload_n hx hb xd_De_isParentOfOpen_10 rfl (lv_at hl 1 rfl) ?_
    refine lv_iload_n hx hb xd_De_isParentOfOpen_11 rfl (lv_at hl 0 rfl) ?_
    have hFc := px_free hD hS hA
    refine va_callq (va_runV (As := [.int (nI i)]) (rest := []) ⟨hx, hb, hml, hown, hT⟩ (xc_De_openLayerX l D kA H.size ad E RL g ml nd len wn cs (nI i) (by first | assumption | omega) (by first | assumption | omega)) (cwV 1 hT (wT_V k6c_8 k6c_9 k6c_10 k6c_11 k6c_7) rfl rfl rfl (by decide +kernel) ⟨Nat.le_of_ble_eq_true rfl, Nat.le_of_ble_eq_true rfl⟩) (px_preV hK hP hD m_3 c_2 rfl) rfl rfl hl.1 rfl (lv_room (Nat.le_of_ble_eq_true rfl)) xd_De_isParentOfOpen_12 ⟨(Nat.le_of_ble_eq_true rfl), (Nat.le_of_ble_eq_true rfl)⟩) hS (fun q _ h => hFc q h) hFc (fun r9 u10 t H1 locs ht hvm hp11 hB hz1 hk1 hS => ?_)
    obtain ⟨hP1, hD1⟩ := hB
    rw [ht] at hP1
    have hD1 := hD1.weaken (fun _ _ _ h => hFc _ h)
    generalize H1 = H at hP1 hS ⊢
    have hP := hP1
    have hD := hD1
    have hP : va_P D xcl (rp ad E RL) H := hP
    have hD : va_D A (rp ad E RL) := hD
    rcases hp11 with ⟨rfl, z12⟩ | ⟨z13, z14, z15, z16, rfl⟩
    · refine W.eq (g2 := F0 m 15 ls [.null]) rfl ?_
      refine lv_astore_nN hx hb xd_De_isParentOfOpen_15 rfl hl (Nat.le_of_ble_eq_true rfl) rfl (fun ls hl => ?_)
      have hl : lv_has ls 4 [(3, .null), (2, .int (nI i)), (0, .ref (ad 0 0)), (1, .ref (ad (20 + n) 0))] := hl
      refine lv_aload_nN hx hb xd_De_isParentOfOpen_16 rfl (lv_at hl 0 rfl) ?_
      refine lv_ifnullN (tgt := 30) hx hb xd_De_isParentOfOpen_17 (by decide) ?_
      refine lv_iinc (k := 1) (x := (nI i)) (v := (nI (i + 1))) hx hb xd_De_isParentOfOpen_30 hl rfl (xb_inc i 1) (Nat.le_of_ble_eq_true rfl) rfl (fun ls hl => ?_)
      have hl : lv_has ls 4 [(2, .int (nI (i + 1))), (3, .null), (0, .ref (ad 0 0)), (1, .ref (ad (20 + n) 0))] := hl
      refine lv_goto (tgt := 2) hx hb xd_De_isParentOfOpen_33 (by decide) ?_
      exact ih7 (i + 1) _ _ _ (show ml - (i + 1) < ml - i by omega) (lv_sub hl [0, 2, 3] rfl) hP hD hS ⟨(show (i + 1) ≤ ml from by first | assumption | omega), (show ∀ j8, j8 < (i + 1) → ¬ g 22 j8 = 0 → ¬ g 19 j8 = nI n from fun j hj => by
        rcases Nat.lt_or_ge j i with z | z
        · exact hno j z
        · rw [show j = i by omega]; exact fun q => absurd ⟨i, by omega, rfl, q⟩ z12)⟩
    · have hxi : z13 = i := (nI_inj (by omega) (by omega) z15).symm
      refine W.eq (g2 := F0 m 15 ls [.ref (ad (20 + z13) 0)]) rfl ?_
      refine lv_astore_n hx hb xd_De_isParentOfOpen_15 rfl hl (Nat.le_of_ble_eq_true rfl) rfl (fun ls hl => ?_)
      have hl : lv_has ls 4 [(3, .ref (ad (20 + z13) 0)), (2, .int (nI i)), (0, .ref (ad 0 0)), (1, .ref (ad (20 + n) 0))] := hl
      refine lv_aload_n hx hb xd_De_isParentOfOpen_16 rfl (lv_at hl 0 rfl) ?_
      refine lv_ifnull hx hb xd_De_isParentOfOpen_17 ?_
      refine lv_aload_n hx hb xd_De_isParentOfOpen_20 rfl (lv_at hl 0 rfl) ?_
      obtain ⟨m0_17, m1_17, pv_17, op_17, mk_17, fm_17, hmk_17, hpv_17, q0_17, q1_17, hk_17⟩ := id (hLIs z13 (by omega))
      have c_18 : E (20 + z13) 0 = .inr (5, [.int (nI z13), pv_17, .ref (ad (20 + z13) 1), .int op_17]) := q0_17
      have m_19 : (20 + z13, 0) ∈ RL := m0_17
      have c_20 : E (20 + z13) 1 = .inl (kA 6, mk_17, .inr (.inr (.inr (.inr fm_17)))) := q1_17
      have m_21 : (20 + z13, 1) ∈ RL := m1_17
      obtain ⟨top_17, ⟨lq_17, hlq_17, h19_17, hpv2_17⟩, h20_17, tmd_17⟩ := TLa_get c_18 c_20 (hTL z13 (by omega))
      have c_22 : E (20 + z13) 0 = .inr (5, [.int (nI z13), (lyv ad lq_17), .ref (ad (20 + z13) 1), .int op_17]) := by rw [← hpv2_17]; exact c_18
      have i20_17 : iN (g 20 z13) = mk_17 := by rw [h20_17, iN_nI (by omega)]
      refine px_get (D := D) (ci := 5) (v := (lyv ad lq_17)) (C := xR_Ly) (T := xT_Ly) (N := 4) hx hb hT xi_Ly hown hK.1 hP m_19 c_22 rfl 1 (by decide) (hT _ k6c_12) (fun _ h9 => h9) rfl xd_De_isParentOfOpen_21 ?_
      rcases (show lq_17 = 0 ∨ ∃ yq, lq_17 = yq + 1 from by rcases Nat.eq_zero_or_pos lq_17 with q | q; exact Or.inl q; exact Or.inr ⟨lq_17 - 1, by omega⟩) with hyq | ⟨yq, hyq⟩
      · refine W.eq (g2 := F0 m 24 ls [.null]) (by rw [lyv_0 hyq]) ?_
        refine lv_aload_n hx hb xd_De_isParentOfOpen_24 rfl (lv_at hl 3 rfl) ?_
        refine lv_acmp_ne (rx := none) (ry := (some (ad (20 + n) 0))) (tgt := 30) hx hb xd_De_isParentOfOpen_25 (by decide) (fun hc23 => ?_) (fun hc23 => ?_)
        · refine lv_iinc (k := 1) (x := (nI i)) (v := (nI (i + 1))) hx hb xd_De_isParentOfOpen_30 hl rfl (xb_inc i 1) (Nat.le_of_ble_eq_true rfl) rfl (fun ls hl => ?_)
          have hl : lv_has ls 4 [(2, .int (nI (i + 1))), (3, .ref (ad (20 + z13) 0)), (0, .ref (ad 0 0)), (1, .ref (ad (20 + n) 0))] := hl
          refine lv_goto (tgt := 2) hx hb xd_De_isParentOfOpen_33 (by decide) ?_
          exact ih7 (i + 1) _ _ _ (show ml - (i + 1) < ml - i by omega) (lv_sub hl [0, 2, 3] rfl) hP hD hS ⟨(show (i + 1) ≤ ml from by first | assumption | omega), (show ∀ j8, j8 < (i + 1) → ¬ g 22 j8 = 0 → ¬ g 19 j8 = nI n from fun j hj => by
        rcases Nat.lt_or_ge j i with z | z
        · exact hno j z
        · rw [show j = i by omega]; exact fun _ q => m1_ne (n := n) (by omega) (by rw [← q, ← hxi, h19_17, hyq]))⟩
        · refine lv_iconst (v := 1) hx hb xd_De_isParentOfOpen_28 (by decide) ?_
          exact W.zret (v := 1) hx hb hr rfl (fun t ht hW => ⟨⟨1, (), rfl, absurd hc23 (fun q => nomatch q), by rw [ht]; exact hP, hD⟩, hS.F ht⟩) hS.2.2 xd_De_isParentOfOpen_29
      · refine W.eq (g2 := F0 m 24 ls [.ref (ad (20 + yq) 0)]) (by rw [lyv_s hyq]) ?_
        refine lv_aload_n hx hb xd_De_isParentOfOpen_24 rfl (lv_at hl 3 rfl) ?_
        refine lv_acmp_ne (rx := (some (ad (20 + yq) 0))) (ry := (some (ad (20 + n) 0))) (tgt := 30) hx hb xd_De_isParentOfOpen_25 (by decide) (fun hc24 => ?_) (fun hc24 => ?_)
        · refine lv_iinc (k := 1) (x := (nI i)) (v := (nI (i + 1))) hx hb xd_De_isParentOfOpen_30 hl rfl (xb_inc i 1) (Nat.le_of_ble_eq_true rfl) rfl (fun ls hl => ?_)
          have hl : lv_has ls 4 [(2, .int (nI (i + 1))), (3, .ref (ad (20 + z13) 0)), (0, .ref (ad 0 0)), (1, .ref (ad (20 + n) 0))] := hl
          refine lv_goto (tgt := 2) hx hb xd_De_isParentOfOpen_33 (by decide) ?_
          exact ih7 (i + 1) _ _ _ (show ml - (i + 1) < ml - i by omega) (lv_sub hl [0, 2, 3] rfl) hP hD hS ⟨(show (i + 1) ≤ ml from by first | assumption | omega), (show ∀ j8, j8 < (i + 1) → ¬ g 22 j8 = 0 → ¬ g 19 j8 = nI n from fun j hj => by
        rcases Nat.lt_or_ge j i with z | z
        · exact hno j z
        · rw [show j = i by omega]; exact fun _ q => by
            rw [← hxi, h19_17, hyq, s1_eq (by omega)] at q
            exact hc24 (by rw [nI_inj (by omega) (by omega) q]))⟩
        · refine lv_iconst (v := 1) hx hb xd_De_isParentOfOpen_28 (by decide) ?_
          exact W.zret (v := 1) hx hb hr rfl (fun t ht hW => ⟨⟨1, (), rfl, Or.inl ⟨rfl, z13, z14, z16, by
        have e9 := (rp_inj hD (hLIs yq (by omega)).1 (hLIs n hn9).1 (Option.some.inj hc24)).1
        rw [h19_17, hyq, s1_eq (by omega), show yq = n by omega]⟩, by rw [ht]; exact hP, hD⟩, hS.F ht⟩) hS.2.2 xd_De_isParentOfOpen_29
set_option maxHeartbeats 4000000 in
set_option maxRecDepth 100000 in
theorem xc_De_closeX (l : Launch) (D : va_G) (kA : Nat → ClassId) (sz : Nat) (ad : Nat → Nat → Nat) (E : Nat → Nat → va_E) (RL : List (Nat × Nat)) (g : Nat → Nat → Int32) (ml : Nat) (nd : Nat) (len : Nat) (wn : Nat) (cs : Nat) (ix : Int32) (hCI : CI kA ad E RL ml nd len wn cs) (hTL : TLas g ad E nd ml) : Met l xy_De_close (.code xy_De_close xb_De_close 3 (some .boolean) :: wT) { frames := 2, cells := 0, slots := 0, locals := 45 } (va_Pc [.ref (ad 0 0), .int ix] (xPre D kA sz (rp ad E RL))) (va_Qi (fun (r : Int32) (u : Nat → Nat → va_E) => CI kA ad u RL ml nd len wn cs ∧ (∀ b2 o2, (¬ o2 = 0 ∨ b2 < 20) → u b2 o2 = E b2 o2) ∧ TLas (clF ml g ix) ad u nd ml ∧ ((r = 1 ∧ clQ g ml ix) ∨ (r = 0 ∧ ¬ clQ g ml ix))) (fun (u : Nat → Nat → va_E) t => va_P D xcl (rp ad u RL) t.heap ∧ va_D (va_A (rp ad E RL) sz) (rp ad u RL)) (va_A (rp ad E RL) sz)) 0 0 (va_A (rp ad E RL) sz) := by
  refine Met.ofW (cc := xb_De_close) (maxL := 3) (ret := (some .boolean)) (by decide) rfl ?_
  intro p e s m args below meth c s₁ B hml hv
  obtain ⟨rfl, hsz, hP, hK, hD0⟩ := hv
  have hx := B.exec
  have hb := B.bytes
  have hr := B.returns
  have hT := x_hT B.pre
  have hown : s.vm.findClass xR_De = some m.cls := findClass_of_methodNamed B.named
  have hlocks := B.notSynchronized
  subst hsz
  have hD := hD0.self (sz := s.heap.size)
  generalize hAe : va_A (rp ad E RL) s.heap.size = A at hD ⊢
  have hA : ∀ q : Nat, s.heap.size ≤ q → A q := fun q h => by rw [← hAe]; exact Or.inr h
  have hS : va_S A s.heap s.heap [] := va_S.rf
  have hl := lv_entry ([.ref (ad 0 0), .int ix]) (n := 3) (Nat.le_of_ble_eq_true rfl)
  rw [lg_entry_eq]
  generalize (lg_sl ([.ref (ad 0 0), .int ix]) ++ List.replicate (3 - (lg_sl ([.ref (ad 0 0), .int ix])).length) Slot.unset).toArray = ls at hl ⊢
  have hl : lv_has ls 3 [(0, .ref (ad 0 0)), (1, .int ix)] := hl
  have hP : va_P D xcl (rp ad E RL) s.heap := hP
  obtain ⟨hmB, hDk, hLi, hSh, hCh, hLa, hDIs, hLIs⟩ := id hCI
  obtain ⟨lf_1, q_1⟩ := id (hDk)
  have c_2 : E 0 0 = .inr (0, [.ref (ad 0 1), .ref (ad 0 5), .ref (ad 0 7), .ref (ad 0 9), .int (nI ml), .int lf_1]) := q_1
  have m_3 : (0, 0) ∈ RL := hmB 0 (by decide)
  obtain ⟨tx_4, fb_4, fe_4, hl1_4, hw2_4, q1_4, q2_4, q3_4, q4_4, hws_4⟩ := id (hLi)
  have c_5 : E 0 1 = .inr (1, [.ref (ad 0 2), .ref (ad 0 3), .ref (ad 0 4), .int (nI len), .int (nI wn)]) := q1_4
  have m_6 : (0, 1) ∈ RL := hmB 1 (by decide)
  have c_7 : E 0 2 = .inl (kA 1, 40, .inl tx_4) := q2_4
  have m_8 : (0, 2) ∈ RL := hmB 2 (by decide)
  have c_9 : E 0 3 = .inl (kA 0, 20, .inl fb_4) := q3_4
  have m_10 : (0, 3) ∈ RL := hmB 3 (by decide)
  have c_11 : E 0 4 = .inl (kA 0, 20, .inl fe_4) := q4_4
  have m_12 : (0, 4) ∈ RL := hmB 4 (by decide)
  obtain ⟨fd_13, hnd_13, q5_13, q6_13, hds_13⟩ := id (hSh)
  have c_14 : E 0 5 = .inr (2, [.ref (ad 0 6), .int (nI nd)]) := q5_13
  have m_15 : (0, 5) ∈ RL := hmB 5 (by decide)
  have c_16 : E 0 6 = .inl (kA 4, 12, .inr (.inr (.inr (.inr fd_13)))) := q6_13
  have m_17 : (0, 6) ∈ RL := hmB 6 (by decide)
  obtain ⟨cf_18, pv_18, fc_18, hcs_18, hpv_18, q7_18, q8_18, hfc_18⟩ := id (hCh)
  have c_19 : E 0 7 = .inr (3, [.ref (ad 0 5), .ref (ad 0 8), .int (nI cs), .int cf_18, pv_18]) := q7_18
  have m_20 : (0, 7) ∈ RL := hmB 7 (by decide)
  have c_21 : E 0 8 = .inl (kA 4, 12, .inr (.inr (.inr (.inr fc_18)))) := q8_18
  have m_22 : (0, 8) ∈ RL := hmB 8 (by decide)
  obtain ⟨fl_23, hml_23, q9_23, hla_23⟩ := id (hLa)
  have c_24 : E 0 9 = .inl (kA 5, 5, .inr (.inr (.inr (.inr fl_23)))) := q9_23
  have m_25 : (0, 9) ∈ RL := hmB 9 (by decide)
  refine lv_aload_n hx hb xd_De_close_0 rfl (lv_at hl 0 rfl) ?_
  refine lv_iload_n hx hb xd_De_close_1 rfl (lv_at hl 1 rfl) ?_
  have hFc := px_free hD hS hA
  refine va_callq (va_runV (As := [.int ix]) (rest := []) ⟨hx, hb, hml, hown, hT⟩ (xc_De_openLayerX l D kA s.heap.size ad E RL g ml nd len wn cs ix (by first | assumption | omega) (by first | assumption | omega)) (cwV 1 hT (wT_V k6c_8 k6c_9 k6c_10 k6c_11 k6c_7) rfl rfl rfl (by decide +kernel) ⟨Nat.le_of_ble_eq_true rfl, Nat.le_of_ble_eq_true rfl⟩) (px_preV hK hP hD m_3 c_2 rfl) rfl rfl hl.1 rfl (lv_room (Nat.le_of_ble_eq_true rfl)) xd_De_close_2 ⟨(Nat.le_of_ble_eq_true rfl), (Nat.le_of_ble_eq_true rfl)⟩) hS (fun q _ h => hFc q h) hFc (fun r26 u27 t H1 locs ht hvm hp28 hB hz1 hk1 hS => ?_)
  obtain ⟨hP1, hD1⟩ := hB
  rw [ht] at hP1
  have hD1 := hD1.weaken (fun _ _ _ h => hFc _ h)
  generalize H1 = H at hP1 hS ⊢
  have hP := hP1
  have hD := hD1
  have hP : va_P D xcl (rp ad E RL) H := hP
  have hD : va_D A (rp ad E RL) := hD
  rcases hp28 with ⟨rfl, z29⟩ | ⟨z30, z31, z32, z33, rfl⟩
  · refine W.eq (g2 := F0 m 5 ls [.null]) rfl ?_
    refine lv_astore_nN hx hb xd_De_close_5 rfl hl (Nat.le_of_ble_eq_true rfl) rfl (fun ls hl => ?_)
    have hl : lv_has ls 3 [(2, .null), (0, .ref (ad 0 0)), (1, .int ix)] := hl
    refine lv_aload_nN hx hb xd_De_close_6 rfl (lv_at hl 0 rfl) ?_
    refine lv_ifnullN (tgt := 18) hx hb xd_De_close_7 (by decide) ?_
    refine lv_iconst (v := 0) hx hb xd_De_close_18 (by decide) ?_
    exact W.zret (v := 0) hx hb hr rfl (fun t ht hW => ⟨⟨0, E, rfl, ⟨hCI, fun _ _ _ => rfl, by rw [← clF_no (fun q => z29 q.1)]; exact hTL, Or.inr ⟨rfl, (fun q => z29 q.1)⟩⟩, by rw [ht]; exact hP, hD⟩, hS.F ht⟩) hS.2.2 xd_De_close_19
  · refine W.eq (g2 := F0 m 5 ls [.ref (ad (20 + z30) 0)]) rfl ?_
    refine lv_astore_n hx hb xd_De_close_5 rfl hl (Nat.le_of_ble_eq_true rfl) rfl (fun ls hl => ?_)
    have hl : lv_has ls 3 [(2, .ref (ad (20 + z30) 0)), (0, .ref (ad 0 0)), (1, .int ix)] := hl
    refine lv_aload_n hx hb xd_De_close_6 rfl (lv_at hl 0 rfl) ?_
    refine lv_ifnull hx hb xd_De_close_7 ?_
    refine lv_aload_n hx hb xd_De_close_10 rfl (lv_at hl 1 rfl) ?_
    refine lv_aload_n hx hb xd_De_close_11 rfl (lv_at hl 0 rfl) ?_
    have hFc := px_free hD hS hA
    refine va_calli (va_runV (As := [.ref (ad (20 + z30) 0)]) (rest := []) ⟨hx, hb, hml, hown, hT⟩ (xc_De_isParentOfOpenX l D kA H.size ad E RL g ml nd len wn cs z30 (by first | assumption | omega) (by first | assumption | omega) z31) (cwV 1 hT (wT_V k6c_14 k6c_15 k6c_16 k6c_11 k6c_13) rfl rfl rfl (by decide +kernel) ⟨Nat.le_of_ble_eq_true rfl, Nat.le_of_ble_eq_true rfl⟩) (px_preV hK hP hD m_3 c_2 rfl) rfl rfl hl.1 rfl (lv_room (Nat.le_of_ble_eq_true rfl)) xd_De_close_12 ⟨(Nat.le_of_ble_eq_true rfl), (Nat.le_of_ble_eq_true rfl)⟩) hS (fun q _ h => hFc q h) hFc (fun r34 u35 t H1 locs ht hvm hp36 hB hz1 hk1 hS => ?_)
    obtain ⟨hP1, hD1⟩ := hB
    rw [ht] at hP1
    have hD1 := hD1.weaken (fun _ _ _ h => hFc _ h)
    generalize H1 = H at hP1 hS ⊢
    have hP := hP1
    have hD := hD1
    have hP : va_P D xcl (rp ad E RL) H := hP
    have hD : va_D A (rp ad E RL) := hD
    rcases hp36 with ⟨rfl, z37⟩ | ⟨rfl, z38⟩
    · refine W.eq (g2 := F0 m 15 ls [.int 1]) rfl ?_
      refine lv_if_eq (tgt := 20) hx hb xd_De_close_15 (by decide) (fun hc39 => absurd hc39 (by decide)) (fun _ => ?_)
      refine lv_iconst (v := 0) hx hb xd_De_close_18 (by decide) ?_
      exact W.zret (v := 0) hx hb hr rfl (fun t ht hW => ⟨⟨0, E, rfl, ⟨hCI, fun _ _ _ => rfl, by rw [← clF_no (fun q => by obtain ⟨j9, q1, q2, q3⟩ := z37; exact q.2 j9 q1 q2 (by rw [q3, z32]))]; exact hTL, Or.inr ⟨rfl, (fun q => by obtain ⟨j9, q1, q2, q3⟩ := z37; exact q.2 j9 q1 q2 (by rw [q3, z32]))⟩⟩, by rw [ht]; exact hP, hD⟩, hS.F ht⟩) hS.2.2 xd_De_close_19
    · refine W.eq (g2 := F0 m 15 ls [.int 0]) rfl ?_
      refine lv_if_eq (tgt := 20) hx hb xd_De_close_15 (by decide) (fun _ => ?_) (fun hc40 => absurd (by decide) hc40)
      obtain ⟨m0_41, m1_41, pv_41, op_41, mk_41, fm_41, hmk_41, hpv_41, q0_41, q1_41, hk_41⟩ := id (hLIs z30 (by omega))
      have c_42 : E (20 + z30) 0 = .inr (5, [.int (nI z30), pv_41, .ref (ad (20 + z30) 1), .int op_41]) := q0_41
      have m_43 : (20 + z30, 0) ∈ RL := m0_41
      have c_44 : E (20 + z30) 1 = .inl (kA 6, mk_41, .inr (.inr (.inr (.inr fm_41)))) := q1_41
      have m_45 : (20 + z30, 1) ∈ RL := m1_41
      obtain ⟨top_41, ⟨lq_41, hlq_41, h19_41, hpv2_41⟩, h20_41, tmd_41⟩ := TLa_get c_42 c_44 (hTL z30 (by omega))
      have c_46 : E (20 + z30) 0 = .inr (5, [.int (nI z30), (lyv ad lq_41), .ref (ad (20 + z30) 1), .int op_41]) := by rw [← hpv2_41]; exact c_42
      have i20_41 : iN (g 20 z30) = mk_41 := by rw [h20_41, iN_nI (by omega)]
      refine lv_aload_n hx hb xd_De_close_20 rfl (lv_at hl 0 rfl) ?_
      refine lv_iconst (v := 0) hx hb xd_De_close_21 (by decide) ?_
      refine px_put (D := D) (ci := 5) (v := .int 0) (ty := .boolean) (C := xR_Ly) (T := xT_Ly) (N := 4) hx hb hT xi_Ly xt_Ly xt_Ly_ok xn_Ly hown hK.1 hP hD hS m_43 c_46 rfl 3 (by decide) (hT _ k6c_17) (fun _ h9 => h9) rfl (by decide +kernel) rfl rfl (Nat.le_of_ble_eq_true rfl) xd_De_close_22 (fun H locs hP hD hS => ?_)
      have hP : va_P D xcl (rp ad (up2 E (20 + z30) 0 (.inr (5, [.int (nI z30), (lyv ad lq_41), .ref (ad (20 + z30) 1), .int 0]))) RL) H := hP
      have hD : va_D A (rp ad (up2 E (20 + z30) 0 (.inr (5, [.int (nI z30), (lyv ad lq_41), .ref (ad (20 + z30) 1), .int 0]))) RL) := hD
      generalize hE48 : up2 E (20 + z30) 0 (.inr (5, [.int (nI z30), (lyv ad lq_41), .ref (ad (20 + z30) 1), .int 0])) = E47 at hP hD
      have fE49 : ∀ b2 o2, ¬ (b2 = 20 + z30 ∧ o2 = 0) → E47 b2 o2 = E b2 o2 := fun b2 o2 h9 => by rw [← hE48]; exact up2_ne (nr_or h9)
      have c_50 : E47 (20 + z30) 0 = .inr (5, [.int (nI z30), (lyv ad lq_41), .ref (ad (20 + z30) 1), .int 0]) := by rw [← hE48]; exact up2_eq
      have nb_51 : ¬ (0 = 20 + z30) := by omega
      have c_52 : E47 0 0 = .inr (0, [.ref (ad 0 1), .ref (ad 0 5), .ref (ad 0 7), .ref (ad 0 9), .int (nI ml), .int lf_1]) := (fE49 0 0 (fun q9 => nb_51 q9.1)).trans c_2
      have c_53 : E47 0 1 = .inr (1, [.ref (ad 0 2), .ref (ad 0 3), .ref (ad 0 4), .int (nI len), .int (nI wn)]) := (fE49 0 1 (fun q9 => absurd q9.2 (by decide))).trans c_5
      have c_54 : E47 0 2 = .inl (kA 1, 40, .inl tx_4) := (fE49 0 2 (fun q9 => absurd q9.2 (by decide))).trans c_7
      have c_55 : E47 0 3 = .inl (kA 0, 20, .inl fb_4) := (fE49 0 3 (fun q9 => absurd q9.2 (by decide))).trans c_9
      have c_56 : E47 0 4 = .inl (kA 0, 20, .inl fe_4) := (fE49 0 4 (fun q9 => absurd q9.2 (by decide))).trans c_11
      have c_57 : E47 0 5 = .inr (2, [.ref (ad 0 6), .int (nI nd)]) := (fE49 0 5 (fun q9 => absurd q9.2 (by decide))).trans c_14
      have c_58 : E47 0 6 = .inl (kA 4, 12, .inr (.inr (.inr (.inr fd_13)))) := (fE49 0 6 (fun q9 => absurd q9.2 (by decide))).trans c_16
      have c_59 : E47 0 7 = .inr (3, [.ref (ad 0 5), .ref (ad 0 8), .int (nI cs), .int cf_18, pv_18]) := (fE49 0 7 (fun q9 => absurd q9.2 (by decide))).trans c_19
      have c_60 : E47 0 8 = .inl (kA 4, 12, .inr (.inr (.inr (.inr fc_18)))) := (fE49 0 8 (fun q9 => absurd q9.2 (by decide))).trans c_21
      have c_61 : E47 0 9 = .inl (kA 5, 5, .inr (.inr (.inr (.inr fl_23)))) := (fE49 0 9 (fun q9 => absurd q9.2 (by decide))).trans c_24
      have c_62 : E47 (20 + z30) 1 = .inl (kA 6, mk_41, .inr (.inr (.inr (.inr fm_41)))) := (fE49 (20 + z30) 1 (fun q9 => absurd q9.2 (by decide))).trans c_44
      have hclq : clQ g ml ix := ⟨⟨z30, z31, z32, z33⟩, fun j9 h19 h29 h39 => z38 ⟨j9, h19, h29, by rw [h39, z32]⟩⟩
      have hTLc : TLas (clF ml g ix) ad E47 nd ml := by
        have q := clF_ok (g := g) (nl := ml) (la := z30) (x := 0) (by omega) (by rw [← z32]; exact hclq.1) (by rw [← z32]; exact hclq.2) rfl
        rw [z32, ← q]
        exact TLas_cl c_46 c_50 (fun b2 o2 h9 => by show E47 b2 o2 = _; rw [fE49 b2 o2 (by omega)]) hTL
      have hfc9 : ∀ b2 o2, (¬ o2 = 0 ∨ b2 < 20) → E47 b2 o2 = E b2 o2 := fun b2 o2 h9 => by show E47 b2 o2 = _; rw [fE49 b2 o2 (by omega)]
      have hCI : CI kA ad E47 RL ml nd len wn cs := ⟨hmB, ⟨lf_1, c_52⟩, ⟨tx_4, fb_4, fe_4, (by omega), (by omega), c_53, c_54, c_55, c_56, hws_4⟩, ⟨fd_13, (by omega), c_57, c_58, hds_13⟩, ⟨cf_18, pv_18, fc_18, (by omega), hpv_18, c_59, c_60, hfc_18⟩, ⟨fl_23, (by omega), c_61, hla_23⟩, (DIs_same (fun d9 hd9 => fun2 fun o9 => by show E47 (1 + d9) o9 = _; rw [fE49 (1 + d9) o9 (by omega)]) (fun _ _ => rfl) (fun _ h9 => h9) hDIs), (LIs_set (x := z30) (fun n9 hn9 hx9 => fun2 fun o9 => by show E47 (20 + n9) o9 = _; rw [fE49 (20 + n9) o9 (by omega)]) ⟨m0_41, m1_41, (lyv ad lq_41), 0, mk_41, fm_41, hmk_41, (by rw [← hpv2_41]; exact hpv_41), c_50, c_62, fun k9 hk9 => ⟨(hk_41 k9 hk9).1, MEI_ext (fun o9 ho9 => by show E47 (20 + z30) o9 = _; rw [fE49 (20 + z30) o9 (by omega)]) (hk_41 k9 hk9).2⟩⟩ hLIs)⟩
      obtain ⟨hmB, hDk, hLi, hSh, hCh, hLa, hDIs, hLIs⟩ := id hCI
      refine lv_iconst (v := 1) hx hb xd_De_close_25 (by decide) ?_
      exact W.zret (v := 1) hx hb hr rfl (fun t ht hW => ⟨⟨1, E47, rfl, ⟨hCI, hfc9, hTLc, Or.inl ⟨rfl, hclq⟩⟩, by rw [ht]; exact hP, hD⟩, hS.F ht⟩) hS.2.2 xd_De_close_26
