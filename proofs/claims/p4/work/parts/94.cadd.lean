theorem k5d_0 : (Cond.fieldLink "LayerDesk$Descriptor" 27 "LayerDesk$Descriptor" "required" "LLayerDesk$Names;") ∈ wT := wT_t (List.mem_append_right _ (List.mem_append_left _ (List.mem_of_getElem? (i := 66) rfl))) rfl
theorem k5d_1 : (Cond.code xy_Na_isFull xb_Na_isFull 1 (some .boolean)) ∈ wT := wT_t (List.mem_append_right _ (List.mem_append_left _ (List.mem_of_getElem? (i := 131) rfl))) rfl
theorem k5d_2 : (Cond.methodLink "LayerDesk$Descriptor" 57 xy_Na_isFull) ∈ wT := wT_t (List.mem_append_right _ (List.mem_append_left _ (List.mem_of_getElem? (i := 136) rfl))) rfl
theorem k5d_3 : (Cond.instanceMethod xy_Na_isFull) ∈ wT := wT_t (List.mem_append_right _ (List.mem_append_left _ (List.mem_of_getElem? (i := 129) rfl))) rfl
theorem k5d_4 : (Cond.selects "LayerDesk$Names" xy_Na_isFull xy_Na_isFull) ∈ wT := wT_t (List.mem_append_right _ (List.mem_append_left _ (List.mem_of_getElem? (i := 130) rfl))) rfl
theorem k5d_5 : (Cond.initialized "LayerDesk$Names") ∈ wT := wT_t (List.mem_append_left _ (List.mem_of_getElem? (i := 11) rfl)) rfl
theorem k5d_6 : (Cond.fieldLink "LayerDesk$Descriptor" 30 "LayerDesk$Descriptor" "transitive" "[Z") ∈ wT := wT_t (List.mem_append_right _ (List.mem_append_left _ (List.mem_of_getElem? (i := 70) rfl))) rfl
theorem k5d_7 : (Cond.fieldLink "LayerDesk$Descriptor" 61 "LayerDesk$Names" "size" "I") ∈ wT := wT_t (List.mem_append_right _ (List.mem_append_left _ (List.mem_of_getElem? (i := 36) rfl))) rfl
theorem k5d_8 : (Cond.fieldLink "LayerDesk$Descriptor" 34 "LayerDesk$Descriptor" "optional" "[Z") ∈ wT := wT_t (List.mem_append_right _ (List.mem_append_left _ (List.mem_of_getElem? (i := 72) rfl))) rfl
theorem k5d_9 : (Cond.code xy_Na_append xb_Na_append 2 none) ∈ wT := wT_t (List.mem_append_right _ (List.mem_append_left _ (List.mem_of_getElem? (i := 154) rfl))) rfl
theorem k5d_10 : (Cond.methodLink "LayerDesk$Descriptor" 65 xy_Na_append) ∈ wT := wT_t (List.mem_append_right _ (List.mem_append_left _ (List.mem_of_getElem? (i := 151) rfl))) rfl
theorem k5d_11 : (Cond.instanceMethod xy_Na_append) ∈ wT := wT_t (List.mem_append_right _ (List.mem_append_left _ (List.mem_of_getElem? (i := 152) rfl))) rfl
theorem k5d_12 : (Cond.selects "LayerDesk$Names" xy_Na_append xy_Na_append) ∈ wT := wT_t (List.mem_append_right _ (List.mem_append_left _ (List.mem_of_getElem? (i := 153) rfl))) rfl
theorem k5d_13 : (Cond.fieldLink "LayerDesk$Descriptor" 14 "LayerDesk$Descriptor" "packages" "LLayerDesk$Names;") ∈ wT := wT_t (List.mem_append_right _ (List.mem_append_left _ (List.mem_of_getElem? (i := 60) rfl))) rfl
theorem k5d_14 : (Cond.fieldLink "LayerDesk$Descriptor" 20 "LayerDesk$Descriptor" "exported" "[LLayerDesk$Grant;") ∈ wT := wT_t (List.mem_append_right _ (List.mem_append_left _ (List.mem_of_getElem? (i := 64) rfl))) rfl
theorem k5d_15 : (Cond.classLink "LayerDesk$Descriptor" 18 "LayerDesk$Grant") ∈ wT := wT_t (List.mem_append_right _ (List.mem_append_left _ (List.mem_of_getElem? (i := 44) rfl))) rfl
theorem k5d_16 : (Cond.instantiable "LayerDesk$Grant" 2) ∈ wT := wT_t (List.mem_append_right _ (List.mem_append_left _ (List.mem_of_getElem? (i := 137) rfl))) rfl
theorem k5d_17 : (Cond.initialized "LayerDesk$Grant") ∈ wT := wT_t (List.mem_append_left _ (List.mem_of_getElem? (i := 12) rfl)) rfl
theorem k5d_18 : (Cond.code xy_Gr_init xb_Gr_init 1 none) ∈ wT := wT_t (List.mem_append_right _ (List.mem_append_left _ (List.mem_of_getElem? (i := 140) rfl))) rfl
theorem k5d_19 : (Cond.instanceMethod xy_Gr_init) ∈ wT := wT_t (List.mem_append_right _ (List.mem_append_left _ (List.mem_of_getElem? (i := 139) rfl))) rfl
theorem k5d_20 : (Cond.fieldLink "LayerDesk$Descriptor" 24 "LayerDesk$Descriptor" "opened" "[LLayerDesk$Grant;") ∈ wT := wT_t (List.mem_append_right _ (List.mem_append_left _ (List.mem_of_getElem? (i := 65) rfl))) rfl
set_option maxHeartbeats 4000000 in
set_option maxRecDepth 100000 in
theorem xc_Ds_addRequiredX (l : Launch) (D : va_G) (kA : Nat → ClassId) (sz : Nat) (ad : Nat → Nat → Nat) (E : Nat → Nat → va_E) (RL : List (Nat × Nat)) (g : Nat → Nat → Int32) (d : Nat) (nm : Int32) (b1 : Int32) (b2 : Int32) (hDI : DI kA d (ad (1 + d)) (E (1 + d)) (fun o => (1 + d, o) ∈ RL)) (hTDd : TD g (E (1 + d)) d) (hnf : iN (g 12 d) < 5) : Met l xy_Ds_addRequired (.code xy_Ds_addRequired xb_Ds_addRequired 4 none :: wT) { frames := 2, cells := 0, slots := 0, locals := 41 } (va_Pc [.ref (ad (1 + d) 0), .int nm, .int b1, .int b2] (xPre D kA sz (rp ad E RL))) (va_Qv (fun (u : Nat → Nat → va_E) => (DI kA d (ad (1 + d)) (u (1 + d)) (fun o => (1 + d, o) ∈ RL) ∧ TD (rqU g d nm (vp_nar .boolean b1) (vp_nar .boolean b2)) (u (1 + d)) d) ∧ ((∀ b2 o2, ¬ (b2 = 1 + d) → u b2 o2 = E b2 o2))) (fun (u : Nat → Nat → va_E) t => va_P D xcl (rp ad u RL) t.heap ∧ va_D (va_A (rp ad E RL) sz) (rp ad u RL)) (va_A (rp ad E RL) sz)) 0 0 (va_A (rp ad E RL) sz) := by
  refine Met.ofW (cc := xb_Ds_addRequired) (maxL := 4) (ret := none) (by decide) rfl ?_
  intro p e s m args below meth c s₁ B hml hv
  obtain ⟨rfl, hsz, hP, hK, hD0⟩ := hv
  have hx := B.exec
  have hb := B.bytes
  have hr := B.returns
  have hT := x_hT B.pre
  have hown : s.vm.findClass xR_Ds = some m.cls := findClass_of_methodNamed B.named
  have hlocks := B.notSynchronized
  subst hsz
  have hD := hD0.self (sz := s.heap.size)
  generalize hAe : va_A (rp ad E RL) s.heap.size = A at hD ⊢
  have hA : ∀ q : Nat, s.heap.size ≤ q → A q := fun q h => by rw [← hAe]; exact Or.inr h
  have hS : va_S A s.heap s.heap [] := va_S.rf
  have hl := lv_entry ([.ref (ad (1 + d) 0), .int nm, .int b1, .int b2]) (n := 4) (Nat.le_of_ble_eq_true rfl)
  rw [lg_entry_eq]
  generalize (lg_sl ([.ref (ad (1 + d) 0), .int nm, .int b1, .int b2]) ++ List.replicate (4 - (lg_sl ([.ref (ad (1 + d) 0), .int nm, .int b1, .int b2])).length) Slot.unset).toArray = ls at hl ⊢
  have hl : lv_has ls 4 [(0, .ref (ad (1 + d) 0)), (1, .int nm), (2, .int b1), (3, .int b2)] := hl
  have hP : va_P D xcl (rp ad E RL) s.heap := hP
  obtain ⟨hm_1, fd_1, nm_1, sd_1, k0_1, k1_1, k2_1, k3_1, f0_1, f1_1, f2_1, f3_1, fe_1, fo_1, tr_1, op_1, hk0_1, hk1_1, hk2_1, hk3_1, q0_1, q1_1, q2_1, q3_1, q4_1, q5_1, q6_1, q7_1, q8_1, q9_1, q10_1, q11_1, q12_1, hg_1⟩ := id (hDI)
  have c_2 : E (1 + d) 0 = .inr (7, [.int (nI d), .int fd_1, .int nm_1, .ref (ad (1 + d) 1), .ref (ad (1 + d) 9), .ref (ad (1 + d) 10), .ref (ad (1 + d) 2), .ref (ad (1 + d) 11), .ref (ad (1 + d) 12), .ref (ad (1 + d) 3), .ref (ad (1 + d) 4), .int sd_1]) := q0_1
  have m_3 : (1 + d, 0) ∈ RL := hm_1 0 (by omega)
  have c_4 : E (1 + d) 1 = .inr (8, [.ref (ad (1 + d) 5), .int (nI k0_1)]) := q1_1
  have m_5 : (1 + d, 1) ∈ RL := hm_1 1 (by omega)
  have c_6 : E (1 + d) 2 = .inr (8, [.ref (ad (1 + d) 6), .int (nI k1_1)]) := q2_1
  have m_7 : (1 + d, 2) ∈ RL := hm_1 2 (by omega)
  have c_8 : E (1 + d) 3 = .inr (8, [.ref (ad (1 + d) 7), .int (nI k2_1)]) := q3_1
  have m_9 : (1 + d, 3) ∈ RL := hm_1 3 (by omega)
  have c_10 : E (1 + d) 4 = .inr (8, [.ref (ad (1 + d) 8), .int (nI k3_1)]) := q4_1
  have m_11 : (1 + d, 4) ∈ RL := hm_1 4 (by omega)
  have c_12 : E (1 + d) 5 = .inl (kA 0, 6, .inl f0_1) := q5_1
  have m_13 : (1 + d, 5) ∈ RL := hm_1 5 (by omega)
  have c_14 : E (1 + d) 6 = .inl (kA 0, 5, .inl f1_1) := q6_1
  have m_15 : (1 + d, 6) ∈ RL := hm_1 6 (by omega)
  have c_16 : E (1 + d) 7 = .inl (kA 0, 3, .inl f2_1) := q7_1
  have m_17 : (1 + d, 7) ∈ RL := hm_1 7 (by omega)
  have c_18 : E (1 + d) 8 = .inl (kA 0, 3, .inl f3_1) := q8_1
  have m_19 : (1 + d, 8) ∈ RL := hm_1 8 (by omega)
  have c_20 : E (1 + d) 9 = .inl (kA 8, 6, .inr (.inr (.inr (.inr fe_1)))) := q9_1
  have m_21 : (1 + d, 9) ∈ RL := hm_1 9 (by omega)
  have c_22 : E (1 + d) 10 = .inl (kA 8, 6, .inr (.inr (.inr (.inr fo_1)))) := q10_1
  have m_23 : (1 + d, 10) ∈ RL := hm_1 10 (by omega)
  have c_24 : E (1 + d) 11 = .inl (kA 2, 5, .inl tr_1) := q11_1
  have m_25 : (1 + d, 11) ∈ RL := hm_1 11 (by omega)
  have c_26 : E (1 + d) 12 = .inl (kA 2, 5, .inl op_1) := q12_1
  have m_27 : (1 + d, 12) ∈ RL := hm_1 12 (by omega)
  have hg_1 : ∀ w9, w9 < k0_1 → fe_1 w9 = some (ad (1 + d) (20 + 3 * w9)) ∧ fo_1 w9 = some (ad (1 + d) (38 + 3 * w9)) ∧ GI kA (ad (1 + d)) (E (1 + d)) (fun o => (1 + d, o) ∈ RL) (20 + 3 * w9) (21 + 3 * w9) (22 + 3 * w9) ∧ GI kA (ad (1 + d)) (E (1 + d)) (fun o => (1 + d, o) ∈ RL) (38 + 3 * w9) (39 + 3 * w9) (40 + 3 * w9) := hg_1
  obtain ⟨hTT_1, tgr_1⟩ := TD_get hk0_1 hk1_1 hk2_1 hk3_1 c_2 c_4 c_6 c_8 c_10 c_12 c_14 c_16 c_18 c_24 c_26 (hTDd)
  obtain ⟨tfd_1, tnm_1, tsd_1, tk0_1, tf0_1, tk1_1, tf1_1, tk2_1, tk3_1⟩ := id hTT_1
  have ik0_1 : iN (g 5 d) = k0_1 := by rw [← tk0_1, iN_nI (by omega)]
  have ik1_1 : iN (g 12 d) = k1_1 := by rw [← tk1_1, iN_nI (by omega)]
  refine lv_aload_n hx hb xd_Ds_addRequired_0 rfl (lv_at hl 0 rfl) ?_
  refine px_get (D := D) (ci := 7) (v := .ref (ad (1 + d) 2)) (C := xR_Ds) (T := xT_Ds) (N := 12) hx hb hT xi_Ds hown hK.1 hP m_3 c_2 rfl 6 (by decide) (hT _ k5d_0) (fun _ h9 => h9) rfl xd_Ds_addRequired_1 ?_
  have hFc := px_free hD hS hA
  refine va_calli (va_runV (As := []) (rest := []) ⟨hx, hb, hml, hown, hT⟩ (xc_Na_isFull l D kA s.heap.size ad E RL (1 + d) 2 6 5 k1_1 f1_1 m_7 c_6 m_15 c_14 (by first | assumption | omega) (by first | assumption | omega)) (cwV 0 hT (wT_V k5d_2 k5d_3 k5d_4 k5d_5 k5d_1) rfl rfl rfl (by decide +kernel) ⟨Nat.le_of_ble_eq_true rfl, Nat.le_of_ble_eq_true rfl⟩) (px_preV hK hP hD m_7 c_6 rfl) rfl rfl hl.1 rfl (lv_room (Nat.le_of_ble_eq_true rfl)) xd_Ds_addRequired_4 ⟨(Nat.le_of_ble_eq_true rfl), (Nat.le_of_ble_eq_true rfl)⟩) hS (fun q _ h => hFc q h) hFc (fun r28 u29 t H1 locs ht hvm hp30 hB hz1 hk1 hS => ?_)
  obtain ⟨hP1, hD1⟩ := hB
  rw [ht] at hP1
  have hD1 := hD1.weaken (fun _ _ _ h => hFc _ h)
  generalize H1 = H at hP1 hS ⊢
  have hP := hP1
  have hD := hD1
  have hP : va_P D xcl (rp ad E RL) H := hP
  have hD : va_D A (rp ad E RL) := hD
  rcases hp30 with ⟨rfl, z31⟩ | ⟨rfl, z32⟩
  · exact absurd z31 (by omega)
  · refine W.eq (g2 := F0 m 7 ls [.int 0]) rfl ?_
    refine lv_if_ne (tgt := 44) hx hb xd_Ds_addRequired_7 (by decide) (fun hc33 => absurd (by decide) hc33) (fun _ => ?_)
    refine lv_aload_n hx hb xd_Ds_addRequired_10 rfl (lv_at hl 0 rfl) ?_
    refine px_get (D := D) (ci := 7) (v := .ref (ad (1 + d) 11)) (C := xR_Ds) (T := xT_Ds) (N := 12) hx hb hT xi_Ds hown hK.1 hP m_3 c_2 rfl 7 (by decide) (hT _ k5d_6) (fun _ h9 => h9) rfl xd_Ds_addRequired_11 ?_
    refine lv_aload_n hx hb xd_Ds_addRequired_14 rfl (lv_at hl 0 rfl) ?_
    refine px_get (D := D) (ci := 7) (v := .ref (ad (1 + d) 2)) (C := xR_Ds) (T := xT_Ds) (N := 12) hx hb hT xi_Ds hown hK.1 hP m_3 c_2 rfl 6 (by decide) (hT _ k5d_0) (fun _ h9 => h9) rfl xd_Ds_addRequired_15 ?_
    refine px_get (D := D) (ci := 8) (v := .int (nI k1_1)) (C := xR_Na) (T := xT_Na) (N := 2) hx hb hT xi_Na hown hK.1 hP m_7 c_6 rfl 1 (by decide) (hT _ k5d_7) (fun _ h9 => h9) rfl xd_Ds_addRequired_18 ?_
    refine lv_iload_n hx hb xd_Ds_addRequired_21 rfl (lv_at hl 2 rfl) ?_
    refine px_zast (i := k1_1) hx hb hK.1 hP hD hS m_25 c_24 2 rfl (by omega) (by decide) xd_Ds_addRequired_22 (fun H locs hP hD hS => ?_)
    have hP : va_P D xcl (rp ad (up2 E (1 + d) 11 (.inl (kA 2, 5, .inl (upd tr_1 k1_1 (vp_nar .boolean b1))))) RL) H := hP
    have hD : va_D A (rp ad (up2 E (1 + d) 11 (.inl (kA 2, 5, .inl (upd tr_1 k1_1 (vp_nar .boolean b1))))) RL) := hD
    generalize hE35 : up2 E (1 + d) 11 (.inl (kA 2, 5, .inl (upd tr_1 k1_1 (vp_nar .boolean b1)))) = E34 at hP hD
    have fE36 : ∀ b2 o2, ¬ (b2 = 1 + d ∧ o2 = 11) → E34 b2 o2 = E b2 o2 := fun b2 o2 h9 => by rw [← hE35]; exact up2_ne (by omega)
    have c_37 : E34 (1 + d) 11 = .inl (kA 2, 5, .inl (upd tr_1 k1_1 (vp_nar .boolean b1))) := by rw [← hE35]; exact up2_eq
    have c_38 : E34 (1 + d) 0 = .inr (7, [.int (nI d), .int fd_1, .int nm_1, .ref (ad (1 + d) 1), .ref (ad (1 + d) 9), .ref (ad (1 + d) 10), .ref (ad (1 + d) 2), .ref (ad (1 + d) 11), .ref (ad (1 + d) 12), .ref (ad (1 + d) 3), .ref (ad (1 + d) 4), .int sd_1]) := (fE36 (1 + d) 0 (by omega)).trans c_2
    have c_39 : E34 (1 + d) 1 = .inr (8, [.ref (ad (1 + d) 5), .int (nI k0_1)]) := (fE36 (1 + d) 1 (by omega)).trans c_4
    have c_40 : E34 (1 + d) 2 = .inr (8, [.ref (ad (1 + d) 6), .int (nI k1_1)]) := (fE36 (1 + d) 2 (by omega)).trans c_6
    have c_41 : E34 (1 + d) 3 = .inr (8, [.ref (ad (1 + d) 7), .int (nI k2_1)]) := (fE36 (1 + d) 3 (by omega)).trans c_8
    have c_42 : E34 (1 + d) 4 = .inr (8, [.ref (ad (1 + d) 8), .int (nI k3_1)]) := (fE36 (1 + d) 4 (by omega)).trans c_10
    have c_43 : E34 (1 + d) 5 = .inl (kA 0, 6, .inl f0_1) := (fE36 (1 + d) 5 (by omega)).trans c_12
    have c_44 : E34 (1 + d) 6 = .inl (kA 0, 5, .inl f1_1) := (fE36 (1 + d) 6 (by omega)).trans c_14
    have c_45 : E34 (1 + d) 7 = .inl (kA 0, 3, .inl f2_1) := (fE36 (1 + d) 7 (by omega)).trans c_16
    have c_46 : E34 (1 + d) 8 = .inl (kA 0, 3, .inl f3_1) := (fE36 (1 + d) 8 (by omega)).trans c_18
    have c_47 : E34 (1 + d) 9 = .inl (kA 8, 6, .inr (.inr (.inr (.inr fe_1)))) := (fE36 (1 + d) 9 (by omega)).trans c_20
    have c_48 : E34 (1 + d) 10 = .inl (kA 8, 6, .inr (.inr (.inr (.inr fo_1)))) := (fE36 (1 + d) 10 (by omega)).trans c_22
    have c_49 : E34 (1 + d) 12 = .inl (kA 2, 5, .inl op_1) := (fE36 (1 + d) 12 (by omega)).trans c_26
    refine lv_aload_n hx hb xd_Ds_addRequired_23 rfl (lv_at hl 0 rfl) ?_
    refine px_get (D := D) (ci := 7) (v := .ref (ad (1 + d) 12)) (C := xR_Ds) (T := xT_Ds) (N := 12) hx hb hT xi_Ds hown hK.1 hP m_3 c_38 rfl 8 (by decide) (hT _ k5d_8) (fun _ h9 => h9) rfl xd_Ds_addRequired_24 ?_
    refine lv_aload_n hx hb xd_Ds_addRequired_27 rfl (lv_at hl 0 rfl) ?_
    refine px_get (D := D) (ci := 7) (v := .ref (ad (1 + d) 2)) (C := xR_Ds) (T := xT_Ds) (N := 12) hx hb hT xi_Ds hown hK.1 hP m_3 c_38 rfl 6 (by decide) (hT _ k5d_0) (fun _ h9 => h9) rfl xd_Ds_addRequired_28 ?_
    refine px_get (D := D) (ci := 8) (v := .int (nI k1_1)) (C := xR_Na) (T := xT_Na) (N := 2) hx hb hT xi_Na hown hK.1 hP m_7 c_40 rfl 1 (by decide) (hT _ k5d_7) (fun _ h9 => h9) rfl xd_Ds_addRequired_31 ?_
    refine lv_iload_n hx hb xd_Ds_addRequired_34 rfl (lv_at hl 3 rfl) ?_
    refine px_zast (i := k1_1) hx hb hK.1 hP hD hS m_27 c_49 2 rfl (by omega) (by decide) xd_Ds_addRequired_35 (fun H locs hP hD hS => ?_)
    have hP : va_P D xcl (rp ad (up2 E34 (1 + d) 12 (.inl (kA 2, 5, .inl (upd op_1 k1_1 (vp_nar .boolean b2))))) RL) H := hP
    have hD : va_D A (rp ad (up2 E34 (1 + d) 12 (.inl (kA 2, 5, .inl (upd op_1 k1_1 (vp_nar .boolean b2))))) RL) := hD
    generalize hE51 : up2 E34 (1 + d) 12 (.inl (kA 2, 5, .inl (upd op_1 k1_1 (vp_nar .boolean b2)))) = E50 at hP hD
    have fE52 : ∀ b2 o2, ¬ (b2 = 1 + d ∧ o2 = 12) → E50 b2 o2 = E34 b2 o2 := fun b2 o2 h9 => by rw [← hE51]; exact up2_ne (by omega)
    have c_53 : E50 (1 + d) 12 = .inl (kA 2, 5, .inl (upd op_1 k1_1 (vp_nar .boolean b2))) := by rw [← hE51]; exact up2_eq
    have c_54 : E50 (1 + d) 11 = .inl (kA 2, 5, .inl (upd tr_1 k1_1 (vp_nar .boolean b1))) := (fE52 (1 + d) 11 (by omega)).trans c_37
    have c_55 : E50 (1 + d) 0 = .inr (7, [.int (nI d), .int fd_1, .int nm_1, .ref (ad (1 + d) 1), .ref (ad (1 + d) 9), .ref (ad (1 + d) 10), .ref (ad (1 + d) 2), .ref (ad (1 + d) 11), .ref (ad (1 + d) 12), .ref (ad (1 + d) 3), .ref (ad (1 + d) 4), .int sd_1]) := (fE52 (1 + d) 0 (by omega)).trans c_38
    have c_56 : E50 (1 + d) 1 = .inr (8, [.ref (ad (1 + d) 5), .int (nI k0_1)]) := (fE52 (1 + d) 1 (by omega)).trans c_39
    have c_57 : E50 (1 + d) 2 = .inr (8, [.ref (ad (1 + d) 6), .int (nI k1_1)]) := (fE52 (1 + d) 2 (by omega)).trans c_40
    have c_58 : E50 (1 + d) 3 = .inr (8, [.ref (ad (1 + d) 7), .int (nI k2_1)]) := (fE52 (1 + d) 3 (by omega)).trans c_41
    have c_59 : E50 (1 + d) 4 = .inr (8, [.ref (ad (1 + d) 8), .int (nI k3_1)]) := (fE52 (1 + d) 4 (by omega)).trans c_42
    have c_60 : E50 (1 + d) 5 = .inl (kA 0, 6, .inl f0_1) := (fE52 (1 + d) 5 (by omega)).trans c_43
    have c_61 : E50 (1 + d) 6 = .inl (kA 0, 5, .inl f1_1) := (fE52 (1 + d) 6 (by omega)).trans c_44
    have c_62 : E50 (1 + d) 7 = .inl (kA 0, 3, .inl f2_1) := (fE52 (1 + d) 7 (by omega)).trans c_45
    have c_63 : E50 (1 + d) 8 = .inl (kA 0, 3, .inl f3_1) := (fE52 (1 + d) 8 (by omega)).trans c_46
    have c_64 : E50 (1 + d) 9 = .inl (kA 8, 6, .inr (.inr (.inr (.inr fe_1)))) := (fE52 (1 + d) 9 (by omega)).trans c_47
    have c_65 : E50 (1 + d) 10 = .inl (kA 8, 6, .inr (.inr (.inr (.inr fo_1)))) := (fE52 (1 + d) 10 (by omega)).trans c_48
    refine lv_aload_n hx hb xd_Ds_addRequired_36 rfl (lv_at hl 0 rfl) ?_
    refine px_get (D := D) (ci := 7) (v := .ref (ad (1 + d) 2)) (C := xR_Ds) (T := xT_Ds) (N := 12) hx hb hT xi_Ds hown hK.1 hP m_3 c_55 rfl 6 (by decide) (hT _ k5d_0) (fun _ h9 => h9) rfl xd_Ds_addRequired_37 ?_
    refine lv_iload_n hx hb xd_Ds_addRequired_40 rfl (lv_at hl 1 rfl) ?_
    have hFc := px_free hD hS hA
    refine va_callv (va_runV (As := [.int nm]) (rest := []) ⟨hx, hb, hml, hown, hT⟩ (xc_Na_append l D kA H.size ad E50 RL (1 + d) 2 6 5 k1_1 f1_1 nm m_7 c_57 m_15 c_61 (by first | assumption | omega) (by first | assumption | omega) (by first | assumption | omega)) (cwV 1 hT (wT_V k5d_10 k5d_11 k5d_12 k5d_5 k5d_9) rfl rfl rfl (by decide +kernel) ⟨Nat.le_of_ble_eq_true rfl, Nat.le_of_ble_eq_true rfl⟩) (px_preV hK hP hD m_7 c_57 rfl) rfl rfl hl.1 rfl (lv_room (Nat.le_of_ble_eq_true rfl)) xd_Ds_addRequired_41 ⟨(Nat.le_of_ble_eq_true rfl), (Nat.le_of_ble_eq_true rfl)⟩) hS (fun q _ h => hFc q h) hFc (fun u67 t H1 locs ht hvm hp68 hB hz1 hk1 hS => ?_)
    obtain ⟨hP1, hD1⟩ := hB
    rw [ht] at hP1
    have hD1 := hD1.weaken (fun _ _ _ h => hFc _ h)
    generalize H1 = H at hP1 hS ⊢
    have hP := hP1
    have hD := hD1
    obtain ⟨E69, rfl⟩ : ∃ z, z = u67 := ⟨_, rfl⟩
    obtain ⟨w70, w71, hp75, p_72, p_73, p_74⟩ := hp68
    have p_72 : E69 (1 + d) 2 = .inr (8, [.ref (ad (1 + d) 6), .int (nI w70)]) := p_72
    have p_73 : E69 (1 + d) 6 = .inl (kA 0, 5, .inl w71) := p_73
    have p_74 : (∀ b2 o2, ¬ (b2 = (1 + d) ∧ o2 = 2) → ¬ (b2 = (1 + d) ∧ o2 = 6) → E69 b2 o2 = E50 b2 o2) := p_74
    have c_76 : E69 (1 + d) 12 = .inl (kA 2, 5, .inl (upd op_1 k1_1 (vp_nar .boolean b2))) := (p_74 (1 + d) 12 (by omega) (by omega)).trans c_53
    have c_77 : E69 (1 + d) 11 = .inl (kA 2, 5, .inl (upd tr_1 k1_1 (vp_nar .boolean b1))) := (p_74 (1 + d) 11 (by omega) (by omega)).trans c_54
    have c_78 : E69 (1 + d) 0 = .inr (7, [.int (nI d), .int fd_1, .int nm_1, .ref (ad (1 + d) 1), .ref (ad (1 + d) 9), .ref (ad (1 + d) 10), .ref (ad (1 + d) 2), .ref (ad (1 + d) 11), .ref (ad (1 + d) 12), .ref (ad (1 + d) 3), .ref (ad (1 + d) 4), .int sd_1]) := (p_74 (1 + d) 0 (by omega) (by omega)).trans c_55
    have c_79 : E69 (1 + d) 1 = .inr (8, [.ref (ad (1 + d) 5), .int (nI k0_1)]) := (p_74 (1 + d) 1 (by omega) (by omega)).trans c_56
    have c_80 : E69 (1 + d) 3 = .inr (8, [.ref (ad (1 + d) 7), .int (nI k2_1)]) := (p_74 (1 + d) 3 (by omega) (by omega)).trans c_58
    have c_81 : E69 (1 + d) 4 = .inr (8, [.ref (ad (1 + d) 8), .int (nI k3_1)]) := (p_74 (1 + d) 4 (by omega) (by omega)).trans c_59
    have c_82 : E69 (1 + d) 5 = .inl (kA 0, 6, .inl f0_1) := (p_74 (1 + d) 5 (by omega) (by omega)).trans c_60
    have c_83 : E69 (1 + d) 7 = .inl (kA 0, 3, .inl f2_1) := (p_74 (1 + d) 7 (by omega) (by omega)).trans c_62
    have c_84 : E69 (1 + d) 8 = .inl (kA 0, 3, .inl f3_1) := (p_74 (1 + d) 8 (by omega) (by omega)).trans c_63
    have c_85 : E69 (1 + d) 9 = .inl (kA 8, 6, .inr (.inr (.inr (.inr fe_1)))) := (p_74 (1 + d) 9 (by omega) (by omega)).trans c_64
    have c_86 : E69 (1 + d) 10 = .inl (kA 8, 6, .inr (.inr (.inr (.inr fo_1)))) := (p_74 (1 + d) 10 (by omega) (by omega)).trans c_65
    have hP : va_P D xcl (rp ad E69 RL) H := hP
    have hD : va_D A (rp ad E69 RL) := hD
    have hap : w70 = k1_1 + 1 ∧ w71 = upd f1_1 k1_1 nm := by
      rcases hp75.2 with ⟨_, q1, q2⟩ | ⟨q, _⟩
      · exact ⟨q1, q2⟩
      · omega
    obtain ⟨hap1, hap2⟩ := hap
    exact W.vret hx hb hr (fun t ht hW => ⟨⟨E69, rfl, ⟨⟨⟨hm_1, fd_1, nm_1, sd_1, k0_1, w70, k2_1, k3_1, f0_1, w71, f2_1, f3_1, fe_1, fo_1, (upd tr_1 k1_1 (vp_nar .boolean b1)), (upd op_1 k1_1 (vp_nar .boolean b2)), (by omega), (by omega), (by omega), (by omega), c_78, c_79, p_72, c_80, c_81, c_82, p_73, c_83, c_84, c_85, c_86, c_77, c_76, (fun i9 hi9 => ⟨(hg_1 i9 (by omega)).1, (hg_1 i9 (by omega)).2.1, (GI_at (by show E69 (1 + d) (20 + 3 * i9) = _; rw [p_74 (1 + d) (20 + 3 * i9) (by omega) (by omega), fE52 (1 + d) (20 + 3 * i9) (by omega), fE36 (1 + d) (20 + 3 * i9) (by omega)]) (by show E69 (1 + d) (21 + 3 * i9) = _; rw [p_74 (1 + d) (21 + 3 * i9) (by omega) (by omega), fE52 (1 + d) (21 + 3 * i9) (by omega), fE36 (1 + d) (21 + 3 * i9) (by omega)]) (by show E69 (1 + d) (22 + 3 * i9) = _; rw [p_74 (1 + d) (22 + 3 * i9) (by omega) (by omega), fE52 (1 + d) (22 + 3 * i9) (by omega), fE36 (1 + d) (22 + 3 * i9) (by omega)]) (rfl) (rfl) (fun _ h9 => h9) (hg_1 i9 (by omega)).2.2.1), (GI_at (by show E69 (1 + d) (38 + 3 * i9) = _; rw [p_74 (1 + d) (38 + 3 * i9) (by omega) (by omega), fE52 (1 + d) (38 + 3 * i9) (by omega), fE36 (1 + d) (38 + 3 * i9) (by omega)]) (by show E69 (1 + d) (39 + 3 * i9) = _; rw [p_74 (1 + d) (39 + 3 * i9) (by omega) (by omega), fE52 (1 + d) (39 + 3 * i9) (by omega), fE36 (1 + d) (39 + 3 * i9) (by omega)]) (by show E69 (1 + d) (40 + 3 * i9) = _; rw [p_74 (1 + d) (40 + 3 * i9) (by omega) (by omega), fE52 (1 + d) (40 + 3 * i9) (by omega), fE36 (1 + d) (40 + 3 * i9) (by omega)]) (rfl) (rfl) (fun _ h9 => h9) (hg_1 i9 (by omega)).2.2.2)⟩)⟩, (show TD (rqU g d nm (vp_nar .boolean b1) (vp_nar .boolean b2)) (E69 (1 + d)) d from TD_mk (by omega) (by omega) (by omega) (by omega) c_78 c_79 p_72 c_80 c_81 c_82 p_73 c_83 c_84 c_77 c_76 (by rw [hap1, hap2]; exact TT_R (by omega) hTT_1) (fun i9 hi9 => by
          have q := tgr_1 i9 hi9
          rw [← (show E69 (1 + d) (20 + 3 * i9) = E (1 + d) (20 + 3 * i9) from by show E69 (1 + d) (20 + 3 * i9) = _; rw [p_74 (1 + d) (20 + 3 * i9) (by omega) (by omega), fE52 (1 + d) (20 + 3 * i9) (by omega), fE36 (1 + d) (20 + 3 * i9) (by omega)]), ← (show E69 (1 + d) (21 + 3 * i9) = E (1 + d) (21 + 3 * i9) from by show E69 (1 + d) (21 + 3 * i9) = _; rw [p_74 (1 + d) (21 + 3 * i9) (by omega) (by omega), fE52 (1 + d) (21 + 3 * i9) (by omega), fE36 (1 + d) (21 + 3 * i9) (by omega)]), ← (show E69 (1 + d) (22 + 3 * i9) = E (1 + d) (22 + 3 * i9) from by show E69 (1 + d) (22 + 3 * i9) = _; rw [p_74 (1 + d) (22 + 3 * i9) (by omega) (by omega), fE52 (1 + d) (22 + 3 * i9) (by omega), fE36 (1 + d) (22 + 3 * i9) (by omega)]), ← (show E69 (1 + d) (38 + 3 * i9) = E (1 + d) (38 + 3 * i9) from by show E69 (1 + d) (38 + 3 * i9) = _; rw [p_74 (1 + d) (38 + 3 * i9) (by omega) (by omega), fE52 (1 + d) (38 + 3 * i9) (by omega), fE36 (1 + d) (38 + 3 * i9) (by omega)]), ← (show E69 (1 + d) (39 + 3 * i9) = E (1 + d) (39 + 3 * i9) from by show E69 (1 + d) (39 + 3 * i9) = _; rw [p_74 (1 + d) (39 + 3 * i9) (by omega) (by omega), fE52 (1 + d) (39 + 3 * i9) (by omega), fE36 (1 + d) (39 + 3 * i9) (by omega)]), ← (show E69 (1 + d) (40 + 3 * i9) = E (1 + d) (40 + 3 * i9) from by show E69 (1 + d) (40 + 3 * i9) = _; rw [p_74 (1 + d) (40 + 3 * i9) (by omega) (by omega), fE52 (1 + d) (40 + 3 * i9) (by omega), fE36 (1 + d) (40 + 3 * i9) (by omega)])] at q
          exact q))⟩, (fun b2 o2 h09 => by show E69 b2 o2 = _; rw [p_74 b2 o2 (by omega) (by omega), fE52 b2 o2 (by omega), fE36 b2 o2 (by omega)])⟩, by rw [ht]; exact hP, hD⟩, hS.F ht⟩) hS.2.2 xd_Ds_addRequired_44
set_option maxHeartbeats 4000000 in
set_option maxRecDepth 100000 in
theorem xc_Ds_addPackageX (l : Launch) (D : va_G) (kA : Nat → ClassId) (sz : Nat) (ad : Nat → Nat → Nat) (E : Nat → Nat → va_E) (RL : List (Nat × Nat)) (g : Nat → Nat → Int32) (d : Nat) (nm : Int32) (hDI : DI kA d (ad (1 + d)) (E (1 + d)) (fun o => (1 + d, o) ∈ RL)) (hTDd : TD g (E (1 + d)) d) (hnf : iN (g 5 d) < 6) (hz0 : g 9 (6 * d + iN (g 5 d)) = 0 ∧ g 10 (6 * d + iN (g 5 d)) = 0 ∧ ∀ j, j < 3 → g 7 (3 * (6 * d + iN (g 5 d)) + j) = 0 ∧ g 8 (3 * (6 * d + iN (g 5 d)) + j) = 0) : Met l xy_Ds_addPackage (.code xy_Ds_addPackage xb_Ds_addPackage 2 none :: wT) { frames := 3, cells := 6, slots := 20, locals := 55 } (va_Pc [.ref (ad (1 + d) 0), .int nm] (xPre D kA sz (rp ad E RL))) (va_Qv (fun (u : (Nat → Nat → Nat) × (Nat → Nat → va_E) × List (Nat × Nat)) => ((DI kA d (u.1 (1 + d)) (u.2.1 (1 + d)) (fun o => (1 + d, o) ∈ u.2.2)) ∧ (∀ o, o < 13 → u.1 (1 + d) o = ad (1 + d) o) ∧ TD (pkU g d nm) (u.2.1 (1 + d)) d) ∧ ((∀ b2 o2, ¬ (b2 = 1 + d) → u.2.1 b2 o2 = E b2 o2)) ∧ ((∀ b2 o2, ¬ (b2 = 1 + d) → u.1 b2 o2 = ad b2 o2)) ∧ ((∀ x ∈ RL, x ∈ u.2.2))) (fun (u : (Nat → Nat → Nat) × (Nat → Nat → va_E) × List (Nat × Nat)) t => va_P D xcl (rp u.1 u.2.1 u.2.2) t.heap ∧ va_D (va_A (rp ad E RL) sz) (rp u.1 u.2.1 u.2.2)) (va_A (rp ad E RL) sz)) 6 20 (va_A (rp ad E RL) sz) := by
  refine Met.ofW (cc := xb_Ds_addPackage) (maxL := 2) (ret := none) (by decide) rfl ?_
  intro p e s m args below meth c s₁ B hml hv
  obtain ⟨rfl, hsz, hP, hK, hD0⟩ := hv
  have hx := B.exec
  have hb := B.bytes
  have hr := B.returns
  have hT := x_hT B.pre
  have hown : s.vm.findClass xR_Ds = some m.cls := findClass_of_methodNamed B.named
  have hlocks := B.notSynchronized
  subst hsz
  have hD := hD0.self (sz := s.heap.size)
  generalize hAe : va_A (rp ad E RL) s.heap.size = A at hD ⊢
  have hA : ∀ q : Nat, s.heap.size ≤ q → A q := fun q h => by rw [← hAe]; exact Or.inr h
  have hS : va_S A s.heap s.heap [] := va_S.rf
  have hl := lv_entry ([.ref (ad (1 + d) 0), .int nm]) (n := 2) (Nat.le_of_ble_eq_true rfl)
  rw [lg_entry_eq]
  generalize (lg_sl ([.ref (ad (1 + d) 0), .int nm]) ++ List.replicate (2 - (lg_sl ([.ref (ad (1 + d) 0), .int nm])).length) Slot.unset).toArray = ls at hl ⊢
  have hl : lv_has ls 2 [(0, .ref (ad (1 + d) 0)), (1, .int nm)] := hl
  have hP : va_P D xcl (rp ad E RL) s.heap := hP
  obtain ⟨hm_1, fd_1, nm_1, sd_1, k0_1, k1_1, k2_1, k3_1, f0_1, f1_1, f2_1, f3_1, fe_1, fo_1, tr_1, op_1, hk0_1, hk1_1, hk2_1, hk3_1, q0_1, q1_1, q2_1, q3_1, q4_1, q5_1, q6_1, q7_1, q8_1, q9_1, q10_1, q11_1, q12_1, hg_1⟩ := id (hDI)
  have c_2 : E (1 + d) 0 = .inr (7, [.int (nI d), .int fd_1, .int nm_1, .ref (ad (1 + d) 1), .ref (ad (1 + d) 9), .ref (ad (1 + d) 10), .ref (ad (1 + d) 2), .ref (ad (1 + d) 11), .ref (ad (1 + d) 12), .ref (ad (1 + d) 3), .ref (ad (1 + d) 4), .int sd_1]) := q0_1
  have m_3 : (1 + d, 0) ∈ RL := hm_1 0 (by omega)
  have c_4 : E (1 + d) 1 = .inr (8, [.ref (ad (1 + d) 5), .int (nI k0_1)]) := q1_1
  have m_5 : (1 + d, 1) ∈ RL := hm_1 1 (by omega)
  have c_6 : E (1 + d) 2 = .inr (8, [.ref (ad (1 + d) 6), .int (nI k1_1)]) := q2_1
  have m_7 : (1 + d, 2) ∈ RL := hm_1 2 (by omega)
  have c_8 : E (1 + d) 3 = .inr (8, [.ref (ad (1 + d) 7), .int (nI k2_1)]) := q3_1
  have m_9 : (1 + d, 3) ∈ RL := hm_1 3 (by omega)
  have c_10 : E (1 + d) 4 = .inr (8, [.ref (ad (1 + d) 8), .int (nI k3_1)]) := q4_1
  have m_11 : (1 + d, 4) ∈ RL := hm_1 4 (by omega)
  have c_12 : E (1 + d) 5 = .inl (kA 0, 6, .inl f0_1) := q5_1
  have m_13 : (1 + d, 5) ∈ RL := hm_1 5 (by omega)
  have c_14 : E (1 + d) 6 = .inl (kA 0, 5, .inl f1_1) := q6_1
  have m_15 : (1 + d, 6) ∈ RL := hm_1 6 (by omega)
  have c_16 : E (1 + d) 7 = .inl (kA 0, 3, .inl f2_1) := q7_1
  have m_17 : (1 + d, 7) ∈ RL := hm_1 7 (by omega)
  have c_18 : E (1 + d) 8 = .inl (kA 0, 3, .inl f3_1) := q8_1
  have m_19 : (1 + d, 8) ∈ RL := hm_1 8 (by omega)
  have c_20 : E (1 + d) 9 = .inl (kA 8, 6, .inr (.inr (.inr (.inr fe_1)))) := q9_1
  have m_21 : (1 + d, 9) ∈ RL := hm_1 9 (by omega)
  have c_22 : E (1 + d) 10 = .inl (kA 8, 6, .inr (.inr (.inr (.inr fo_1)))) := q10_1
  have m_23 : (1 + d, 10) ∈ RL := hm_1 10 (by omega)
  have c_24 : E (1 + d) 11 = .inl (kA 2, 5, .inl tr_1) := q11_1
  have m_25 : (1 + d, 11) ∈ RL := hm_1 11 (by omega)
  have c_26 : E (1 + d) 12 = .inl (kA 2, 5, .inl op_1) := q12_1
  have m_27 : (1 + d, 12) ∈ RL := hm_1 12 (by omega)
  have hg_1 : ∀ w9, w9 < k0_1 → fe_1 w9 = some (ad (1 + d) (20 + 3 * w9)) ∧ fo_1 w9 = some (ad (1 + d) (38 + 3 * w9)) ∧ GI kA (ad (1 + d)) (E (1 + d)) (fun o => (1 + d, o) ∈ RL) (20 + 3 * w9) (21 + 3 * w9) (22 + 3 * w9) ∧ GI kA (ad (1 + d)) (E (1 + d)) (fun o => (1 + d, o) ∈ RL) (38 + 3 * w9) (39 + 3 * w9) (40 + 3 * w9) := hg_1
  obtain ⟨hTT_1, tgr_1⟩ := TD_get hk0_1 hk1_1 hk2_1 hk3_1 c_2 c_4 c_6 c_8 c_10 c_12 c_14 c_16 c_18 c_24 c_26 (hTDd)
  obtain ⟨tfd_1, tnm_1, tsd_1, tk0_1, tf0_1, tk1_1, tf1_1, tk2_1, tk3_1⟩ := id hTT_1
  have ik0_1 : iN (g 5 d) = k0_1 := by rw [← tk0_1, iN_nI (by omega)]
  have ik1_1 : iN (g 12 d) = k1_1 := by rw [← tk1_1, iN_nI (by omega)]
  refine lv_aload_n hx hb xd_Ds_addPackage_0 rfl (lv_at hl 0 rfl) ?_
  refine px_get (D := D) (ci := 7) (v := .ref (ad (1 + d) 1)) (C := xR_Ds) (T := xT_Ds) (N := 12) hx hb hT xi_Ds hown hK.1 hP m_3 c_2 rfl 3 (by decide) (hT _ k5d_13) (fun _ h9 => h9) rfl xd_Ds_addPackage_1 ?_
  have hFc := px_free hD hS hA
  refine va_calli (va_runV (As := []) (rest := []) ⟨hx, hb, hml, hown, hT⟩ (xc_Na_isFull l D kA s.heap.size ad E RL (1 + d) 1 5 6 k0_1 f0_1 m_5 c_4 m_13 c_12 (by first | assumption | omega) (by first | assumption | omega)) (cwV 0 hT (wT_V k5d_2 k5d_3 k5d_4 k5d_5 k5d_1) rfl rfl rfl (by decide +kernel) ⟨Nat.le_of_ble_eq_true rfl, Nat.le_of_ble_eq_true rfl⟩) (px_preV hK hP hD m_5 c_4 rfl) rfl rfl hl.1 rfl (lv_room (Nat.le_of_ble_eq_true rfl)) xd_Ds_addPackage_4 ⟨(Nat.le_of_ble_eq_true rfl), (Nat.le_of_ble_eq_true rfl)⟩) hS (fun q _ h => hFc q h) hFc (fun r28 u29 t H1 locs ht hvm hp30 hB hz1 hk1 hS => ?_)
  obtain ⟨hP1, hD1⟩ := hB
  rw [ht] at hP1
  have hD1 := hD1.weaken (fun _ _ _ h => hFc _ h)
  generalize H1 = H at hP1 hS ⊢
  have hP := hP1
  have hD := hD1
  have hP : va_P D xcl (rp ad E RL) H := hP
  have hD : va_D A (rp ad E RL) := hD
  rcases hp30 with ⟨rfl, z31⟩ | ⟨rfl, z32⟩
  · exact absurd z31 (by omega)
  · refine W.eq (g2 := F0 m 7 ls [.int 0]) rfl ?_
    refine lv_if_ne (tgt := 56) hx hb xd_Ds_addPackage_7 (by decide) (fun hc33 => absurd (by decide) hc33) (fun _ => ?_)
    refine lv_aload_n hx hb xd_Ds_addPackage_10 rfl (lv_at hl 0 rfl) ?_
    refine px_get (D := D) (ci := 7) (v := .ref (ad (1 + d) 9)) (C := xR_Ds) (T := xT_Ds) (N := 12) hx hb hT xi_Ds hown hK.1 hP m_3 c_2 rfl 4 (by decide) (hT _ k5d_14) (fun _ h9 => h9) rfl xd_Ds_addPackage_11 ?_
    refine lv_aload_n hx hb xd_Ds_addPackage_14 rfl (lv_at hl 0 rfl) ?_
    refine px_get (D := D) (ci := 7) (v := .ref (ad (1 + d) 1)) (C := xR_Ds) (T := xT_Ds) (N := 12) hx hb hT xi_Ds hown hK.1 hP m_3 c_2 rfl 3 (by decide) (hT _ k5d_13) (fun _ h9 => h9) rfl xd_Ds_addPackage_15 ?_
    refine px_get (D := D) (ci := 8) (v := .int (nI k0_1)) (C := xR_Na) (T := xT_Na) (N := 2) hx hb hT xi_Na hown hK.1 hP m_5 c_4 rfl 1 (by decide) (hT _ k5d_7) (fun _ h9 => h9) rfl xd_Ds_addPackage_18 ?_
    refine px_new (ci := 9) (fs := [.null, .int 0]) (C := xR_Gr) (T := xT_Gr) (N := 2) (1 + d) (20 + 3 * k0_1) hx hb hT xi_Gr xt_Gr xt_Gr_ok hown (hT _ k5d_15) (hT _ k5d_16) (hT _ k5d_17) hK.1 hP hD hS hA rfl (by decide +kernel) (Nat.le_of_ble_eq_true rfl) (Nat.le_of_ble_eq_true rfl) xd_Ds_addPackage_21 (fun ad34 E35 RL36 H hA1 hE1 hs1 hm1 hP hD hS => ?_)
    have fE37 : ∀ b2 o2, ¬ (b2 = 1 + d ∧ o2 = 20 + 3 * k0_1) → E35 b2 o2 = E b2 o2 := fun b2 o2 h9 => by rw [hE1]; exact up2_ne (by omega)
    have fA38 : ∀ b2 o2, ¬ (b2 = 1 + d ∧ o2 = 20 + 3 * k0_1) → ad34 b2 o2 = ad b2 o2 := fun b2 o2 h9 => by rw [hA1]; exact up2_ne (by omega)
    have hs39 := hs1
    refine W.eq (g2 := F0 m _ ls [.ref (ad34 (1 + d) (20 + 3 * k0_1)), .int (nI k0_1), .ref (ad34 (1 + d) 9)]) (by rw [fA38 (1 + d) 9 (by omega)]) ?_
    have c_40 : E35 (1 + d) (20 + 3 * k0_1) = .inr (9, [.null, .int 0]) := by rw [hE1]; exact up2_eq
    have hl : lv_has ls 2 [(0, .ref (ad34 (1 + d) 0)), (1, .int nm)] := by
      rw [fA38 (1 + d) 0 (by omega)]; exact hl
    have m_42 : (1 + d, 0) ∈ RL36 := hs39 _ m_3
    have m_43 : (1 + d, 1) ∈ RL36 := hs39 _ m_5
    have m_44 : (1 + d, 2) ∈ RL36 := hs39 _ m_7
    have m_45 : (1 + d, 3) ∈ RL36 := hs39 _ m_9
    have m_46 : (1 + d, 4) ∈ RL36 := hs39 _ m_11
    have m_47 : (1 + d, 5) ∈ RL36 := hs39 _ m_13
    have m_48 : (1 + d, 6) ∈ RL36 := hs39 _ m_15
    have m_49 : (1 + d, 7) ∈ RL36 := hs39 _ m_17
    have m_50 : (1 + d, 8) ∈ RL36 := hs39 _ m_19
    have m_51 : (1 + d, 9) ∈ RL36 := hs39 _ m_21
    have m_52 : (1 + d, 10) ∈ RL36 := hs39 _ m_23
    have m_53 : (1 + d, 11) ∈ RL36 := hs39 _ m_25
    have m_54 : (1 + d, 12) ∈ RL36 := hs39 _ m_27
    have c_55 : E35 (1 + d) 0 = .inr (7, [.int (nI d), .int fd_1, .int nm_1, .ref (ad34 (1 + d) 1), .ref (ad34 (1 + d) 9), .ref (ad34 (1 + d) 10), .ref (ad34 (1 + d) 2), .ref (ad34 (1 + d) 11), .ref (ad34 (1 + d) 12), .ref (ad34 (1 + d) 3), .ref (ad34 (1 + d) 4), .int sd_1]) := by rw [fE37 (1 + d) 0 (by omega), fA38 (1 + d) 1 (by omega), fA38 (1 + d) 9 (by omega), fA38 (1 + d) 10 (by omega), fA38 (1 + d) 2 (by omega), fA38 (1 + d) 11 (by omega), fA38 (1 + d) 12 (by omega), fA38 (1 + d) 3 (by omega), fA38 (1 + d) 4 (by omega)]; exact c_2
    have c_56 : E35 (1 + d) 1 = .inr (8, [.ref (ad34 (1 + d) 5), .int (nI k0_1)]) := by rw [fE37 (1 + d) 1 (by omega), fA38 (1 + d) 5 (by omega)]; exact c_4
    have c_57 : E35 (1 + d) 2 = .inr (8, [.ref (ad34 (1 + d) 6), .int (nI k1_1)]) := by rw [fE37 (1 + d) 2 (by omega), fA38 (1 + d) 6 (by omega)]; exact c_6
    have c_58 : E35 (1 + d) 3 = .inr (8, [.ref (ad34 (1 + d) 7), .int (nI k2_1)]) := by rw [fE37 (1 + d) 3 (by omega), fA38 (1 + d) 7 (by omega)]; exact c_8
    have c_59 : E35 (1 + d) 4 = .inr (8, [.ref (ad34 (1 + d) 8), .int (nI k3_1)]) := by rw [fE37 (1 + d) 4 (by omega), fA38 (1 + d) 8 (by omega)]; exact c_10
    have c_60 : E35 (1 + d) 5 = .inl (kA 0, 6, .inl f0_1) := by rw [fE37 (1 + d) 5 (by omega)]; exact c_12
    have c_61 : E35 (1 + d) 6 = .inl (kA 0, 5, .inl f1_1) := by rw [fE37 (1 + d) 6 (by omega)]; exact c_14
    have c_62 : E35 (1 + d) 7 = .inl (kA 0, 3, .inl f2_1) := by rw [fE37 (1 + d) 7 (by omega)]; exact c_16
    have c_63 : E35 (1 + d) 8 = .inl (kA 0, 3, .inl f3_1) := by rw [fE37 (1 + d) 8 (by omega)]; exact c_18
    have c_64 : E35 (1 + d) 9 = .inl (kA 8, 6, .inr (.inr (.inr (.inr fe_1)))) := by rw [fE37 (1 + d) 9 (by omega)]; exact c_20
    have c_65 : E35 (1 + d) 10 = .inl (kA 8, 6, .inr (.inr (.inr (.inr fo_1)))) := by rw [fE37 (1 + d) 10 (by omega)]; exact c_22
    have c_66 : E35 (1 + d) 11 = .inl (kA 2, 5, .inl tr_1) := by rw [fE37 (1 + d) 11 (by omega)]; exact c_24
    have c_67 : E35 (1 + d) 12 = .inl (kA 2, 5, .inl op_1) := by rw [fE37 (1 + d) 12 (by omega)]; exact c_26
    have m_41 : (1 + d, 20 + 3 * k0_1) ∈ RL36 := hm1
    have hP : va_P D xcl (rp ad34 E35 RL36) H := hP
    have hD : va_D A (rp ad34 E35 RL36) := hD
    refine lv_dup hx hb xd_Ds_addPackage_24 rfl ?_
    have hFc := px_free hD hS hA
    refine va_callv (va_runIN (As := []) (rest := [.ref (ad34 (1 + d) (20 + 3 * k0_1)), .int (nI k0_1), .ref (ad34 (1 + d) 9)]) ⟨hx, hb, hml, hown, hT⟩ (xc_Gr_init l D kA H.size ad34 E35 RL36 (1 + d) (20 + 3 * k0_1) (21 + 3 * k0_1) (22 + 3 * k0_1) m_41 c_40 (by first | assumption | omega)) ⟨va_cnB 0 hT (wT_I k5d_18) rfl rfl rfl hK.2.1.2.2.1 (hT _ k5d_17) (by decide +kernel) ⟨Nat.le_of_ble_eq_true rfl, Nat.le_of_ble_eq_true rfl⟩, rfl, hT _ k5d_19⟩ (x_preS hK hP hD) rfl rfl hl.1 rfl (lv_room (Nat.le_of_ble_eq_true rfl)) xd_Ds_addPackage_25 ⟨(Nat.le_of_ble_eq_true rfl), (Nat.le_of_ble_eq_true rfl)⟩) hS (fun q _ h => hFc q h) hFc (fun u69 t H1 locs ht hvm hp70 hB hz1 hk1 hS => ?_)
    obtain ⟨hP1, hD1⟩ := hB
    rw [ht] at hP1
    have hD1 := hD1.weaken (fun _ _ _ h => hFc _ h)
    generalize H1 = H at hP1 hS ⊢
    have hP := hP1
    have hD := hD1
    obtain ⟨ad71, E72, RL73⟩ := u69
    obtain ⟨hp82, p_74, p_75, p_76, p_77, p_78, p_79, p_80, p_81⟩ := hp70
    have p_74 : E72 (1 + d) (20 + 3 * k0_1) = .inr (9, [.ref (ad71 (1 + d) (21 + 3 * k0_1)), .int 0]) := p_74
    have p_75 : E72 (1 + d) (21 + 3 * k0_1) = .inr (8, [.ref (ad71 (1 + d) (22 + 3 * k0_1)), .int 0]) := p_75
    have p_76 : E72 (1 + d) (22 + 3 * k0_1) = .inl (kA 0, 3, .inl (fun _ => 0)) := p_76
    have p_77 : (∀ b2 o2, ¬ (b2 = (1 + d) ∧ o2 = (20 + 3 * k0_1)) → ¬ (b2 = (1 + d) ∧ o2 = (21 + 3 * k0_1)) → ¬ (b2 = (1 + d) ∧ o2 = (22 + 3 * k0_1)) → E72 b2 o2 = E35 b2 o2) := p_77
    have p_78 : (∀ b2 o2, ¬ (b2 = (1 + d) ∧ o2 = (21 + 3 * k0_1)) → ¬ (b2 = (1 + d) ∧ o2 = (22 + 3 * k0_1)) → ad71 b2 o2 = ad34 b2 o2) := p_78
    have p_79 : (∀ x ∈ RL36, x ∈ RL73) := p_79
    have p_80 : ((1 + d), (21 + 3 * k0_1)) ∈ RL73 := p_80
    have p_81 : ((1 + d), (22 + 3 * k0_1)) ∈ RL73 := p_81
    refine W.eq (g2 := F0 m 28 ls [.ref (ad71 (1 + d) (20 + 3 * k0_1)), .int (nI k0_1), .ref (ad71 (1 + d) 9)]) (by rw [p_78 (1 + d) (20 + 3 * k0_1) (by omega) (by omega), p_78 (1 + d) 9 (by omega) (by omega)]) ?_
    have hl : lv_has ls 2 [(0, .ref (ad71 (1 + d) 0)), (1, .int nm)] := by
      rw [p_78 (1 + d) 0 (by omega) (by omega)]; exact hl
    have m_83 : (1 + d, 0) ∈ RL73 := p_79 _ m_42
    have m_84 : (1 + d, 1) ∈ RL73 := p_79 _ m_43
    have m_85 : (1 + d, 2) ∈ RL73 := p_79 _ m_44
    have m_86 : (1 + d, 3) ∈ RL73 := p_79 _ m_45
    have m_87 : (1 + d, 4) ∈ RL73 := p_79 _ m_46
    have m_88 : (1 + d, 5) ∈ RL73 := p_79 _ m_47
    have m_89 : (1 + d, 6) ∈ RL73 := p_79 _ m_48
    have m_90 : (1 + d, 7) ∈ RL73 := p_79 _ m_49
    have m_91 : (1 + d, 8) ∈ RL73 := p_79 _ m_50
    have m_92 : (1 + d, 9) ∈ RL73 := p_79 _ m_51
    have m_93 : (1 + d, 10) ∈ RL73 := p_79 _ m_52
    have m_94 : (1 + d, 11) ∈ RL73 := p_79 _ m_53
    have m_95 : (1 + d, 12) ∈ RL73 := p_79 _ m_54
    have m_96 : (1 + d, 20 + 3 * k0_1) ∈ RL73 := p_79 _ m_41
    have c_97 : E72 (1 + d) 0 = .inr (7, [.int (nI d), .int fd_1, .int nm_1, .ref (ad71 (1 + d) 1), .ref (ad71 (1 + d) 9), .ref (ad71 (1 + d) 10), .ref (ad71 (1 + d) 2), .ref (ad71 (1 + d) 11), .ref (ad71 (1 + d) 12), .ref (ad71 (1 + d) 3), .ref (ad71 (1 + d) 4), .int sd_1]) := by rw [p_77 (1 + d) 0 (by omega) (by omega) (by omega), p_78 (1 + d) 1 (by omega) (by omega), p_78 (1 + d) 9 (by omega) (by omega), p_78 (1 + d) 10 (by omega) (by omega), p_78 (1 + d) 2 (by omega) (by omega), p_78 (1 + d) 11 (by omega) (by omega), p_78 (1 + d) 12 (by omega) (by omega), p_78 (1 + d) 3 (by omega) (by omega), p_78 (1 + d) 4 (by omega) (by omega)]; exact c_55
    have c_98 : E72 (1 + d) 1 = .inr (8, [.ref (ad71 (1 + d) 5), .int (nI k0_1)]) := by rw [p_77 (1 + d) 1 (by omega) (by omega) (by omega), p_78 (1 + d) 5 (by omega) (by omega)]; exact c_56
    have c_99 : E72 (1 + d) 2 = .inr (8, [.ref (ad71 (1 + d) 6), .int (nI k1_1)]) := by rw [p_77 (1 + d) 2 (by omega) (by omega) (by omega), p_78 (1 + d) 6 (by omega) (by omega)]; exact c_57
    have c_100 : E72 (1 + d) 3 = .inr (8, [.ref (ad71 (1 + d) 7), .int (nI k2_1)]) := by rw [p_77 (1 + d) 3 (by omega) (by omega) (by omega), p_78 (1 + d) 7 (by omega) (by omega)]; exact c_58
    have c_101 : E72 (1 + d) 4 = .inr (8, [.ref (ad71 (1 + d) 8), .int (nI k3_1)]) := by rw [p_77 (1 + d) 4 (by omega) (by omega) (by omega), p_78 (1 + d) 8 (by omega) (by omega)]; exact c_59
    have c_102 : E72 (1 + d) 5 = .inl (kA 0, 6, .inl f0_1) := by rw [p_77 (1 + d) 5 (by omega) (by omega) (by omega)]; exact c_60
    have c_103 : E72 (1 + d) 6 = .inl (kA 0, 5, .inl f1_1) := by rw [p_77 (1 + d) 6 (by omega) (by omega) (by omega)]; exact c_61
    have c_104 : E72 (1 + d) 7 = .inl (kA 0, 3, .inl f2_1) := by rw [p_77 (1 + d) 7 (by omega) (by omega) (by omega)]; exact c_62
    have c_105 : E72 (1 + d) 8 = .inl (kA 0, 3, .inl f3_1) := by rw [p_77 (1 + d) 8 (by omega) (by omega) (by omega)]; exact c_63
    have c_106 : E72 (1 + d) 9 = .inl (kA 8, 6, .inr (.inr (.inr (.inr fe_1)))) := by rw [p_77 (1 + d) 9 (by omega) (by omega) (by omega)]; exact c_64
    have c_107 : E72 (1 + d) 10 = .inl (kA 8, 6, .inr (.inr (.inr (.inr fo_1)))) := by rw [p_77 (1 + d) 10 (by omega) (by omega) (by omega)]; exact c_65
    have c_108 : E72 (1 + d) 11 = .inl (kA 2, 5, .inl tr_1) := by rw [p_77 (1 + d) 11 (by omega) (by omega) (by omega)]; exact c_66
    have c_109 : E72 (1 + d) 12 = .inl (kA 2, 5, .inl op_1) := by rw [p_77 (1 + d) 12 (by omega) (by omega) (by omega)]; exact c_67
    have hP : va_P D xcl (rp ad71 E72 RL73) H := hP
    have hD : va_D A (rp ad71 E72 RL73) := hD
    refine px_aast (i := k0_1) (r := (xR_Gr, xT_Gr, 2)) hx hb hK.1 hP hD hS m_92 c_106 8 rfl m_96 p_74 rfl (by omega) (by decide) xd_Ds_addPackage_28 (fun H locs hP hD hS => ?_)
    have hP : va_P D xcl (rp ad71 (up2 E72 (1 + d) 9 (.inl (kA 8, 6, .inr (.inr (.inr (.inr (va_up fe_1 k0_1 (some (ad71 (1 + d) (20 + 3 * k0_1)))))))))) RL73) H := hP
    have hD : va_D A (rp ad71 (up2 E72 (1 + d) 9 (.inl (kA 8, 6, .inr (.inr (.inr (.inr (va_up fe_1 k0_1 (some (ad71 (1 + d) (20 + 3 * k0_1)))))))))) RL73) := hD
    generalize hE111 : up2 E72 (1 + d) 9 (.inl (kA 8, 6, .inr (.inr (.inr (.inr (va_up fe_1 k0_1 (some (ad71 (1 + d) (20 + 3 * k0_1))))))))) = E110 at hP hD
    have fE112 : ∀ b2 o2, ¬ (b2 = 1 + d ∧ o2 = 9) → E110 b2 o2 = E72 b2 o2 := fun b2 o2 h9 => by rw [← hE111]; exact up2_ne (by omega)
    have c_113 : E110 (1 + d) 9 = .inl (kA 8, 6, .inr (.inr (.inr (.inr (va_up fe_1 k0_1 (some (ad71 (1 + d) (20 + 3 * k0_1)))))))) := by rw [← hE111]; exact up2_eq
    have c_114 : E110 (1 + d) (20 + 3 * k0_1) = .inr (9, [.ref (ad71 (1 + d) (21 + 3 * k0_1)), .int 0]) := (fE112 (1 + d) (20 + 3 * k0_1) (by omega)).trans p_74
    have c_115 : E110 (1 + d) (21 + 3 * k0_1) = .inr (8, [.ref (ad71 (1 + d) (22 + 3 * k0_1)), .int 0]) := (fE112 (1 + d) (21 + 3 * k0_1) (by omega)).trans p_75
    have c_116 : E110 (1 + d) (22 + 3 * k0_1) = .inl (kA 0, 3, .inl (fun _ => 0)) := (fE112 (1 + d) (22 + 3 * k0_1) (by omega)).trans p_76
    have c_117 : E110 (1 + d) 0 = .inr (7, [.int (nI d), .int fd_1, .int nm_1, .ref (ad71 (1 + d) 1), .ref (ad71 (1 + d) 9), .ref (ad71 (1 + d) 10), .ref (ad71 (1 + d) 2), .ref (ad71 (1 + d) 11), .ref (ad71 (1 + d) 12), .ref (ad71 (1 + d) 3), .ref (ad71 (1 + d) 4), .int sd_1]) := (fE112 (1 + d) 0 (by omega)).trans c_97
    have c_118 : E110 (1 + d) 1 = .inr (8, [.ref (ad71 (1 + d) 5), .int (nI k0_1)]) := (fE112 (1 + d) 1 (by omega)).trans c_98
    have c_119 : E110 (1 + d) 2 = .inr (8, [.ref (ad71 (1 + d) 6), .int (nI k1_1)]) := (fE112 (1 + d) 2 (by omega)).trans c_99
    have c_120 : E110 (1 + d) 3 = .inr (8, [.ref (ad71 (1 + d) 7), .int (nI k2_1)]) := (fE112 (1 + d) 3 (by omega)).trans c_100
    have c_121 : E110 (1 + d) 4 = .inr (8, [.ref (ad71 (1 + d) 8), .int (nI k3_1)]) := (fE112 (1 + d) 4 (by omega)).trans c_101
    have c_122 : E110 (1 + d) 5 = .inl (kA 0, 6, .inl f0_1) := (fE112 (1 + d) 5 (by omega)).trans c_102
    have c_123 : E110 (1 + d) 6 = .inl (kA 0, 5, .inl f1_1) := (fE112 (1 + d) 6 (by omega)).trans c_103
    have c_124 : E110 (1 + d) 7 = .inl (kA 0, 3, .inl f2_1) := (fE112 (1 + d) 7 (by omega)).trans c_104
    have c_125 : E110 (1 + d) 8 = .inl (kA 0, 3, .inl f3_1) := (fE112 (1 + d) 8 (by omega)).trans c_105
    have c_126 : E110 (1 + d) 10 = .inl (kA 8, 6, .inr (.inr (.inr (.inr fo_1)))) := (fE112 (1 + d) 10 (by omega)).trans c_107
    have c_127 : E110 (1 + d) 11 = .inl (kA 2, 5, .inl tr_1) := (fE112 (1 + d) 11 (by omega)).trans c_108
    have c_128 : E110 (1 + d) 12 = .inl (kA 2, 5, .inl op_1) := (fE112 (1 + d) 12 (by omega)).trans c_109
    refine lv_aload_n hx hb xd_Ds_addPackage_29 rfl (lv_at hl 0 rfl) ?_
    refine px_get (D := D) (ci := 7) (v := .ref (ad71 (1 + d) 10)) (C := xR_Ds) (T := xT_Ds) (N := 12) hx hb hT xi_Ds hown hK.1 hP m_83 c_117 rfl 5 (by decide) (hT _ k5d_20) (fun _ h9 => h9) rfl xd_Ds_addPackage_30 ?_
    refine lv_aload_n hx hb xd_Ds_addPackage_33 rfl (lv_at hl 0 rfl) ?_
    refine px_get (D := D) (ci := 7) (v := .ref (ad71 (1 + d) 1)) (C := xR_Ds) (T := xT_Ds) (N := 12) hx hb hT xi_Ds hown hK.1 hP m_83 c_117 rfl 3 (by decide) (hT _ k5d_13) (fun _ h9 => h9) rfl xd_Ds_addPackage_34 ?_
    refine px_get (D := D) (ci := 8) (v := .int (nI k0_1)) (C := xR_Na) (T := xT_Na) (N := 2) hx hb hT xi_Na hown hK.1 hP m_84 c_118 rfl 1 (by decide) (hT _ k5d_7) (fun _ h9 => h9) rfl xd_Ds_addPackage_37 ?_
    refine px_new (ci := 9) (fs := [.null, .int 0]) (C := xR_Gr) (T := xT_Gr) (N := 2) (1 + d) (38 + 3 * k0_1) hx hb hT xi_Gr xt_Gr xt_Gr_ok hown (hT _ k5d_15) (hT _ k5d_16) (hT _ k5d_17) hK.1 hP hD hS hA rfl (by decide +kernel) (Nat.le_of_ble_eq_true rfl) (Nat.le_of_ble_eq_true rfl) xd_Ds_addPackage_40 (fun ad129 E130 RL131 H hA1 hE1 hs1 hm1 hP hD hS => ?_)
    have fE132 : ∀ b2 o2, ¬ (b2 = 1 + d ∧ o2 = 38 + 3 * k0_1) → E130 b2 o2 = E110 b2 o2 := fun b2 o2 h9 => by rw [hE1]; exact up2_ne (by omega)
    have fA133 : ∀ b2 o2, ¬ (b2 = 1 + d ∧ o2 = 38 + 3 * k0_1) → ad129 b2 o2 = ad71 b2 o2 := fun b2 o2 h9 => by rw [hA1]; exact up2_ne (by omega)
    have hs134 := hs1
    refine W.eq (g2 := F0 m _ ls [.ref (ad129 (1 + d) (38 + 3 * k0_1)), .int (nI k0_1), .ref (ad129 (1 + d) 10)]) (by rw [fA133 (1 + d) 10 (by omega)]) ?_
    have c_135 : E130 (1 + d) (38 + 3 * k0_1) = .inr (9, [.null, .int 0]) := by rw [hE1]; exact up2_eq
    have hl : lv_has ls 2 [(0, .ref (ad129 (1 + d) 0)), (1, .int nm)] := by
      rw [fA133 (1 + d) 0 (by omega)]; exact hl
    have m_137 : (1 + d, 0) ∈ RL131 := hs134 _ m_83
    have m_138 : (1 + d, 1) ∈ RL131 := hs134 _ m_84
    have m_139 : (1 + d, 2) ∈ RL131 := hs134 _ m_85
    have m_140 : (1 + d, 3) ∈ RL131 := hs134 _ m_86
    have m_141 : (1 + d, 4) ∈ RL131 := hs134 _ m_87
    have m_142 : (1 + d, 5) ∈ RL131 := hs134 _ m_88
    have m_143 : (1 + d, 6) ∈ RL131 := hs134 _ m_89
    have m_144 : (1 + d, 7) ∈ RL131 := hs134 _ m_90
    have m_145 : (1 + d, 8) ∈ RL131 := hs134 _ m_91
    have m_146 : (1 + d, 9) ∈ RL131 := hs134 _ m_92
    have m_147 : (1 + d, 10) ∈ RL131 := hs134 _ m_93
    have m_148 : (1 + d, 11) ∈ RL131 := hs134 _ m_94
    have m_149 : (1 + d, 12) ∈ RL131 := hs134 _ m_95
    have m_150 : (1 + d, 20 + 3 * k0_1) ∈ RL131 := hs134 _ m_96
    have m_151 : (1 + d, 21 + 3 * k0_1) ∈ RL131 := hs134 _ p_80
    have m_152 : (1 + d, 22 + 3 * k0_1) ∈ RL131 := hs134 _ p_81
    have c_153 : E130 (1 + d) 9 = .inl (kA 8, 6, .inr (.inr (.inr (.inr (va_up fe_1 k0_1 (some (ad71 (1 + d) (20 + 3 * k0_1)))))))) := by rw [fE132 (1 + d) 9 (by omega)]; exact c_113
    have c_154 : E130 (1 + d) (20 + 3 * k0_1) = .inr (9, [.ref (ad129 (1 + d) (21 + 3 * k0_1)), .int 0]) := by rw [fE132 (1 + d) (20 + 3 * k0_1) (by omega), fA133 (1 + d) (21 + 3 * k0_1) (by omega)]; exact c_114
    have c_155 : E130 (1 + d) (21 + 3 * k0_1) = .inr (8, [.ref (ad129 (1 + d) (22 + 3 * k0_1)), .int 0]) := by rw [fE132 (1 + d) (21 + 3 * k0_1) (by omega), fA133 (1 + d) (22 + 3 * k0_1) (by omega)]; exact c_115
    have c_156 : E130 (1 + d) (22 + 3 * k0_1) = .inl (kA 0, 3, .inl (fun _ => 0)) := by rw [fE132 (1 + d) (22 + 3 * k0_1) (by omega)]; exact c_116
    have c_157 : E130 (1 + d) 0 = .inr (7, [.int (nI d), .int fd_1, .int nm_1, .ref (ad129 (1 + d) 1), .ref (ad129 (1 + d) 9), .ref (ad129 (1 + d) 10), .ref (ad129 (1 + d) 2), .ref (ad129 (1 + d) 11), .ref (ad129 (1 + d) 12), .ref (ad129 (1 + d) 3), .ref (ad129 (1 + d) 4), .int sd_1]) := by rw [fE132 (1 + d) 0 (by omega), fA133 (1 + d) 1 (by omega), fA133 (1 + d) 9 (by omega), fA133 (1 + d) 10 (by omega), fA133 (1 + d) 2 (by omega), fA133 (1 + d) 11 (by omega), fA133 (1 + d) 12 (by omega), fA133 (1 + d) 3 (by omega), fA133 (1 + d) 4 (by omega)]; exact c_117
    have c_158 : E130 (1 + d) 1 = .inr (8, [.ref (ad129 (1 + d) 5), .int (nI k0_1)]) := by rw [fE132 (1 + d) 1 (by omega), fA133 (1 + d) 5 (by omega)]; exact c_118
    have c_159 : E130 (1 + d) 2 = .inr (8, [.ref (ad129 (1 + d) 6), .int (nI k1_1)]) := by rw [fE132 (1 + d) 2 (by omega), fA133 (1 + d) 6 (by omega)]; exact c_119
    have c_160 : E130 (1 + d) 3 = .inr (8, [.ref (ad129 (1 + d) 7), .int (nI k2_1)]) := by rw [fE132 (1 + d) 3 (by omega), fA133 (1 + d) 7 (by omega)]; exact c_120
    have c_161 : E130 (1 + d) 4 = .inr (8, [.ref (ad129 (1 + d) 8), .int (nI k3_1)]) := by rw [fE132 (1 + d) 4 (by omega), fA133 (1 + d) 8 (by omega)]; exact c_121
    have c_162 : E130 (1 + d) 5 = .inl (kA 0, 6, .inl f0_1) := by rw [fE132 (1 + d) 5 (by omega)]; exact c_122
    have c_163 : E130 (1 + d) 6 = .inl (kA 0, 5, .inl f1_1) := by rw [fE132 (1 + d) 6 (by omega)]; exact c_123
    have c_164 : E130 (1 + d) 7 = .inl (kA 0, 3, .inl f2_1) := by rw [fE132 (1 + d) 7 (by omega)]; exact c_124
    have c_165 : E130 (1 + d) 8 = .inl (kA 0, 3, .inl f3_1) := by rw [fE132 (1 + d) 8 (by omega)]; exact c_125
    have c_166 : E130 (1 + d) 10 = .inl (kA 8, 6, .inr (.inr (.inr (.inr fo_1)))) := by rw [fE132 (1 + d) 10 (by omega)]; exact c_126
    have c_167 : E130 (1 + d) 11 = .inl (kA 2, 5, .inl tr_1) := by rw [fE132 (1 + d) 11 (by omega)]; exact c_127
    have c_168 : E130 (1 + d) 12 = .inl (kA 2, 5, .inl op_1) := by rw [fE132 (1 + d) 12 (by omega)]; exact c_128
    have m_136 : (1 + d, 38 + 3 * k0_1) ∈ RL131 := hm1
    have hP : va_P D xcl (rp ad129 E130 RL131) H := hP
    have hD : va_D A (rp ad129 E130 RL131) := hD
    refine lv_dup hx hb xd_Ds_addPackage_43 rfl ?_
    have hFc := px_free hD hS hA
    refine va_callv (va_runIN (As := []) (rest := [.ref (ad129 (1 + d) (38 + 3 * k0_1)), .int (nI k0_1), .ref (ad129 (1 + d) 10)]) ⟨hx, hb, hml, hown, hT⟩ (xc_Gr_init l D kA H.size ad129 E130 RL131 (1 + d) (38 + 3 * k0_1) (39 + 3 * k0_1) (40 + 3 * k0_1) m_136 c_135 (by first | assumption | omega)) ⟨va_cnB 0 hT (wT_I k5d_18) rfl rfl rfl hK.2.1.2.2.1 (hT _ k5d_17) (by decide +kernel) ⟨Nat.le_of_ble_eq_true rfl, Nat.le_of_ble_eq_true rfl⟩, rfl, hT _ k5d_19⟩ (x_preS hK hP hD) rfl rfl hl.1 rfl (lv_room (Nat.le_of_ble_eq_true rfl)) xd_Ds_addPackage_44 ⟨(Nat.le_of_ble_eq_true rfl), (Nat.le_of_ble_eq_true rfl)⟩) hS (fun q _ h => hFc q h) hFc (fun u170 t H1 locs ht hvm hp171 hB hz1 hk1 hS => ?_)
    obtain ⟨hP1, hD1⟩ := hB
    rw [ht] at hP1
    have hD1 := hD1.weaken (fun _ _ _ h => hFc _ h)
    generalize H1 = H at hP1 hS ⊢
    have hP := hP1
    have hD := hD1
    obtain ⟨ad172, E173, RL174⟩ := u170
    obtain ⟨hp183, p_175, p_176, p_177, p_178, p_179, p_180, p_181, p_182⟩ := hp171
    have p_175 : E173 (1 + d) (38 + 3 * k0_1) = .inr (9, [.ref (ad172 (1 + d) (39 + 3 * k0_1)), .int 0]) := p_175
    have p_176 : E173 (1 + d) (39 + 3 * k0_1) = .inr (8, [.ref (ad172 (1 + d) (40 + 3 * k0_1)), .int 0]) := p_176
    have p_177 : E173 (1 + d) (40 + 3 * k0_1) = .inl (kA 0, 3, .inl (fun _ => 0)) := p_177
    have p_178 : (∀ b2 o2, ¬ (b2 = (1 + d) ∧ o2 = (38 + 3 * k0_1)) → ¬ (b2 = (1 + d) ∧ o2 = (39 + 3 * k0_1)) → ¬ (b2 = (1 + d) ∧ o2 = (40 + 3 * k0_1)) → E173 b2 o2 = E130 b2 o2) := p_178
    have p_179 : (∀ b2 o2, ¬ (b2 = (1 + d) ∧ o2 = (39 + 3 * k0_1)) → ¬ (b2 = (1 + d) ∧ o2 = (40 + 3 * k0_1)) → ad172 b2 o2 = ad129 b2 o2) := p_179
    have p_180 : (∀ x ∈ RL131, x ∈ RL174) := p_180
    have p_181 : ((1 + d), (39 + 3 * k0_1)) ∈ RL174 := p_181
    have p_182 : ((1 + d), (40 + 3 * k0_1)) ∈ RL174 := p_182
    refine W.eq (g2 := F0 m 47 ls [.ref (ad172 (1 + d) (38 + 3 * k0_1)), .int (nI k0_1), .ref (ad172 (1 + d) 10)]) (by rw [p_179 (1 + d) (38 + 3 * k0_1) (by omega) (by omega), p_179 (1 + d) 10 (by omega) (by omega)]) ?_
    have hl : lv_has ls 2 [(0, .ref (ad172 (1 + d) 0)), (1, .int nm)] := by
      rw [p_179 (1 + d) 0 (by omega) (by omega)]; exact hl
    have m_184 : (1 + d, 0) ∈ RL174 := p_180 _ m_137
    have m_185 : (1 + d, 1) ∈ RL174 := p_180 _ m_138
    have m_186 : (1 + d, 2) ∈ RL174 := p_180 _ m_139
    have m_187 : (1 + d, 3) ∈ RL174 := p_180 _ m_140
    have m_188 : (1 + d, 4) ∈ RL174 := p_180 _ m_141
    have m_189 : (1 + d, 5) ∈ RL174 := p_180 _ m_142
    have m_190 : (1 + d, 6) ∈ RL174 := p_180 _ m_143
    have m_191 : (1 + d, 7) ∈ RL174 := p_180 _ m_144
    have m_192 : (1 + d, 8) ∈ RL174 := p_180 _ m_145
    have m_193 : (1 + d, 9) ∈ RL174 := p_180 _ m_146
    have m_194 : (1 + d, 10) ∈ RL174 := p_180 _ m_147
    have m_195 : (1 + d, 11) ∈ RL174 := p_180 _ m_148
    have m_196 : (1 + d, 12) ∈ RL174 := p_180 _ m_149
    have m_197 : (1 + d, 20 + 3 * k0_1) ∈ RL174 := p_180 _ m_150
    have m_198 : (1 + d, 21 + 3 * k0_1) ∈ RL174 := p_180 _ m_151
    have m_199 : (1 + d, 22 + 3 * k0_1) ∈ RL174 := p_180 _ m_152
    have m_200 : (1 + d, 38 + 3 * k0_1) ∈ RL174 := p_180 _ m_136
    have c_201 : E173 (1 + d) 9 = .inl (kA 8, 6, .inr (.inr (.inr (.inr (va_up fe_1 k0_1 (some (ad71 (1 + d) (20 + 3 * k0_1)))))))) := by rw [p_178 (1 + d) 9 (by omega) (by omega) (by omega)]; exact c_153
    have c_202 : E173 (1 + d) (20 + 3 * k0_1) = .inr (9, [.ref (ad172 (1 + d) (21 + 3 * k0_1)), .int 0]) := by rw [p_178 (1 + d) (20 + 3 * k0_1) (by omega) (by omega) (by omega), p_179 (1 + d) (21 + 3 * k0_1) (by omega) (by omega)]; exact c_154
    have c_203 : E173 (1 + d) (21 + 3 * k0_1) = .inr (8, [.ref (ad172 (1 + d) (22 + 3 * k0_1)), .int 0]) := by rw [p_178 (1 + d) (21 + 3 * k0_1) (by omega) (by omega) (by omega), p_179 (1 + d) (22 + 3 * k0_1) (by omega) (by omega)]; exact c_155
    have c_204 : E173 (1 + d) (22 + 3 * k0_1) = .inl (kA 0, 3, .inl (fun _ => 0)) := by rw [p_178 (1 + d) (22 + 3 * k0_1) (by omega) (by omega) (by omega)]; exact c_156
    have c_205 : E173 (1 + d) 0 = .inr (7, [.int (nI d), .int fd_1, .int nm_1, .ref (ad172 (1 + d) 1), .ref (ad172 (1 + d) 9), .ref (ad172 (1 + d) 10), .ref (ad172 (1 + d) 2), .ref (ad172 (1 + d) 11), .ref (ad172 (1 + d) 12), .ref (ad172 (1 + d) 3), .ref (ad172 (1 + d) 4), .int sd_1]) := by rw [p_178 (1 + d) 0 (by omega) (by omega) (by omega), p_179 (1 + d) 1 (by omega) (by omega), p_179 (1 + d) 9 (by omega) (by omega), p_179 (1 + d) 10 (by omega) (by omega), p_179 (1 + d) 2 (by omega) (by omega), p_179 (1 + d) 11 (by omega) (by omega), p_179 (1 + d) 12 (by omega) (by omega), p_179 (1 + d) 3 (by omega) (by omega), p_179 (1 + d) 4 (by omega) (by omega)]; exact c_157
    have c_206 : E173 (1 + d) 1 = .inr (8, [.ref (ad172 (1 + d) 5), .int (nI k0_1)]) := by rw [p_178 (1 + d) 1 (by omega) (by omega) (by omega), p_179 (1 + d) 5 (by omega) (by omega)]; exact c_158
    have c_207 : E173 (1 + d) 2 = .inr (8, [.ref (ad172 (1 + d) 6), .int (nI k1_1)]) := by rw [p_178 (1 + d) 2 (by omega) (by omega) (by omega), p_179 (1 + d) 6 (by omega) (by omega)]; exact c_159
    have c_208 : E173 (1 + d) 3 = .inr (8, [.ref (ad172 (1 + d) 7), .int (nI k2_1)]) := by rw [p_178 (1 + d) 3 (by omega) (by omega) (by omega), p_179 (1 + d) 7 (by omega) (by omega)]; exact c_160
    have c_209 : E173 (1 + d) 4 = .inr (8, [.ref (ad172 (1 + d) 8), .int (nI k3_1)]) := by rw [p_178 (1 + d) 4 (by omega) (by omega) (by omega), p_179 (1 + d) 8 (by omega) (by omega)]; exact c_161
    have c_210 : E173 (1 + d) 5 = .inl (kA 0, 6, .inl f0_1) := by rw [p_178 (1 + d) 5 (by omega) (by omega) (by omega)]; exact c_162
    have c_211 : E173 (1 + d) 6 = .inl (kA 0, 5, .inl f1_1) := by rw [p_178 (1 + d) 6 (by omega) (by omega) (by omega)]; exact c_163
    have c_212 : E173 (1 + d) 7 = .inl (kA 0, 3, .inl f2_1) := by rw [p_178 (1 + d) 7 (by omega) (by omega) (by omega)]; exact c_164
    have c_213 : E173 (1 + d) 8 = .inl (kA 0, 3, .inl f3_1) := by rw [p_178 (1 + d) 8 (by omega) (by omega) (by omega)]; exact c_165
    have c_214 : E173 (1 + d) 10 = .inl (kA 8, 6, .inr (.inr (.inr (.inr fo_1)))) := by rw [p_178 (1 + d) 10 (by omega) (by omega) (by omega)]; exact c_166
    have c_215 : E173 (1 + d) 11 = .inl (kA 2, 5, .inl tr_1) := by rw [p_178 (1 + d) 11 (by omega) (by omega) (by omega)]; exact c_167
    have c_216 : E173 (1 + d) 12 = .inl (kA 2, 5, .inl op_1) := by rw [p_178 (1 + d) 12 (by omega) (by omega) (by omega)]; exact c_168
    have hP : va_P D xcl (rp ad172 E173 RL174) H := hP
    have hD : va_D A (rp ad172 E173 RL174) := hD
    refine px_aast (i := k0_1) (r := (xR_Gr, xT_Gr, 2)) hx hb hK.1 hP hD hS m_194 c_214 8 rfl m_200 p_175 rfl (by omega) (by decide) xd_Ds_addPackage_47 (fun H locs hP hD hS => ?_)
    have hP : va_P D xcl (rp ad172 (up2 E173 (1 + d) 10 (.inl (kA 8, 6, .inr (.inr (.inr (.inr (va_up fo_1 k0_1 (some (ad172 (1 + d) (38 + 3 * k0_1)))))))))) RL174) H := hP
    have hD : va_D A (rp ad172 (up2 E173 (1 + d) 10 (.inl (kA 8, 6, .inr (.inr (.inr (.inr (va_up fo_1 k0_1 (some (ad172 (1 + d) (38 + 3 * k0_1)))))))))) RL174) := hD
    generalize hE218 : up2 E173 (1 + d) 10 (.inl (kA 8, 6, .inr (.inr (.inr (.inr (va_up fo_1 k0_1 (some (ad172 (1 + d) (38 + 3 * k0_1))))))))) = E217 at hP hD
    have fE219 : ∀ b2 o2, ¬ (b2 = 1 + d ∧ o2 = 10) → E217 b2 o2 = E173 b2 o2 := fun b2 o2 h9 => by rw [← hE218]; exact up2_ne (by omega)
    have c_220 : E217 (1 + d) 10 = .inl (kA 8, 6, .inr (.inr (.inr (.inr (va_up fo_1 k0_1 (some (ad172 (1 + d) (38 + 3 * k0_1)))))))) := by rw [← hE218]; exact up2_eq
    have c_221 : E217 (1 + d) (38 + 3 * k0_1) = .inr (9, [.ref (ad172 (1 + d) (39 + 3 * k0_1)), .int 0]) := (fE219 (1 + d) (38 + 3 * k0_1) (by omega)).trans p_175
    have c_222 : E217 (1 + d) (39 + 3 * k0_1) = .inr (8, [.ref (ad172 (1 + d) (40 + 3 * k0_1)), .int 0]) := (fE219 (1 + d) (39 + 3 * k0_1) (by omega)).trans p_176
    have c_223 : E217 (1 + d) (40 + 3 * k0_1) = .inl (kA 0, 3, .inl (fun _ => 0)) := (fE219 (1 + d) (40 + 3 * k0_1) (by omega)).trans p_177
    have c_224 : E217 (1 + d) 9 = .inl (kA 8, 6, .inr (.inr (.inr (.inr (va_up fe_1 k0_1 (some (ad71 (1 + d) (20 + 3 * k0_1)))))))) := (fE219 (1 + d) 9 (by omega)).trans c_201
    have c_225 : E217 (1 + d) (20 + 3 * k0_1) = .inr (9, [.ref (ad172 (1 + d) (21 + 3 * k0_1)), .int 0]) := (fE219 (1 + d) (20 + 3 * k0_1) (by omega)).trans c_202
    have c_226 : E217 (1 + d) (21 + 3 * k0_1) = .inr (8, [.ref (ad172 (1 + d) (22 + 3 * k0_1)), .int 0]) := (fE219 (1 + d) (21 + 3 * k0_1) (by omega)).trans c_203
    have c_227 : E217 (1 + d) (22 + 3 * k0_1) = .inl (kA 0, 3, .inl (fun _ => 0)) := (fE219 (1 + d) (22 + 3 * k0_1) (by omega)).trans c_204
    have c_228 : E217 (1 + d) 0 = .inr (7, [.int (nI d), .int fd_1, .int nm_1, .ref (ad172 (1 + d) 1), .ref (ad172 (1 + d) 9), .ref (ad172 (1 + d) 10), .ref (ad172 (1 + d) 2), .ref (ad172 (1 + d) 11), .ref (ad172 (1 + d) 12), .ref (ad172 (1 + d) 3), .ref (ad172 (1 + d) 4), .int sd_1]) := (fE219 (1 + d) 0 (by omega)).trans c_205
    have c_229 : E217 (1 + d) 1 = .inr (8, [.ref (ad172 (1 + d) 5), .int (nI k0_1)]) := (fE219 (1 + d) 1 (by omega)).trans c_206
    have c_230 : E217 (1 + d) 2 = .inr (8, [.ref (ad172 (1 + d) 6), .int (nI k1_1)]) := (fE219 (1 + d) 2 (by omega)).trans c_207
    have c_231 : E217 (1 + d) 3 = .inr (8, [.ref (ad172 (1 + d) 7), .int (nI k2_1)]) := (fE219 (1 + d) 3 (by omega)).trans c_208
    have c_232 : E217 (1 + d) 4 = .inr (8, [.ref (ad172 (1 + d) 8), .int (nI k3_1)]) := (fE219 (1 + d) 4 (by omega)).trans c_209
    have c_233 : E217 (1 + d) 5 = .inl (kA 0, 6, .inl f0_1) := (fE219 (1 + d) 5 (by omega)).trans c_210
    have c_234 : E217 (1 + d) 6 = .inl (kA 0, 5, .inl f1_1) := (fE219 (1 + d) 6 (by omega)).trans c_211
    have c_235 : E217 (1 + d) 7 = .inl (kA 0, 3, .inl f2_1) := (fE219 (1 + d) 7 (by omega)).trans c_212
    have c_236 : E217 (1 + d) 8 = .inl (kA 0, 3, .inl f3_1) := (fE219 (1 + d) 8 (by omega)).trans c_213
    have c_237 : E217 (1 + d) 11 = .inl (kA 2, 5, .inl tr_1) := (fE219 (1 + d) 11 (by omega)).trans c_215
    have c_238 : E217 (1 + d) 12 = .inl (kA 2, 5, .inl op_1) := (fE219 (1 + d) 12 (by omega)).trans c_216
    refine lv_aload_n hx hb xd_Ds_addPackage_48 rfl (lv_at hl 0 rfl) ?_
    refine px_get (D := D) (ci := 7) (v := .ref (ad172 (1 + d) 1)) (C := xR_Ds) (T := xT_Ds) (N := 12) hx hb hT xi_Ds hown hK.1 hP m_184 c_228 rfl 3 (by decide) (hT _ k5d_13) (fun _ h9 => h9) rfl xd_Ds_addPackage_49 ?_
    refine lv_iload_n hx hb xd_Ds_addPackage_52 rfl (lv_at hl 1 rfl) ?_
    have hFc := px_free hD hS hA
    refine va_callv (va_runV (As := [.int nm]) (rest := []) ⟨hx, hb, hml, hown, hT⟩ (xc_Na_append l D kA H.size ad172 E217 RL174 (1 + d) 1 5 6 k0_1 f0_1 nm m_185 c_229 m_189 c_233 (by first | assumption | omega) (by first | assumption | omega) (by first | assumption | omega)) (cwV 1 hT (wT_V k5d_10 k5d_11 k5d_12 k5d_5 k5d_9) rfl rfl rfl (by decide +kernel) ⟨Nat.le_of_ble_eq_true rfl, Nat.le_of_ble_eq_true rfl⟩) (px_preV hK hP hD m_185 c_229 rfl) rfl rfl hl.1 rfl (lv_room (Nat.le_of_ble_eq_true rfl)) xd_Ds_addPackage_53 ⟨(Nat.le_of_ble_eq_true rfl), (Nat.le_of_ble_eq_true rfl)⟩) hS (fun q _ h => hFc q h) hFc (fun u240 t H1 locs ht hvm hp241 hB hz1 hk1 hS => ?_)
    obtain ⟨hP1, hD1⟩ := hB
    rw [ht] at hP1
    have hD1 := hD1.weaken (fun _ _ _ h => hFc _ h)
    generalize H1 = H at hP1 hS ⊢
    have hP := hP1
    have hD := hD1
    obtain ⟨E242, rfl⟩ : ∃ z, z = u240 := ⟨_, rfl⟩
    obtain ⟨w243, w244, hp248, p_245, p_246, p_247⟩ := hp241
    have p_245 : E242 (1 + d) 1 = .inr (8, [.ref (ad172 (1 + d) 5), .int (nI w243)]) := p_245
    have p_246 : E242 (1 + d) 5 = .inl (kA 0, 6, .inl w244) := p_246
    have p_247 : (∀ b2 o2, ¬ (b2 = (1 + d) ∧ o2 = 1) → ¬ (b2 = (1 + d) ∧ o2 = 5) → E242 b2 o2 = E217 b2 o2) := p_247
    have c_249 : E242 (1 + d) 10 = .inl (kA 8, 6, .inr (.inr (.inr (.inr (va_up fo_1 k0_1 (some (ad172 (1 + d) (38 + 3 * k0_1)))))))) := (p_247 (1 + d) 10 (by omega) (by omega)).trans c_220
    have c_250 : E242 (1 + d) (38 + 3 * k0_1) = .inr (9, [.ref (ad172 (1 + d) (39 + 3 * k0_1)), .int 0]) := (p_247 (1 + d) (38 + 3 * k0_1) (by omega) (by omega)).trans c_221
    have c_251 : E242 (1 + d) (39 + 3 * k0_1) = .inr (8, [.ref (ad172 (1 + d) (40 + 3 * k0_1)), .int 0]) := (p_247 (1 + d) (39 + 3 * k0_1) (by omega) (by omega)).trans c_222
    have c_252 : E242 (1 + d) (40 + 3 * k0_1) = .inl (kA 0, 3, .inl (fun _ => 0)) := (p_247 (1 + d) (40 + 3 * k0_1) (by omega) (by omega)).trans c_223
    have c_253 : E242 (1 + d) 9 = .inl (kA 8, 6, .inr (.inr (.inr (.inr (va_up fe_1 k0_1 (some (ad71 (1 + d) (20 + 3 * k0_1)))))))) := (p_247 (1 + d) 9 (by omega) (by omega)).trans c_224
    have c_254 : E242 (1 + d) (20 + 3 * k0_1) = .inr (9, [.ref (ad172 (1 + d) (21 + 3 * k0_1)), .int 0]) := (p_247 (1 + d) (20 + 3 * k0_1) (by omega) (by omega)).trans c_225
    have c_255 : E242 (1 + d) (21 + 3 * k0_1) = .inr (8, [.ref (ad172 (1 + d) (22 + 3 * k0_1)), .int 0]) := (p_247 (1 + d) (21 + 3 * k0_1) (by omega) (by omega)).trans c_226
    have c_256 : E242 (1 + d) (22 + 3 * k0_1) = .inl (kA 0, 3, .inl (fun _ => 0)) := (p_247 (1 + d) (22 + 3 * k0_1) (by omega) (by omega)).trans c_227
    have c_257 : E242 (1 + d) 0 = .inr (7, [.int (nI d), .int fd_1, .int nm_1, .ref (ad172 (1 + d) 1), .ref (ad172 (1 + d) 9), .ref (ad172 (1 + d) 10), .ref (ad172 (1 + d) 2), .ref (ad172 (1 + d) 11), .ref (ad172 (1 + d) 12), .ref (ad172 (1 + d) 3), .ref (ad172 (1 + d) 4), .int sd_1]) := (p_247 (1 + d) 0 (by omega) (by omega)).trans c_228
    have c_258 : E242 (1 + d) 2 = .inr (8, [.ref (ad172 (1 + d) 6), .int (nI k1_1)]) := (p_247 (1 + d) 2 (by omega) (by omega)).trans c_230
    have c_259 : E242 (1 + d) 3 = .inr (8, [.ref (ad172 (1 + d) 7), .int (nI k2_1)]) := (p_247 (1 + d) 3 (by omega) (by omega)).trans c_231
    have c_260 : E242 (1 + d) 4 = .inr (8, [.ref (ad172 (1 + d) 8), .int (nI k3_1)]) := (p_247 (1 + d) 4 (by omega) (by omega)).trans c_232
    have c_261 : E242 (1 + d) 6 = .inl (kA 0, 5, .inl f1_1) := (p_247 (1 + d) 6 (by omega) (by omega)).trans c_234
    have c_262 : E242 (1 + d) 7 = .inl (kA 0, 3, .inl f2_1) := (p_247 (1 + d) 7 (by omega) (by omega)).trans c_235
    have c_263 : E242 (1 + d) 8 = .inl (kA 0, 3, .inl f3_1) := (p_247 (1 + d) 8 (by omega) (by omega)).trans c_236
    have c_264 : E242 (1 + d) 11 = .inl (kA 2, 5, .inl tr_1) := (p_247 (1 + d) 11 (by omega) (by omega)).trans c_237
    have c_265 : E242 (1 + d) 12 = .inl (kA 2, 5, .inl op_1) := (p_247 (1 + d) 12 (by omega) (by omega)).trans c_238
    have hP : va_P D xcl (rp ad172 E242 RL174) H := hP
    have hD : va_D A (rp ad172 E242 RL174) := hD
    have hap : w243 = k0_1 + 1 ∧ w244 = upd f0_1 k0_1 nm := by
      rcases hp248.2 with ⟨_, q1, q2⟩ | ⟨q, _⟩
      · exact ⟨q1, q2⟩
      · omega
    obtain ⟨hap1, hap2⟩ := hap
    refine W.widen (k := 6) (n := 20) (Nat.le_of_ble_eq_true rfl) (Nat.le_of_ble_eq_true rfl) ?_
    exact W.vret hx hb hr (fun t ht hW => ⟨⟨(ad172, E242, RL174), rfl, ⟨⟨(show DI kA d (ad172 (1 + d)) (E242 (1 + d)) (fun o => (1 + d, o) ∈ RL174) from ⟨(fun o9 h9 => p_180 _ (hs134 _ (p_79 _ (hs39 _ (hm_1 o9 h9))))), fd_1, nm_1, sd_1, w243, k1_1, k2_1, k3_1, w244, f1_1, f2_1, f3_1, (va_up fe_1 k0_1 (some (ad71 (1 + d) (20 + 3 * k0_1)))), (va_up fo_1 k0_1 (some (ad172 (1 + d) (38 + 3 * k0_1)))), tr_1, op_1, (by omega), (by omega), (by omega), (by omega), c_257, p_245, c_258, c_259, c_260, p_246, c_261, c_262, c_263, c_253, c_249, c_264, c_265, (fun i9 hi9 => by
        by_cases h9 : i9 = k0_1
        · rw [h9]; exact ⟨vu_eq.trans (by rw [p_179 (1 + d) (20 + 3 * k0_1) (by omega) (by omega), fA133 (1 + d) (20 + 3 * k0_1) (by omega)]), vu_eq, ⟨m_197, m_198, m_199, 0, 0, (fun _ => 0), by omega, c_254, c_255, c_256⟩, ⟨m_200, p_181, p_182, 0, 0, (fun _ => 0), by omega, c_250, c_251, c_252⟩⟩
        · exact ⟨(by rw [vu_ne (by omega), p_179 (1 + d) (20 + 3 * i9) (by omega) (by omega), fA133 (1 + d) (20 + 3 * i9) (by omega), p_78 (1 + d) (20 + 3 * i9) (by omega) (by omega), fA38 (1 + d) (20 + 3 * i9) (by omega)]; exact (hg_1 i9 (by omega)).1), (by rw [vu_ne (by omega), p_179 (1 + d) (38 + 3 * i9) (by omega) (by omega), fA133 (1 + d) (38 + 3 * i9) (by omega), p_78 (1 + d) (38 + 3 * i9) (by omega) (by omega), fA38 (1 + d) (38 + 3 * i9) (by omega)]; exact (hg_1 i9 (by omega)).2.1), (GI_at (by show E242 (1 + d) (20 + 3 * i9) = _; rw [p_247 (1 + d) (20 + 3 * i9) (by omega) (by omega), fE219 (1 + d) (20 + 3 * i9) (by omega), p_178 (1 + d) (20 + 3 * i9) (by omega) (by omega) (by omega), fE132 (1 + d) (20 + 3 * i9) (by omega), fE112 (1 + d) (20 + 3 * i9) (by omega), p_77 (1 + d) (20 + 3 * i9) (by omega) (by omega) (by omega), fE37 (1 + d) (20 + 3 * i9) (by omega)]) (by show E242 (1 + d) (21 + 3 * i9) = _; rw [p_247 (1 + d) (21 + 3 * i9) (by omega) (by omega), fE219 (1 + d) (21 + 3 * i9) (by omega), p_178 (1 + d) (21 + 3 * i9) (by omega) (by omega) (by omega), fE132 (1 + d) (21 + 3 * i9) (by omega), fE112 (1 + d) (21 + 3 * i9) (by omega), p_77 (1 + d) (21 + 3 * i9) (by omega) (by omega) (by omega), fE37 (1 + d) (21 + 3 * i9) (by omega)]) (by show E242 (1 + d) (22 + 3 * i9) = _; rw [p_247 (1 + d) (22 + 3 * i9) (by omega) (by omega), fE219 (1 + d) (22 + 3 * i9) (by omega), p_178 (1 + d) (22 + 3 * i9) (by omega) (by omega) (by omega), fE132 (1 + d) (22 + 3 * i9) (by omega), fE112 (1 + d) (22 + 3 * i9) (by omega), p_77 (1 + d) (22 + 3 * i9) (by omega) (by omega) (by omega), fE37 (1 + d) (22 + 3 * i9) (by omega)]) (by show ad172 (1 + d) (21 + 3 * i9) = _; rw [p_179 (1 + d) (21 + 3 * i9) (by omega) (by omega), fA133 (1 + d) (21 + 3 * i9) (by omega), p_78 (1 + d) (21 + 3 * i9) (by omega) (by omega), fA38 (1 + d) (21 + 3 * i9) (by omega)]) (by show ad172 (1 + d) (22 + 3 * i9) = _; rw [p_179 (1 + d) (22 + 3 * i9) (by omega) (by omega), fA133 (1 + d) (22 + 3 * i9) (by omega), p_78 (1 + d) (22 + 3 * i9) (by omega) (by omega), fA38 (1 + d) (22 + 3 * i9) (by omega)]) (fun _ h9 => p_180 _ (hs134 _ (p_79 _ (hs39 _ h9)))) (hg_1 i9 (by omega)).2.2.1), (GI_at (by show E242 (1 + d) (38 + 3 * i9) = _; rw [p_247 (1 + d) (38 + 3 * i9) (by omega) (by omega), fE219 (1 + d) (38 + 3 * i9) (by omega), p_178 (1 + d) (38 + 3 * i9) (by omega) (by omega) (by omega), fE132 (1 + d) (38 + 3 * i9) (by omega), fE112 (1 + d) (38 + 3 * i9) (by omega), p_77 (1 + d) (38 + 3 * i9) (by omega) (by omega) (by omega), fE37 (1 + d) (38 + 3 * i9) (by omega)]) (by show E242 (1 + d) (39 + 3 * i9) = _; rw [p_247 (1 + d) (39 + 3 * i9) (by omega) (by omega), fE219 (1 + d) (39 + 3 * i9) (by omega), p_178 (1 + d) (39 + 3 * i9) (by omega) (by omega) (by omega), fE132 (1 + d) (39 + 3 * i9) (by omega), fE112 (1 + d) (39 + 3 * i9) (by omega), p_77 (1 + d) (39 + 3 * i9) (by omega) (by omega) (by omega), fE37 (1 + d) (39 + 3 * i9) (by omega)]) (by show E242 (1 + d) (40 + 3 * i9) = _; rw [p_247 (1 + d) (40 + 3 * i9) (by omega) (by omega), fE219 (1 + d) (40 + 3 * i9) (by omega), p_178 (1 + d) (40 + 3 * i9) (by omega) (by omega) (by omega), fE132 (1 + d) (40 + 3 * i9) (by omega), fE112 (1 + d) (40 + 3 * i9) (by omega), p_77 (1 + d) (40 + 3 * i9) (by omega) (by omega) (by omega), fE37 (1 + d) (40 + 3 * i9) (by omega)]) (by show ad172 (1 + d) (39 + 3 * i9) = _; rw [p_179 (1 + d) (39 + 3 * i9) (by omega) (by omega), fA133 (1 + d) (39 + 3 * i9) (by omega), p_78 (1 + d) (39 + 3 * i9) (by omega) (by omega), fA38 (1 + d) (39 + 3 * i9) (by omega)]) (by show ad172 (1 + d) (40 + 3 * i9) = _; rw [p_179 (1 + d) (40 + 3 * i9) (by omega) (by omega), fA133 (1 + d) (40 + 3 * i9) (by omega), p_78 (1 + d) (40 + 3 * i9) (by omega) (by omega), fA38 (1 + d) (40 + 3 * i9) (by omega)]) (fun _ h9 => p_180 _ (hs134 _ (p_79 _ (hs39 _ h9)))) (hg_1 i9 (by omega)).2.2.2)⟩)⟩), (fun o9 ho9 => by show ad172 (1 + d) o9 = _; rw [p_179 (1 + d) o9 (by omega) (by omega), fA133 (1 + d) o9 (by omega), p_78 (1 + d) o9 (by omega) (by omega), fA38 (1 + d) o9 (by omega)]), (show TD (pkU g d nm) (E242 (1 + d)) d from TD_mk (by omega) (by omega) (by omega) (by omega) c_257 p_245 c_258 c_259 c_260 p_246 c_261 c_262 c_263 c_264 c_265 (by rw [hap1, hap2]; exact TT_P (by omega) hTT_1) (fun i9 hi9 => by
          by_cases q9 : i9 = k0_1
          · rw [ik0_1] at hz0
            subst q9
            exact ⟨TG_mk (n := 0) (by omega) c_254 c_255 c_256 hz0.1.symm (fun _ j9 hj9 => ⟨fun q => absurd q (by omega), fun _ => (hz0.2.2 j9 hj9).1⟩), TG_mk (n := 0) (by omega) c_250 c_251 c_252 hz0.2.1.symm (fun _ j9 hj9 => ⟨fun q => absurd q (by omega), fun _ => (hz0.2.2 j9 hj9).2⟩)⟩
          · have q := tgr_1 i9 (by omega)
            rw [← (show E242 (1 + d) (20 + 3 * i9) = E (1 + d) (20 + 3 * i9) from by show E242 (1 + d) (20 + 3 * i9) = _; rw [p_247 (1 + d) (20 + 3 * i9) (by omega) (by omega), fE219 (1 + d) (20 + 3 * i9) (by omega), p_178 (1 + d) (20 + 3 * i9) (by omega) (by omega) (by omega), fE132 (1 + d) (20 + 3 * i9) (by omega), fE112 (1 + d) (20 + 3 * i9) (by omega), p_77 (1 + d) (20 + 3 * i9) (by omega) (by omega) (by omega), fE37 (1 + d) (20 + 3 * i9) (by omega)]), ← (show E242 (1 + d) (21 + 3 * i9) = E (1 + d) (21 + 3 * i9) from by show E242 (1 + d) (21 + 3 * i9) = _; rw [p_247 (1 + d) (21 + 3 * i9) (by omega) (by omega), fE219 (1 + d) (21 + 3 * i9) (by omega), p_178 (1 + d) (21 + 3 * i9) (by omega) (by omega) (by omega), fE132 (1 + d) (21 + 3 * i9) (by omega), fE112 (1 + d) (21 + 3 * i9) (by omega), p_77 (1 + d) (21 + 3 * i9) (by omega) (by omega) (by omega), fE37 (1 + d) (21 + 3 * i9) (by omega)]), ← (show E242 (1 + d) (22 + 3 * i9) = E (1 + d) (22 + 3 * i9) from by show E242 (1 + d) (22 + 3 * i9) = _; rw [p_247 (1 + d) (22 + 3 * i9) (by omega) (by omega), fE219 (1 + d) (22 + 3 * i9) (by omega), p_178 (1 + d) (22 + 3 * i9) (by omega) (by omega) (by omega), fE132 (1 + d) (22 + 3 * i9) (by omega), fE112 (1 + d) (22 + 3 * i9) (by omega), p_77 (1 + d) (22 + 3 * i9) (by omega) (by omega) (by omega), fE37 (1 + d) (22 + 3 * i9) (by omega)]), ← (show E242 (1 + d) (38 + 3 * i9) = E (1 + d) (38 + 3 * i9) from by show E242 (1 + d) (38 + 3 * i9) = _; rw [p_247 (1 + d) (38 + 3 * i9) (by omega) (by omega), fE219 (1 + d) (38 + 3 * i9) (by omega), p_178 (1 + d) (38 + 3 * i9) (by omega) (by omega) (by omega), fE132 (1 + d) (38 + 3 * i9) (by omega), fE112 (1 + d) (38 + 3 * i9) (by omega), p_77 (1 + d) (38 + 3 * i9) (by omega) (by omega) (by omega), fE37 (1 + d) (38 + 3 * i9) (by omega)]), ← (show E242 (1 + d) (39 + 3 * i9) = E (1 + d) (39 + 3 * i9) from by show E242 (1 + d) (39 + 3 * i9) = _; rw [p_247 (1 + d) (39 + 3 * i9) (by omega) (by omega), fE219 (1 + d) (39 + 3 * i9) (by omega), p_178 (1 + d) (39 + 3 * i9) (by omega) (by omega) (by omega), fE132 (1 + d) (39 + 3 * i9) (by omega), fE112 (1 + d) (39 + 3 * i9) (by omega), p_77 (1 + d) (39 + 3 * i9) (by omega) (by omega) (by omega), fE37 (1 + d) (39 + 3 * i9) (by omega)]), ← (show E242 (1 + d) (40 + 3 * i9) = E (1 + d) (40 + 3 * i9) from by show E242 (1 + d) (40 + 3 * i9) = _; rw [p_247 (1 + d) (40 + 3 * i9) (by omega) (by omega), fE219 (1 + d) (40 + 3 * i9) (by omega), p_178 (1 + d) (40 + 3 * i9) (by omega) (by omega) (by omega), fE132 (1 + d) (40 + 3 * i9) (by omega), fE112 (1 + d) (40 + 3 * i9) (by omega), p_77 (1 + d) (40 + 3 * i9) (by omega) (by omega) (by omega), fE37 (1 + d) (40 + 3 * i9) (by omega)])] at q
            exact q))⟩, (fun b2 o2 h09 => by show E242 b2 o2 = _; rw [p_247 b2 o2 (by omega) (by omega), fE219 b2 o2 (by omega), p_178 b2 o2 (by omega) (by omega) (by omega), fE132 b2 o2 (by omega), fE112 b2 o2 (by omega), p_77 b2 o2 (by omega) (by omega) (by omega), fE37 b2 o2 (by omega)]), (fun b2 o2 h09 => by show ad172 b2 o2 = _; rw [p_179 b2 o2 (by omega) (by omega), fA133 b2 o2 (by omega), p_78 b2 o2 (by omega) (by omega), fA38 b2 o2 (by omega)]), (fun x9 hx9 => p_180 _ (hs134 _ (p_79 _ (hs39 _ hx9))))⟩, by rw [ht]; exact hP, hD⟩, hS.F ht⟩) hS.2.2 xd_Ds_addPackage_56
