theorem k5d_0 : (Cond.fieldLink "LayerDesk$Descriptor" 27 "LayerDesk$Descriptor" "required" "LLayerDesk$Names;") ∈ wT := wT_t (List.mem_append_right _ (List.mem_append_left _ (List.mem_of_getElem? (i := 66) rfl))) rfl
theorem k5d_1 : (Cond.code xy_Na_isFull xb_Na_isFull 1 (some .boolean)) ∈ wT := wT_t (List.mem_append_right _ (List.mem_append_left _ (List.mem_of_getElem? (i := 131) rfl))) rfl
theorem k5d_2 : (Cond.methodLink "LayerDesk$Descriptor" 57 xy_Na_isFull) ∈ wT := wT_t (List.mem_append_right _ (List.mem_append_left _ (List.mem_of_getElem? (i := 136) rfl))) rfl
theorem k5d_3 : (Cond.instanceMethod xy_Na_isFull) ∈ wT := wT_t (List.mem_append_right _ (List.mem_append_left _ (List.mem_of_getElem? (i := 129) rfl))) rfl
theorem k5d_4 : (Cond.selects "LayerDesk$Names" xy_Na_isFull xy_Na_isFull) ∈ wT := wT_t (List.mem_append_right _ (List.mem_append_left _ (List.mem_of_getElem? (i := 130) rfl))) rfl
theorem k5d_5 : (Cond.initialized "LayerDesk$Names") ∈ wT := wT_t (List.mem_append_left _ (List.mem_of_getElem? (i := 11) rfl)) rfl
theorem k5d_6 : (Cond.fieldLink "LayerDesk$Descriptor" 30 "LayerDesk$Descriptor" "transitive" "[Z") ∈ wT := wT_t (List.mem_append_right _ (List.mem_append_left _ (List.mem_of_getElem? (i := 70) rfl))) rfl
theorem k5d_7 : (Cond.fieldLink "LayerDesk$Descriptor" 61 "LayerDesk$Names" "size" "I") ∈ wT := wT_t (List.mem_append_right _ (List.mem_append_left _ (List.mem_of_getElem? (i := 36) rfl))) rfl
theorem k5d_8 : (Cond.fieldLink "LayerDesk$Descriptor" 34 "LayerDesk$Descriptor" "optional" "[Z") ∈ wT := wT_t (List.mem_append_right _ (List.mem_append_left _ (List.mem_of_getElem? (i := 72) rfl))) rfl
theorem k5d_9 : (Cond.code xy_Na_append xb_Na_append 2 none) ∈ wT := wT_t (List.mem_append_right _ (List.mem_append_left _ (List.mem_of_getElem? (i := 154) rfl))) rfl
theorem k5d_10 : (Cond.methodLink "LayerDesk$Descriptor" 65 xy_Na_append) ∈ wT := wT_t (List.mem_append_right _ (List.mem_append_left _ (List.mem_of_getElem? (i := 151) rfl))) rfl
theorem k5d_11 : (Cond.instanceMethod xy_Na_append) ∈ wT := wT_t (List.mem_append_right _ (List.mem_append_left _ (List.mem_of_getElem? (i := 152) rfl))) rfl
theorem k5d_12 : (Cond.selects "LayerDesk$Names" xy_Na_append xy_Na_append) ∈ wT := wT_t (List.mem_append_right _ (List.mem_append_left _ (List.mem_of_getElem? (i := 153) rfl))) rfl
theorem k5d_13 : (Cond.fieldLink "LayerDesk$Descriptor" 14 "LayerDesk$Descriptor" "packages" "LLayerDesk$Names;") ∈ wT := wT_t (List.mem_append_right _ (List.mem_append_left _ (List.mem_of_getElem? (i := 60) rfl))) rfl
theorem k5d_14 : (Cond.fieldLink "LayerDesk$Descriptor" 20 "LayerDesk$Descriptor" "exported" "[LLayerDesk$Grant;") ∈ wT := wT_t (List.mem_append_right _ (List.mem_append_left _ (List.mem_of_getElem? (i := 64) rfl))) rfl
theorem k5d_15 : (Cond.classLink "LayerDesk$Descriptor" 18 "LayerDesk$Grant") ∈ wT := wT_t (List.mem_append_right _ (List.mem_append_left _ (List.mem_of_getElem? (i := 44) rfl))) rfl
theorem k5d_16 : (Cond.instantiable "LayerDesk$Grant" 2) ∈ wT := wT_t (List.mem_append_right _ (List.mem_append_left _ (List.mem_of_getElem? (i := 137) rfl))) rfl
theorem k5d_17 : (Cond.initialized "LayerDesk$Grant") ∈ wT := wT_t (List.mem_append_left _ (List.mem_of_getElem? (i := 12) rfl)) rfl
theorem k5d_18 : (Cond.code xy_Gr_init xb_Gr_init 1 none) ∈ wT := wT_t (List.mem_append_right _ (List.mem_append_left _ (List.mem_of_getElem? (i := 140) rfl))) rfl
theorem k5d_19 : (Cond.instanceMethod xy_Gr_init) ∈ wT := wT_t (List.mem_append_right _ (List.mem_append_left _ (List.mem_of_getElem? (i := 139) rfl))) rfl
theorem k5d_20 : (Cond.fieldLink "LayerDesk$Descriptor" 24 "LayerDesk$Descriptor" "opened" "[LLayerDesk$Grant;") ∈ wT := wT_t (List.mem_append_right _ (List.mem_append_left _ (List.mem_of_getElem? (i := 65) rfl))) rfl
set_option maxHeartbeats 4000000 in
set_option maxRecDepth 100000 in
theorem xc_Ds_addRequiredX (l : Launch) (D : va_G) (kA : Nat → ClassId) (sz : Nat) (ad : Nat → Nat → Nat) (E : Nat → Nat → va_E) (RL : List (Nat × Nat)) (g : Nat → Nat → Int32) (d : Nat) (nm : Int32) (b1 : Int32) (b2 : Int32) (hDI : DI kA d (ad (1 + d)) (E (1 + d)) (fun o => (1 + d, o) ∈ RL)) (hTDd : TD g (E (1 + d)) d) (hnf : iN (g 12 d) < 5) : Met l xy_Ds_addRequired (.code xy_Ds_addRequired xb_Ds_addRequired 4 none :: wT) { frames := 2, cells := 0, slots := 0, locals := 41 } (va_Pc [.ref (ad (1 + d) 0), .int nm, .int b1, .int b2] (xPre D kA sz (rp ad E RL))) (va_Qv (fun (u : Nat → Nat → va_E) => (DI kA d (ad (1 + d)) (u (1 + d)) (fun o => (1 + d, o) ∈ RL) ∧ TD (rqU g d nm (vp_nar .boolean b1) (vp_nar .boolean b2)) (u (1 + d)) d) ∧ ((∀ b2 o2, ¬ (b2 = 1 + d) → u b2 o2 = E b2 o2))) (fun (u : Nat → Nat → va_E) t => va_P D xcl (rp ad u RL) t.heap ∧ va_D (va_A (rp ad E RL) sz) (rp ad u RL)) (va_A (rp ad E RL) sz)) 0 0 (va_A (rp ad E RL) sz) := by
  refine Met.ofW (cc := xb_Ds_addRequired) (maxL := 4) (ret := none) (by decide) rfl ?_
  intro p e s m args below meth c s₁ B hml hv
  obtain ⟨rfl, hsz, hP, hK, hD0⟩ := hv
  have hx := B.exec
  have hb := B.bytes
  have hr := B.returns
  have hT := x_hT B.pre
  have hown : s.vm.findClass xR_Ds = some m.cls := findClass_of_methodNamed B.named
  have hlocks := B.notSynchronized
  subst hsz
  have hD := hD0.self (sz := s.heap.size)
  generalize hAe : va_A (rp ad E RL) s.heap.size = A at hD ⊢
  have hA : ∀ q : Nat, s.heap.size ≤ q → A q := fun q h => by rw [← hAe]; exact Or.inr h
  have hS : va_S A s.heap s.heap [] := va_S.rf
  have hl := lv_entry ([.ref (ad (1 + d) 0), .int nm, .int b1, .int b2]) (n := 4) (Nat.le_of_ble_eq_true rfl)
  rw [lg_entry_eq]
  generalize (lg_sl ([.ref (ad (1 + d) 0), .int nm, .int b1, .int b2]) ++ List.replicate (4 - (lg_sl ([.ref (ad (1 + d) 0), .int nm, .int b1, .int b2])).length) Slot.unset).toArray = ls at hl ⊢
  have hl : lv_has ls 4 [(0, .ref (ad (1 + d) 0)), (1, .int nm), (2, .int b1), (3, .int b2)] := hl
  have hP : va_P D xcl (rp ad E RL) s.heap := hP
  obtain ⟨hm_1, fd_1, nm_1, sd_1, k0_1, k1_1, k2_1, k3_1, f0_1, f1_1, f2_1, f3_1, fe_1, fo_1, tr_1, op_1, hk0_1, hk1_1, hk2_1, hk3_1, q0_1, q1_1, q2_1, q3_1, q4_1, q5_1, q6_1, q7_1, q8_1, q9_1, q10_1, q11_1, q12_1, hg_1⟩ := id (hDI)
  have c_2 : E (1 + d) 0 = .inr (7, [.int (nI d), .int fd_1, .int nm_1, .ref (ad (1 + d) 1), .ref (ad (1 + d) 9), .ref (ad (1 + d) 10), .ref (ad (1 + d) 2), .ref (ad (1 + d) 11), .ref (ad (1 + d) 12), .ref (ad (1 + d) 3), .ref (ad (1 + d) 4), .int sd_1]) := q0_1
  have m_3 : (1 + d, 0) ∈ RL := hm_1 0 (by decide)
  have c_4 : E (1 + d) 1 = .inr (8, [.ref (ad (1 + d) 5), .int (nI k0_1)]) := q1_1
  have m_5 : (1 + d, 1) ∈ RL := hm_1 1 (by decide)
  have c_6 : E (1 + d) 2 = .inr (8, [.ref (ad (1 + d) 6), .int (nI k1_1)]) := q2_1
  have m_7 : (1 + d, 2) ∈ RL := hm_1 2 (by decide)
  have c_8 : E (1 + d) 3 = .inr (8, [.ref (ad (1 + d) 7), .int (nI k2_1)]) := q3_1
  have m_9 : (1 + d, 3) ∈ RL := hm_1 3 (by decide)
  have c_10 : E (1 + d) 4 = .inr (8, [.ref (ad (1 + d) 8), .int (nI k3_1)]) := q4_1
  have m_11 : (1 + d, 4) ∈ RL := hm_1 4 (by decide)
  have c_12 : E (1 + d) 5 = .inl (kA 0, 6, .inl f0_1) := q5_1
  have m_13 : (1 + d, 5) ∈ RL := hm_1 5 (by decide)
  have c_14 : E (1 + d) 6 = .inl (kA 0, 5, .inl f1_1) := q6_1
  have m_15 : (1 + d, 6) ∈ RL := hm_1 6 (by decide)
  have c_16 : E (1 + d) 7 = .inl (kA 0, 3, .inl f2_1) := q7_1
  have m_17 : (1 + d, 7) ∈ RL := hm_1 7 (by decide)
  have c_18 : E (1 + d) 8 = .inl (kA 0, 3, .inl f3_1) := q8_1
  have m_19 : (1 + d, 8) ∈ RL := hm_1 8 (by decide)
  have c_20 : E (1 + d) 9 = .inl (kA 8, 6, .inr (.inr (.inr (.inr fe_1)))) := q9_1
  have m_21 : (1 + d, 9) ∈ RL := hm_1 9 (by decide)
  have c_22 : E (1 + d) 10 = .inl (kA 8, 6, .inr (.inr (.inr (.inr fo_1)))) := q10_1
  have m_23 : (1 + d, 10) ∈ RL := hm_1 10 (by decide)
  have c_24 : E (1 + d) 11 = .inl (kA 2, 5, .inl tr_1) := q11_1
  have m_25 : (1 + d, 11) ∈ RL := hm_1 11 (by decide)
  have c_26 : E (1 + d) 12 = .inl (kA 2, 5, .inl op_1) := q12_1
  have m_27 : (1 + d, 12) ∈ RL := hm_1 12 (by decide)
  have hg_1 : ∀ w9, w9 < k0_1 → fe_1 w9 = some (ad (1 + d) (20 + 3 * w9)) ∧ fo_1 w9 = some (ad (1 + d) (38 + 3 * w9)) ∧ GI kA (ad (1 + d)) (E (1 + d)) (fun o => (1 + d, o) ∈ RL) (20 + 3 * w9) (21 + 3 * w9) (22 + 3 * w9) ∧ GI kA (ad (1 + d)) (E (1 + d)) (fun o => (1 + d, o) ∈ RL) (38 + 3 * w9) (39 + 3 * w9) (40 + 3 * w9) := hg_1
  obtain ⟨hTT_1, tgr_1⟩ := TD_get hk0_1 hk1_1 hk2_1 hk3_1 c_2 c_4 c_6 c_8 c_10 c_12 c_14 c_16 c_18 c_24 c_26 (hTDd)
  obtain ⟨tfd_1, tnm_1, tsd_1, tk0_1, tf0_1, tk1_1, tf1_1, tk2_1, tk3_1⟩ := id hTT_1
  have ik0_1 : iN (g 5 d) = k0_1 := by rw [← tk0_1, iN_nI (by omega)]
  have ik1_1 : iN (g 12 d) = k1_1 := by rw [← tk1_1, iN_nI (by omega)]
  refine lv_aload_n hx hb xd_Ds_addRequired_0 rfl (lv_at hl 0 rfl) ?_
  refine px_get (D := D) (ci := 7) (v := .ref (ad (1 + d) 2)) (C := xR_Ds) (T := xT_Ds) (N := 12) hx hb hT xi_Ds hown hK.1 hP m_3 c_2 rfl 6 (by decide) (hT _ k5d_0) (fun _ h9 => h9) rfl xd_Ds_addRequired_1 ?_
  have hFc := px_free hD hS hA
  refine va_calli (va_runV (As := []) (rest := []) ⟨hx, hb, hml, hown, hT⟩ (xc_Na_isFull l D kA s.heap.size ad E RL (1 + d) 2 6 5 k1_1 f1_1 m_7 c_6 m_15 c_14 (by first | assumption | omega) (by first | assumption | omega)) (cwV 0 hT (wT_V k5d_2 k5d_3 k5d_4 k5d_5 k5d_1) rfl rfl rfl (by decide +kernel) ⟨Nat.le_of_ble_eq_true rfl, Nat.le_of_ble_eq_true rfl⟩) (px_preV hK hP hD m_7 c_6 rfl) rfl rfl hl.1 rfl (lv_room (Nat.le_of_ble_eq_true rfl)) xd_Ds_addRequired_4 ⟨(Nat.le_of_ble_eq_true rfl), (Nat.le_of_ble_eq_true rfl)⟩) hS (fun q _ h => hFc q h) hFc (fun r28 u29 t H1 locs ht hvm hp30 hB hz1 hk1 hS => ?_)
  obtain ⟨hP1, hD1⟩ := hB
  rw [ht] at hP1
  have hD1 := hD1.weaken (fun _ _ _ h => hFc _ h)
  generalize H1 = H at hP1 hS ⊢
  have hP := hP1
  have hD := hD1
  have hP : va_P D xcl (rp ad E RL) H := hP
  have hD : va_D A (rp ad E RL) := hD
  rcases hp30 with ⟨rfl, z31⟩ | ⟨rfl, z32⟩
  · exact absurd z31 (by omega)
  · refine W.eq (g2 := F0 m 7 ls [.int 0]) rfl ?_
    refine lv_if_ne (tgt := 44) hx hb xd_Ds_addRequired_7 (by decide) (fun hc33 => absurd (by decide) hc33) (fun _ => ?_)
    refine lv_aload_n hx hb xd_Ds_addRequired_10 rfl (lv_at hl 0 rfl) ?_
    refine px_get (D := D) (ci := 7) (v := .ref (ad (1 + d) 11)) (C := xR_Ds) (T := xT_Ds) (N := 12) hx hb hT xi_Ds hown hK.1 hP m_3 c_2 rfl 7 (by decide) (hT _ k5d_6) (fun _ h9 => h9) rfl xd_Ds_addRequired_11 ?_
    refine lv_aload_n hx hb xd_Ds_addRequired_14 rfl (lv_at hl 0 rfl) ?_
    refine px_get (D := D) (ci := 7) (v := .ref (ad (1 + d) 2)) (C := xR_Ds) (T := xT_Ds) (N := 12) hx hb hT xi_Ds hown hK.1 hP m_3 c_2 rfl 6 (by decide) (hT _ k5d_0) (fun _ h9 => h9) rfl xd_Ds_addRequired_15 ?_
    refine px_get (D := D) (ci := 8) (v := .int (nI k1_1)) (C := xR_Na) (T := xT_Na) (N := 2) hx hb hT xi_Na hown hK.1 hP m_7 c_6 rfl 1 (by decide) (hT _ k5d_7) (fun _ h9 => h9) rfl xd_Ds_addRequired_18 ?_
    refine lv_iload_n hx hb xd_Ds_addRequired_21 rfl (lv_at hl 2 rfl) ?_
    refine px_zast (i := k1_1) hx hb hK.1 hP hD hS m_25 c_24 2 rfl (by omega) (by decide) xd_Ds_addRequired_22 (fun H locs hP hD hS => ?_)
    have hP : va_P D xcl (rp ad (up2 E (1 + d) 11 (.inl (kA 2, 5, .inl (upd tr_1 k1_1 (vp_nar .boolean b1))))) RL) H := hP
    have hD : va_D A (rp ad (up2 E (1 + d) 11 (.inl (kA 2, 5, .inl (upd tr_1 k1_1 (vp_nar .boolean b1))))) RL) := hD
    generalize hE35 : up2 E (1 + d) 11 (.inl (kA 2, 5, .inl (upd tr_1 k1_1 (vp_nar .boolean b1)))) = E34 at hP hD
    have fE36 : ∀ b2 o2, ¬ (b2 = 1 + d ∧ o2 = 11) → E34 b2 o2 = E b2 o2 := fun b2 o2 h9 => by rw [← hE35]; exact up2_ne (nr_or h9)
    have c_37 : E34 (1 + d) 11 = .inl (kA 2, 5, .inl (upd tr_1 k1_1 (vp_nar .boolean b1))) := by rw [← hE35]; exact up2_eq
    have c_38 : E34 (1 + d) 0 = .inr (7, [.int (nI d), .int fd_1, .int nm_1, .ref (ad (1 + d) 1), .ref (ad (1 + d) 9), .ref (ad (1 + d) 10), .ref (ad (1 + d) 2), .ref (ad (1 + d) 11), .ref (ad (1 + d) 12), .ref (ad (1 + d) 3), .ref (ad (1 + d) 4), .int sd_1]) := (fE36 (1 + d) 0 (fun q9 => absurd q9.2 (by decide))).trans c_2
    have c_39 : E34 (1 + d) 1 = .inr (8, [.ref (ad (1 + d) 5), .int (nI k0_1)]) := (fE36 (1 + d) 1 (fun q9 => absurd q9.2 (by decide))).trans c_4
    have c_40 : E34 (1 + d) 2 = .inr (8, [.ref (ad (1 + d) 6), .int (nI k1_1)]) := (fE36 (1 + d) 2 (fun q9 => absurd q9.2 (by decide))).trans c_6
    have c_41 : E34 (1 + d) 3 = .inr (8, [.ref (ad (1 + d) 7), .int (nI k2_1)]) := (fE36 (1 + d) 3 (fun q9 => absurd q9.2 (by decide))).trans c_8
    have c_42 : E34 (1 + d) 4 = .inr (8, [.ref (ad (1 + d) 8), .int (nI k3_1)]) := (fE36 (1 + d) 4 (fun q9 => absurd q9.2 (by decide))).trans c_10
    have c_43 : E34 (1 + d) 5 = .inl (kA 0, 6, .inl f0_1) := (fE36 (1 + d) 5 (fun q9 => absurd q9.2 (by decide))).trans c_12
    have c_44 : E34 (1 + d) 6 = .inl (kA 0, 5, .inl f1_1) := (fE36 (1 + d) 6 (fun q9 => absurd q9.2 (by decide))).trans c_14
    have c_45 : E34 (1 + d) 7 = .inl (kA 0, 3, .inl f2_1) := (fE36 (1 + d) 7 (fun q9 => absurd q9.2 (by decide))).trans c_16
    have c_46 : E34 (1 + d) 8 = .inl (kA 0, 3, .inl f3_1) := (fE36 (1 + d) 8 (fun q9 => absurd q9.2 (by decide))).trans c_18
    have c_47 : E34 (1 + d) 9 = .inl (kA 8, 6, .inr (.inr (.inr (.inr fe_1)))) := (fE36 (1 + d) 9 (fun q9 => absurd q9.2 (by decide))).trans c_20
    have c_48 : E34 (1 + d) 10 = .inl (kA 8, 6, .inr (.inr (.inr (.inr fo_1)))) := (fE36 (1 + d) 10 (fun q9 => absurd q9.2 (by decide))).trans c_22
    have c_49 : E34 (1 + d) 12 = .inl (kA 2, 5, .inl op_1) := (fE36 (1 + d) 12 (fun q9 => absurd q9.2 (by decide))).trans c_26
    refine lv_aload_n hx hb xd_Ds_addRequired_23 rfl (lv_at hl 0 rfl) ?_
    refine px_get (D := D) (ci := 7) (v := .ref (ad (1 + d) 12)) (C := xR_Ds) (T := xT_Ds) (N := 12) hx hb hT xi_Ds hown hK.1 hP m_3 c_38 rfl 8 (by decide) (hT _ k5d_8) (fun _ h9 => h9) rfl xd_Ds_addRequired_24 ?_
    refine lv_aload_n hx hb xd_Ds_addRequired_27 rfl (lv_at hl 0 rfl) ?_
    refine px_get (D := D) (ci := 7) (v := .ref (ad (1 + d) 2)) (C := xR_Ds) (T := xT_Ds) (N := 12) hx hb hT xi_Ds hown hK.1 hP m_3 c_38 rfl 6 (by decide) (hT _ k5d_0) (fun _ h9 => h9) rfl xd_Ds_addRequired_28 ?_
    refine px_get (D := D) (ci := 8) (v := .int (nI k1_1)) (C := xR_Na) (T := xT_Na) (N := 2) hx hb hT xi_Na hown hK.1 hP m_7 c_40 rfl 1 (by decide) (hT _ k5d_7) (fun _ h9 => h9) rfl xd_Ds_addRequired_31 ?_
    refine lv_iload_n hx hb xd_Ds_addRequired_34 rfl (lv_at hl 3 rfl) ?_
    refine px_zast (i := k1_1) hx hb hK.1 hP hD hS m_27 c_49 2 rfl (by omega) (by decide) xd_Ds_addRequired_35 (fun H locs hP hD hS => ?_)
    have hP : va_P D xcl (rp ad (up2 E34 (1 + d) 12 (.inl (kA 2, 5, .inl (upd op_1 k1_1 (vp_nar .boolean b2))))) RL) H := hP
    have hD : va_D A (rp ad (up2 E34 (1 + d) 12 (.inl (kA 2, 5, .inl (upd op_1 k1_1 (vp_nar .boolean b2))))) RL) := hD
    generalize hE51 : up2 E34 (1 + d) 12 (.inl (kA 2, 5, .inl (upd op_1 k1_1 (vp_nar .boolean b2)))) = E50 at hP hD
    have fE52 : ∀ b2 o2, ¬ (b2 = 1 + d ∧ o2 = 12) → E50 b2 o2 = E34 b2 o2 := fun b2 o2 h9 => by rw [← hE51]; exact up2_ne (nr_or h9)
    have c_53 : E50 (1 + d) 12 = .inl (kA 2, 5, .inl (upd op_1 k1_1 (vp_nar .boolean b2))) := by rw [← hE51]; exact up2_eq
    have c_54 : E50 (1 + d) 11 = .inl (kA 2, 5, .inl (upd tr_1 k1_1 (vp_nar .boolean b1))) := (fE52 (1 + d) 11 (fun q9 => absurd q9.2 (by decide))).trans c_37
    have c_55 : E50 (1 + d) 0 = .inr (7, [.int (nI d), .int fd_1, .int nm_1, .ref (ad (1 + d) 1), .ref (ad (1 + d) 9), .ref (ad (1 + d) 10), .ref (ad (1 + d) 2), .ref (ad (1 + d) 11), .ref (ad (1 + d) 12), .ref (ad (1 + d) 3), .ref (ad (1 + d) 4), .int sd_1]) := (fE52 (1 + d) 0 (fun q9 => absurd q9.2 (by decide))).trans c_38
    have c_56 : E50 (1 + d) 1 = .inr (8, [.ref (ad (1 + d) 5), .int (nI k0_1)]) := (fE52 (1 + d) 1 (fun q9 => absurd q9.2 (by decide))).trans c_39
    have c_57 : E50 (1 + d) 2 = .inr (8, [.ref (ad (1 + d) 6), .int (nI k1_1)]) := (fE52 (1 + d) 2 (fun q9 => absurd q9.2 (by decide))).trans c_40
    have c_58 : E50 (1 + d) 3 = .inr (8, [.ref (ad (1 + d) 7), .int (nI k2_1)]) := (fE52 (1 + d) 3 (fun q9 => absurd q9.2 (by decide))).trans c_41
    have c_59 : E50 (1 + d) 4 = .inr (8, [.ref (ad (1 + d) 8), .int (nI k3_1)]) := (fE52 (1 + d) 4 (fun q9 => absurd q9.2 (by decide))).trans c_42
    have c_60 : E50 (1 + d) 5 = .inl (kA 0, 6, .inl f0_1) := (fE52 (1 + d) 5 (fun q9 => absurd q9.2 (by decide))).trans c_43
    have c_61 : E50 (1 + d) 6 = .inl (kA 0, 5, .inl f1_1) := (fE52 (1 + d) 6 (fun q9 => absurd q9.2 (by decide))).trans c_44
    have c_62 : E50 (1 + d) 7 = .inl (kA 0, 3, .inl f2_1) := (fE52 (1 + d) 7 (fun q9 => absurd q9.2 (by decide))).trans c_45
    have c_63 : E50 (1 + d) 8 = .inl (kA 0, 3, .inl f3_1) := (fE52 (1 + d) 8 (fun q9 => absurd q9.2 (by decide))).trans c_46
    have c_64 : E50 (1 + d) 9 = .inl (kA 8, 6, .inr (.inr (.inr (.inr fe_1)))) := (fE52 (1 + d) 9 (fun q9 => absurd q9.2 (by decide))).trans c_47
    have c_65 : E50 (1 + d) 10 = .inl (kA 8, 6, .inr (.inr (.inr (.inr fo_1)))) := (fE52 (1 + d) 10 (fun q9 => absurd q9.2 (by decide))).trans c_48
    refine lv_aload_n hx hb xd_Ds_addRequired_36 rfl (lv_at hl 0 rfl) ?_
    refine px_get (D := D) (ci := 7) (v := .ref (ad (1 + d) 2)) (C := xR_Ds) (T := xT_Ds) (N := 12) hx hb hT xi_Ds hown hK.1 hP m_3 c_55 rfl 6 (by decide) (hT _ k5d_0) (fun _ h9 => h9) rfl xd_Ds_addRequired_37 ?_
    refine lv_iload_n hx hb xd_Ds_addRequired_40 rfl (lv_at hl 1 rfl) ?_
    have hFc := px_free hD hS hA
    refine va_callv (va_runV (As := [.int nm]) (rest := []) ⟨hx, hb, hml, hown, hT⟩ (xc_Na_append l D kA H.size ad E50 RL (1 + d) 2 6 5 k1_1 f1_1 nm m_7 c_57 m_15 c_61 (by first | assumption | omega) (by first | assumption | omega) (by first | assumption | omega)) (cwV 1 hT (wT_V k5d_10 k5d_11 k5d_12 k5d_5 k5d_9) rfl rfl rfl (by decide +kernel) ⟨Nat.le_of_ble_eq_true rfl, Nat.le_of_ble_eq_true rfl⟩) (px_preV hK hP hD m_7 c_57 rfl) rfl rfl hl.1 rfl (lv_room (Nat.le_of_ble_eq_true rfl)) xd_Ds_addRequired_41 ⟨(Nat.le_of_ble_eq_true rfl), (Nat.le_of_ble_eq_true rfl)⟩) hS (fun q _ h => hFc q h) hFc (fun u67 t H1 locs ht hvm hp68 hB hz1 hk1 hS => ?_)
    obtain ⟨hP1, hD1⟩ := hB
    rw [ht] at hP1
    have hD1 := hD1.weaken (fun _ _ _ h => hFc _ h)
    generalize H1 = H at hP1 hS ⊢
    have hP := hP1
    have hD := hD1
    obtain ⟨E69, rfl⟩ : ∃ z, z = u67 := ⟨_, rfl⟩
    obtain ⟨w70, w71, hp75, p_72, p_73, p_74⟩ := hp68
    have p_72 : E69 (1 + d) 2 = .inr (8, [.ref (ad (1 + d) 6), .int (nI w70)]) := p_72
    have p_73 : E69 (1 + d) 6 = .inl (kA 0, 5, .inl w71) := p_73
    have p_74 : (∀ b2 o2, ¬ (b2 = (1 + d) ∧ o2 = 2) → ¬ (b2 = (1 + d) ∧ o2 = 6) → E69 b2 o2 = E50 b2 o2) := p_74
    have c_76 : E69 (1 + d) 12 = .inl (kA 2, 5, .inl (upd op_1 k1_1 (vp_nar .boolean b2))) := (p_74 (1 + d) 12 (fun q9 => absurd q9.2 (by decide)) (fun q9 => absurd q9.2 (by decide))).trans c_53
    have c_77 : E69 (1 + d) 11 = .inl (kA 2, 5, .inl (upd tr_1 k1_1 (vp_nar .boolean b1))) := (p_74 (1 + d) 11 (fun q9 => absurd q9.2 (by decide)) (fun q9 => absurd q9.2 (by decide))).trans c_54
    have c_78 : E69 (1 + d) 0 = .inr (7, [.int (nI d), .int fd_1, .int nm_1, .ref (ad (1 + d) 1), .ref (ad (1 + d) 9), .ref (ad (1 + d) 10), .ref (ad (1 + d) 2), .ref (ad (1 + d) 11), .ref (ad (1 + d) 12), .ref (ad (1 + d) 3), .ref (ad (1 + d) 4), .int sd_1]) := (p_74 (1 + d) 0 (fun q9 => absurd q9.2 (by decide)) (fun q9 => absurd q9.2 (by decide))).trans c_55
    have c_79 : E69 (1 + d) 1 = .inr (8, [.ref (ad (1 + d) 5), .int (nI k0_1)]) := (p_74 (1 + d) 1 (fun q9 => absurd q9.2 (by decide)) (fun q9 => absurd q9.2 (by decide))).trans c_56
    have c_80 : E69 (1 + d) 3 = .inr (8, [.ref (ad (1 + d) 7), .int (nI k2_1)]) := (p_74 (1 + d) 3 (fun q9 => absurd q9.2 (by decide)) (fun q9 => absurd q9.2 (by decide))).trans c_58
    have c_81 : E69 (1 + d) 4 = .inr (8, [.ref (ad (1 + d) 8), .int (nI k3_1)]) := (p_74 (1 + d) 4 (fun q9 => absurd q9.2 (by decide)) (fun q9 => absurd q9.2 (by decide))).trans c_59
    have c_82 : E69 (1 + d) 5 = .inl (kA 0, 6, .inl f0_1) := (p_74 (1 + d) 5 (fun q9 => absurd q9.2 (by decide)) (fun q9 => absurd q9.2 (by decide))).trans c_60
    have c_83 : E69 (1 + d) 7 = .inl (kA 0, 3, .inl f2_1) := (p_74 (1 + d) 7 (fun q9 => absurd q9.2 (by decide)) (fun q9 => absurd q9.2 (by decide))).trans c_62
    have c_84 : E69 (1 + d) 8 = .inl (kA 0, 3, .inl f3_1) := (p_74 (1 + d) 8 (fun q9 => absurd q9.2 (by decide)) (fun q9 => absurd q9.2 (by decide))).trans c_63
    have c_85 : E69 (1 + d) 9 = .inl (kA 8, 6, .inr (.inr (.inr (.inr fe_1)))) := (p_74 (1 + d) 9 (fun q9 => absurd q9.2 (by decide)) (fun q9 => absurd q9.2 (by decide))).trans c_64
    have c_86 : E69 (1 + d) 10 = .inl (kA 8, 6, .inr (.inr (.inr (.inr fo_1)))) := (p_74 (1 + d) 10 (fun q9 => absurd q9.2 (by decide)) (fun q9 => absurd q9.2 (by decide))).trans c_65
    have hP : va_P D xcl (rp ad E69 RL) H := hP
    have hD : va_D A (rp ad E69 RL) := hD
    have hap : w70 = k1_1 + 1 ∧ w71 = upd f1_1 k1_1 nm := by
      rcases hp75.2 with ⟨_, q1, q2⟩ | ⟨q, _⟩
      · exact ⟨q1, q2⟩
      · omega
    obtain ⟨hap1, hap2⟩ := hap
    exact W.vret hx hb hr (fun t ht hW => ⟨⟨E69, rfl, ⟨⟨⟨hm_1, fd_1, nm_1, sd_1, k0_1, w70, k2_1, k3_1, f0_1, w71, f2_1, f3_1, fe_1, fo_1, (upd tr_1 k1_1 (vp_nar .boolean b1)), (upd op_1 k1_1 (vp_nar .boolean b2)), (by omega), (by omega), (by omega), (by omega), c_78, c_79, p_72, c_80, c_81, c_82, p_73, c_83, c_84, c_85, c_86, c_77, c_76, (fun i9 hi9 => ⟨(hg_1 i9 (by omega)).1, (hg_1 i9 (by omega)).2.1, (GI_at (by show E69 (1 + d) (20 + 3 * i9) = _; rw [p_74 (1 + d) (20 + 3 * i9) (by omega) (by omega), fE52 (1 + d) (20 + 3 * i9) (by omega), fE36 (1 + d) (20 + 3 * i9) (by omega)]) (by show E69 (1 + d) (21 + 3 * i9) = _; rw [p_74 (1 + d) (21 + 3 * i9) (by omega) (by omega), fE52 (1 + d) (21 + 3 * i9) (by omega), fE36 (1 + d) (21 + 3 * i9) (by omega)]) (by show E69 (1 + d) (22 + 3 * i9) = _; rw [p_74 (1 + d) (22 + 3 * i9) (by omega) (by omega), fE52 (1 + d) (22 + 3 * i9) (by omega), fE36 (1 + d) (22 + 3 * i9) (by omega)]) (rfl) (rfl) (fun _ h9 => h9) (hg_1 i9 (by omega)).2.2.1), (GI_at (by show E69 (1 + d) (38 + 3 * i9) = _; rw [p_74 (1 + d) (38 + 3 * i9) (by omega) (by omega), fE52 (1 + d) (38 + 3 * i9) (by omega), fE36 (1 + d) (38 + 3 * i9) (by omega)]) (by show E69 (1 + d) (39 + 3 * i9) = _; rw [p_74 (1 + d) (39 + 3 * i9) (by omega) (by omega), fE52 (1 + d) (39 + 3 * i9) (by omega), fE36 (1 + d) (39 + 3 * i9) (by omega)]) (by show E69 (1 + d) (40 + 3 * i9) = _; rw [p_74 (1 + d) (40 + 3 * i9) (by omega) (by omega), fE52 (1 + d) (40 + 3 * i9) (by omega), fE36 (1 + d) (40 + 3 * i9) (by omega)]) (rfl) (rfl) (fun _ h9 => h9) (hg_1 i9 (by omega)).2.2.2)⟩)⟩, (show TD (rqU g d nm (vp_nar .boolean b1) (vp_nar .boolean b2)) (E69 (1 + d)) d from TD_mk (by omega) (by omega) (by omega) (by omega) c_78 c_79 p_72 c_80 c_81 c_82 p_73 c_83 c_84 c_77 c_76 (by rw [hap1, hap2]; exact TT_R (by omega) hTT_1) (fun i9 hi9 => by
          have q := tgr_1 i9 hi9
          rw [← (show E69 (1 + d) (20 + 3 * i9) = E (1 + d) (20 + 3 * i9) from by show E69 (1 + d) (20 + 3 * i9) = _; rw [p_74 (1 + d) (20 + 3 * i9) (by omega) (by omega), fE52 (1 + d) (20 + 3 * i9) (by omega), fE36 (1 + d) (20 + 3 * i9) (by omega)]), ← (show E69 (1 + d) (21 + 3 * i9) = E (1 + d) (21 + 3 * i9) from by show E69 (1 + d) (21 + 3 * i9) = _; rw [p_74 (1 + d) (21 + 3 * i9) (by omega) (by omega), fE52 (1 + d) (21 + 3 * i9) (by omega), fE36 (1 + d) (21 + 3 * i9) (by omega)]), ← (show E69 (1 + d) (22 + 3 * i9) = E (1 + d) (22 + 3 * i9) from by show E69 (1 + d) (22 + 3 * i9) = _; rw [p_74 (1 + d) (22 + 3 * i9) (by omega) (by omega), fE52 (1 + d) (22 + 3 * i9) (by omega), fE36 (1 + d) (22 + 3 * i9) (by omega)]), ← (show E69 (1 + d) (38 + 3 * i9) = E (1 + d) (38 + 3 * i9) from by show E69 (1 + d) (38 + 3 * i9) = _; rw [p_74 (1 + d) (38 + 3 * i9) (by omega) (by omega), fE52 (1 + d) (38 + 3 * i9) (by omega), fE36 (1 + d) (38 + 3 * i9) (by omega)]), ← (show E69 (1 + d) (39 + 3 * i9) = E (1 + d) (39 + 3 * i9) from by show E69 (1 + d) (39 + 3 * i9) = _; rw [p_74 (1 + d) (39 + 3 * i9) (by omega) (by omega), fE52 (1 + d) (39 + 3 * i9) (by omega), fE36 (1 + d) (39 + 3 * i9) (by omega)]), ← (show E69 (1 + d) (40 + 3 * i9) = E (1 + d) (40 + 3 * i9) from by show E69 (1 + d) (40 + 3 * i9) = _; rw [p_74 (1 + d) (40 + 3 * i9) (by omega) (by omega), fE52 (1 + d) (40 + 3 * i9) (by omega), fE36 (1 + d) (40 + 3 * i9) (by omega)])] at q
          exact q))⟩, (fun b2 o2 h09 => by show E69 b2 o2 = _; rw [p_74 b2 o2 (by omega) (by omega), fE52 b2 o2 (by omega), fE36 b2 o2 (by omega)])⟩, by rw [ht]; exact hP, hD⟩, hS.F ht⟩) hS.2.2 xd_Ds_addRequired_44
set_option maxHeartbeats 4000000 in
set_option maxRecDepth 100000 in
theorem xc_Ds_addPackageX (l : Launch) (D : va_G) (kA : Nat → ClassId) (sz : Nat) (ad : Nat → Nat → Nat) (E : Nat → Nat → va_E) (RL : List (Nat × Nat)) (g : Nat → Nat → Int32) (d : Nat) (nm : Int32) (hDI : DI kA d (ad (1 + d)) (E (1 + d)) (fun o => (1 + d, o) ∈ RL)) (hTDd : TD g (E (1 + d)) d) (hnf : iN (g 5 d) < 6) (hz0 : g 9 (6 * d + iN (g 5 d)) = 0 ∧ g 10 (6 * d + iN (g 5 d)) = 0 ∧ ∀ j, j < 3 → g 7 (3 * (6 * d + iN (g 5 d)) + j) = 0 ∧ g 8 (3 * (6 * d + iN (g 5 d)) + j) = 0) : Met l xy_Ds_addPackage (.code xy_Ds_addPackage xb_Ds_addPackage 2 none :: wT) { frames := 3, cells := 6, slots := 20, locals := 55 } (va_Pc [.ref (ad (1 + d) 0), .int nm] (xPre D kA sz (rp ad E RL))) (va_Qv (fun (u : (Nat → Nat → Nat) × (Nat → Nat → va_E) × List (Nat × Nat)) => ((DI kA d (u.1 (1 + d)) (u.2.1 (1 + d)) (fun o => (1 + d, o) ∈ u.2.2)) ∧ (∀ o, o < 13 → u.1 (1 + d) o = ad (1 + d) o) ∧ TD (pkU g d nm) (u.2.1 (1 + d)) d) ∧ ((∀ b2 o2, ¬ (b2 = 1 + d) → u.2.1 b2 o2 = E b2 o2)) ∧ ((∀ b2 o2, ¬ (b2 = 1 + d) → u.1 b2 o2 = ad b2 o2)) ∧ ((∀ x ∈ RL, x ∈ u.2.2))) (fun (u : (Nat → Nat → Nat) × (Nat → Nat → va_E) × List (Nat × Nat)) t => va_P D xcl (rp u.1 u.2.1 u.2.2) t.heap ∧ va_D (va_A (rp ad E RL) sz) (rp u.1 u.2.1 u.2.2)) (va_A (rp ad E RL) sz)) 6 20 (va_A (rp ad E RL) sz) := by
  refine Met.ofW (cc := xb_Ds_addPackage) (maxL := 2) (ret := none) (by decide) rfl ?_
  intro p e s m args below meth c s₁ B hml hv
  obtain ⟨rfl, hsz, hP, hK, hD0⟩ := hv
  have hx := B.exec
  have hb := B.bytes
  have hr := B.returns
  have hT := x_hT B.pre
  have hown : s.vm.findClass xR_Ds = some m.cls := findClass_of_methodNamed B.named
  have hlocks := B.notSynchronized
  subst hsz
  have hD := hD0.self (sz := s.heap.size)
  generalize hAe : va_A (rp ad E RL) s.heap.size = A at hD ⊢
  have hA : ∀ q : Nat, s.heap.size ≤ q → A q := fun q h => by rw [← hAe]; exact Or.inr h
  have hS : va_S A s.heap s.heap [] := va_S.rf
  have hl := lv_entry ([.ref (ad (1 + d) 0), .int nm]) (n := 2) (Nat.le_of_ble_eq_true rfl)
  rw [lg_entry_eq]
  generalize (lg_sl ([.ref (ad (1 + d) 0), .int nm]) ++ List.replicate (2 - (lg_sl ([.ref (ad (1 + d) 0), .int nm])).length) Slot.unset).toArray = ls at hl ⊢
  have hl : lv_has ls 2 [(0, .ref (ad (1 + d) 0)), (1, .int nm)] := hl
  have hP : va_P D xcl (rp ad E RL) s.heap := hP
  obtain ⟨hm_1, fd_1, nm_1, sd_1, k0_1, k1_1, k2_1, k3_1, f0_1, f1_1, f2_1, f3_1, fe_1, fo_1, tr_1, op_1, hk0_1, hk1_1, hk2_1, hk3_1, q0_1, q1_1, q2_1, q3_1, q4_1, q5_1, q6_1, q7_1, q8_1, q9_1, q10_1, q11_1, q12_1, hg_1⟩ := id (hDI)
  have c_2 : E (1 + d) 0 = .inr (7, [.int (nI d), .int fd_1, .int nm_1, .ref (ad (1 + d) 1), .ref (ad (1 + d) 9), .ref (ad (1 + d) 10), .ref (ad (1 + d) 2), .ref (ad (1 + d) 11), .ref (ad (1 + d) 12), .ref (ad (1 + d) 3), .ref (ad (1 + d) 4), .int sd_1]) := q0_1
  have m_3 : (1 + d, 0) ∈ RL := hm_1 0 (by decide)
  have c_4 : E (1 + d) 1 = .inr (8, [.ref (ad (1 + d) 5), .int (nI k0_1)]) := q1_1
  have m_5 : (1 + d, 1) ∈ RL := hm_1 1 (by decide)
  have c_6 : E (1 + d) 2 = .inr (8, [.ref (ad (1 + d) 6), .int (nI k1_1)]) := q2_1
  have m_7 : (1 + d, 2) ∈ RL := hm_1 2 (by decide)
  have c_8 : E (1 + d) 3 = .inr (8, [.ref (ad (1 + d) 7), .int (nI k2_1)]) := q3_1
  have m_9 : (1 + d, 3) ∈ RL := hm_1 3 (by decide)
  have c_10 : E (1 + d) 4 = .inr (8, [.ref (ad (1 + d) 8), .int (nI k3_1)]) := q4_1
  have m_11 : (1 + d, 4) ∈ RL := hm_1 4 (by decide)
  have c_12 : E (1 + d) 5 = .inl (kA 0, 6, .inl f0_1) := q5_1
  have m_13 : (1 + d, 5) ∈ RL := hm_1 5 (by decide)
  have c_14 : E (1 + d) 6 = .inl (kA 0, 5, .inl f1_1) := q6_1
  have m_15 : (1 + d, 6) ∈ RL := hm_1 6 (by decide)
  have c_16 : E (1 + d) 7 = .inl (kA 0, 3, .inl f2_1) := q7_1
  have m_17 : (1 + d, 7) ∈ RL := hm_1 7 (by decide)
  have c_18 : E (1 + d) 8 = .inl (kA 0, 3, .inl f3_1) := q8_1
  have m_19 : (1 + d, 8) ∈ RL := hm_1 8 (by decide)
  have c_20 : E (1 + d) 9 = .inl (kA 8, 6, .inr (.inr (.inr (.inr fe_1)))) := q9_1
  have m_21 : (1 + d, 9) ∈ RL := hm_1 9 (by decide)
  have c_22 : E (1 + d) 10 = .inl (kA 8, 6, .inr (.inr (.inr (.inr fo_1)))) := q10_1
  have m_23 : (1 + d, 10) ∈ RL := hm_1 10 (by decide)
  have c_24 : E (1 + d) 11 = .inl (kA 2, 5, .inl tr_1) := q11_1
  have m_25 : (1 + d, 11) ∈ RL := hm_1 11 (by decide)
  have c_26 : E (1 + d) 12 = .inl (kA 2, 5, .inl op_1) := q12_1
  have m_27 : (1 + d, 12) ∈ RL := hm_1 12 (by decide)
  have hg_1 : ∀ w9, w9 < k0_1 → fe_1 w9 = some (ad (1 + d) (20 + 3 * w9)) ∧ fo_1 w9 = some (ad (1 + d) (38 + 3 * w9)) ∧ GI kA (ad (1 + d)) (E (1 + d)) (fun o => (1 + d, o) ∈ RL) (20 + 3 * w9) (21 + 3 * w9) (22 + 3 * w9) ∧ GI kA (ad (1 + d)) (E (1 + d)) (fun o => (1 + d, o) ∈ RL) (38 + 3 * w9) (39 + 3 * w9) (40 + 3 * w9) := hg_1
  obtain ⟨hTT_1, tgr_1⟩ := TD_get hk0_1 hk1_1 hk2_1 hk3_1 c_2 c_4 c_6 c_8 c_10 c_12 c_14 c_16 c_18 c_24 c_26 (hTDd)
  obtain ⟨tfd_1, tnm_1, tsd_1, tk0_1, tf0_1, tk1_1, tf1_1, tk2_1, tk3_1⟩ := id hTT_1
  have ik0_1 : iN (g 5 d) = k0_1 := by rw [← tk0_1, iN_nI (by omega)]
  have ik1_1 : iN (g 12 d) = k1_1 := by rw [← tk1_1, iN_nI (by omega)]
  refine lv_aload_n hx hb xd_Ds_addPackage_0 rfl (lv_at hl 0 rfl) ?_
  refine px_get (D := D) (ci := 7) (v := .ref (ad (1 + d) 1)) (C := xR_Ds) (T := xT_Ds) (N := 12) hx hb hT xi_Ds hown hK.1 hP m_3 c_2 rfl 3 (by decide) (hT _ k5d_13) (fun _ h9 => h9) rfl xd_Ds_addPackage_1 ?_
  have hFc := px_free hD hS hA
  refine va_calli (va_runV (As := []) (rest := []) ⟨hx, hb, hml, hown, hT⟩ (xc_Na_isFull l D kA s.heap.size ad E RL (1 + d) 1 5 6 k0_1 f0_1 m_5 c_4 m_13 c_12 (by first | assumption | omega) (by first | assumption | omega)) (cwV 0 hT (wT_V k5d_2 k5d_3 k5d_4 k5d_5 k5d_1) rfl rfl rfl (by decide +kernel) ⟨Nat.le_of_ble_eq_true rfl, Nat.le_of_ble_eq_true rfl⟩) (px_preV hK hP hD m_5 c_4 rfl) rfl rfl hl.1 rfl (lv_room (Nat.le_of_ble_eq_true rfl)) xd_Ds_addPackage_4 ⟨(Nat.le_of_ble_eq_true rfl), (Nat.le_of_ble_eq_true rfl)⟩) hS (fun q _ h => hFc q h) hFc (fun r28 u29 t H1 locs ht hvm hp30 hB hz1 hk1 hS => ?_)
  obtain ⟨hP1, hD1⟩ := hB
  rw [ht] at hP1
  have hD1 := hD1.weaken (fun _ _ _ h => hFc _ h)
  generalize H1 = H at hP1 hS ⊢
  have hP := hP1
  have hD := hD1
  have hP : va_P D xcl (rp ad E RL) H := hP
  have hD : va_D A (rp ad E RL) := hD
  rcases hp30 with ⟨rfl, z31⟩ | ⟨rfl, z32⟩
  · exact absurd z31 (by omega)
  · refine W.eq (g2 := F0 m 7 ls [.int 0]) rfl ?_
    refine lv_if_ne (tgt := 56) hx hb xd_Ds_addPackage_7 (by decide) (fun hc33 => absurd (by decide) hc33) (fun _ => ?_)
    refine lv_aload_n hx hb xd_Ds_addPackage_10 rfl (lv_at hl 0 rfl) ?_
    refine px_get (D := D) (ci := 7) (v := .ref (ad (1 + d) 9)) (C := xR_Ds) (T := xT_Ds) (N := 12) hx hb hT xi_Ds hown hK.1 hP m_3 c_2 rfl 4 (by decide) (hT _ k5d_14) (fun _ h9 => h9) rfl xd_Ds_addPackage_11 ?_
    refine lv_aload_n hx hb xd_Ds_addPackage_14 rfl (lv_at hl 0 rfl) ?_
    refine px_get (D := D) (ci := 7) (v := .ref (ad (1 + d) 1)) (C := xR_Ds) (T := xT_Ds) (N := 12) hx hb hT xi_Ds hown hK.1 hP m_3 c_2 rfl 3 (by decide) (hT _ k5d_13) (fun _ h9 => h9) rfl xd_Ds_addPackage_15 ?_
    refine px_get (D := D) (ci := 8) (v := .int (nI k0_1)) (C := xR_Na) (T := xT_Na) (N := 2) hx hb hT xi_Na hown hK.1 hP m_5 c_4 rfl 1 (by decide) (hT _ k5d_7) (fun _ h9 => h9) rfl xd_Ds_addPackage_18 ?_
    refine px_new (ci := 9) (fs := [.null, .int 0]) (C := xR_Gr) (T := xT_Gr) (N := 2) (1 + d) (20 + 3 * k0_1) hx hb hT xi_Gr xt_Gr xt_Gr_ok hown (hT _ k5d_15) (hT _ k5d_16) (hT _ k5d_17) hK.1 hP hD hS hA rfl (by decide +kernel) (Nat.le_of_ble_eq_true rfl) (Nat.le_of_ble_eq_true rfl) xd_Ds_addPackage_21 (fun ad34 E35 RL36 H hA1 hE1 hs1 hm1 hP hD hS => ?_)
    have fE37 : ∀ b2 o2, ¬ (b2 = 1 + d ∧ o2 = 20 + 3 * k0_1) → E35 b2 o2 = E b2 o2 := fun b2 o2 h9 => by rw [hE1]; exact up2_ne (nr_or h9)
    have fA38 : ∀ b2 o2, ¬ (b2 = 1 + d ∧ o2 = 20 + 3 * k0_1) → ad34 b2 o2 = ad b2 o2 := fun b2 o2 h9 => by rw [hA1]; exact up2_ne (nr_or h9)
    have hs39 := hs1
    refine W.eq (g2 := F0 m _ ls [.ref (ad34 (1 + d) (20 + 3 * k0_1)), .int (nI k0_1), .ref (ad34 (1 + d) 9)]) (by rw [fA38 (1 + d) 9 (fun q9 => nr_z q9.2 (by decide))]) ?_
    have c_40 : E35 (1 + d) (20 + 3 * k0_1) = .inr (9, [.null, .int 0]) := by rw [hE1]; exact up2_eq
    have hl : lv_has ls 2 [(0, .ref (ad34 (1 + d) 0)), (1, .int nm)] := by
      rw [fA38 (1 + d) 0 (fun q9 => nr_z q9.2 (by decide))]; exact hl
    have m_42 : (1 + d, 0) ∈ RL36 := hs39 _ m_3
    have m_43 : (1 + d, 1) ∈ RL36 := hs39 _ m_5
    have m_44 : (1 + d, 2) ∈ RL36 := hs39 _ m_7
    have m_45 : (1 + d, 3) ∈ RL36 := hs39 _ m_9
    have m_46 : (1 + d, 4) ∈ RL36 := hs39 _ m_11
    have m_47 : (1 + d, 5) ∈ RL36 := hs39 _ m_13
    have m_48 : (1 + d, 6) ∈ RL36 := hs39 _ m_15
    have m_49 : (1 + d, 7) ∈ RL36 := hs39 _ m_17
    have m_50 : (1 + d, 8) ∈ RL36 := hs39 _ m_19
    have m_51 : (1 + d, 9) ∈ RL36 := hs39 _ m_21
    have m_52 : (1 + d, 10) ∈ RL36 := hs39 _ m_23
    have m_53 : (1 + d, 11) ∈ RL36 := hs39 _ m_25
    have m_54 : (1 + d, 12) ∈ RL36 := hs39 _ m_27
    have c_55 : E35 (1 + d) 0 = .inr (7, [.int (nI d), .int fd_1, .int nm_1, .ref (ad34 (1 + d) 1), .ref (ad34 (1 + d) 9), .ref (ad34 (1 + d) 10), .ref (ad34 (1 + d) 2), .ref (ad34 (1 + d) 11), .ref (ad34 (1 + d) 12), .ref (ad34 (1 + d) 3), .ref (ad34 (1 + d) 4), .int sd_1]) := by rw [fE37 (1 + d) 0 (fun q9 => nr_z q9.2 (by decide)), fA38 (1 + d) 1 (fun q9 => nr_z q9.2 (by decide)), fA38 (1 + d) 9 (fun q9 => nr_z q9.2 (by decide)), fA38 (1 + d) 10 (fun q9 => nr_z q9.2 (by decide)), fA38 (1 + d) 2 (fun q9 => nr_z q9.2 (by decide)), fA38 (1 + d) 11 (fun q9 => nr_z q9.2 (by decide)), fA38 (1 + d) 12 (fun q9 => nr_z q9.2 (by decide)), fA38 (1 + d) 3 (fun q9 => nr_z q9.2 (by decide)), fA38 (1 + d) 4 (fun q9 => nr_z q9.2 (by decide))]; exact c_2
    have c_56 : E35 (1 + d) 1 = .inr (8, [.ref (ad34 (1 + d) 5), .int (nI k0_1)]) := by rw [fE37 (1 + d) 1 (fun q9 => nr_z q9.2 (by decide)), fA38 (1 + d) 5 (fun q9 => nr_z q9.2 (by decide))]; exact c_4
    have c_57 : E35 (1 + d) 2 = .inr (8, [.ref (ad34 (1 + d) 6), .int (nI k1_1)]) := by rw [fE37 (1 + d) 2 (fun q9 => nr_z q9.2 (by decide)), fA38 (1 + d) 6 (fun q9 => nr_z q9.2 (by decide))]; exact c_6
    have c_58 : E35 (1 + d) 3 = .inr (8, [.ref (ad34 (1 + d) 7), .int (nI k2_1)]) := by rw [fE37 (1 + d) 3 (fun q9 => nr_z q9.2 (by decide)), fA38 (1 + d) 7 (fun q9 => nr_z q9.2 (by decide))]; exact c_8
    have c_59 : E35 (1 + d) 4 = .inr (8, [.ref (ad34 (1 + d) 8), .int (nI k3_1)]) := by rw [fE37 (1 + d) 4 (fun q9 => nr_z q9.2 (by decide)), fA38 (1 + d) 8 (fun q9 => nr_z q9.2 (by decide))]; exact c_10
    have c_60 : E35 (1 + d) 5 = .inl (kA 0, 6, .inl f0_1) := by rw [fE37 (1 + d) 5 (fun q9 => nr_z q9.2 (by decide))]; exact c_12
    have c_61 : E35 (1 + d) 6 = .inl (kA 0, 5, .inl f1_1) := by rw [fE37 (1 + d) 6 (fun q9 => nr_z q9.2 (by decide))]; exact c_14
    have c_62 : E35 (1 + d) 7 = .inl (kA 0, 3, .inl f2_1) := by rw [fE37 (1 + d) 7 (fun q9 => nr_z q9.2 (by decide))]; exact c_16
    have c_63 : E35 (1 + d) 8 = .inl (kA 0, 3, .inl f3_1) := by rw [fE37 (1 + d) 8 (fun q9 => nr_z q9.2 (by decide))]; exact c_18
    have c_64 : E35 (1 + d) 9 = .inl (kA 8, 6, .inr (.inr (.inr (.inr fe_1)))) := by rw [fE37 (1 + d) 9 (fun q9 => nr_z q9.2 (by decide))]; exact c_20
    have c_65 : E35 (1 + d) 10 = .inl (kA 8, 6, .inr (.inr (.inr (.inr fo_1)))) := by rw [fE37 (1 + d) 10 (fun q9 => nr_z q9.2 (by decide))]; exact c_22
    have c_66 : E35 (1 + d) 11 = .inl (kA 2, 5, .inl tr_1) := by rw [fE37 (1 + d) 11 (fun q9 => nr_z q9.2 (by decide))]; exact c_24
    have c_67 : E35 (1 + d) 12 = .inl (kA 2, 5, .inl op_1) := by rw [fE37 (1 + d) 12 (fun q9 => nr_z q9.2 (by decide))]; exact c_26
    have m_41 : (1 + d, 20 + 3 * k0_1) ∈ RL36 := hm1
    have hP : va_P D xcl (rp ad34 E35 RL36) H := hP
    have hD : va_D A (rp ad34 E35 RL36) := hD
    refine lv_dup hx hb xd_Ds_addPackage_24 rfl ?_
    have hFc := px_free hD hS hA
    refine va_callv (va_runIN (As := []) (rest := [.ref (ad34 (1 + d) (20 + 3 * k0_1)), .int (nI k0_1), .ref (ad34 (1 + d) 9)]) ⟨hx, hb, hml, hown, hT⟩ (xc_Gr_init l D kA H.size ad34 E35 RL36 (1 + d) (20 + 3 * k0_1) (21 + 3 * k0_1) (22 + 3 * k0_1) m_41 c_40 (by first | assumption | omega)) ⟨va_cnB 0 hT (wT_I k5d_18) rfl rfl rfl hK.2.1.2.2.1 (hT _ k5d_17) (by decide +kernel) ⟨Nat.le_of_ble_eq_true rfl, Nat.le_of_ble_eq_true rfl⟩, rfl, hT _ k5d_19⟩ (x_preS hK hP hD) rfl rfl hl.1 rfl (lv_room (Nat.le_of_ble_eq_true rfl)) xd_Ds_addPackage_25 ⟨(Nat.le_of_ble_eq_true rfl), (Nat.le_of_ble_eq_true rfl)⟩) hS (fun q _ h => hFc q h) hFc (fun u69 t H1 locs ht hvm hp70 hB hz1 hk1 hS => ?_)
    obtain ⟨hP1, hD1⟩ := hB
    rw [ht] at hP1
    have hD1 := hD1.weaken (fun _ _ _ h => hFc _ h)
    generalize H1 = H at hP1 hS ⊢
    have hP := hP1
    have hD := hD1
    obtain ⟨ad71, E72, RL73⟩ := u69
    obtain ⟨hp82, p_74, p_75, p_76, p_77, p_78, p_79, p_80, p_81⟩ := hp70
    have p_74 : E72 (1 + d) (20 + 3 * k0_1) = .inr (9, [.ref (ad71 (1 + d) (21 + 3 * k0_1)), .int 0]) := p_74
    have p_75 : E72 (1 + d) (21 + 3 * k0_1) = .inr (8, [.ref (ad71 (1 + d) (22 + 3 * k0_1)), .int 0]) := p_75
    have p_76 : E72 (1 + d) (22 + 3 * k0_1) = .inl (kA 0, 3, .inl (fun _ => 0)) := p_76
    have p_77 : (∀ b2 o2, ¬ (b2 = (1 + d) ∧ o2 = (20 + 3 * k0_1)) → ¬ (b2 = (1 + d) ∧ o2 = (21 + 3 * k0_1)) → ¬ (b2 = (1 + d) ∧ o2 = (22 + 3 * k0_1)) → E72 b2 o2 = E35 b2 o2) := p_77
    have p_78 : (∀ b2 o2, ¬ (b2 = (1 + d) ∧ o2 = (21 + 3 * k0_1)) → ¬ (b2 = (1 + d) ∧ o2 = (22 + 3 * k0_1)) → ad71 b2 o2 = ad34 b2 o2) := p_78
    have p_79 : (∀ x ∈ RL36, x ∈ RL73) := p_79
    have p_80 : ((1 + d), (21 + 3 * k0_1)) ∈ RL73 := p_80
    have p_81 : ((1 + d), (22 + 3 * k0_1)) ∈ RL73 := p_81
    refine W.eq (g2 := F0 m 28 ls [.ref (ad71 (1 + d) (20 + 3 * k0_1)), .int (nI k0_1), .ref (ad71 (1 + d) 9)]) (by rw [p_78 (1 + d) (20 + 3 * k0_1) (fun q9 => nr_k q9.2 (by decide)) (fun q9 => nr_k q9.2 (by decide)), p_78 (1 + d) 9 (fun q9 => nr_z q9.2 (by decide)) (fun q9 => nr_z q9.2 (by decide))]) ?_
    have hl : lv_has ls 2 [(0, .ref (ad71 (1 + d) 0)), (1, .int nm)] := by
      rw [p_78 (1 + d) 0 (fun q9 => nr_z q9.2 (by decide)) (fun q9 => nr_z q9.2 (by decide))]; exact hl
    have m_83 : (1 + d, 0) ∈ RL73 := p_79 _ m_42
    have m_84 : (1 + d, 1) ∈ RL73 := p_79 _ m_43
    have m_85 : (1 + d, 2) ∈ RL73 := p_79 _ m_44
    have m_86 : (1 + d, 3) ∈ RL73 := p_79 _ m_45
    have m_87 : (1 + d, 4) ∈ RL73 := p_79 _ m_46
    have m_88 : (1 + d, 5) ∈ RL73 := p_79 _ m_47
    have m_89 : (1 + d, 6) ∈ RL73 := p_79 _ m_48
    have m_90 : (1 + d, 7) ∈ RL73 := p_79 _ m_49
    have m_91 : (1 + d, 8) ∈ RL73 := p_79 _ m_50
    have m_92 : (1 + d, 9) ∈ RL73 := p_79 _ m_51
    have m_93 : (1 + d, 10) ∈ RL73 := p_79 _ m_52
    have m_94 : (1 + d, 11) ∈ RL73 := p_79 _ m_53
    have m_95 : (1 + d, 12) ∈ RL73 := p_79 _ m_54
    have m_96 : (1 + d, 20 + 3 * k0_1) ∈ RL73 := p_79 _ m_41
    have c_97 : E72 (1 + d) 0 = .inr (7, [.int (nI d), .int fd_1, .int nm_1, .ref (ad71 (1 + d) 1), .ref (ad71 (1 + d) 9), .ref (ad71 (1 + d) 10), .ref (ad71 (1 + d) 2), .ref (ad71 (1 + d) 11), .ref (ad71 (1 + d) 12), .ref (ad71 (1 + d) 3), .ref (ad71 (1 + d) 4), .int sd_1]) := by rw [p_77 (1 + d) 0 (fun q9 => nr_z q9.2 (by decide)) (fun q9 => nr_z q9.2 (by decide)) (fun q9 => nr_z q9.2 (by decide)), p_78 (1 + d) 1 (fun q9 => nr_z q9.2 (by decide)) (fun q9 => nr_z q9.2 (by decide)), p_78 (1 + d) 9 (fun q9 => nr_z q9.2 (by decide)) (fun q9 => nr_z q9.2 (by decide)), p_78 (1 + d) 10 (fun q9 => nr_z q9.2 (by decide)) (fun q9 => nr_z q9.2 (by decide)), p_78 (1 + d) 2 (fun q9 => nr_z q9.2 (by decide)) (fun q9 => nr_z q9.2 (by decide)), p_78 (1 + d) 11 (fun q9 => nr_z q9.2 (by decide)) (fun q9 => nr_z q9.2 (by decide)), p_78 (1 + d) 12 (fun q9 => nr_z q9.2 (by decide)) (fun q9 => nr_z q9.2 (by decide)), p_78 (1 + d) 3 (fun q9 => nr_z q9.2 (by decide)) (fun q9 => nr_z q9.2 (by decide)), p_78 (1 + d) 4 (fun q9 => nr_z q9.2 (by decide)) (fun q9 => nr_z q9.2 (by decide))]; exact c_55
    have c_98 : E72 (1 + d) 1 = .inr (8, [.ref (ad71 (1 + d) 5), .int (nI k0_1)]) := by rw [p_77 (1 + d) 1 (fun q9 => nr_z q9.2 (by decide)) (fun q9 => nr_z q9.2 (by decide)) (fun q9 => nr_z q9.2 (by decide)), p_78 (1 + d) 5 (fun q9 => nr_z q9.2 (by decide)) (fun q9 => nr_z q9.2 (by decide))]; exact c_56
    have c_99 : E72 (1 + d) 2 = .inr (8, [.ref (ad71 (1 + d) 6), .int (nI k1_1)]) := by rw [p_77 (1 + d) 2 (fun q9 => nr_z q9.2 (by decide)) (fun q9 => nr_z q9.2 (by decide)) (fun q9 => nr_z q9.2 (by decide)), p_78 (1 + d) 6 (fun q9 => nr_z q9.2 (by decide)) (fun q9 => nr_z q9.2 (by decide))]; exact c_57
    have c_100 : E72 (1 + d) 3 = .inr (8, [.ref (ad71 (1 + d) 7), .int (nI k2_1)]) := by rw [p_77 (1 + d) 3 (fun q9 => nr_z q9.2 (by decide)) (fun q9 => nr_z q9.2 (by decide)) (fun q9 => nr_z q9.2 (by decide)), p_78 (1 + d) 7 (fun q9 => nr_z q9.2 (by decide)) (fun q9 => nr_z q9.2 (by decide))]; exact c_58
    have c_101 : E72 (1 + d) 4 = .inr (8, [.ref (ad71 (1 + d) 8), .int (nI k3_1)]) := by rw [p_77 (1 + d) 4 (fun q9 => nr_z q9.2 (by decide)) (fun q9 => nr_z q9.2 (by decide)) (fun q9 => nr_z q9.2 (by decide)), p_78 (1 + d) 8 (fun q9 => nr_z q9.2 (by decide)) (fun q9 => nr_z q9.2 (by decide))]; exact c_59
    have c_102 : E72 (1 + d) 5 = .inl (kA 0, 6, .inl f0_1) := by rw [p_77 (1 + d) 5 (fun q9 => nr_z q9.2 (by decide)) (fun q9 => nr_z q9.2 (by decide)) (fun q9 => nr_z q9.2 (by decide))]; exact c_60
    have c_103 : E72 (1 + d) 6 = .inl (kA 0, 5, .inl f1_1) := by rw [p_77 (1 + d) 6 (fun q9 => nr_z q9.2 (by decide)) (fun q9 => nr_z q9.2 (by decide)) (fun q9 => nr_z q9.2 (by decide))]; exact c_61
    have c_104 : E72 (1 + d) 7 = .inl (kA 0, 3, .inl f2_1) := by rw [p_77 (1 + d) 7 (fun q9 => nr_z q9.2 (by decide)) (fun q9 => nr_z q9.2 (by decide)) (fun q9 => nr_z q9.2 (by decide))]; exact c_62
    have c_105 : E72 (1 + d) 8 = .inl (kA 0, 3, .inl f3_1) := by rw [p_77 (1 + d) 8 (fun q9 => nr_z q9.2 (by decide)) (fun q9 => nr_z q9.2 (by decide)) (fun q9 => nr_z q9.2 (by decide))]; exact c_63
    have c_106 : E72 (1 + d) 9 = .inl (kA 8, 6, .inr (.inr (.inr (.inr fe_1)))) := by rw [p_77 (1 + d) 9 (fun q9 => nr_z q9.2 (by decide)) (fun q9 => nr_z q9.2 (by decide)) (fun q9 => nr_z q9.2 (by decide))]; exact c_64
    have c_107 : E72 (1 + d) 10 = .inl (kA 8, 6, .inr (.inr (.inr (.inr fo_1)))) := by rw [p_77 (1 + d) 10 (fun q9 => nr_z q9.2 (by decide)) (fun q9 => nr_z q9.2 (by decide)) (fun q9 => nr_z q9.2 (by decide))]; exact c_65
    have c_108 : E72 (1 + d) 11 = .inl (kA 2, 5, .inl tr_1) := by rw [p_77 (1 + d) 11 (fun q9 => nr_z q9.2 (by decide)) (fun q9 => nr_z q9.2 (by decide)) (fun q9 => nr_z q9.2 (by decide))]; exact c_66
    have c_109 : E72 (1 + d) 12 = .inl (kA 2, 5, .inl op_1) := by rw [p_77 (1 + d) 12 (fun q9 => nr_z q9.2 (by decide)) (fun q9 => nr_z q9.2 (by decide)) (fun q9 => nr_z q9.2 (by decide))]; exact c_67
    have hP : va_P D xcl (rp ad71 E72 RL73) H := hP
    have hD : va_D A (rp ad71 E72 RL73) := hD
    refine px_aast (i := k0_1) (r := (xR_Gr, xT_Gr, 2)) hx hb hK.1 hP hD hS m_92 c_106 8 rfl m_96 p_74 rfl (by omega) (by decide) xd_Ds_addPackage_28 (fun H locs hP hD hS => ?_)
    have hP : va_P D xcl (rp ad71 (up2 E72 (1 + d) 9 (.inl (kA 8, 6, .inr (.inr (.inr (.inr (va_up fe_1 k0_1 (some (ad71 (1 + d) (20 + 3 * k0_1)))))))))) RL73) H := hP
    have hD : va_D A (rp ad71 (up2 E72 (1 + d) 9 (.inl (kA 8, 6, .inr (.inr (.inr (.inr (va_up fe_1 k0_1 (some (ad71 (1 + d) (20 + 3 * k0_1)))))))))) RL73) := hD
    generalize hE111 : up2 E72 (1 + d) 9 (.inl (kA 8, 6, .inr (.inr (.inr (.inr (va_up fe_1 k0_1 (some (ad71 (1 + d) (20 + 3 * k0_1))))))))) = E110 at hP hD
    have fE112 : ∀ b2 o2, ¬ (b2 = 1 + d ∧ o2 = 9) → E110 b2 o2 = E72 b2 o2 := fun b2 o2 h9 => by rw [← hE111]; exact up2_ne (nr_or h9)
    have c_113 : E110 (1 + d) 9 = .inl (kA 8, 6, .inr (.inr (.inr (.inr (va_up fe_1 k0_1 (some (ad71 (1 + d) (20 + 3 * k0_1)))))))) := by rw [← hE111]; exact up2_eq
    have c_114 : E110 (1 + d) (20 + 3 * k0_1) = .inr (9, [.ref (ad71 (1 + d) (21 + 3 * k0_1)), .int 0]) := (fE112 (1 + d) (20 + 3 * k0_1) (fun q9 => nr_y q9.2 (by decide))).trans p_74
    have c_115 : E110 (1 + d) (21 + 3 * k0_1) = .inr (8, [.ref (ad71 (1 + d) (22 + 3 * k0_1)), .int 0]) := (fE112 (1 + d) (21 + 3 * k0_1) (fun q9 => nr_y q9.2 (by decide))).trans p_75
    have c_116 : E110 (1 + d) (22 + 3 * k0_1) = .inl (kA 0, 3, .inl (fun _ => 0)) := (fE112 (1 + d) (22 + 3 * k0_1) (fun q9 => nr_y q9.2 (by decide))).trans p_76
    have c_117 : E110 (1 + d) 0 = .inr (7, [.int (nI d), .int fd_1, .int nm_1, .ref (ad71 (1 + d) 1), .ref (ad71 (1 + d) 9), .ref (ad71 (1 + d) 10), .ref (ad71 (1 + d) 2), .ref (ad71 (1 + d) 11), .ref (ad71 (1 + d) 12), .ref (ad71 (1 + d) 3), .ref (ad71 (1 + d) 4), .int sd_1]) := (fE112 (1 + d) 0 (fun q9 => absurd q9.2 (by decide))).trans c_97
    have c_118 : E110 (1 + d) 1 = .inr (8, [.ref (ad71 (1 + d) 5), .int (nI k0_1)]) := (fE112 (1 + d) 1 (fun q9 => absurd q9.2 (by decide))).trans c_98
    have c_119 : E110 (1 + d) 2 = .inr (8, [.ref (ad71 (1 + d) 6), .int (nI k1_1)]) := (fE112 (1 + d) 2 (fun q9 => absurd q9.2 (by decide))).trans c_99
    have c_120 : E110 (1 + d) 3 = .inr (8, [.ref (ad71 (1 + d) 7), .int (nI k2_1)]) := (fE112 (1 + d) 3 (fun q9 => absurd q9.2 (by decide))).trans c_100
    have c_121 : E110 (1 + d) 4 = .inr (8, [.ref (ad71 (1 + d) 8), .int (nI k3_1)]) := (fE112 (1 + d) 4 (fun q9 => absurd q9.2 (by decide))).trans c_101
    have c_122 : E110 (1 + d) 5 = .inl (kA 0, 6, .inl f0_1) := (fE112 (1 + d) 5 (fun q9 => absurd q9.2 (by decide))).trans c_102
    have c_123 : E110 (1 + d) 6 = .inl (kA 0, 5, .inl f1_1) := (fE112 (1 + d) 6 (fun q9 => absurd q9.2 (by decide))).trans c_103
    have c_124 : E110 (1 + d) 7 = .inl (kA 0, 3, .inl f2_1) := (fE112 (1 + d) 7 (fun q9 => absurd q9.2 (by decide))).trans c_104
    have c_125 : E110 (1 + d) 8 = .inl (kA 0, 3, .inl f3_1) := (fE112 (1 + d) 8 (fun q9 => absurd q9.2 (by decide))).trans c_105
    have c_126 : E110 (1 + d) 10 = .inl (kA 8, 6, .inr (.inr (.inr (.inr fo_1)))) := (fE112 (1 + d) 10 (fun q9 => absurd q9.2 (by decide))).trans c_107
    have c_127 : E110 (1 + d) 11 = .inl (kA 2, 5, .inl tr_1) := (fE112 (1 + d) 11 (fun q9 => absurd q9.2 (by decide))).trans c_108
    have c_128 : E110 (1 + d) 12 = .inl (kA 2, 5, .inl op_1) := (fE112 (1 + d) 12 (fun q9 => absurd q9.2 (by decide))).trans c_109
    refine lv_aload_n hx hb xd_Ds_addPackage_29 rfl (lv_at hl 0 rfl) ?_
    refine px_get (D := D) (ci := 7) (v := .ref (ad71 (1 + d) 10)) (C := xR_Ds) (T := xT_Ds) (N := 12) hx hb hT xi_Ds hown hK.1 hP m_83 c_117 rfl 5 (by decide) (hT _ k5d_20) (fun _ h9 => h9) rfl xd_Ds_addPackage_30 ?_
    refine lv_aload_n hx hb xd_Ds_addPackage_33 rfl (lv_at hl 0 rfl) ?_
    refine px_get (D := D) (ci := 7) (v := .ref (ad71 (1 + d) 1)) (C := xR_Ds) (T := xT_Ds) (N := 12) hx hb hT xi_Ds hown hK.1 hP m_83 c_117 rfl 3 (by decide) (hT _ k5d_13) (fun _ h9 => h9) rfl xd_Ds_addPackage_34 ?_
    refine px_get (D := D) (ci := 8) (v := .int (nI k0_1)) (C := xR_Na) (T := xT_Na) (N := 2) hx hb hT xi_Na hown hK.1 hP m_84 c_118 rfl 1 (by decide) (hT _ k5d_7) (fun _ h9 => h9) rfl xd_Ds_addPackage_37 ?_
    refine px_new (ci := 9) (fs := [.null, .int 0]) (C := xR_Gr) (T := xT_Gr) (N := 2) (1 + d) (38 + 3 * k0_1) hx hb hT xi_Gr xt_Gr xt_Gr_ok hown (hT _ k5d_15) (hT _ k5d_16) (hT _ k5d_17) hK.1 hP hD hS hA rfl (by decide +kernel) (Nat.le_of_ble_eq_true rfl) (Nat.le_of_ble_eq_true rfl) xd_Ds_addPackage_40 (fun ad129 E130 RL131 H hA1 hE1 hs1 hm1 hP hD hS => ?_)
    have fE132 : ∀ b2 o2, ¬ (b2 = 1 + d ∧ o2 = 38 + 3 * k0_1) → E130 b2 o2 = E110 b2 o2 := fun b2 o2 h9 => by rw [hE1]; exact up2_ne (nr_or h9)
    have fA133 : ∀ b2 o2, ¬ (b2 = 1 + d ∧ o2 = 38 + 3 * k0_1) → ad129 b2 o2 = ad71 b2 o2 := fun b2 o2 h9 => by rw [hA1]; exact up2_ne (nr_or h9)
    have hs134 := hs1
    refine W.eq (g2 := F0 m _ ls [.ref (ad129 (1 + d) (38 + 3 * k0_1)), .int (nI k0_1), .ref (ad129 (1 + d) 10)]) (by rw [fA133 (1 + d) 10 (fun q9 => nr_z q9.2 (by decide))]) ?_
    have c_135 : E130 (1 + d) (38 + 3 * k0_1) = .inr (9, [.null, .int 0]) := by rw [hE1]; exact up2_eq
    have hl : lv_has ls 2 [(0, .ref (ad129 (1 + d) 0)), (1, .int nm)] := by
      rw [fA133 (1 + d) 0 (fun q9 => nr_z q9.2 (by decide))]; exact hl
    have m_137 : (1 + d, 0) ∈ RL131 := hs134 _ m_83
    have m_138 : (1 + d, 1) ∈ RL131 := hs134 _ m_84
    have m_139 : (1 + d, 2) ∈ RL131 := hs134 _ m_85
    have m_140 : (1 + d, 3) ∈ RL131 := hs134 _ m_86
    have m_141 : (1 + d, 4) ∈ RL131 := hs134 _ m_87
    have m_142 : (1 + d, 5) ∈ RL131 := hs134 _ m_88
    have m_143 : (1 + d, 6) ∈ RL131 := hs134 _ m_89
    have m_144 : (1 + d, 7) ∈ RL131 := hs134 _ m_90
    have m_145 : (1 + d, 8) ∈ RL131 := hs134 _ m_91
    have m_146 : (1 + d, 9) ∈ RL131 := hs134 _ m_92
    have m_147 : (1 + d, 10) ∈ RL131 := hs134 _ m_93
    have m_148 : (1 + d, 11) ∈ RL131 := hs134 _ m_94
    have m_149 : (1 + d, 12) ∈ RL131 := hs134 _ m_95
    have m_150 : (1 + d, 20 + 3 * k0_1) ∈ RL131 := hs134 _ m_96
    have m_151 : (1 + d, 21 + 3 * k0_1) ∈ RL131 := hs134 _ p_80
    have m_152 : (1 + d, 22 + 3 * k0_1) ∈ RL131 := hs134 _ p_81
    have c_153 : E130 (1 + d) 9 = .inl (kA 8, 6, .inr (.inr (.inr (.inr (va_up fe_1 k0_1 (some (ad71 (1 + d) (20 + 3 * k0_1)))))))) := by rw [fE132 (1 + d) 9 (fun q9 => nr_z q9.2 (by decide))]; exact c_113
    have c_154 : E130 (1 + d) (20 + 3 * k0_1) = .inr (9, [.ref (ad129 (1 + d) (21 + 3 * k0_1)), .int 0]) := by rw [fE132 (1 + d) (20 + 3 * k0_1) (fun q9 => nr_k q9.2 (by decide)), fA133 (1 + d) (21 + 3 * k0_1) (fun q9 => nr_k q9.2 (by decide))]; exact c_114
    have c_155 : E130 (1 + d) (21 + 3 * k0_1) = .inr (8, [.ref (ad129 (1 + d) (22 + 3 * k0_1)), .int 0]) := by rw [fE132 (1 + d) (21 + 3 * k0_1) (fun q9 => nr_k q9.2 (by decide)), fA133 (1 + d) (22 + 3 * k0_1) (fun q9 => nr_k q9.2 (by decide))]; exact c_115
    have c_156 : E130 (1 + d) (22 + 3 * k0_1) = .inl (kA 0, 3, .inl (fun _ => 0)) := by rw [fE132 (1 + d) (22 + 3 * k0_1) (fun q9 => nr_k q9.2 (by decide))]; exact c_116
    have c_157 : E130 (1 + d) 0 = .inr (7, [.int (nI d), .int fd_1, .int nm_1, .ref (ad129 (1 + d) 1), .ref (ad129 (1 + d) 9), .ref (ad129 (1 + d) 10), .ref (ad129 (1 + d) 2), .ref (ad129 (1 + d) 11), .ref (ad129 (1 + d) 12), .ref (ad129 (1 + d) 3), .ref (ad129 (1 + d) 4), .int sd_1]) := by rw [fE132 (1 + d) 0 (fun q9 => nr_z q9.2 (by decide)), fA133 (1 + d) 1 (fun q9 => nr_z q9.2 (by decide)), fA133 (1 + d) 9 (fun q9 => nr_z q9.2 (by decide)), fA133 (1 + d) 10 (fun q9 => nr_z q9.2 (by decide)), fA133 (1 + d) 2 (fun q9 => nr_z q9.2 (by decide)), fA133 (1 + d) 11 (fun q9 => nr_z q9.2 (by decide)), fA133 (1 + d) 12 (fun q9 => nr_z q9.2 (by decide)), fA133 (1 + d) 3 (fun q9 => nr_z q9.2 (by decide)), fA133 (1 + d) 4 (fun q9 => nr_z q9.2 (by decide))]; exact c_117
    have c_158 : E130 (1 + d) 1 = .inr (8, [.ref (ad129 (1 + d) 5), .int (nI k0_1)]) := by rw [fE132 (1 + d) 1 (fun q9 => nr_z q9.2 (by decide)), fA133 (1 + d) 5 (fun q9 => nr_z q9.2 (by decide))]; exact c_118
    have c_159 : E130 (1 + d) 2 = .inr (8, [.ref (ad129 (1 + d) 6), .int (nI k1_1)]) := by rw [fE132 (1 + d) 2 (fun q9 => nr_z q9.2 (by decide)), fA133 (1 + d) 6 (fun q9 => nr_z q9.2 (by decide))]; exact c_119
    have c_160 : E130 (1 + d) 3 = .inr (8, [.ref (ad129 (1 + d) 7), .int (nI k2_1)]) := by rw [fE132 (1 + d) 3 (fun q9 => nr_z q9.2 (by decide)), fA133 (1 + d) 7 (fun q9 => nr_z q9.2 (by decide))]; exact c_120
    have c_161 : E130 (1 + d) 4 = .inr (8, [.ref (ad129 (1 + d) 8), .int (nI k3_1)]) := by rw [fE132 (1 + d) 4 (fun q9 => nr_z q9.2 (by decide)), fA133 (1 + d) 8 (fun q9 => nr_z q9.2 (by decide))]; exact c_121
    have c_162 : E130 (1 + d) 5 = .inl (kA 0, 6, .inl f0_1) := by rw [fE132 (1 + d) 5 (fun q9 => nr_z q9.2 (by decide))]; exact c_122
    have c_163 : E130 (1 + d) 6 = .inl (kA 0, 5, .inl f1_1) := by rw [fE132 (1 + d) 6 (fun q9 => nr_z q9.2 (by decide))]; exact c_123
    have c_164 : E130 (1 + d) 7 = .inl (kA 0, 3, .inl f2_1) := by rw [fE132 (1 + d) 7 (fun q9 => nr_z q9.2 (by decide))]; exact c_124
    have c_165 : E130 (1 + d) 8 = .inl (kA 0, 3, .inl f3_1) := by rw [fE132 (1 + d) 8 (fun q9 => nr_z q9.2 (by decide))]; exact c_125
    have c_166 : E130 (1 + d) 10 = .inl (kA 8, 6, .inr (.inr (.inr (.inr fo_1)))) := by rw [fE132 (1 + d) 10 (fun q9 => nr_z q9.2 (by decide))]; exact c_126
    have c_167 : E130 (1 + d) 11 = .inl (kA 2, 5, .inl tr_1) := by rw [fE132 (1 + d) 11 (fun q9 => nr_z q9.2 (by decide))]; exact c_127
    have c_168 : E130 (1 + d) 12 = .inl (kA 2, 5, .inl op_1) := by rw [fE132 (1 + d) 12 (fun q9 => nr_z q9.2 (by decide))]; exact c_128
    have m_136 : (1 + d, 38 + 3 * k0_1) ∈ RL131 := hm1
    have hP : va_P D xcl (rp ad129 E130 RL131) H := hP
    have hD : va_D A (rp ad129 E130 RL131) := hD
    refine lv_dup hx hb xd_Ds_addPackage_43 rfl ?_
    have hFc := px_free hD hS hA
    refine va_callv (va_runIN (As := []) (rest := [.ref (ad129 (1 + d) (38 + 3 * k0_1)), .int (nI k0_1), .ref (ad129 (1 + d) 10)]) ⟨hx, hb, hml, hown, hT⟩ (xc_Gr_init l D kA H.size ad129 E130 RL131 (1 + d) (38 + 3 * k0_1) (39 + 3 * k0_1) (40 + 3 * k0_1) m_136 c_135 (by first | assumption | omega)) ⟨va_cnB 0 hT (wT_I k5d_18) rfl rfl rfl hK.2.1.2.2.1 (hT _ k5d_17) (by decide +kernel) ⟨Nat.le_of_ble_eq_true rfl, Nat.le_of_ble_eq_true rfl⟩, rfl, hT _ k5d_19⟩ (x_preS hK hP hD) rfl rfl hl.1 rfl (lv_room (Nat.le_of_ble_eq_true rfl)) xd_Ds_addPackage_44 ⟨(Nat.le_of_ble_eq_true rfl), (Nat.le_of_ble_eq_true rfl)⟩) hS (fun q _ h => hFc q h) hFc (fun u170 t H1 locs ht hvm hp171 hB hz1 hk1 hS => ?_)
    obtain ⟨hP1, hD1⟩ := hB
    rw [ht] at hP1
    have hD1 := hD1.weaken (fun _ _ _ h => hFc _ h)
    generalize H1 = H at hP1 hS ⊢
    have hP := hP1
    have hD := hD1
    obtain ⟨ad172, E173, RL174⟩ := u170
    obtain ⟨hp183, p_175, p_176, p_177, p_178, p_179, p_180, p_181, p_182⟩ := hp171
    have p_175 : E173 (1 + d) (38 + 3 * k0_1) = .inr (9, [.ref (ad172 (1 + d) (39 + 3 * k0_1)), .int 0]) := p_175
    have p_176 : E173 (1 + d) (39 + 3 * k0_1) = .inr (8, [.ref (ad172 (1 + d) (40 + 3 * k0_1)), .int 0]) := p_176
    have p_177 : E173 (1 + d) (40 + 3 * k0_1) = .inl (kA 0, 3, .inl (fun _ => 0)) := p_177
    have p_178 : (∀ b2 o2, ¬ (b2 = (1 + d) ∧ o2 = (38 + 3 * k0_1)) → ¬ (b2 = (1 + d) ∧ o2 = (39 + 3 * k0_1)) → ¬ (b2 = (1 + d) ∧ o2 = (40 + 3 * k0_1)) → E173 b2 o2 = E130 b2 o2) := p_178
    have p_179 : (∀ b2 o2, ¬ (b2 = (1 + d) ∧ o2 = (39 + 3 * k0_1)) → ¬ (b2 = (1 + d) ∧ o2 = (40 + 3 * k0_1)) → ad172 b2 o2 = ad129 b2 o2) := p_179
    have p_180 : (∀ x ∈ RL131, x ∈ RL174) := p_180
    have p_181 : ((1 + d), (39 + 3 * k0_1)) ∈ RL174 := p_181
    have p_182 : ((1 + d), (40 + 3 * k0_1)) ∈ RL174 := p_182
    refine W.eq (g2 := F0 m 47 ls [.ref (ad172 (1 + d) (38 + 3 * k0_1)), .int (nI k0_1), .ref (ad172 (1 + d) 10)]) (by rw [p_179 (1 + d) (38 + 3 * k0_1) (fun q9 => nr_k q9.2 (by decide)) (fun q9 => nr_k q9.2 (by decide)), p_179 (1 + d) 10 (fun q9 => nr_z q9.2 (by decide)) (fun q9 => nr_z q9.2 (by decide))]) ?_
    have hl : lv_has ls 2 [(0, .ref (ad172 (1 + d) 0)), (1, .int nm)] := by
      rw [p_179 (1 + d) 0 (fun q9 => nr_z q9.2 (by decide)) (fun q9 => nr_z q9.2 (by decide))]; exact hl
    have m_184 : (1 + d, 0) ∈ RL174 := p_180 _ m_137
    have m_185 : (1 + d, 1) ∈ RL174 := p_180 _ m_138
    have m_186 : (1 + d, 2) ∈ RL174 := p_180 _ m_139
    have m_187 : (1 + d, 3) ∈ RL174 := p_180 _ m_140
    have m_188 : (1 + d, 4) ∈ RL174 := p_180 _ m_141
    have m_189 : (1 + d, 5) ∈ RL174 := p_180 _ m_142
    have m_190 : (1 + d, 6) ∈ RL174 := p_180 _ m_143
    have m_191 : (1 + d, 7) ∈ RL174 := p_180 _ m_144
    have m_192 : (1 + d, 8) ∈ RL174 := p_180 _ m_145
    have m_193 : (1 + d, 9) ∈ RL174 := p_180 _ m_146
    have m_194 : (1 + d, 10) ∈ RL174 := p_180 _ m_147
    have m_195 : (1 + d, 11) ∈ RL174 := p_180 _ m_148
    have m_196 : (1 + d, 12) ∈ RL174 := p_180 _ m_149
    have m_197 : (1 + d, 20 + 3 * k0_1) ∈ RL174 := p_180 _ m_150
    have m_198 : (1 + d, 21 + 3 * k0_1) ∈ RL174 := p_180 _ m_151
    have m_199 : (1 + d, 22 + 3 * k0_1) ∈ RL174 := p_180 _ m_152
    have m_200 : (1 + d, 38 + 3 * k0_1) ∈ RL174 := p_180 _ m_136
    have c_201 : E173 (1 + d) 9 = .inl (kA 8, 6, .inr (.inr (.inr (.inr (va_up fe_1 k0_1 (some (ad71 (1 + d) (20 + 3 * k0_1)))))))) := by rw [p_178 (1 + d) 9 (fun q9 => nr_z q9.2 (by decide)) (fun q9 => nr_z q9.2 (by decide)) (fun q9 => nr_z q9.2 (by decide))]; exact c_153
    have c_202 : E173 (1 + d) (20 + 3 * k0_1) = .inr (9, [.ref (ad172 (1 + d) (21 + 3 * k0_1)), .int 0]) := by rw [p_178 (1 + d) (20 + 3 * k0_1) (fun q9 => nr_k q9.2 (by decide)) (fun q9 => nr_k q9.2 (by decide)) (fun q9 => nr_k q9.2 (by decide)), p_179 (1 + d) (21 + 3 * k0_1) (fun q9 => nr_k q9.2 (by decide)) (fun q9 => nr_k q9.2 (by decide))]; exact c_154
    have c_203 : E173 (1 + d) (21 + 3 * k0_1) = .inr (8, [.ref (ad172 (1 + d) (22 + 3 * k0_1)), .int 0]) := by rw [p_178 (1 + d) (21 + 3 * k0_1) (fun q9 => nr_k q9.2 (by decide)) (fun q9 => nr_k q9.2 (by decide)) (fun q9 => nr_k q9.2 (by decide)), p_179 (1 + d) (22 + 3 * k0_1) (fun q9 => nr_k q9.2 (by decide)) (fun q9 => nr_k q9.2 (by decide))]; exact c_155
    have c_204 : E173 (1 + d) (22 + 3 * k0_1) = .inl (kA 0, 3, .inl (fun _ => 0)) := by rw [p_178 (1 + d) (22 + 3 * k0_1) (fun q9 => nr_k q9.2 (by decide)) (fun q9 => nr_k q9.2 (by decide)) (fun q9 => nr_k q9.2 (by decide))]; exact c_156
    have c_205 : E173 (1 + d) 0 = .inr (7, [.int (nI d), .int fd_1, .int nm_1, .ref (ad172 (1 + d) 1), .ref (ad172 (1 + d) 9), .ref (ad172 (1 + d) 10), .ref (ad172 (1 + d) 2), .ref (ad172 (1 + d) 11), .ref (ad172 (1 + d) 12), .ref (ad172 (1 + d) 3), .ref (ad172 (1 + d) 4), .int sd_1]) := by rw [p_178 (1 + d) 0 (fun q9 => nr_z q9.2 (by decide)) (fun q9 => nr_z q9.2 (by decide)) (fun q9 => nr_z q9.2 (by decide)), p_179 (1 + d) 1 (fun q9 => nr_z q9.2 (by decide)) (fun q9 => nr_z q9.2 (by decide)), p_179 (1 + d) 9 (fun q9 => nr_z q9.2 (by decide)) (fun q9 => nr_z q9.2 (by decide)), p_179 (1 + d) 10 (fun q9 => nr_z q9.2 (by decide)) (fun q9 => nr_z q9.2 (by decide)), p_179 (1 + d) 2 (fun q9 => nr_z q9.2 (by decide)) (fun q9 => nr_z q9.2 (by decide)), p_179 (1 + d) 11 (fun q9 => nr_z q9.2 (by decide)) (fun q9 => nr_z q9.2 (by decide)), p_179 (1 + d) 12 (fun q9 => nr_z q9.2 (by decide)) (fun q9 => nr_z q9.2 (by decide)), p_179 (1 + d) 3 (fun q9 => nr_z q9.2 (by decide)) (fun q9 => nr_z q9.2 (by decide)), p_179 (1 + d) 4 (fun q9 => nr_z q9.2 (by decide)) (fun q9 => nr_z q9.2 (by decide))]; exact c_157
    have c_206 : E173 (1 + d) 1 = .inr (8, [.ref (ad172 (1 + d) 5), .int (nI k0_1)]) := by rw [p_178 (1 + d) 1 (fun q9 => nr_z q9.2 (by decide)) (fun q9 => nr_z q9.2 (by decide)) (fun q9 => nr_z q9.2 (by decide)), p_179 (1 + d) 5 (fun q9 => nr_z q9.2 (by decide)) (fun q9 => nr_z q9.2 (by decide))]; exact c_158
    have c_207 : E173 (1 + d) 2 = .inr (8, [.ref (ad172 (1 + d) 6), .int (nI k1_1)]) := by rw [p_178 (1 + d) 2 (fun q9 => nr_z q9.2 (by decide)) (fun q9 => nr_z q9.2 (by decide)) (fun q9 => nr_z q9.2 (by decide)), p_179 (1 + d) 6 (fun q9 => nr_z q9.2 (by decide)) (fun q9 => nr_z q9.2 (by decide))]; exact c_159
    have c_208 : E173 (1 + d) 3 = .inr (8, [.ref (ad172 (1 + d) 7), .int (nI k2_1)]) := by rw [p_178 (1 + d) 3 (fun q9 => nr_z q9.2 (by decide)) (fun q9 => nr_z q9.2 (by decide)) (fun q9 => nr_z q9.2 (by decide)), p_179 (1 + d) 7 (fun q9 => nr_z q9.2 (by decide)) (fun q9 => nr_z q9.2 (by decide))]; exact c_160
    have c_209 : E173 (1 + d) 4 = .inr (8, [.ref (ad172 (1 + d) 8), .int (nI k3_1)]) := by rw [p_178 (1 + d) 4 (fun q9 => nr_z q9.2 (by decide)) (fun q9 => nr_z q9.2 (by decide)) (fun q9 => nr_z q9.2 (by decide)), p_179 (1 + d) 8 (fun q9 => nr_z q9.2 (by decide)) (fun q9 => nr_z q9.2 (by decide))]; exact c_161
    have c_210 : E173 (1 + d) 5 = .inl (kA 0, 6, .inl f0_1) := by rw [p_178 (1 + d) 5 (fun q9 => nr_z q9.2 (by decide)) (fun q9 => nr_z q9.2 (by decide)) (fun q9 => nr_z q9.2 (by decide))]; exact c_162
    have c_211 : E173 (1 + d) 6 = .inl (kA 0, 5, .inl f1_1) := by rw [p_178 (1 + d) 6 (fun q9 => nr_z q9.2 (by decide)) (fun q9 => nr_z q9.2 (by decide)) (fun q9 => nr_z q9.2 (by decide))]; exact c_163
    have c_212 : E173 (1 + d) 7 = .inl (kA 0, 3, .inl f2_1) := by rw [p_178 (1 + d) 7 (fun q9 => nr_z q9.2 (by decide)) (fun q9 => nr_z q9.2 (by decide)) (fun q9 => nr_z q9.2 (by decide))]; exact c_164
    have c_213 : E173 (1 + d) 8 = .inl (kA 0, 3, .inl f3_1) := by rw [p_178 (1 + d) 8 (fun q9 => nr_z q9.2 (by decide)) (fun q9 => nr_z q9.2 (by decide)) (fun q9 => nr_z q9.2 (by decide))]; exact c_165
    have c_214 : E173 (1 + d) 10 = .inl (kA 8, 6, .inr (.inr (.inr (.inr fo_1)))) := by rw [p_178 (1 + d) 10 (fun q9 => nr_z q9.2 (by decide)) (fun q9 => nr_z q9.2 (by decide)) (fun q9 => nr_z q9.2 (by decide))]; exact c_166
    have c_215 : E173 (1 + d) 11 = .inl (kA 2, 5, .inl tr_1) := by rw [p_178 (1 + d) 11 (fun q9 => nr_z q9.2 (by decide)) (fun q9 => nr_z q9.2 (by decide)) (fun q9 => nr_z q9.2 (by decide))]; exact c_167
    have c_216 : E173 (1 + d) 12 = .inl (kA 2, 5, .inl op_1) := by rw [p_178 (1 + d) 12 (fun q9 => nr_z q9.2 (by decide)) (fun q9 => nr_z q9.2 (by decide)) (fun q9 => nr_z q9.2 (by decide))]; exact c_168
    have hP : va_P D xcl (rp ad172 E173 RL174) H := hP
    have hD : va_D A (rp ad172 E173 RL174) := hD
    refine px_aast (i := k0_1) (r := (xR_Gr, xT_Gr, 2)) hx hb hK.1 hP hD hS m_194 c_214 8 rfl m_200 p_175 rfl (by omega) (by decide) xd_Ds_addPackage_47 (fun H locs hP hD hS => ?_)
    have hP : va_P D xcl (rp ad172 (up2 E173 (1 + d) 10 (.inl (kA 8, 6, .inr (.inr (.inr (.inr (va_up fo_1 k0_1 (some (ad172 (1 + d) (38 + 3 * k0_1)))))))))) RL174) H := hP
    have hD : va_D A (rp ad172 (up2 E173 (1 + d) 10 (.inl (kA 8, 6, .inr (.inr (.inr (.inr (va_up fo_1 k0_1 (some (ad172 (1 + d) (38 + 3 * k0_1)))))))))) RL174) := hD
    generalize hE218 : up2 E173 (1 + d) 10 (.inl (kA 8, 6, .inr (.inr (.inr (.inr (va_up fo_1 k0_1 (some (ad172 (1 + d) (38 + 3 * k0_1))))))))) = E217 at hP hD
    have fE219 : ∀ b2 o2, ¬ (b2 = 1 + d ∧ o2 = 10) → E217 b2 o2 = E173 b2 o2 := fun b2 o2 h9 => by rw [← hE218]; exact up2_ne (nr_or h9)
    have c_220 : E217 (1 + d) 10 = .inl (kA 8, 6, .inr (.inr (.inr (.inr (va_up fo_1 k0_1 (some (ad172 (1 + d) (38 + 3 * k0_1)))))))) := by rw [← hE218]; exact up2_eq
    have c_221 : E217 (1 + d) (38 + 3 * k0_1) = .inr (9, [.ref (ad172 (1 + d) (39 + 3 * k0_1)), .int 0]) := (fE219 (1 + d) (38 + 3 * k0_1) (fun q9 => nr_y q9.2 (by decide))).trans p_175
    have c_222 : E217 (1 + d) (39 + 3 * k0_1) = .inr (8, [.ref (ad172 (1 + d) (40 + 3 * k0_1)), .int 0]) := (fE219 (1 + d) (39 + 3 * k0_1) (fun q9 => nr_y q9.2 (by decide))).trans p_176
    have c_223 : E217 (1 + d) (40 + 3 * k0_1) = .inl (kA 0, 3, .inl (fun _ => 0)) := (fE219 (1 + d) (40 + 3 * k0_1) (fun q9 => nr_y q9.2 (by decide))).trans p_177
    have c_224 : E217 (1 + d) 9 = .inl (kA 8, 6, .inr (.inr (.inr (.inr (va_up fe_1 k0_1 (some (ad71 (1 + d) (20 + 3 * k0_1)))))))) := (fE219 (1 + d) 9 (fun q9 => absurd q9.2 (by decide))).trans c_201
    have c_225 : E217 (1 + d) (20 + 3 * k0_1) = .inr (9, [.ref (ad172 (1 + d) (21 + 3 * k0_1)), .int 0]) := (fE219 (1 + d) (20 + 3 * k0_1) (fun q9 => nr_y q9.2 (by decide))).trans c_202
    have c_226 : E217 (1 + d) (21 + 3 * k0_1) = .inr (8, [.ref (ad172 (1 + d) (22 + 3 * k0_1)), .int 0]) := (fE219 (1 + d) (21 + 3 * k0_1) (fun q9 => nr_y q9.2 (by decide))).trans c_203
    have c_227 : E217 (1 + d) (22 + 3 * k0_1) = .inl (kA 0, 3, .inl (fun _ => 0)) := (fE219 (1 + d) (22 + 3 * k0_1) (fun q9 => nr_y q9.2 (by decide))).trans c_204
    have c_228 : E217 (1 + d) 0 = .inr (7, [.int (nI d), .int fd_1, .int nm_1, .ref (ad172 (1 + d) 1), .ref (ad172 (1 + d) 9), .ref (ad172 (1 + d) 10), .ref (ad172 (1 + d) 2), .ref (ad172 (1 + d) 11), .ref (ad172 (1 + d) 12), .ref (ad172 (1 + d) 3), .ref (ad172 (1 + d) 4), .int sd_1]) := (fE219 (1 + d) 0 (fun q9 => absurd q9.2 (by decide))).trans c_205
    have c_229 : E217 (1 + d) 1 = .inr (8, [.ref (ad172 (1 + d) 5), .int (nI k0_1)]) := (fE219 (1 + d) 1 (fun q9 => absurd q9.2 (by decide))).trans c_206
    have c_230 : E217 (1 + d) 2 = .inr (8, [.ref (ad172 (1 + d) 6), .int (nI k1_1)]) := (fE219 (1 + d) 2 (fun q9 => absurd q9.2 (by decide))).trans c_207
    have c_231 : E217 (1 + d) 3 = .inr (8, [.ref (ad172 (1 + d) 7), .int (nI k2_1)]) := (fE219 (1 + d) 3 (fun q9 => absurd q9.2 (by decide))).trans c_208
    have c_232 : E217 (1 + d) 4 = .inr (8, [.ref (ad172 (1 + d) 8), .int (nI k3_1)]) := (fE219 (1 + d) 4 (fun q9 => absurd q9.2 (by decide))).trans c_209
    have c_233 : E217 (1 + d) 5 = .inl (kA 0, 6, .inl f0_1) := (fE219 (1 + d) 5 (fun q9 => absurd q9.2 (by decide))).trans c_210
    have c_234 : E217 (1 + d) 6 = .inl (kA 0, 5, .inl f1_1) := (fE219 (1 + d) 6 (fun q9 => absurd q9.2 (by decide))).trans c_211
    have c_235 : E217 (1 + d) 7 = .inl (kA 0, 3, .inl f2_1) := (fE219 (1 + d) 7 (fun q9 => absurd q9.2 (by decide))).trans c_212
    have c_236 : E217 (1 + d) 8 = .inl (kA 0, 3, .inl f3_1) := (fE219 (1 + d) 8 (fun q9 => absurd q9.2 (by decide))).trans c_213
    have c_237 : E217 (1 + d) 11 = .inl (kA 2, 5, .inl tr_1) := (fE219 (1 + d) 11 (fun q9 => absurd q9.2 (by decide))).trans c_215
    have c_238 : E217 (1 + d) 12 = .inl (kA 2, 5, .inl op_1) := (fE219 (1 + d) 12 (fun q9 => absurd q9.2 (by decide))).trans c_216
    refine lv_aload_n hx hb xd_Ds_addPackage_48 rfl (lv_at hl 0 rfl) ?_
    refine px_get (D := D) (ci := 7) (v := .ref (ad172 (1 + d) 1)) (C := xR_Ds) (T := xT_Ds) (N := 12) hx hb hT xi_Ds hown hK.1 hP m_184 c_228 rfl 3 (by decide) (hT _ k5d_13) (fun _ h9 => h9) rfl xd_Ds_addPackage_49 ?_
    refine lv_iload_n hx hb xd_Ds_addPackage_52 rfl (lv_at hl 1 rfl) ?_
    have hFc := px_free hD hS hA
    refine va_callv (va_runV (As := [.int nm]) (rest := []) ⟨hx, hb, hml, hown, hT⟩ (xc_Na_append l D kA H.size ad172 E217 RL174 (1 + d) 1 5 6 k0_1 f0_1 nm m_185 c_229 m_189 c_233 (by first | assumption | omega) (by first | assumption | omega) (by first | assumption | omega)) (cwV 1 hT (wT_V k5d_10 k5d_11 k5d_12 k5d_5 k5d_9) rfl rfl rfl (by decide +kernel) ⟨Nat.le_of_ble_eq_true rfl, Nat.le_of_ble_eq_true rfl⟩) (px_preV hK hP hD m_185 c_229 rfl) rfl rfl hl.1 rfl (lv_room (Nat.le_of_ble_eq_true rfl)) xd_Ds_addPackage_53 ⟨(Nat.le_of_ble_eq_true rfl), (Nat.le_of_ble_eq_true rfl)⟩) hS (fun q _ h => hFc q h) hFc (fun u240 t H1 locs ht hvm hp241 hB hz1 hk1 hS => ?_)
    obtain ⟨hP1, hD1⟩ := hB
    rw [ht] at hP1
    have hD1 := hD1.weaken (fun _ _ _ h => hFc _ h)
    generalize H1 = H at hP1 hS ⊢
    have hP := hP1
    have hD := hD1
    obtain ⟨E242, rfl⟩ : ∃ z, z = u240 := ⟨_, rfl⟩
    obtain ⟨w243, w244, hp248, p_245, p_246, p_247⟩ := hp241
    have p_245 : E242 (1 + d) 1 = .inr (8, [.ref (ad172 (1 + d) 5), .int (nI w243)]) := p_245
    have p_246 : E242 (1 + d) 5 = .inl (kA 0, 6, .inl w244) := p_246
    have p_247 : (∀ b2 o2, ¬ (b2 = (1 + d) ∧ o2 = 1) → ¬ (b2 = (1 + d) ∧ o2 = 5) → E242 b2 o2 = E217 b2 o2) := p_247
    have c_249 : E242 (1 + d) 10 = .inl (kA 8, 6, .inr (.inr (.inr (.inr (va_up fo_1 k0_1 (some (ad172 (1 + d) (38 + 3 * k0_1)))))))) := (p_247 (1 + d) 10 (fun q9 => absurd q9.2 (by decide)) (fun q9 => absurd q9.2 (by decide))).trans c_220
    have c_250 : E242 (1 + d) (38 + 3 * k0_1) = .inr (9, [.ref (ad172 (1 + d) (39 + 3 * k0_1)), .int 0]) := (p_247 (1 + d) (38 + 3 * k0_1) (fun q9 => nr_y q9.2 (by decide)) (fun q9 => nr_y q9.2 (by decide))).trans c_221
    have c_251 : E242 (1 + d) (39 + 3 * k0_1) = .inr (8, [.ref (ad172 (1 + d) (40 + 3 * k0_1)), .int 0]) := (p_247 (1 + d) (39 + 3 * k0_1) (fun q9 => nr_y q9.2 (by decide)) (fun q9 => nr_y q9.2 (by decide))).trans c_222
    have c_252 : E242 (1 + d) (40 + 3 * k0_1) = .inl (kA 0, 3, .inl (fun _ => 0)) := (p_247 (1 + d) (40 + 3 * k0_1) (fun q9 => nr_y q9.2 (by decide)) (fun q9 => nr_y q9.2 (by decide))).trans c_223
    have c_253 : E242 (1 + d) 9 = .inl (kA 8, 6, .inr (.inr (.inr (.inr (va_up fe_1 k0_1 (some (ad71 (1 + d) (20 + 3 * k0_1)))))))) := (p_247 (1 + d) 9 (fun q9 => absurd q9.2 (by decide)) (fun q9 => absurd q9.2 (by decide))).trans c_224
    have c_254 : E242 (1 + d) (20 + 3 * k0_1) = .inr (9, [.ref (ad172 (1 + d) (21 + 3 * k0_1)), .int 0]) := (p_247 (1 + d) (20 + 3 * k0_1) (fun q9 => nr_y q9.2 (by decide)) (fun q9 => nr_y q9.2 (by decide))).trans c_225
    have c_255 : E242 (1 + d) (21 + 3 * k0_1) = .inr (8, [.ref (ad172 (1 + d) (22 + 3 * k0_1)), .int 0]) := (p_247 (1 + d) (21 + 3 * k0_1) (fun q9 => nr_y q9.2 (by decide)) (fun q9 => nr_y q9.2 (by decide))).trans c_226
    have c_256 : E242 (1 + d) (22 + 3 * k0_1) = .inl (kA 0, 3, .inl (fun _ => 0)) := (p_247 (1 + d) (22 + 3 * k0_1) (fun q9 => nr_y q9.2 (by decide)) (fun q9 => nr_y q9.2 (by decide))).trans c_227
    have c_257 : E242 (1 + d) 0 = .inr (7, [.int (nI d), .int fd_1, .int nm_1, .ref (ad172 (1 + d) 1), .ref (ad172 (1 + d) 9), .ref (ad172 (1 + d) 10), .ref (ad172 (1 + d) 2), .ref (ad172 (1 + d) 11), .ref (ad172 (1 + d) 12), .ref (ad172 (1 + d) 3), .ref (ad172 (1 + d) 4), .int sd_1]) := (p_247 (1 + d) 0 (fun q9 => absurd q9.2 (by decide)) (fun q9 => absurd q9.2 (by decide))).trans c_228
    have c_258 : E242 (1 + d) 2 = .inr (8, [.ref (ad172 (1 + d) 6), .int (nI k1_1)]) := (p_247 (1 + d) 2 (fun q9 => absurd q9.2 (by decide)) (fun q9 => absurd q9.2 (by decide))).trans c_230
    have c_259 : E242 (1 + d) 3 = .inr (8, [.ref (ad172 (1 + d) 7), .int (nI k2_1)]) := (p_247 (1 + d) 3 (fun q9 => absurd q9.2 (by decide)) (fun q9 => absurd q9.2 (by decide))).trans c_231
    have c_260 : E242 (1 + d) 4 = .inr (8, [.ref (ad172 (1 + d) 8), .int (nI k3_1)]) := (p_247 (1 + d) 4 (fun q9 => absurd q9.2 (by decide)) (fun q9 => absurd q9.2 (by decide))).trans c_232
    have c_261 : E242 (1 + d) 6 = .inl (kA 0, 5, .inl f1_1) := (p_247 (1 + d) 6 (fun q9 => absurd q9.2 (by decide)) (fun q9 => absurd q9.2 (by decide))).trans c_234
    have c_262 : E242 (1 + d) 7 = .inl (kA 0, 3, .inl f2_1) := (p_247 (1 + d) 7 (fun q9 => absurd q9.2 (by decide)) (fun q9 => absurd q9.2 (by decide))).trans c_235
    have c_263 : E242 (1 + d) 8 = .inl (kA 0, 3, .inl f3_1) := (p_247 (1 + d) 8 (fun q9 => absurd q9.2 (by decide)) (fun q9 => absurd q9.2 (by decide))).trans c_236
    have c_264 : E242 (1 + d) 11 = .inl (kA 2, 5, .inl tr_1) := (p_247 (1 + d) 11 (fun q9 => absurd q9.2 (by decide)) (fun q9 => absurd q9.2 (by decide))).trans c_237
    have c_265 : E242 (1 + d) 12 = .inl (kA 2, 5, .inl op_1) := (p_247 (1 + d) 12 (fun q9 => absurd q9.2 (by decide)) (fun q9 => absurd q9.2 (by decide))).trans c_238
    have hP : va_P D xcl (rp ad172 E242 RL174) H := hP
    have hD : va_D A (rp ad172 E242 RL174) := hD
    have hap : w243 = k0_1 + 1 ∧ w244 = upd f0_1 k0_1 nm := by
      rcases hp248.2 with ⟨_, q1, q2⟩ | ⟨q, _⟩
      · exact ⟨q1, q2⟩
      · omega
    obtain ⟨hap1, hap2⟩ := hap
    refine W.widen (k := 6) (n := 20) (Nat.le_of_ble_eq_true rfl) (Nat.le_of_ble_eq_true rfl) ?_
    exact W.vret hx hb hr (fun t ht hW => ⟨⟨(ad172, E242, RL174), rfl, ⟨⟨(show DI kA d (ad172 (1 + d)) (E242 (1 + d)) (fun o => (1 + d, o) ∈ RL174) from ⟨(fun o9 h9 => p_180 _ (hs134 _ (p_79 _ (hs39 _ (hm_1 o9 h9))))), fd_1, nm_1, sd_1, w243, k1_1, k2_1, k3_1, w244, f1_1, f2_1, f3_1, (va_up fe_1 k0_1 (some (ad71 (1 + d) (20 + 3 * k0_1)))), (va_up fo_1 k0_1 (some (ad172 (1 + d) (38 + 3 * k0_1)))), tr_1, op_1, (by omega), (by omega), (by omega), (by omega), c_257, p_245, c_258, c_259, c_260, p_246, c_261, c_262, c_263, c_253, c_249, c_264, c_265, (fun i9 hi9 => by
        by_cases h9 : i9 = k0_1
        · rw [h9]; exact ⟨vu_eq.trans (by rw [p_179 (1 + d) (20 + 3 * k0_1) (by omega) (by omega), fA133 (1 + d) (20 + 3 * k0_1) (by omega)]), vu_eq, ⟨m_197, m_198, m_199, 0, 0, (fun _ => 0), by omega, c_254, c_255, c_256⟩, ⟨m_200, p_181, p_182, 0, 0, (fun _ => 0), by omega, c_250, c_251, c_252⟩⟩
        · exact ⟨(by rw [vu_ne (by omega), p_179 (1 + d) (20 + 3 * i9) (by omega) (by omega), fA133 (1 + d) (20 + 3 * i9) (by omega), p_78 (1 + d) (20 + 3 * i9) (by omega) (by omega), fA38 (1 + d) (20 + 3 * i9) (by omega)]; exact (hg_1 i9 (by omega)).1), (by rw [vu_ne (by omega), p_179 (1 + d) (38 + 3 * i9) (by omega) (by omega), fA133 (1 + d) (38 + 3 * i9) (by omega), p_78 (1 + d) (38 + 3 * i9) (by omega) (by omega), fA38 (1 + d) (38 + 3 * i9) (by omega)]; exact (hg_1 i9 (by omega)).2.1), (GI_at (by show E242 (1 + d) (20 + 3 * i9) = _; rw [p_247 (1 + d) (20 + 3 * i9) (by omega) (by omega), fE219 (1 + d) (20 + 3 * i9) (by omega), p_178 (1 + d) (20 + 3 * i9) (by omega) (by omega) (by omega), fE132 (1 + d) (20 + 3 * i9) (by omega), fE112 (1 + d) (20 + 3 * i9) (by omega), p_77 (1 + d) (20 + 3 * i9) (by omega) (by omega) (by omega), fE37 (1 + d) (20 + 3 * i9) (by omega)]) (by show E242 (1 + d) (21 + 3 * i9) = _; rw [p_247 (1 + d) (21 + 3 * i9) (by omega) (by omega), fE219 (1 + d) (21 + 3 * i9) (by omega), p_178 (1 + d) (21 + 3 * i9) (by omega) (by omega) (by omega), fE132 (1 + d) (21 + 3 * i9) (by omega), fE112 (1 + d) (21 + 3 * i9) (by omega), p_77 (1 + d) (21 + 3 * i9) (by omega) (by omega) (by omega), fE37 (1 + d) (21 + 3 * i9) (by omega)]) (by show E242 (1 + d) (22 + 3 * i9) = _; rw [p_247 (1 + d) (22 + 3 * i9) (by omega) (by omega), fE219 (1 + d) (22 + 3 * i9) (by omega), p_178 (1 + d) (22 + 3 * i9) (by omega) (by omega) (by omega), fE132 (1 + d) (22 + 3 * i9) (by omega), fE112 (1 + d) (22 + 3 * i9) (by omega), p_77 (1 + d) (22 + 3 * i9) (by omega) (by omega) (by omega), fE37 (1 + d) (22 + 3 * i9) (by omega)]) (by show ad172 (1 + d) (21 + 3 * i9) = _; rw [p_179 (1 + d) (21 + 3 * i9) (by omega) (by omega), fA133 (1 + d) (21 + 3 * i9) (by omega), p_78 (1 + d) (21 + 3 * i9) (by omega) (by omega), fA38 (1 + d) (21 + 3 * i9) (by omega)]) (by show ad172 (1 + d) (22 + 3 * i9) = _; rw [p_179 (1 + d) (22 + 3 * i9) (by omega) (by omega), fA133 (1 + d) (22 + 3 * i9) (by omega), p_78 (1 + d) (22 + 3 * i9) (by omega) (by omega), fA38 (1 + d) (22 + 3 * i9) (by omega)]) (fun _ h9 => p_180 _ (hs134 _ (p_79 _ (hs39 _ h9)))) (hg_1 i9 (by omega)).2.2.1), (GI_at (by show E242 (1 + d) (38 + 3 * i9) = _; rw [p_247 (1 + d) (38 + 3 * i9) (by omega) (by omega), fE219 (1 + d) (38 + 3 * i9) (by omega), p_178 (1 + d) (38 + 3 * i9) (by omega) (by omega) (by omega), fE132 (1 + d) (38 + 3 * i9) (by omega), fE112 (1 + d) (38 + 3 * i9) (by omega), p_77 (1 + d) (38 + 3 * i9) (by omega) (by omega) (by omega), fE37 (1 + d) (38 + 3 * i9) (by omega)]) (by show E242 (1 + d) (39 + 3 * i9) = _; rw [p_247 (1 + d) (39 + 3 * i9) (by omega) (by omega), fE219 (1 + d) (39 + 3 * i9) (by omega), p_178 (1 + d) (39 + 3 * i9) (by omega) (by omega) (by omega), fE132 (1 + d) (39 + 3 * i9) (by omega), fE112 (1 + d) (39 + 3 * i9) (by omega), p_77 (1 + d) (39 + 3 * i9) (by omega) (by omega) (by omega), fE37 (1 + d) (39 + 3 * i9) (by omega)]) (by show E242 (1 + d) (40 + 3 * i9) = _; rw [p_247 (1 + d) (40 + 3 * i9) (by omega) (by omega), fE219 (1 + d) (40 + 3 * i9) (by omega), p_178 (1 + d) (40 + 3 * i9) (by omega) (by omega) (by omega), fE132 (1 + d) (40 + 3 * i9) (by omega), fE112 (1 + d) (40 + 3 * i9) (by omega), p_77 (1 + d) (40 + 3 * i9) (by omega) (by omega) (by omega), fE37 (1 + d) (40 + 3 * i9) (by omega)]) (by show ad172 (1 + d) (39 + 3 * i9) = _; rw [p_179 (1 + d) (39 + 3 * i9) (by omega) (by omega), fA133 (1 + d) (39 + 3 * i9) (by omega), p_78 (1 + d) (39 + 3 * i9) (by omega) (by omega), fA38 (1 + d) (39 + 3 * i9) (by omega)]) (by show ad172 (1 + d) (40 + 3 * i9) = _; rw [p_179 (1 + d) (40 + 3 * i9) (by omega) (by omega), fA133 (1 + d) (40 + 3 * i9) (by omega), p_78 (1 + d) (40 + 3 * i9) (by omega) (by omega), fA38 (1 + d) (40 + 3 * i9) (by omega)]) (fun _ h9 => p_180 _ (hs134 _ (p_79 _ (hs39 _ h9)))) (hg_1 i9 (by omega)).2.2.2)⟩)⟩), (fun o9 ho9 => by show ad172 (1 + d) o9 = _; rw [p_179 (1 + d) o9 (by omega) (by omega), fA133 (1 + d) o9 (by omega), p_78 (1 + d) o9 (by omega) (by omega), fA38 (1 + d) o9 (by omega)]), (show TD (pkU g d nm) (E242 (1 + d)) d from TD_mk (by omega) (by omega) (by omega) (by omega) c_257 p_245 c_258 c_259 c_260 p_246 c_261 c_262 c_263 c_264 c_265 (by rw [hap1, hap2]; exact TT_P (by omega) hTT_1) (fun i9 hi9 => by
          by_cases q9 : i9 = k0_1
          · rw [ik0_1] at hz0
            subst q9
            exact ⟨TG_mk (n := 0) (by omega) c_254 c_255 c_256 hz0.1.symm (fun _ j9 hj9 => ⟨fun q => absurd q (by omega), fun _ => (hz0.2.2 j9 hj9).1⟩), TG_mk (n := 0) (by omega) c_250 c_251 c_252 hz0.2.1.symm (fun _ j9 hj9 => ⟨fun q => absurd q (by omega), fun _ => (hz0.2.2 j9 hj9).2⟩)⟩
          · have q := tgr_1 i9 (by omega)
            rw [← (show E242 (1 + d) (20 + 3 * i9) = E (1 + d) (20 + 3 * i9) from by show E242 (1 + d) (20 + 3 * i9) = _; rw [p_247 (1 + d) (20 + 3 * i9) (by omega) (by omega), fE219 (1 + d) (20 + 3 * i9) (by omega), p_178 (1 + d) (20 + 3 * i9) (by omega) (by omega) (by omega), fE132 (1 + d) (20 + 3 * i9) (by omega), fE112 (1 + d) (20 + 3 * i9) (by omega), p_77 (1 + d) (20 + 3 * i9) (by omega) (by omega) (by omega), fE37 (1 + d) (20 + 3 * i9) (by omega)]), ← (show E242 (1 + d) (21 + 3 * i9) = E (1 + d) (21 + 3 * i9) from by show E242 (1 + d) (21 + 3 * i9) = _; rw [p_247 (1 + d) (21 + 3 * i9) (by omega) (by omega), fE219 (1 + d) (21 + 3 * i9) (by omega), p_178 (1 + d) (21 + 3 * i9) (by omega) (by omega) (by omega), fE132 (1 + d) (21 + 3 * i9) (by omega), fE112 (1 + d) (21 + 3 * i9) (by omega), p_77 (1 + d) (21 + 3 * i9) (by omega) (by omega) (by omega), fE37 (1 + d) (21 + 3 * i9) (by omega)]), ← (show E242 (1 + d) (22 + 3 * i9) = E (1 + d) (22 + 3 * i9) from by show E242 (1 + d) (22 + 3 * i9) = _; rw [p_247 (1 + d) (22 + 3 * i9) (by omega) (by omega), fE219 (1 + d) (22 + 3 * i9) (by omega), p_178 (1 + d) (22 + 3 * i9) (by omega) (by omega) (by omega), fE132 (1 + d) (22 + 3 * i9) (by omega), fE112 (1 + d) (22 + 3 * i9) (by omega), p_77 (1 + d) (22 + 3 * i9) (by omega) (by omega) (by omega), fE37 (1 + d) (22 + 3 * i9) (by omega)]), ← (show E242 (1 + d) (38 + 3 * i9) = E (1 + d) (38 + 3 * i9) from by show E242 (1 + d) (38 + 3 * i9) = _; rw [p_247 (1 + d) (38 + 3 * i9) (by omega) (by omega), fE219 (1 + d) (38 + 3 * i9) (by omega), p_178 (1 + d) (38 + 3 * i9) (by omega) (by omega) (by omega), fE132 (1 + d) (38 + 3 * i9) (by omega), fE112 (1 + d) (38 + 3 * i9) (by omega), p_77 (1 + d) (38 + 3 * i9) (by omega) (by omega) (by omega), fE37 (1 + d) (38 + 3 * i9) (by omega)]), ← (show E242 (1 + d) (39 + 3 * i9) = E (1 + d) (39 + 3 * i9) from by show E242 (1 + d) (39 + 3 * i9) = _; rw [p_247 (1 + d) (39 + 3 * i9) (by omega) (by omega), fE219 (1 + d) (39 + 3 * i9) (by omega), p_178 (1 + d) (39 + 3 * i9) (by omega) (by omega) (by omega), fE132 (1 + d) (39 + 3 * i9) (by omega), fE112 (1 + d) (39 + 3 * i9) (by omega), p_77 (1 + d) (39 + 3 * i9) (by omega) (by omega) (by omega), fE37 (1 + d) (39 + 3 * i9) (by omega)]), ← (show E242 (1 + d) (40 + 3 * i9) = E (1 + d) (40 + 3 * i9) from by show E242 (1 + d) (40 + 3 * i9) = _; rw [p_247 (1 + d) (40 + 3 * i9) (by omega) (by omega), fE219 (1 + d) (40 + 3 * i9) (by omega), p_178 (1 + d) (40 + 3 * i9) (by omega) (by omega) (by omega), fE132 (1 + d) (40 + 3 * i9) (by omega), fE112 (1 + d) (40 + 3 * i9) (by omega), p_77 (1 + d) (40 + 3 * i9) (by omega) (by omega) (by omega), fE37 (1 + d) (40 + 3 * i9) (by omega)])] at q
            exact q))⟩, (fun b2 o2 h09 => by show E242 b2 o2 = _; rw [p_247 b2 o2 (by omega) (by omega), fE219 b2 o2 (by omega), p_178 b2 o2 (by omega) (by omega) (by omega), fE132 b2 o2 (by omega), fE112 b2 o2 (by omega), p_77 b2 o2 (by omega) (by omega) (by omega), fE37 b2 o2 (by omega)]), (fun b2 o2 h09 => by show ad172 b2 o2 = _; rw [p_179 b2 o2 (by omega) (by omega), fA133 b2 o2 (by omega), p_78 b2 o2 (by omega) (by omega), fA38 b2 o2 (by omega)]), (fun x9 hx9 => p_180 _ (hs134 _ (p_79 _ (hs39 _ hx9))))⟩, by rw [ht]; exact hP, hD⟩, hS.F ht⟩) hS.2.2 xd_Ds_addPackage_56
theorem lD_n {t : Nat → Int32} {wl : List (Nat × Nat)} {nd : Nat} {g : gT} (h : ¬ okD t wl nd g) : lD t wl nd g = (nd, g) := by unfold lD; rw [cif_neg h]
theorem lD_y {t : Nat → Int32} {wl : List (Nat × Nat)} {nd : Nat} {g : gT} {f n : Int32} (hf : f = fF t wl) (hn : n = wN t wl 2) (h : okD t wl nd g) : lD t wl nd g = (nd + 1, va_up (va_up g 3 (upd (g 3) nd f)) 4 (upd (g 4) nd n)) := by unfold lD; rw [cif_pos h, hf, hn]
theorem lP_y {t : Nat → Int32} {wl : List (Nat × Nat)} {nd : Nat} {g : gT} (h : okP t wl nd g) : lP t wl nd g = pkU g (nd - 1) (wN t wl 1) := by unfold lP; rw [cif_pos h]; rfl
theorem lR_y {t : Nat → Int32} {wl : List (Nat × Nat)} {nd : Nat} {g : gT} {n x y : Int32} (hn : n = wN t wl (rqB t wl)) (hx : x = bI (rqT t wl)) (hy : y = bI (rqO t wl)) (h : okR t wl nd g) : lR t wl nd g = rqU g (nd - 1) n (vp_nar .boolean x) (vp_nar .boolean y) := by
  unfold lR; rw [cif_pos h, hn, hx, hy, bI_nar, bI_nar]; rfl
theorem lS_y {a : Nat} {t : Nat → Int32} {wl : List (Nat × Nat)} {nd k : Nat} {g : gT} (hp : svF (g a) (nd - 1) = some k) (h : okS a t wl nd g) : lS a t wl nd g = va_up g a (upd (g a) (3 * (nd - 1) + k) (wN t wl 1)) := (lS_ok hp h rfl).symm
theorem fF_0 {t : Nat → Int32} {wl : List (Nat × Nat)} (h : wS t wl 1 [48]) : (0 : Int32) = fF t wl := (cif_pos h).symm
theorem fF_1 {t : Nat → Int32} {wl : List (Nat × Nat)} (h : ¬ wS t wl 1 [48]) : (1 : Int32) = fF t wl := (cif_neg h).symm
theorem wS_ts {t : Nat → Int32} {wl : List (Nat × Nat)} {i : Nat} (h : wS t wl i zTr) (h2 : wS t wl i zSt) : False := by
  have e1 := h.2.1
  have e2 := h2.2.1
  rw [e1] at e2
  exact absurd e2 (by decide)
theorem rq_iff {t : Nat → Int32} {wl : List (Nat × Nat)} {a b : Nat} (ha : (a = 1 ∧ 3 ≤ wl.length ∧ wS t wl 1 zTr) ∨ (a = 0 ∧ ¬ (3 ≤ wl.length ∧ wS t wl 1 zTr))) (hb : (b = 1 ∧ 3 ≤ wl.length ∧ wS t wl (wl.length - 2) zSt) ∨ (b = 0 ∧ ¬ (3 ≤ wl.length ∧ wS t wl (wl.length - 2) zSt))) : (wl.length = rqB t wl + 1 ↔ wl.length = 2 + a + b) ∧ (wl.length = 2 + a + b → ((rqT t wl ↔ a = 1) ∧ (rqO t wl ↔ b = 1) ∧ rqB t wl = wl.length - 1)) := by
  have hT : rqT t wl ↔ a = 1 := by
    unfold rqT
    constructor
    · intro q
      rcases ha with z | z
      · exact z.1
      · exact absurd ⟨by omega, q.2⟩ z.2
    · intro q
      rcases ha with z | z
      · exact ⟨by omega, z.2.2⟩
      · omega
  rcases ha with ⟨ha1, ha2, ha3⟩ | ⟨ha1, ha2⟩
  · have eA : rqA t wl = 2 := by unfold rqA; rw [cif_pos (hT.mpr ha1)]
    have hO : rqO t wl ↔ (3 < wl.length ∧ wS t wl 2 zSt) := by unfold rqO; rw [eA]
    by_cases q : rqO t wl
    · have q2 := hO.mp q
      have eB : rqB t wl = 3 := by unfold rqB; rw [cif_pos q, eA]
      rw [eB]
      rcases hb with ⟨hb1, hb2, hb3⟩ | ⟨hb1, hb2⟩
      · refine ⟨by omega, fun z => ⟨hT, ⟨fun _ => hb1, fun _ => q⟩, by omega⟩⟩
      · refine ⟨⟨fun z => ?_, fun z => by omega⟩, fun z => by omega⟩
        rw [show wl.length - 2 = 2 by omega] at hb2
        exact absurd ⟨by omega, q2.2⟩ hb2
    · have eB : rqB t wl = 2 := by unfold rqB; rw [cif_neg q, eA]
      rw [eB]
      rcases hb with ⟨hb1, hb2, hb3⟩ | ⟨hb1, hb2⟩
      · refine ⟨⟨fun z => ?_, fun z => ?_⟩, fun z => ?_⟩
        · rw [show wl.length - 2 = 1 by omega] at hb3
          exact absurd hb3 (fun z => wS_ts ha3 z)
        · rw [show wl.length - 2 = 2 by omega] at hb3
          exact absurd (hO.mpr ⟨by omega, hb3⟩) q
        · rw [show wl.length - 2 = 2 by omega] at hb3
          exact absurd (hO.mpr ⟨by omega, hb3⟩) q
      · exact ⟨by omega, fun z => ⟨hT, ⟨fun z2 => absurd z2 q, fun z2 => by omega⟩, by omega⟩⟩
  · have hnT : ¬ rqT t wl := fun q => by have := hT.mp q; omega
    have eA : rqA t wl = 1 := by unfold rqA; rw [cif_neg hnT]
    have hO : rqO t wl ↔ (2 < wl.length ∧ wS t wl 1 zSt) := by unfold rqO; rw [eA]
    by_cases q : rqO t wl
    · have q2 := hO.mp q
      have eB : rqB t wl = 2 := by unfold rqB; rw [cif_pos q, eA]
      rw [eB]
      rcases hb with ⟨hb1, hb2, hb3⟩ | ⟨hb1, hb2⟩
      · exact ⟨by omega, fun z => ⟨hT, ⟨fun _ => hb1, fun _ => q⟩, by omega⟩⟩
      · refine ⟨⟨fun z => ?_, fun z => by omega⟩, fun z => by omega⟩
        rw [show wl.length - 2 = 1 by omega] at hb2
        exact absurd ⟨by omega, q2.2⟩ hb2
    · have eB : rqB t wl = 1 := by unfold rqB; rw [cif_neg q, eA]
      rw [eB]
      rcases hb with ⟨hb1, hb2, hb3⟩ | ⟨hb1, hb2⟩
      · refine ⟨⟨fun z => by omega, fun z => ?_⟩, fun z => ?_⟩
        · rw [show wl.length - 2 = 1 by omega] at hb3
          exact absurd (hO.mpr ⟨by omega, hb3⟩) q
        · rw [show wl.length - 2 = 1 by omega] at hb3
          exact absurd (hO.mpr ⟨by omega, hb3⟩) q
      · exact ⟨by omega, fun z => ⟨hT, ⟨fun z2 => absurd z2 q, fun z2 => by omega⟩, by omega⟩⟩
theorem gS_ne {g : gT} {a b j : Nat} {to : Int32} (h : j ≠ a) : gS g a b to j = g j := by
  unfold gS
  cases ff (fun k => g a (b + k) = to ∨ g a (b + k) = 0) 3 with
  | none => rfl
  | some k =>
    simp only
    by_cases q : ¬ g a (b + k) = to
    · rw [cif_pos q]; simp [va_up, h]
    · rw [cif_neg q]
theorem lG_ne {a a2 j : Nat} {t : Nat → Int32} {wl : List (Nat × Nat)} {nd : Nat} {g : gT} (h : j ≠ a) (h2 : j ≠ a2) : lG a a2 t wl nd g j = g j := by
  unfold lG
  cases pI g (nd - 1) (wN t wl 1) with
  | none => rfl
  | some i =>
    simp only
    by_cases q : okG t wl nd g
    · rw [cif_pos q]
      by_cases q2 : wl.length = 2
      · rw [cif_pos q2]; simp [va_up, h2]
      · rw [cif_neg q2]; exact gS_ne h
    · rw [cif_neg q]
theorem gS_at {g : gT} {a b j : Nat} {to : Int32} (h : ∀ k, k < 3 → ¬ j = b + k) : gS g a b to a j = g a j := by
  unfold gS
  cases hq : ff (fun k => g a (b + k) = to ∨ g a (b + k) = 0) 3 with
  | none => rfl
  | some k =>
    simp only
    by_cases q : ¬ g a (b + k) = to
    · rw [cif_pos q]
      show va_up g a (upd (g a) (b + k) to) a j = g a j
      rw [show va_up g a (upd (g a) (b + k) to) a = upd (g a) (b + k) to by simp [va_up], pk_un (h k (ff_is hq).1)]
    · rw [cif_neg q]
theorem lG_a {a a2 j : Nat} {t : Nat → Int32} {wl : List (Nat × Nat)} {nd : Nat} {g : gT} (haa : a ≠ a2) (h : ∀ i k, pI g (nd - 1) (wN t wl 1) = some i → k < 3 → ¬ j = 3 * (6 * (nd - 1) + i) + k) : lG a a2 t wl nd g a j = g a j := by
  unfold lG
  cases hp : pI g (nd - 1) (wN t wl 1) with
  | none => rfl
  | some i =>
    simp only
    by_cases q : okG t wl nd g
    · rw [cif_pos q]
      by_cases q2 : wl.length = 2
      · rw [cif_pos q2]; simp [va_up, haa]
      · rw [cif_neg q2]; exact gS_at (fun k hk => h i k hp hk)
    · rw [cif_neg q]
theorem lG_a2 {a a2 j : Nat} {t : Nat → Int32} {wl : List (Nat × Nat)} {nd : Nat} {g : gT} (haa : a ≠ a2) (h : ∀ i, pI g (nd - 1) (wN t wl 1) = some i → ¬ j = 6 * (nd - 1) + i) : lG a a2 t wl nd g a2 j = g a2 j := by
  unfold lG
  cases hp : pI g (nd - 1) (wN t wl 1) with
  | none => rfl
  | some i =>
    simp only
    by_cases q : okG t wl nd g
    · rw [cif_pos q]
      by_cases q2 : wl.length = 2
      · rw [cif_pos q2, show va_up g a2 (upd (g a2) (6 * (nd - 1) + i) 1) a2 = upd (g a2) (6 * (nd - 1) + i) 1 by simp [va_up], pk_un (h i hp)]
      · rw [cif_neg q2, gS_ne (Ne.symm haa)]
    · rw [cif_neg q]
theorem pI_lt {g : gT} {d i : Nat} {n : Int32} (hb : iN (g 5 d) ≤ 6) (h : pI g d n = some i) : i < 6 := by
  have := (ff_is h).1
  omega
theorem AG_G {a a2 d : Nat} {t : Nat → Int32} {wl : List (Nat × Nat)} {nd : Nat} {g : gT} (ha : (a = 7 ∧ a2 = 9) ∨ (a = 8 ∧ a2 = 10)) (hb : iN (g 5 (nd - 1)) ≤ 6) (h : d ≠ nd - 1) : AG g (lG a a2 t wl nd g) d := by
  have hne : ∀ j, j ≠ a → j ≠ a2 → lG a a2 t wl nd g j = g j := fun j h1 h2 => lG_ne h1 h2
  have haa : a ≠ a2 := by omega
  have h7 : ∀ i j, i < 6 → j < 3 → lG a a2 t wl nd g a (3 * (6 * d + i) + j) = g a (3 * (6 * d + i) + j) := fun i j hi hj => lG_a haa (fun i2 k hp hk q => by have := pI_lt hb hp; omega)
  have h9 : ∀ i, i < 6 → lG a a2 t wl nd g a2 (6 * d + i) = g a2 (6 * d + i) := fun i hi => lG_a2 haa (fun i2 hp q => by have := pI_lt hb hp; omega)
  rcases ha with ⟨rfl, rfl⟩ | ⟨rfl, rfl⟩
  · refine ⟨by rw [hne 3 (by decide) (by decide)], by rw [hne 4 (by decide) (by decide)], by rw [hne 5 (by decide) (by decide)], by rw [hne 11 (by decide) (by decide)], by rw [hne 12 (by decide) (by decide)], fun i hi => ⟨by rw [hne 6 (by decide) (by decide)], h9 i hi, by rw [hne 10 (by decide) (by decide)], fun j hj => ⟨h7 i j hi hj, by rw [hne 8 (by decide) (by decide)]⟩⟩, fun i hi => ⟨by rw [hne 13 (by decide) (by decide)], by rw [hne 16 (by decide) (by decide)], by rw [hne 17 (by decide) (by decide)]⟩, fun i hi => ⟨by rw [hne 14 (by decide) (by decide)], by rw [hne 15 (by decide) (by decide)]⟩⟩
  · refine ⟨by rw [hne 3 (by decide) (by decide)], by rw [hne 4 (by decide) (by decide)], by rw [hne 5 (by decide) (by decide)], by rw [hne 11 (by decide) (by decide)], by rw [hne 12 (by decide) (by decide)], fun i hi => ⟨by rw [hne 6 (by decide) (by decide)], by rw [hne 9 (by decide) (by decide)], h9 i hi, fun j hj => ⟨by rw [hne 7 (by decide) (by decide)], h7 i j hi hj⟩⟩, fun i hi => ⟨by rw [hne 13 (by decide) (by decide)], by rw [hne 16 (by decide) (by decide)], by rw [hne 17 (by decide) (by decide)]⟩, fun i hi => ⟨by rw [hne 14 (by decide) (by decide)], by rw [hne 15 (by decide) (by decide)]⟩⟩
theorem TT_G {a a2 : Nat} {t : Nat → Int32} {wl : List (Nat × Nat)} {nd : Nat} {g : gT} {d : Nat} {fd nm sd : Int32} {k0 k1 k2 k3 : Nat} {f0 f1 f2 f3 tr op : Nat → Int32} (ha : (a = 7 ∧ a2 = 9) ∨ (a = 8 ∧ a2 = 10)) (h : TT g d fd nm sd k0 k1 k2 k3 f0 f1 f2 f3 tr op) : TT (lG a a2 t wl nd g) d fd nm sd k0 k1 k2 k3 f0 f1 f2 f3 tr op := by
  unfold TT
  have hne : ∀ j, j ≠ 7 → j ≠ 8 → j ≠ 9 → j ≠ 10 → lG a a2 t wl nd g j = g j := fun j h1 h2 h3 h4 => lG_ne (by omega) (by omega)
  rw [hne 3 (by decide) (by decide) (by decide) (by decide), hne 4 (by decide) (by decide) (by decide) (by decide), hne 5 (by decide) (by decide) (by decide) (by decide), hne 6 (by decide) (by decide) (by decide) (by decide), hne 11 (by decide) (by decide) (by decide) (by decide), hne 12 (by decide) (by decide) (by decide) (by decide), hne 13 (by decide) (by decide) (by decide) (by decide), hne 14 (by decide) (by decide) (by decide) (by decide), hne 15 (by decide) (by decide) (by decide) (by decide), hne 16 (by decide) (by decide) (by decide) (by decide), hne 17 (by decide) (by decide) (by decide) (by decide)]
  exact h
theorem NT_cov {g : gT} {a b n : Nat} {f : Nat → Int32} {x : Int32} (h : NT n f (fun j => g a (b + j))) (hn : n ≤ 3) (hc : ∃ k, k < n ∧ f k = x) : gS g a b x = g := by
  have hs : ∀ j, j < n → f j = g a (b + j) ∧ 0 < g a (b + j) := fun j hj => (h j (by omega)).1 hj
  obtain ⟨k, hk, e⟩ := hc
  rcases ff_or (P := fun j => f j = x) n with ⟨k2, q1, q2, q3, _⟩ | ⟨q, _⟩
  · refine (gS_same (k := k2) (by omega) ?_ (fun j hj => ⟨fun z => q3 j hj (by rw [(hs j (by omega)).1]; exact z), fun z => ?_⟩)).symm
    · rw [← (hs k2 q1).1]; exact q2
    · have := (hs j (by omega)).2
      rw [z] at this
      exact absurd this (by decide)
  · exact absurd e (q k hk)
theorem NT_put {g : gT} {a b n : Nat} {f : Nat → Int32} {x : Int32} (h : NT n f (fun j => g a (b + j))) (hx : 0 < x) (hn : n < 3) (hc : ¬ ∃ k, k < n ∧ f k = x) : gS g a b x = va_up g a (upd (g a) (b + n) x) := by
  have hs : ∀ j, j < n → f j = g a (b + j) ∧ 0 < g a (b + j) := fun j hj => (h j (by omega)).1 hj
  have h0 : g a (b + n) = 0 := (h n hn).2 (Nat.le_refl _)
  refine (gS_set hn h0 (fun z => ?_) (fun j hj => ⟨fun z => hc ⟨j, hj, by rw [(hs j hj).1]; exact z⟩, fun z => ?_⟩)).symm
  · rw [h0] at z; rw [← z] at hx; exact absurd hx (by decide)
  · have := (hs j hj).2
    rw [z] at this
    exact absurd this (by decide)
theorem NT_ful {g : gT} {a b n : Nat} {f : Nat → Int32} {x : Int32} (h : NT n f (fun j => g a (b + j))) (hn : 3 ≤ n) (hc : ¬ ∃ k, k < n ∧ f k = x) : gS g a b x = g := by
  have hs : ∀ j, j < 3 → f j = g a (b + j) ∧ 0 < g a (b + j) := fun j hj => (h j hj).1 (by omega)
  refine (gS_full (fun j hj => ⟨fun z => hc ⟨j, by omega, by rw [(hs j hj).1]; exact z⟩, fun z => ?_⟩)).symm
  have := (hs j hj).2
  rw [z] at this
  exact absurd this (by decide)
theorem gr_upd {g : gT} {a a2 p n n2 : Nat} {ta ta2 x : Int32} {f f2 : Nat → Int32} (haa : a2 ≠ a) (hn : n ≤ 3) (h1 : ta = g a2 p) (h2 : ta = 0 → NT n f (fun j => g a (3 * p + j))) (hx : 0 < x) (h : (x = 0 ∧ ta2 = 1 ∧ n2 = n ∧ f2 = f) ∨ (¬ x = 0 ∧ COV ta n f x ∧ ta2 = ta ∧ n2 = n ∧ f2 = f) ∨ (¬ x = 0 ∧ ¬ COV ta n f x ∧ ta2 = ta ∧ ((n < 3 ∧ n2 = n + 1 ∧ f2 = upd f n x) ∨ (3 ≤ n ∧ n2 = n ∧ f2 = f)))) : ta2 = gS g a (3 * p) x a2 p ∧ (ta2 = 0 → NT n2 f2 (fun j => gS g a (3 * p) x a (3 * p + j))) := by
  rw [gS_ne haa]
  rcases h with ⟨q, _⟩ | ⟨_, q1, q2, q3, q4⟩ | ⟨_, q1, q2, q3⟩
  · rw [q] at hx; exact absurd hx (by decide)
  · refine ⟨q2.trans h1, fun z => ?_⟩
    rw [q3, q4]
    rw [q2] at z
    have hc : ∃ k, k < n ∧ f k = x := q1.resolve_left (fun w => w z)
    rw [NT_cov (h2 z) hn hc]
    exact h2 z
  · refine ⟨q2.trans h1, fun z => ?_⟩
    rw [q2] at z
    have hc : ¬ ∃ k, k < n ∧ f k = x := fun w => q1 (Or.inr w)
    rcases q3 with ⟨r1, r2, r3⟩ | ⟨r1, r2, r3⟩
    · rw [r2, r3, NT_put (h2 z) hx r1 hc]
      have := NT_add r1 hx (h2 z)
      rw [show va_up g a (upd (g a) (3 * p + n) x) a = upd (g a) (3 * p + n) x by simp [va_up]]
      exact this
    · rw [r2, r3, NT_ful (h2 z) r1 hc]; exact h2 z
theorem lG_w4 {a a2 : Nat} {t : Nat → Int32} {wl : List (Nat × Nat)} {nd i : Nat} {g : gT} (hp : pI g (nd - 1) (wN t wl 1) = some i) (h : okG t wl nd g) (h4 : wl.length = 4) : lG a a2 t wl nd g = gS g a (3 * (6 * (nd - 1) + i)) (wN t wl 3) := (lG_to hp h h4 rfl).symm
theorem lG_w2 {a a2 : Nat} {t : Nat → Int32} {wl : List (Nat × Nat)} {nd i : Nat} {g : gT} (hp : pI g (nd - 1) (wN t wl 1) = some i) (h : okG t wl nd g) (h2 : wl.length = 2) : lG a a2 t wl nd g = va_up g a2 (upd (g a2) (6 * (nd - 1) + i) 1) := (lG_all hp h h2 rfl rfl).symm
theorem k5e_0 : (Cond.code xy_Li_wordIs xb_Li_wordIs 4 (some .boolean)) ∈ wT := wT_t (List.mem_append_left _ (List.mem_of_getElem? (i := 199) rfl)) rfl
theorem k5e_1 : (Cond.methodLink "LayerDesk$Shelf" 34 xy_Li_wordIs) ∈ wT := wT_t (List.mem_append_left _ (List.mem_of_getElem? (i := 196) rfl)) rfl
theorem k5e_2 : (Cond.instanceMethod xy_Li_wordIs) ∈ wT := wT_t (List.mem_append_left _ (List.mem_of_getElem? (i := 197) rfl)) rfl
theorem k5e_3 : (Cond.selects "LayerDesk$Line" xy_Li_wordIs xy_Li_wordIs) ∈ wT := wT_t (List.mem_append_left _ (List.mem_of_getElem? (i := 198) rfl)) rfl
theorem k5e_4 : (Cond.initialized "LayerDesk$Line") ∈ wT := wT_t (List.mem_append_left _ (List.mem_of_getElem? (i := 2) rfl)) rfl
theorem k5e_5 : (Cond.code xy_Li_nameAt xb_Li_nameAt 4 (some .int)) ∈ wT := wT_t (List.mem_append_right _ (List.mem_append_left _ (List.mem_of_getElem? (i := 17) rfl))) rfl
theorem k5e_6 : (Cond.methodLink "LayerDesk$Shelf" 70 xy_Li_nameAt) ∈ wT := wT_t (List.mem_append_right _ (List.mem_append_left _ (List.mem_of_getElem? (i := 14) rfl))) rfl
theorem k5e_7 : (Cond.instanceMethod xy_Li_nameAt) ∈ wT := wT_t (List.mem_append_right _ (List.mem_append_left _ (List.mem_of_getElem? (i := 15) rfl))) rfl
theorem k5e_8 : (Cond.selects "LayerDesk$Line" xy_Li_nameAt xy_Li_nameAt) ∈ wT := wT_t (List.mem_append_right _ (List.mem_append_left _ (List.mem_of_getElem? (i := 16) rfl))) rfl
theorem k5e_9 : (Cond.fieldLink "LayerDesk$Shelf" 27 "LayerDesk$Line" "words" "I") ∈ wT := wT_t (List.mem_append_left _ (List.mem_of_getElem? (i := 41) rfl)) rfl
theorem k5e_10 : (Cond.code xy_Sh_find xb_Sh_find 4 (some (.object "LayerDesk$Descriptor"))) ∈ wT := wT_t (List.mem_append_right _ (List.mem_append_left _ (List.mem_of_getElem? (i := 21) rfl))) rfl
theorem k5e_11 : (Cond.methodLink "LayerDesk$Shelf" 74 xy_Sh_find) ∈ wT := wT_t (List.mem_append_right _ (List.mem_append_left _ (List.mem_of_getElem? (i := 18) rfl))) rfl
theorem k5e_12 : (Cond.instanceMethod xy_Sh_find) ∈ wT := wT_t (List.mem_append_right _ (List.mem_append_left _ (List.mem_of_getElem? (i := 19) rfl))) rfl
theorem k5e_13 : (Cond.selects "LayerDesk$Shelf" xy_Sh_find xy_Sh_find) ∈ wT := wT_t (List.mem_append_right _ (List.mem_append_left _ (List.mem_of_getElem? (i := 20) rfl))) rfl
theorem k5e_14 : (Cond.initialized "LayerDesk$Shelf") ∈ wT := wT_t (List.mem_append_left _ (List.mem_of_getElem? (i := 3) rfl)) rfl
theorem k5e_15 : (Cond.fieldLink "LayerDesk$Shelf" 17 "LayerDesk$Shelf" "size" "I") ∈ wT := wT_t (List.mem_append_left _ (List.mem_of_getElem? (i := 66) rfl)) rfl
theorem k5e_16 : (Cond.fieldLink "LayerDesk$Shelf" 11 "LayerDesk$Shelf" "descriptors" "[LLayerDesk$Descriptor;") ∈ wT := wT_t (List.mem_append_left _ (List.mem_of_getElem? (i := 64) rfl)) rfl
theorem k5e_17 : (Cond.classLink "LayerDesk$Shelf" 9 "LayerDesk$Descriptor") ∈ wT := wT_t (List.mem_append_left _ (List.mem_of_getElem? (i := 62) rfl)) rfl
theorem k5e_18 : (Cond.instantiable "LayerDesk$Descriptor" 12) ∈ wT := wT_t (List.mem_append_right _ (List.mem_append_left _ (List.mem_of_getElem? (i := 22) rfl))) rfl
theorem k5e_19 : (Cond.initialized "LayerDesk$Descriptor") ∈ wT := wT_t (List.mem_append_left _ (List.mem_of_getElem? (i := 10) rfl)) rfl
theorem k5e_20 : (Cond.code xy_Ds_init xb_Ds_init 4 none) ∈ wT := wT_t (List.mem_append_right _ (List.mem_append_left _ (List.mem_of_getElem? (i := 25) rfl))) rfl
theorem k5e_21 : (Cond.methodLink "LayerDesk$Shelf" 78 xy_Ds_init) ∈ wT := wT_t (List.mem_append_right _ (List.mem_append_left _ (List.mem_of_getElem? (i := 23) rfl))) rfl
theorem k5e_22 : (Cond.instanceMethod xy_Ds_init) ∈ wT := wT_t (List.mem_append_right _ (List.mem_append_left _ (List.mem_of_getElem? (i := 24) rfl))) rfl
set_option maxHeartbeats 4000000 in
set_option maxRecDepth 100000 in
theorem xc_Sh_acceptDescriptorX (l : Launch) (D : va_G) (kA : Nat → ClassId) (sz : Nat) (ad : Nat → Nat → Nat) (E : Nat → Nat → va_E) (RL : List (Nat × Nat)) (Z : zT) (g : Nat → Nat → Int32) (ml : Nat) (nd : Nat) (len : Nat) (lt : Nat) (wl : List (Nat × Nat)) (cs : Nat) (hCI : CI kA ad E RL ml nd len wl.length cs) (hLW : LW g E lt wl) (hTD : TDs g E nd) (hZI : ZI g nd) : Met l xy_Sh_acceptDescriptor (.code xy_Sh_acceptDescriptor xb_Sh_acceptDescriptor 5 (some .int) :: wT) { frames := 5, cells := 13, slots := 66, locals := 108 } (va_Pc [.ref (ad 0 5), .ref (ad 0 1)] (xPreZ D kA sz (rp ad E RL) Z)) (va_Qi (fun (r : Int32) (u : (Nat → Nat → Nat) × (Nat → Nat → va_E) × List (Nat × Nat)) => CI kA u.1 u.2.1 u.2.2 ml (lD (g 0) wl nd g).1 len wl.length cs ∧ TDs (lD (g 0) wl nd g).2 u.2.1 (lD (g 0) wl nd g).1 ∧ u.1 0 0 = ad 0 0 ∧ FRL ml nd ad u.1 E u.2.1) (fun (u : (Nat → Nat → Nat) × (Nat → Nat → va_E) × List (Nat × Nat)) t => va_P D xcl (rp u.1 u.2.1 u.2.2) t.heap ∧ va_D (va_A (rp ad E RL) sz) (rp u.1 u.2.1 u.2.2)) (va_A (rp ad E RL) sz)) 13 66 (va_A (rp ad E RL) sz) := by
  refine Met.ofW (cc := xb_Sh_acceptDescriptor) (maxL := 5) (ret := (some .int)) (by decide) rfl ?_
  intro p e s m args below meth c s₁ B hml hv
  obtain ⟨rfl, ⟨hsz, hP, hK, hD0⟩, hZ⟩ := hv
  have hx := B.exec
  have hb := B.bytes
  have hr := B.returns
  have hT := x_hT B.pre
  have hown : s.vm.findClass xR_Sh = some m.cls := findClass_of_methodNamed B.named
  have hlocks := B.notSynchronized
  subst hsz
  have hD := hD0.self (sz := s.heap.size)
  generalize hAe : va_A (rp ad E RL) s.heap.size = A at hD hZ ⊢
  have hA : ∀ q : Nat, s.heap.size ≤ q → A q := fun q h => by rw [← hAe]; exact Or.inr h
  have hS : va_S A s.heap s.heap [] := va_S.rf
  have hl := lv_entry ([.ref (ad 0 5), .ref (ad 0 1)]) (n := 5) (Nat.le_of_ble_eq_true rfl)
  rw [lg_entry_eq]
  generalize (lg_sl ([.ref (ad 0 5), .ref (ad 0 1)]) ++ List.replicate (5 - (lg_sl ([.ref (ad 0 5), .ref (ad 0 1)])).length) Slot.unset).toArray = ls at hl ⊢
  have hl : lv_has ls 5 [(0, .ref (ad 0 5)), (1, .ref (ad 0 1))] := hl
  have hP : va_P D xcl (rp ad E RL) s.heap := hP
  obtain ⟨hmB, hDk, hLi, hSh, hCh, hLa, hDIs, hLIs⟩ := id hCI
  obtain ⟨hWL, hlt40, hLwd, hLtx⟩ := id hLW
  obtain ⟨lf_1, q_1⟩ := id (hDk)
  have c_2 : E 0 0 = .inr (0, [.ref (ad 0 1), .ref (ad 0 5), .ref (ad 0 7), .ref (ad 0 9), .int (nI ml), .int lf_1]) := q_1
  have m_3 : (0, 0) ∈ RL := hmB 0 (by decide)
  obtain ⟨tx_4, fb_4, fe_4, hl1_4, hw2_4, q1_4, q2_4, q3_4, q4_4, hws_4⟩ := id (hLi)
  have c_5 : E 0 1 = .inr (1, [.ref (ad 0 2), .ref (ad 0 3), .ref (ad 0 4), .int (nI len), .int (nI (wl.length))]) := q1_4
  have m_6 : (0, 1) ∈ RL := hmB 1 (by decide)
  have c_7 : E 0 2 = .inl (kA 1, 40, .inl tx_4) := q2_4
  have m_8 : (0, 2) ∈ RL := hmB 2 (by decide)
  have c_9 : E 0 3 = .inl (kA 0, 20, .inl fb_4) := q3_4
  have m_10 : (0, 3) ∈ RL := hmB 3 (by decide)
  have c_11 : E 0 4 = .inl (kA 0, 20, .inl fe_4) := q4_4
  have m_12 : (0, 4) ∈ RL := hmB 4 (by decide)
  obtain ⟨fd_13, hnd_13, q5_13, q6_13, hds_13⟩ := id (hSh)
  have c_14 : E 0 5 = .inr (2, [.ref (ad 0 6), .int (nI nd)]) := q5_13
  have m_15 : (0, 5) ∈ RL := hmB 5 (by decide)
  have c_16 : E 0 6 = .inl (kA 4, 12, .inr (.inr (.inr (.inr fd_13)))) := q6_13
  have m_17 : (0, 6) ∈ RL := hmB 6 (by decide)
  obtain ⟨cf_18, pv_18, fc_18, hcs_18, hpv_18, q7_18, q8_18, hfc_18⟩ := id (hCh)
  have c_19 : E 0 7 = .inr (3, [.ref (ad 0 5), .ref (ad 0 8), .int (nI cs), .int cf_18, pv_18]) := q7_18
  have m_20 : (0, 7) ∈ RL := hmB 7 (by decide)
  have c_21 : E 0 8 = .inl (kA 4, 12, .inr (.inr (.inr (.inr fc_18)))) := q8_18
  have m_22 : (0, 8) ∈ RL := hmB 8 (by decide)
  obtain ⟨fl_23, hml_23, q9_23, hla_23⟩ := id (hLa)
  have c_24 : E 0 9 = .inl (kA 5, 5, .inr (.inr (.inr (.inr fl_23)))) := q9_23
  have m_25 : (0, 9) ∈ RL := hmB 9 (by decide)
  obtain ⟨zw0, zw1, zw2, zw3, zw4, zw5, zw6, zw7, zw8, zw9, zw10, zw11⟩ := zW_all
  refine lv_aload_n hx hb xd_Sh_acceptDescriptor_0 rfl (lv_at hl 1 rfl) ?_
  refine lv_iconst (v := 1) hx hb xd_Sh_acceptDescriptor_1 (by decide) ?_
  refine va_ldcS (q := Z.1 7) hx hb hown hZ.2.2.2.1.2.2.2.2.2.2.2.1 xd_Sh_acceptDescriptor_2 ?_
  have hFc := px_free hD hS hA
  refine va_calli (va_runV (As := [.int 1, .ref (Z.1 7)]) (rest := []) ⟨hx, hb, hml, hown, hT⟩ (xc_Li_wordIsX l D kA s.heap.size ad E RL Z g ml nd len lt wl cs 1 7 (by first | assumption | omega) (by first | assumption | omega) (by first | assumption | omega) (by first | assumption | omega)) (cwV 2 hT (wT_V k5e_1 k5e_2 k5e_3 k5e_4 k5e_0) rfl rfl rfl (by decide +kernel) ⟨Nat.le_of_ble_eq_true rfl, Nat.le_of_ble_eq_true rfl⟩) (px_preVZ hK hP hD m_6 c_5 rfl hFc (hZ.kept hS)) rfl rfl hl.1 rfl (lv_room (Nat.le_of_ble_eq_true rfl)) xd_Sh_acceptDescriptor_4 ⟨(Nat.le_of_ble_eq_true rfl), (Nat.le_of_ble_eq_true rfl)⟩) hS (fun q _ h => hFc q h) hFc (fun r26 u27 t H1 locs ht hvm hp28 hB hz1 hk1 hS => ?_)
  obtain ⟨hP1, hD1⟩ := hB
  rw [ht] at hP1
  have hD1 := hD1.weaken (fun _ _ _ h => hFc _ h)
  generalize H1 = H at hP1 hS ⊢
  have hP := hP1
  have hD := hD1
  have hP : va_P D xcl (rp ad E RL) H := hP
  have hD : va_D A (rp ad E RL) := hD
  rcases hp28 with ⟨rfl, z29⟩ | ⟨rfl, z30⟩
  · have hw7 : wS (g 0) wl 1 [48] := by have q := z29; rw [zw7] at q; exact q
    refine W.eq (g2 := F0 m 7 ls [.int 1]) rfl ?_
    refine lv_if_eq (tgt := 14) hx hb xd_Sh_acceptDescriptor_7 (by decide) (fun hc31 => absurd hc31 (by decide)) (fun _ => ?_)
    refine lv_iconst (v := 0) hx hb xd_Sh_acceptDescriptor_10 (by decide) ?_
    refine lv_goto (tgt := 29) hx hb xd_Sh_acceptDescriptor_11 (by decide) ?_
    refine lv_istore_n hx hb xd_Sh_acceptDescriptor_29 rfl hl (Nat.le_of_ble_eq_true rfl) rfl (fun ls hl => ?_)
    have hl : lv_has ls 5 [(2, .int 0), (0, .ref (ad 0 5)), (1, .ref (ad 0 1))] := hl
    refine lv_aload_n hx hb xd_Sh_acceptDescriptor_30 rfl (lv_at hl 2 rfl) ?_
    refine lv_iconst (v := 2) hx hb xd_Sh_acceptDescriptor_31 (by decide) ?_
    have hFc := px_free hD hS hA
    refine va_calli (va_runV (As := [.int 2]) (rest := []) ⟨hx, hb, hml, hown, hT⟩ (xc_Li_nameAtX l D kA H.size ad E RL g ml nd len lt wl cs 2 (by first | assumption | omega) (by first | assumption | omega) (by first | assumption | omega)) (cwV 1 hT (wT_V k5e_6 k5e_7 k5e_8 k5e_4 k5e_5) rfl rfl rfl (by decide +kernel) ⟨Nat.le_of_ble_eq_true rfl, Nat.le_of_ble_eq_true rfl⟩) (px_preV hK hP hD m_6 c_5 rfl) rfl rfl hl.1 rfl (lv_room (Nat.le_of_ble_eq_true rfl)) xd_Sh_acceptDescriptor_32 ⟨(Nat.le_of_ble_eq_true rfl), (Nat.le_of_ble_eq_true rfl)⟩) hS (fun q _ h => hFc q h) hFc (fun r32 u33 t H1 locs ht hvm hp34 hB hz1 hk1 hS => ?_)
    obtain ⟨hP1, hD1⟩ := hB
    rw [ht] at hP1
    have hD1 := hD1.weaken (fun _ _ _ h => hFc _ h)
    generalize H1 = H at hP1 hS ⊢
    have hP := hP1
    have hD := hD1
    have hP : va_P D xcl (rp ad E RL) H := hP
    have hD : va_D A (rp ad E RL) := hD
    have hp34 : r32 = wN (g 0) wl 2 := hp34
    subst hp34
    have hP : va_P D xcl (rp ad E RL) H := hP
    have hD : va_D A (rp ad E RL) := hD
    refine lv_istore_n hx hb xd_Sh_acceptDescriptor_35 rfl hl (Nat.le_of_ble_eq_true rfl) rfl (fun ls hl => ?_)
    have hl : lv_has ls 5 [(3, .int (wN (g 0) wl 2)), (2, .int 0), (0, .ref (ad 0 5)), (1, .ref (ad 0 1))] := hl
    refine lv_aload_n hx hb xd_Sh_acceptDescriptor_36 rfl (lv_at hl 3 rfl) ?_
    refine px_get (D := D) (ci := 1) (v := .int (nI (wl.length))) (C := xR_Li) (T := xT_Li) (N := 5) hx hb hT xi_Li hown hK.1 hP m_6 c_5 rfl 4 (by decide) (hT _ k5e_9) (fun _ h9 => h9) rfl xd_Sh_acceptDescriptor_37 ?_
    refine lv_iconst (v := 3) hx hb xd_Sh_acceptDescriptor_40 (by decide) ?_
    refine xn_ne (a := wl.length) (b := 3) (tgt := 57) hx hb xd_Sh_acceptDescriptor_41 (by decide) (by omega) (by omega) (fun hc35 => ?_) (fun hc35 => ?_)
    · refine lv_iconst (v := 0) hx hb xd_Sh_acceptDescriptor_57 (by decide) ?_
      refine lv_istore hx hb xd_Sh_acceptDescriptor_58 hl (Nat.le_of_ble_eq_true rfl) rfl (fun ls hl => ?_)
      have hl : lv_has ls 5 [(4, .int 0), (3, .int (wN (g 0) wl 2)), (2, .int 0), (0, .ref (ad 0 5)), (1, .ref (ad 0 1))] := hl
      refine lv_iload hx hb xd_Sh_acceptDescriptor_60 (lv_at hl 0 rfl) ?_
      refine lv_if_eq (tgt := 74) hx hb xd_Sh_acceptDescriptor_62 (by decide) (fun _ => ?_) (fun hc36 => absurd (by decide) hc36)
      refine lv_iconst (v := (-1)) hx hb xd_Sh_acceptDescriptor_74 (by decide) ?_
      refine W.widen (k := 13) (n := 66) (Nat.le_of_ble_eq_true rfl) (Nat.le_of_ble_eq_true rfl) ?_
      exact W.iret (v := (-1)) hx hb hr (fun t ht hW => ⟨⟨(-1), (ad, E, RL), rfl, (by rw [lD_n (fun q => absurd q.1 (by omega))]; exact ⟨hCI, hTD, rfl, FRL_rf⟩), by rw [ht]; exact hP, hD⟩, hS.F ht⟩) hS.2.2 xd_Sh_acceptDescriptor_75
    · refine lv_iload_n hx hb xd_Sh_acceptDescriptor_44 rfl (lv_at hl 1 rfl) ?_
      refine lv_iconst (v := (-1)) hx hb xd_Sh_acceptDescriptor_45 (by decide) ?_
      refine lv_icmp_eq (tgt := 57) hx hb xd_Sh_acceptDescriptor_46 (by decide) (fun hc37 => absurd hc37 (by decide)) (fun _ => ?_)
      refine lv_iload_n hx hb xd_Sh_acceptDescriptor_49 rfl (lv_at hl 0 rfl) ?_
      refine lv_if_eq (tgt := 57) hx hb xd_Sh_acceptDescriptor_50 (by decide) (fun hc38 => ?_) (fun hc38 => ?_)
      · refine lv_iconst (v := 0) hx hb xd_Sh_acceptDescriptor_57 (by decide) ?_
        refine lv_istore hx hb xd_Sh_acceptDescriptor_58 hl (Nat.le_of_ble_eq_true rfl) rfl (fun ls hl => ?_)
        have hl : lv_has ls 5 [(4, .int 0), (3, .int (wN (g 0) wl 2)), (2, .int 0), (0, .ref (ad 0 5)), (1, .ref (ad 0 1))] := hl
        refine lv_iload hx hb xd_Sh_acceptDescriptor_60 (lv_at hl 0 rfl) ?_
        refine lv_if_eq (tgt := 74) hx hb xd_Sh_acceptDescriptor_62 (by decide) (fun _ => ?_) (fun hc39 => absurd (by decide) hc39)
        refine lv_iconst (v := (-1)) hx hb xd_Sh_acceptDescriptor_74 (by decide) ?_
        refine W.widen (k := 13) (n := 66) (Nat.le_of_ble_eq_true rfl) (Nat.le_of_ble_eq_true rfl) ?_
        exact W.iret (v := (-1)) hx hb hr (fun t ht hW => ⟨⟨(-1), (ad, E, RL), rfl, (by rw [lD_n (fun q => q.2.2.1 hc38)]; exact ⟨hCI, hTD, rfl, FRL_rf⟩), by rw [ht]; exact hP, hD⟩, hS.F ht⟩) hS.2.2 xd_Sh_acceptDescriptor_75
      · refine lv_iconst (v := 1) hx hb xd_Sh_acceptDescriptor_53 (by decide) ?_
        refine lv_goto (tgt := 58) hx hb xd_Sh_acceptDescriptor_54 (by decide) ?_
        refine lv_istore hx hb xd_Sh_acceptDescriptor_58 hl (Nat.le_of_ble_eq_true rfl) rfl (fun ls hl => ?_)
        have hl : lv_has ls 5 [(4, .int 1), (3, .int (wN (g 0) wl 2)), (2, .int 0), (0, .ref (ad 0 5)), (1, .ref (ad 0 1))] := hl
        refine lv_iload hx hb xd_Sh_acceptDescriptor_60 (lv_at hl 0 rfl) ?_
        refine lv_if_eq (tgt := 74) hx hb xd_Sh_acceptDescriptor_62 (by decide) (fun hc40 => absurd hc40 (by decide)) (fun _ => ?_)
        refine lv_aload_n hx hb xd_Sh_acceptDescriptor_65 rfl (lv_at hl 3 rfl) ?_
        refine lv_iload_n hx hb xd_Sh_acceptDescriptor_66 rfl (lv_at hl 2 rfl) ?_
        refine lv_iload_n hx hb xd_Sh_acceptDescriptor_67 rfl (lv_at hl 1 rfl) ?_
        have hFc := px_free hD hS hA
        refine va_callq (va_runV (As := [.int 0, .int (wN (g 0) wl 2)]) (rest := []) ⟨hx, hb, hml, hown, hT⟩ (xc_Sh_findX l D kA H.size ad E RL g ml nd len wl.length cs 0 (wN (g 0) wl 2) (by first | assumption | omega) (by first | assumption | omega)) (cwV 2 hT (wT_V k5e_11 k5e_12 k5e_13 k5e_14 k5e_10) rfl rfl rfl (by decide +kernel) ⟨Nat.le_of_ble_eq_true rfl, Nat.le_of_ble_eq_true rfl⟩) (px_preV hK hP hD m_15 c_14 rfl) rfl rfl hl.1 rfl (lv_room (Nat.le_of_ble_eq_true rfl)) xd_Sh_acceptDescriptor_68 ⟨(Nat.le_of_ble_eq_true rfl), (Nat.le_of_ble_eq_true rfl)⟩) hS (fun q _ h => hFc q h) hFc (fun r41 u42 t H1 locs ht hvm hp43 hB hz1 hk1 hS => ?_)
        obtain ⟨hP1, hD1⟩ := hB
        rw [ht] at hP1
        have hD1 := hD1.weaken (fun _ _ _ h => hFc _ h)
        generalize H1 = H at hP1 hS ⊢
        have hP := hP1
        have hD := hD1
        have hP : va_P D xcl (rp ad E RL) H := hP
        have hD : va_D A (rp ad E RL) := hD
        rcases hp43 with ⟨rfl, z44⟩ | ⟨z45, z46, rfl, z47⟩
        · refine W.eq (g2 := F0 m 71 ls [.null]) rfl ?_
          refine lv_ifnullN (tgt := 76) hx hb xd_Sh_acceptDescriptor_71 (by decide) ?_
          refine lv_aload_n hx hb xd_Sh_acceptDescriptor_76 rfl (lv_at hl 3 rfl) ?_
          refine px_get (D := D) (ci := 2) (v := .int (nI nd)) (C := xR_Sh) (T := xT_Sh) (N := 2) hx hb hT xi_Sh hown hK.1 hP m_15 c_14 rfl 1 (by decide) (hT _ k5e_15) (fun _ h9 => h9) rfl xd_Sh_acceptDescriptor_77 ?_
          refine lv_bipush (v := 12) hx hb xd_Sh_acceptDescriptor_80 (by decide) ?_
          refine xn_lt (a := nd) (b := 12) (tgt := 88) hx hb xd_Sh_acceptDescriptor_82 (by decide) (by omega) (by omega) (fun hc48 => ?_) (fun hc48 => ?_)
          · refine lv_aload_n hx hb xd_Sh_acceptDescriptor_88 rfl (lv_at hl 3 rfl) ?_
            refine px_get (D := D) (ci := 2) (v := .ref (ad 0 6)) (C := xR_Sh) (T := xT_Sh) (N := 2) hx hb hT xi_Sh hown hK.1 hP m_15 c_14 rfl 0 (by decide) (hT _ k5e_16) (fun _ h9 => h9) rfl xd_Sh_acceptDescriptor_89 ?_
            refine lv_aload_n hx hb xd_Sh_acceptDescriptor_92 rfl (lv_at hl 3 rfl) ?_
            refine px_get (D := D) (ci := 2) (v := .int (nI nd)) (C := xR_Sh) (T := xT_Sh) (N := 2) hx hb hT xi_Sh hown hK.1 hP m_15 c_14 rfl 1 (by decide) (hT _ k5e_15) (fun _ h9 => h9) rfl xd_Sh_acceptDescriptor_93 ?_
            refine px_new (ci := 7) (fs := [.int 0, .int 0, .int 0, .null, .null, .null, .null, .null, .null, .null, .null, .int 0]) (C := xR_Ds) (T := xT_Ds) (N := 12) (1 + nd) 0 hx hb hT xi_Ds xt_Ds xt_Ds_ok hown (hT _ k5e_17) (hT _ k5e_18) (hT _ k5e_19) hK.1 hP hD hS hA rfl (by decide +kernel) (Nat.le_of_ble_eq_true rfl) (Nat.le_of_ble_eq_true rfl) xd_Sh_acceptDescriptor_96 (fun ad49 E50 RL51 H hA1 hE1 hs1 hm1 hP hD hS => ?_)
            have fE52 : ∀ b2 o2, ¬ (b2 = 1 + nd ∧ o2 = 0) → E50 b2 o2 = E b2 o2 := fun b2 o2 h9 => by rw [hE1]; exact up2_ne (nr_or h9)
            have fA53 : ∀ b2 o2, ¬ (b2 = 1 + nd ∧ o2 = 0) → ad49 b2 o2 = ad b2 o2 := fun b2 o2 h9 => by rw [hA1]; exact up2_ne (nr_or h9)
            have hs54 := hs1
            refine W.eq (g2 := F0 m _ ls [.ref (ad49 (1 + nd) 0), .int (nI nd), .ref (ad49 0 6)]) (by rw [fA53 0 6 (fun q9 => absurd q9.2 (by decide))]) ?_
            have c_55 : E50 (1 + nd) 0 = .inr (7, [.int 0, .int 0, .int 0, .null, .null, .null, .null, .null, .null, .null, .null, .int 0]) := by rw [hE1]; exact up2_eq
            have hl : lv_has ls 5 [(4, .int 1), (3, .int (wN (g 0) wl 2)), (2, .int 0), (0, .ref (ad49 0 5)), (1, .ref (ad49 0 1))] := by
              rw [fA53 0 5 (fun q9 => absurd q9.2 (by decide)), fA53 0 1 (fun q9 => absurd q9.2 (by decide))]; exact hl
            have m_57 : (0, 0) ∈ RL51 := hs54 _ m_3
            have m_58 : (0, 1) ∈ RL51 := hs54 _ m_6
            have m_59 : (0, 2) ∈ RL51 := hs54 _ m_8
            have m_60 : (0, 3) ∈ RL51 := hs54 _ m_10
            have m_61 : (0, 4) ∈ RL51 := hs54 _ m_12
            have m_62 : (0, 5) ∈ RL51 := hs54 _ m_15
            have m_63 : (0, 6) ∈ RL51 := hs54 _ m_17
            have m_64 : (0, 7) ∈ RL51 := hs54 _ m_20
            have m_65 : (0, 8) ∈ RL51 := hs54 _ m_22
            have m_66 : (0, 9) ∈ RL51 := hs54 _ m_25
            have nb_67 : ¬ (0 = 1 + nd) := by omega
            have c_68 : E50 0 0 = .inr (0, [.ref (ad49 0 1), .ref (ad49 0 5), .ref (ad49 0 7), .ref (ad49 0 9), .int (nI ml), .int lf_1]) := by rw [fE52 0 0 (fun q9 => nb_67 q9.1), fA53 0 1 (fun q9 => absurd q9.2 (by decide)), fA53 0 5 (fun q9 => absurd q9.2 (by decide)), fA53 0 7 (fun q9 => absurd q9.2 (by decide)), fA53 0 9 (fun q9 => absurd q9.2 (by decide))]; exact c_2
            have c_69 : E50 0 1 = .inr (1, [.ref (ad49 0 2), .ref (ad49 0 3), .ref (ad49 0 4), .int (nI len), .int (nI (wl.length))]) := by rw [fE52 0 1 (fun q9 => absurd q9.2 (by decide)), fA53 0 2 (fun q9 => absurd q9.2 (by decide)), fA53 0 3 (fun q9 => absurd q9.2 (by decide)), fA53 0 4 (fun q9 => absurd q9.2 (by decide))]; exact c_5
            have c_70 : E50 0 2 = .inl (kA 1, 40, .inl tx_4) := by rw [fE52 0 2 (fun q9 => absurd q9.2 (by decide))]; exact c_7
            have c_71 : E50 0 3 = .inl (kA 0, 20, .inl fb_4) := by rw [fE52 0 3 (fun q9 => absurd q9.2 (by decide))]; exact c_9
            have c_72 : E50 0 4 = .inl (kA 0, 20, .inl fe_4) := by rw [fE52 0 4 (fun q9 => absurd q9.2 (by decide))]; exact c_11
            have c_73 : E50 0 5 = .inr (2, [.ref (ad49 0 6), .int (nI nd)]) := by rw [fE52 0 5 (fun q9 => absurd q9.2 (by decide)), fA53 0 6 (fun q9 => absurd q9.2 (by decide))]; exact c_14
            have c_74 : E50 0 6 = .inl (kA 4, 12, .inr (.inr (.inr (.inr fd_13)))) := by rw [fE52 0 6 (fun q9 => absurd q9.2 (by decide))]; exact c_16
            have c_75 : E50 0 7 = .inr (3, [.ref (ad49 0 5), .ref (ad49 0 8), .int (nI cs), .int cf_18, pv_18]) := by rw [fE52 0 7 (fun q9 => absurd q9.2 (by decide)), fA53 0 5 (fun q9 => absurd q9.2 (by decide)), fA53 0 8 (fun q9 => absurd q9.2 (by decide))]; exact c_19
            have c_76 : E50 0 8 = .inl (kA 4, 12, .inr (.inr (.inr (.inr fc_18)))) := by rw [fE52 0 8 (fun q9 => absurd q9.2 (by decide))]; exact c_21
            have c_77 : E50 0 9 = .inl (kA 5, 5, .inr (.inr (.inr (.inr fl_23)))) := by rw [fE52 0 9 (fun q9 => absurd q9.2 (by decide))]; exact c_24
            have m_56 : (1 + nd, 0) ∈ RL51 := hm1
            have hP : va_P D xcl (rp ad49 E50 RL51) H := hP
            have hD : va_D A (rp ad49 E50 RL51) := hD
            refine lv_dup hx hb xd_Sh_acceptDescriptor_99 rfl ?_
            refine lv_aload_n hx hb xd_Sh_acceptDescriptor_100 rfl (lv_at hl 3 rfl) ?_
            refine px_get (D := D) (ci := 2) (v := .int (nI nd)) (C := xR_Sh) (T := xT_Sh) (N := 2) hx hb hT xi_Sh hown hK.1 hP m_62 c_73 rfl 1 (by decide) (hT _ k5e_15) (fun _ h9 => h9) rfl xd_Sh_acceptDescriptor_101 ?_
            refine lv_iload_n hx hb xd_Sh_acceptDescriptor_104 rfl (lv_at hl 2 rfl) ?_
            refine lv_iload_n hx hb xd_Sh_acceptDescriptor_105 rfl (lv_at hl 1 rfl) ?_
            have hFc := px_free hD hS hA
            refine va_callv (va_runI (As := [.int (nI nd), .int 0, .int (wN (g 0) wl 2)]) (rest := [.ref (ad49 (1 + nd) 0), .int (nI nd), .ref (ad49 0 6)]) ⟨hx, hb, hml, hown, hT⟩ (xc_Ds_init l D kA H.size ad49 E50 RL51 nd 0 (wN (g 0) wl 2) m_56 c_55) (cwI 3 hT (wT_I k5e_20) rfl rfl rfl (hT _ k5e_19) (hT _ k5e_21) (hT _ k5e_22) rfl (by decide +kernel) ⟨Nat.le_of_ble_eq_true rfl, Nat.le_of_ble_eq_true rfl⟩) (x_preS hK hP hD) rfl rfl hl.1 rfl (lv_room (Nat.le_of_ble_eq_true rfl)) xd_Sh_acceptDescriptor_106 ⟨(Nat.le_of_ble_eq_true rfl), (Nat.le_of_ble_eq_true rfl)⟩) hS (fun q _ h => hFc q h) hFc (fun u79 t H1 locs ht hvm hp80 hB hz1 hk1 hS => ?_)
            obtain ⟨hP1, hD1⟩ := hB
            rw [ht] at hP1
            have hD1 := hD1.weaken (fun _ _ _ h => hFc _ h)
            generalize H1 = H at hP1 hS ⊢
            have hP := hP1
            have hD := hD1
            obtain ⟨ad81, E82, RL83⟩ := u79
            obtain ⟨hp112, p_84, p_85, p_86, p_87, p_88, p_89, p_90, p_91, p_92, p_93, p_94, p_95, p_96, p_97, p_98, p_99, p_100, p_101, p_102, p_103, p_104, p_105, p_106, p_107, p_108, p_109, p_110, p_111⟩ := hp80
            have p_84 : E82 (1 + nd) 0 = .inr (7, [.int (nI nd), .int 0, .int (wN (g 0) wl 2), .ref (ad81 (1 + nd) 1), .ref (ad81 (1 + nd) 9), .ref (ad81 (1 + nd) 10), .ref (ad81 (1 + nd) 2), .ref (ad81 (1 + nd) 11), .ref (ad81 (1 + nd) 12), .ref (ad81 (1 + nd) 3), .ref (ad81 (1 + nd) 4), .int 0]) := p_84
            have p_85 : E82 (1 + nd) 1 = .inr (8, [.ref (ad81 (1 + nd) 5), .int 0]) := p_85
            have p_86 : E82 (1 + nd) 2 = .inr (8, [.ref (ad81 (1 + nd) 6), .int 0]) := p_86
            have p_87 : E82 (1 + nd) 3 = .inr (8, [.ref (ad81 (1 + nd) 7), .int 0]) := p_87
            have p_88 : E82 (1 + nd) 4 = .inr (8, [.ref (ad81 (1 + nd) 8), .int 0]) := p_88
            have p_89 : E82 (1 + nd) 5 = .inl (kA 0, 6, .inl (fun _ => 0)) := p_89
            have p_90 : E82 (1 + nd) 6 = .inl (kA 0, 5, .inl (fun _ => 0)) := p_90
            have p_91 : E82 (1 + nd) 7 = .inl (kA 0, 3, .inl (fun _ => 0)) := p_91
            have p_92 : E82 (1 + nd) 8 = .inl (kA 0, 3, .inl (fun _ => 0)) := p_92
            have p_93 : E82 (1 + nd) 9 = .inl (kA 8, 6, .inr (.inr (.inr (.inr (fun _ => none))))) := p_93
            have p_94 : E82 (1 + nd) 10 = .inl (kA 8, 6, .inr (.inr (.inr (.inr (fun _ => none))))) := p_94
            have p_95 : E82 (1 + nd) 11 = .inl (kA 2, 5, .inl (fun _ => 0)) := p_95
            have p_96 : E82 (1 + nd) 12 = .inl (kA 2, 5, .inl (fun _ => 0)) := p_96
            have p_97 : (∀ b2 o2, ¬ (b2 = 1 + nd ∧ o2 = 0) → ¬ (b2 = 1 + nd ∧ o2 = 1) → ¬ (b2 = 1 + nd ∧ o2 = 2) → ¬ (b2 = 1 + nd ∧ o2 = 3) → ¬ (b2 = 1 + nd ∧ o2 = 4) → ¬ (b2 = 1 + nd ∧ o2 = 5) → ¬ (b2 = 1 + nd ∧ o2 = 6) → ¬ (b2 = 1 + nd ∧ o2 = 7) → ¬ (b2 = 1 + nd ∧ o2 = 8) → ¬ (b2 = 1 + nd ∧ o2 = 9) → ¬ (b2 = 1 + nd ∧ o2 = 10) → ¬ (b2 = 1 + nd ∧ o2 = 11) → ¬ (b2 = 1 + nd ∧ o2 = 12) → E82 b2 o2 = E50 b2 o2) := p_97
            have p_98 : (∀ b2 o2, ¬ (b2 = 1 + nd ∧ o2 = 1) → ¬ (b2 = 1 + nd ∧ o2 = 2) → ¬ (b2 = 1 + nd ∧ o2 = 3) → ¬ (b2 = 1 + nd ∧ o2 = 4) → ¬ (b2 = 1 + nd ∧ o2 = 5) → ¬ (b2 = 1 + nd ∧ o2 = 6) → ¬ (b2 = 1 + nd ∧ o2 = 7) → ¬ (b2 = 1 + nd ∧ o2 = 8) → ¬ (b2 = 1 + nd ∧ o2 = 9) → ¬ (b2 = 1 + nd ∧ o2 = 10) → ¬ (b2 = 1 + nd ∧ o2 = 11) → ¬ (b2 = 1 + nd ∧ o2 = 12) → ad81 b2 o2 = ad49 b2 o2) := p_98
            have p_99 : (∀ x ∈ RL51, x ∈ RL83) := p_99
            have p_100 : (1 + nd, 1) ∈ RL83 := p_100
            have p_101 : (1 + nd, 2) ∈ RL83 := p_101
            have p_102 : (1 + nd, 3) ∈ RL83 := p_102
            have p_103 : (1 + nd, 4) ∈ RL83 := p_103
            have p_104 : (1 + nd, 5) ∈ RL83 := p_104
            have p_105 : (1 + nd, 6) ∈ RL83 := p_105
            have p_106 : (1 + nd, 7) ∈ RL83 := p_106
            have p_107 : (1 + nd, 8) ∈ RL83 := p_107
            have p_108 : (1 + nd, 9) ∈ RL83 := p_108
            have p_109 : (1 + nd, 10) ∈ RL83 := p_109
            have p_110 : (1 + nd, 11) ∈ RL83 := p_110
            have p_111 : (1 + nd, 12) ∈ RL83 := p_111
            refine W.eq (g2 := F0 m 109 ls [.ref (ad81 (1 + nd) 0), .int (nI nd), .ref (ad81 0 6)]) (by rw [p_98 (1 + nd) 0 (fun q9 => absurd q9.2 (by decide)) (fun q9 => absurd q9.2 (by decide)) (fun q9 => absurd q9.2 (by decide)) (fun q9 => absurd q9.2 (by decide)) (fun q9 => absurd q9.2 (by decide)) (fun q9 => absurd q9.2 (by decide)) (fun q9 => absurd q9.2 (by decide)) (fun q9 => absurd q9.2 (by decide)) (fun q9 => absurd q9.2 (by decide)) (fun q9 => absurd q9.2 (by decide)) (fun q9 => absurd q9.2 (by decide)) (fun q9 => absurd q9.2 (by decide)), p_98 0 6 (fun q9 => absurd q9.2 (by decide)) (fun q9 => absurd q9.2 (by decide)) (fun q9 => absurd q9.2 (by decide)) (fun q9 => absurd q9.2 (by decide)) (fun q9 => absurd q9.2 (by decide)) (fun q9 => nb_67 q9.1) (fun q9 => absurd q9.2 (by decide)) (fun q9 => absurd q9.2 (by decide)) (fun q9 => absurd q9.2 (by decide)) (fun q9 => absurd q9.2 (by decide)) (fun q9 => absurd q9.2 (by decide)) (fun q9 => absurd q9.2 (by decide))]) ?_
            have hl : lv_has ls 5 [(4, .int 1), (3, .int (wN (g 0) wl 2)), (2, .int 0), (0, .ref (ad81 0 5)), (1, .ref (ad81 0 1))] := by
              rw [p_98 0 5 (fun q9 => absurd q9.2 (by decide)) (fun q9 => absurd q9.2 (by decide)) (fun q9 => absurd q9.2 (by decide)) (fun q9 => absurd q9.2 (by decide)) (fun q9 => nb_67 q9.1) (fun q9 => absurd q9.2 (by decide)) (fun q9 => absurd q9.2 (by decide)) (fun q9 => absurd q9.2 (by decide)) (fun q9 => absurd q9.2 (by decide)) (fun q9 => absurd q9.2 (by decide)) (fun q9 => absurd q9.2 (by decide)) (fun q9 => absurd q9.2 (by decide)), p_98 0 1 (fun q9 => nb_67 q9.1) (fun q9 => absurd q9.2 (by decide)) (fun q9 => absurd q9.2 (by decide)) (fun q9 => absurd q9.2 (by decide)) (fun q9 => absurd q9.2 (by decide)) (fun q9 => absurd q9.2 (by decide)) (fun q9 => absurd q9.2 (by decide)) (fun q9 => absurd q9.2 (by decide)) (fun q9 => absurd q9.2 (by decide)) (fun q9 => absurd q9.2 (by decide)) (fun q9 => absurd q9.2 (by decide)) (fun q9 => absurd q9.2 (by decide))]; exact hl
            have m_113 : (0, 0) ∈ RL83 := p_99 _ m_57
            have m_114 : (0, 1) ∈ RL83 := p_99 _ m_58
            have m_115 : (0, 2) ∈ RL83 := p_99 _ m_59
            have m_116 : (0, 3) ∈ RL83 := p_99 _ m_60
            have m_117 : (0, 4) ∈ RL83 := p_99 _ m_61
            have m_118 : (0, 5) ∈ RL83 := p_99 _ m_62
            have m_119 : (0, 6) ∈ RL83 := p_99 _ m_63
            have m_120 : (0, 7) ∈ RL83 := p_99 _ m_64
            have m_121 : (0, 8) ∈ RL83 := p_99 _ m_65
            have m_122 : (0, 9) ∈ RL83 := p_99 _ m_66
            have m_123 : (1 + nd, 0) ∈ RL83 := p_99 _ m_56
            have c_124 : E82 0 0 = .inr (0, [.ref (ad81 0 1), .ref (ad81 0 5), .ref (ad81 0 7), .ref (ad81 0 9), .int (nI ml), .int lf_1]) := by rw [p_97 0 0 (fun q9 => nb_67 q9.1) (fun q9 => absurd q9.2 (by decide)) (fun q9 => absurd q9.2 (by decide)) (fun q9 => absurd q9.2 (by decide)) (fun q9 => absurd q9.2 (by decide)) (fun q9 => absurd q9.2 (by decide)) (fun q9 => absurd q9.2 (by decide)) (fun q9 => absurd q9.2 (by decide)) (fun q9 => absurd q9.2 (by decide)) (fun q9 => absurd q9.2 (by decide)) (fun q9 => absurd q9.2 (by decide)) (fun q9 => absurd q9.2 (by decide)) (fun q9 => absurd q9.2 (by decide)), p_98 0 1 (fun q9 => nb_67 q9.1) (fun q9 => absurd q9.2 (by decide)) (fun q9 => absurd q9.2 (by decide)) (fun q9 => absurd q9.2 (by decide)) (fun q9 => absurd q9.2 (by decide)) (fun q9 => absurd q9.2 (by decide)) (fun q9 => absurd q9.2 (by decide)) (fun q9 => absurd q9.2 (by decide)) (fun q9 => absurd q9.2 (by decide)) (fun q9 => absurd q9.2 (by decide)) (fun q9 => absurd q9.2 (by decide)) (fun q9 => absurd q9.2 (by decide)), p_98 0 5 (fun q9 => absurd q9.2 (by decide)) (fun q9 => absurd q9.2 (by decide)) (fun q9 => absurd q9.2 (by decide)) (fun q9 => absurd q9.2 (by decide)) (fun q9 => nb_67 q9.1) (fun q9 => absurd q9.2 (by decide)) (fun q9 => absurd q9.2 (by decide)) (fun q9 => absurd q9.2 (by decide)) (fun q9 => absurd q9.2 (by decide)) (fun q9 => absurd q9.2 (by decide)) (fun q9 => absurd q9.2 (by decide)) (fun q9 => absurd q9.2 (by decide)), p_98 0 7 (fun q9 => absurd q9.2 (by decide)) (fun q9 => absurd q9.2 (by decide)) (fun q9 => absurd q9.2 (by decide)) (fun q9 => absurd q9.2 (by decide)) (fun q9 => absurd q9.2 (by decide)) (fun q9 => absurd q9.2 (by decide)) (fun q9 => nb_67 q9.1) (fun q9 => absurd q9.2 (by decide)) (fun q9 => absurd q9.2 (by decide)) (fun q9 => absurd q9.2 (by decide)) (fun q9 => absurd q9.2 (by decide)) (fun q9 => absurd q9.2 (by decide)), p_98 0 9 (fun q9 => absurd q9.2 (by decide)) (fun q9 => absurd q9.2 (by decide)) (fun q9 => absurd q9.2 (by decide)) (fun q9 => absurd q9.2 (by decide)) (fun q9 => absurd q9.2 (by decide)) (fun q9 => absurd q9.2 (by decide)) (fun q9 => absurd q9.2 (by decide)) (fun q9 => absurd q9.2 (by decide)) (fun q9 => nb_67 q9.1) (fun q9 => absurd q9.2 (by decide)) (fun q9 => absurd q9.2 (by decide)) (fun q9 => absurd q9.2 (by decide))]; exact c_68
            have c_125 : E82 0 1 = .inr (1, [.ref (ad81 0 2), .ref (ad81 0 3), .ref (ad81 0 4), .int (nI len), .int (nI (wl.length))]) := by rw [p_97 0 1 (fun q9 => absurd q9.2 (by decide)) (fun q9 => nb_67 q9.1) (fun q9 => absurd q9.2 (by decide)) (fun q9 => absurd q9.2 (by decide)) (fun q9 => absurd q9.2 (by decide)) (fun q9 => absurd q9.2 (by decide)) (fun q9 => absurd q9.2 (by decide)) (fun q9 => absurd q9.2 (by decide)) (fun q9 => absurd q9.2 (by decide)) (fun q9 => absurd q9.2 (by decide)) (fun q9 => absurd q9.2 (by decide)) (fun q9 => absurd q9.2 (by decide)) (fun q9 => absurd q9.2 (by decide)), p_98 0 2 (fun q9 => absurd q9.2 (by decide)) (fun q9 => nb_67 q9.1) (fun q9 => absurd q9.2 (by decide)) (fun q9 => absurd q9.2 (by decide)) (fun q9 => absurd q9.2 (by decide)) (fun q9 => absurd q9.2 (by decide)) (fun q9 => absurd q9.2 (by decide)) (fun q9 => absurd q9.2 (by decide)) (fun q9 => absurd q9.2 (by decide)) (fun q9 => absurd q9.2 (by decide)) (fun q9 => absurd q9.2 (by decide)) (fun q9 => absurd q9.2 (by decide)), p_98 0 3 (fun q9 => absurd q9.2 (by decide)) (fun q9 => absurd q9.2 (by decide)) (fun q9 => nb_67 q9.1) (fun q9 => absurd q9.2 (by decide)) (fun q9 => absurd q9.2 (by decide)) (fun q9 => absurd q9.2 (by decide)) (fun q9 => absurd q9.2 (by decide)) (fun q9 => absurd q9.2 (by decide)) (fun q9 => absurd q9.2 (by decide)) (fun q9 => absurd q9.2 (by decide)) (fun q9 => absurd q9.2 (by decide)) (fun q9 => absurd q9.2 (by decide)), p_98 0 4 (fun q9 => absurd q9.2 (by decide)) (fun q9 => absurd q9.2 (by decide)) (fun q9 => absurd q9.2 (by decide)) (fun q9 => nb_67 q9.1) (fun q9 => absurd q9.2 (by decide)) (fun q9 => absurd q9.2 (by decide)) (fun q9 => absurd q9.2 (by decide)) (fun q9 => absurd q9.2 (by decide)) (fun q9 => absurd q9.2 (by decide)) (fun q9 => absurd q9.2 (by decide)) (fun q9 => absurd q9.2 (by decide)) (fun q9 => absurd q9.2 (by decide))]; exact c_69
            have c_126 : E82 0 2 = .inl (kA 1, 40, .inl tx_4) := by rw [p_97 0 2 (fun q9 => absurd q9.2 (by decide)) (fun q9 => absurd q9.2 (by decide)) (fun q9 => nb_67 q9.1) (fun q9 => absurd q9.2 (by decide)) (fun q9 => absurd q9.2 (by decide)) (fun q9 => absurd q9.2 (by decide)) (fun q9 => absurd q9.2 (by decide)) (fun q9 => absurd q9.2 (by decide)) (fun q9 => absurd q9.2 (by decide)) (fun q9 => absurd q9.2 (by decide)) (fun q9 => absurd q9.2 (by decide)) (fun q9 => absurd q9.2 (by decide)) (fun q9 => absurd q9.2 (by decide))]; exact c_70
            have c_127 : E82 0 3 = .inl (kA 0, 20, .inl fb_4) := by rw [p_97 0 3 (fun q9 => absurd q9.2 (by decide)) (fun q9 => absurd q9.2 (by decide)) (fun q9 => absurd q9.2 (by decide)) (fun q9 => nb_67 q9.1) (fun q9 => absurd q9.2 (by decide)) (fun q9 => absurd q9.2 (by decide)) (fun q9 => absurd q9.2 (by decide)) (fun q9 => absurd q9.2 (by decide)) (fun q9 => absurd q9.2 (by decide)) (fun q9 => absurd q9.2 (by decide)) (fun q9 => absurd q9.2 (by decide)) (fun q9 => absurd q9.2 (by decide)) (fun q9 => absurd q9.2 (by decide))]; exact c_71
            have c_128 : E82 0 4 = .inl (kA 0, 20, .inl fe_4) := by rw [p_97 0 4 (fun q9 => absurd q9.2 (by decide)) (fun q9 => absurd q9.2 (by decide)) (fun q9 => absurd q9.2 (by decide)) (fun q9 => absurd q9.2 (by decide)) (fun q9 => nb_67 q9.1) (fun q9 => absurd q9.2 (by decide)) (fun q9 => absurd q9.2 (by decide)) (fun q9 => absurd q9.2 (by decide)) (fun q9 => absurd q9.2 (by decide)) (fun q9 => absurd q9.2 (by decide)) (fun q9 => absurd q9.2 (by decide)) (fun q9 => absurd q9.2 (by decide)) (fun q9 => absurd q9.2 (by decide))]; exact c_72
            have c_129 : E82 0 5 = .inr (2, [.ref (ad81 0 6), .int (nI nd)]) := by rw [p_97 0 5 (fun q9 => absurd q9.2 (by decide)) (fun q9 => absurd q9.2 (by decide)) (fun q9 => absurd q9.2 (by decide)) (fun q9 => absurd q9.2 (by decide)) (fun q9 => absurd q9.2 (by decide)) (fun q9 => nb_67 q9.1) (fun q9 => absurd q9.2 (by decide)) (fun q9 => absurd q9.2 (by decide)) (fun q9 => absurd q9.2 (by decide)) (fun q9 => absurd q9.2 (by decide)) (fun q9 => absurd q9.2 (by decide)) (fun q9 => absurd q9.2 (by decide)) (fun q9 => absurd q9.2 (by decide)), p_98 0 6 (fun q9 => absurd q9.2 (by decide)) (fun q9 => absurd q9.2 (by decide)) (fun q9 => absurd q9.2 (by decide)) (fun q9 => absurd q9.2 (by decide)) (fun q9 => absurd q9.2 (by decide)) (fun q9 => nb_67 q9.1) (fun q9 => absurd q9.2 (by decide)) (fun q9 => absurd q9.2 (by decide)) (fun q9 => absurd q9.2 (by decide)) (fun q9 => absurd q9.2 (by decide)) (fun q9 => absurd q9.2 (by decide)) (fun q9 => absurd q9.2 (by decide))]; exact c_73
            have c_130 : E82 0 6 = .inl (kA 4, 12, .inr (.inr (.inr (.inr fd_13)))) := by rw [p_97 0 6 (fun q9 => absurd q9.2 (by decide)) (fun q9 => absurd q9.2 (by decide)) (fun q9 => absurd q9.2 (by decide)) (fun q9 => absurd q9.2 (by decide)) (fun q9 => absurd q9.2 (by decide)) (fun q9 => absurd q9.2 (by decide)) (fun q9 => nb_67 q9.1) (fun q9 => absurd q9.2 (by decide)) (fun q9 => absurd q9.2 (by decide)) (fun q9 => absurd q9.2 (by decide)) (fun q9 => absurd q9.2 (by decide)) (fun q9 => absurd q9.2 (by decide)) (fun q9 => absurd q9.2 (by decide))]; exact c_74
            have c_131 : E82 0 7 = .inr (3, [.ref (ad81 0 5), .ref (ad81 0 8), .int (nI cs), .int cf_18, pv_18]) := by rw [p_97 0 7 (fun q9 => absurd q9.2 (by decide)) (fun q9 => absurd q9.2 (by decide)) (fun q9 => absurd q9.2 (by decide)) (fun q9 => absurd q9.2 (by decide)) (fun q9 => absurd q9.2 (by decide)) (fun q9 => absurd q9.2 (by decide)) (fun q9 => absurd q9.2 (by decide)) (fun q9 => nb_67 q9.1) (fun q9 => absurd q9.2 (by decide)) (fun q9 => absurd q9.2 (by decide)) (fun q9 => absurd q9.2 (by decide)) (fun q9 => absurd q9.2 (by decide)) (fun q9 => absurd q9.2 (by decide)), p_98 0 5 (fun q9 => absurd q9.2 (by decide)) (fun q9 => absurd q9.2 (by decide)) (fun q9 => absurd q9.2 (by decide)) (fun q9 => absurd q9.2 (by decide)) (fun q9 => nb_67 q9.1) (fun q9 => absurd q9.2 (by decide)) (fun q9 => absurd q9.2 (by decide)) (fun q9 => absurd q9.2 (by decide)) (fun q9 => absurd q9.2 (by decide)) (fun q9 => absurd q9.2 (by decide)) (fun q9 => absurd q9.2 (by decide)) (fun q9 => absurd q9.2 (by decide)), p_98 0 8 (fun q9 => absurd q9.2 (by decide)) (fun q9 => absurd q9.2 (by decide)) (fun q9 => absurd q9.2 (by decide)) (fun q9 => absurd q9.2 (by decide)) (fun q9 => absurd q9.2 (by decide)) (fun q9 => absurd q9.2 (by decide)) (fun q9 => absurd q9.2 (by decide)) (fun q9 => nb_67 q9.1) (fun q9 => absurd q9.2 (by decide)) (fun q9 => absurd q9.2 (by decide)) (fun q9 => absurd q9.2 (by decide)) (fun q9 => absurd q9.2 (by decide))]; exact c_75
            have c_132 : E82 0 8 = .inl (kA 4, 12, .inr (.inr (.inr (.inr fc_18)))) := by rw [p_97 0 8 (fun q9 => absurd q9.2 (by decide)) (fun q9 => absurd q9.2 (by decide)) (fun q9 => absurd q9.2 (by decide)) (fun q9 => absurd q9.2 (by decide)) (fun q9 => absurd q9.2 (by decide)) (fun q9 => absurd q9.2 (by decide)) (fun q9 => absurd q9.2 (by decide)) (fun q9 => absurd q9.2 (by decide)) (fun q9 => nb_67 q9.1) (fun q9 => absurd q9.2 (by decide)) (fun q9 => absurd q9.2 (by decide)) (fun q9 => absurd q9.2 (by decide)) (fun q9 => absurd q9.2 (by decide))]; exact c_76
            have c_133 : E82 0 9 = .inl (kA 5, 5, .inr (.inr (.inr (.inr fl_23)))) := by rw [p_97 0 9 (fun q9 => absurd q9.2 (by decide)) (fun q9 => absurd q9.2 (by decide)) (fun q9 => absurd q9.2 (by decide)) (fun q9 => absurd q9.2 (by decide)) (fun q9 => absurd q9.2 (by decide)) (fun q9 => absurd q9.2 (by decide)) (fun q9 => absurd q9.2 (by decide)) (fun q9 => absurd q9.2 (by decide)) (fun q9 => absurd q9.2 (by decide)) (fun q9 => nb_67 q9.1) (fun q9 => absurd q9.2 (by decide)) (fun q9 => absurd q9.2 (by decide)) (fun q9 => absurd q9.2 (by decide))]; exact c_77
            have hP : va_P D xcl (rp ad81 E82 RL83) H := hP
            have hD : va_D A (rp ad81 E82 RL83) := hD
            refine px_aast (i := nd) (r := (xR_Ds, xT_Ds, 12)) hx hb hK.1 hP hD hS m_119 c_130 4 rfl m_123 p_84 rfl (by omega) (by decide) xd_Sh_acceptDescriptor_109 (fun H locs hP hD hS => ?_)
            have hP : va_P D xcl (rp ad81 (up2 E82 0 6 (.inl (kA 4, 12, .inr (.inr (.inr (.inr (va_up fd_13 nd (some (ad81 (1 + nd) 0))))))))) RL83) H := hP
            have hD : va_D A (rp ad81 (up2 E82 0 6 (.inl (kA 4, 12, .inr (.inr (.inr (.inr (va_up fd_13 nd (some (ad81 (1 + nd) 0))))))))) RL83) := hD
            generalize hE135 : up2 E82 0 6 (.inl (kA 4, 12, .inr (.inr (.inr (.inr (va_up fd_13 nd (some (ad81 (1 + nd) 0)))))))) = E134 at hP hD
            have fE136 : ∀ b2 o2, ¬ (b2 = 0 ∧ o2 = 6) → E134 b2 o2 = E82 b2 o2 := fun b2 o2 h9 => by rw [← hE135]; exact up2_ne (nr_or h9)
            have c_137 : E134 0 6 = .inl (kA 4, 12, .inr (.inr (.inr (.inr (va_up fd_13 nd (some (ad81 (1 + nd) 0))))))) := by rw [← hE135]; exact up2_eq
            have c_138 : E134 (1 + nd) 0 = .inr (7, [.int (nI nd), .int 0, .int (wN (g 0) wl 2), .ref (ad81 (1 + nd) 1), .ref (ad81 (1 + nd) 9), .ref (ad81 (1 + nd) 10), .ref (ad81 (1 + nd) 2), .ref (ad81 (1 + nd) 11), .ref (ad81 (1 + nd) 12), .ref (ad81 (1 + nd) 3), .ref (ad81 (1 + nd) 4), .int 0]) := (fE136 (1 + nd) 0 (fun q9 => absurd q9.2 (by decide))).trans p_84
            have c_139 : E134 (1 + nd) 1 = .inr (8, [.ref (ad81 (1 + nd) 5), .int 0]) := (fE136 (1 + nd) 1 (fun q9 => absurd q9.2 (by decide))).trans p_85
            have c_140 : E134 (1 + nd) 2 = .inr (8, [.ref (ad81 (1 + nd) 6), .int 0]) := (fE136 (1 + nd) 2 (fun q9 => absurd q9.2 (by decide))).trans p_86
            have c_141 : E134 (1 + nd) 3 = .inr (8, [.ref (ad81 (1 + nd) 7), .int 0]) := (fE136 (1 + nd) 3 (fun q9 => absurd q9.2 (by decide))).trans p_87
            have c_142 : E134 (1 + nd) 4 = .inr (8, [.ref (ad81 (1 + nd) 8), .int 0]) := (fE136 (1 + nd) 4 (fun q9 => absurd q9.2 (by decide))).trans p_88
            have c_143 : E134 (1 + nd) 5 = .inl (kA 0, 6, .inl (fun _ => 0)) := (fE136 (1 + nd) 5 (fun q9 => absurd q9.2 (by decide))).trans p_89
            have nb_144 : ¬ (1 + nd = 0) := by omega
            have c_145 : E134 (1 + nd) 6 = .inl (kA 0, 5, .inl (fun _ => 0)) := (fE136 (1 + nd) 6 (fun q9 => nb_144 q9.1)).trans p_90
            have c_146 : E134 (1 + nd) 7 = .inl (kA 0, 3, .inl (fun _ => 0)) := (fE136 (1 + nd) 7 (fun q9 => absurd q9.2 (by decide))).trans p_91
            have c_147 : E134 (1 + nd) 8 = .inl (kA 0, 3, .inl (fun _ => 0)) := (fE136 (1 + nd) 8 (fun q9 => absurd q9.2 (by decide))).trans p_92
            have c_148 : E134 (1 + nd) 9 = .inl (kA 8, 6, .inr (.inr (.inr (.inr (fun _ => none))))) := (fE136 (1 + nd) 9 (fun q9 => absurd q9.2 (by decide))).trans p_93
            have c_149 : E134 (1 + nd) 10 = .inl (kA 8, 6, .inr (.inr (.inr (.inr (fun _ => none))))) := (fE136 (1 + nd) 10 (fun q9 => absurd q9.2 (by decide))).trans p_94
            have c_150 : E134 (1 + nd) 11 = .inl (kA 2, 5, .inl (fun _ => 0)) := (fE136 (1 + nd) 11 (fun q9 => absurd q9.2 (by decide))).trans p_95
            have c_151 : E134 (1 + nd) 12 = .inl (kA 2, 5, .inl (fun _ => 0)) := (fE136 (1 + nd) 12 (fun q9 => absurd q9.2 (by decide))).trans p_96
            have c_152 : E134 0 0 = .inr (0, [.ref (ad81 0 1), .ref (ad81 0 5), .ref (ad81 0 7), .ref (ad81 0 9), .int (nI ml), .int lf_1]) := (fE136 0 0 (fun q9 => absurd q9.2 (by decide))).trans c_124
            have c_153 : E134 0 1 = .inr (1, [.ref (ad81 0 2), .ref (ad81 0 3), .ref (ad81 0 4), .int (nI len), .int (nI (wl.length))]) := (fE136 0 1 (fun q9 => absurd q9.2 (by decide))).trans c_125
            have c_154 : E134 0 2 = .inl (kA 1, 40, .inl tx_4) := (fE136 0 2 (fun q9 => absurd q9.2 (by decide))).trans c_126
            have c_155 : E134 0 3 = .inl (kA 0, 20, .inl fb_4) := (fE136 0 3 (fun q9 => absurd q9.2 (by decide))).trans c_127
            have c_156 : E134 0 4 = .inl (kA 0, 20, .inl fe_4) := (fE136 0 4 (fun q9 => absurd q9.2 (by decide))).trans c_128
            have c_157 : E134 0 5 = .inr (2, [.ref (ad81 0 6), .int (nI nd)]) := (fE136 0 5 (fun q9 => absurd q9.2 (by decide))).trans c_129
            have c_158 : E134 0 7 = .inr (3, [.ref (ad81 0 5), .ref (ad81 0 8), .int (nI cs), .int cf_18, pv_18]) := (fE136 0 7 (fun q9 => absurd q9.2 (by decide))).trans c_131
            have c_159 : E134 0 8 = .inl (kA 4, 12, .inr (.inr (.inr (.inr fc_18)))) := (fE136 0 8 (fun q9 => absurd q9.2 (by decide))).trans c_132
            have c_160 : E134 0 9 = .inl (kA 5, 5, .inr (.inr (.inr (.inr fl_23)))) := (fE136 0 9 (fun q9 => absurd q9.2 (by decide))).trans c_133
            refine lv_aload_n hx hb xd_Sh_acceptDescriptor_110 rfl (lv_at hl 3 rfl) ?_
            refine lv_dup hx hb xd_Sh_acceptDescriptor_111 rfl ?_
            refine px_get (D := D) (ci := 2) (v := .int (nI nd)) (C := xR_Sh) (T := xT_Sh) (N := 2) hx hb hT xi_Sh hown hK.1 hP m_118 c_157 rfl 1 (by decide) (hT _ k5e_15) (fun _ h9 => h9) rfl xd_Sh_acceptDescriptor_112 ?_
            refine lv_iconst (v := 1) hx hb xd_Sh_acceptDescriptor_115 (by decide) ?_
            refine lv_iadd hx hb xd_Sh_acceptDescriptor_116 ?_
            refine xn_top (y := nI (nd + 1)) (nI_add nd 1) ?_
            refine px_put (D := D) (ci := 2) (v := .int (nI (nd + 1))) (ty := .int) (C := xR_Sh) (T := xT_Sh) (N := 2) hx hb hT xi_Sh xt_Sh xt_Sh_ok xn_Sh hown hK.1 hP hD hS m_118 c_157 rfl 1 (by decide) (hT _ k5e_15) (fun _ h9 => h9) rfl (by decide +kernel) rfl rfl (Nat.le_of_ble_eq_true rfl) xd_Sh_acceptDescriptor_117 (fun H locs hP hD hS => ?_)
            have hP : va_P D xcl (rp ad81 (up2 E134 0 5 (.inr (2, [.ref (ad81 0 6), .int (nI (nd + 1))]))) RL83) H := hP
            have hD : va_D A (rp ad81 (up2 E134 0 5 (.inr (2, [.ref (ad81 0 6), .int (nI (nd + 1))]))) RL83) := hD
            generalize hE162 : up2 E134 0 5 (.inr (2, [.ref (ad81 0 6), .int (nI (nd + 1))])) = E161 at hP hD
            have fE163 : ∀ b2 o2, ¬ (b2 = 0 ∧ o2 = 5) → E161 b2 o2 = E134 b2 o2 := fun b2 o2 h9 => by rw [← hE162]; exact up2_ne (nr_or h9)
            have c_164 : E161 0 5 = .inr (2, [.ref (ad81 0 6), .int (nI (nd + 1))]) := by rw [← hE162]; exact up2_eq
            have c_165 : E161 0 6 = .inl (kA 4, 12, .inr (.inr (.inr (.inr (va_up fd_13 nd (some (ad81 (1 + nd) 0))))))) := (fE163 0 6 (fun q9 => absurd q9.2 (by decide))).trans c_137
            have c_166 : E161 (1 + nd) 0 = .inr (7, [.int (nI nd), .int 0, .int (wN (g 0) wl 2), .ref (ad81 (1 + nd) 1), .ref (ad81 (1 + nd) 9), .ref (ad81 (1 + nd) 10), .ref (ad81 (1 + nd) 2), .ref (ad81 (1 + nd) 11), .ref (ad81 (1 + nd) 12), .ref (ad81 (1 + nd) 3), .ref (ad81 (1 + nd) 4), .int 0]) := (fE163 (1 + nd) 0 (fun q9 => absurd q9.2 (by decide))).trans c_138
            have c_167 : E161 (1 + nd) 1 = .inr (8, [.ref (ad81 (1 + nd) 5), .int 0]) := (fE163 (1 + nd) 1 (fun q9 => absurd q9.2 (by decide))).trans c_139
            have c_168 : E161 (1 + nd) 2 = .inr (8, [.ref (ad81 (1 + nd) 6), .int 0]) := (fE163 (1 + nd) 2 (fun q9 => absurd q9.2 (by decide))).trans c_140
            have c_169 : E161 (1 + nd) 3 = .inr (8, [.ref (ad81 (1 + nd) 7), .int 0]) := (fE163 (1 + nd) 3 (fun q9 => absurd q9.2 (by decide))).trans c_141
            have c_170 : E161 (1 + nd) 4 = .inr (8, [.ref (ad81 (1 + nd) 8), .int 0]) := (fE163 (1 + nd) 4 (fun q9 => absurd q9.2 (by decide))).trans c_142
            have c_171 : E161 (1 + nd) 5 = .inl (kA 0, 6, .inl (fun _ => 0)) := (fE163 (1 + nd) 5 (fun q9 => nb_144 q9.1)).trans c_143
            have c_172 : E161 (1 + nd) 6 = .inl (kA 0, 5, .inl (fun _ => 0)) := (fE163 (1 + nd) 6 (fun q9 => absurd q9.2 (by decide))).trans c_145
            have c_173 : E161 (1 + nd) 7 = .inl (kA 0, 3, .inl (fun _ => 0)) := (fE163 (1 + nd) 7 (fun q9 => absurd q9.2 (by decide))).trans c_146
            have c_174 : E161 (1 + nd) 8 = .inl (kA 0, 3, .inl (fun _ => 0)) := (fE163 (1 + nd) 8 (fun q9 => absurd q9.2 (by decide))).trans c_147
            have c_175 : E161 (1 + nd) 9 = .inl (kA 8, 6, .inr (.inr (.inr (.inr (fun _ => none))))) := (fE163 (1 + nd) 9 (fun q9 => absurd q9.2 (by decide))).trans c_148
            have c_176 : E161 (1 + nd) 10 = .inl (kA 8, 6, .inr (.inr (.inr (.inr (fun _ => none))))) := (fE163 (1 + nd) 10 (fun q9 => absurd q9.2 (by decide))).trans c_149
            have c_177 : E161 (1 + nd) 11 = .inl (kA 2, 5, .inl (fun _ => 0)) := (fE163 (1 + nd) 11 (fun q9 => absurd q9.2 (by decide))).trans c_150
            have c_178 : E161 (1 + nd) 12 = .inl (kA 2, 5, .inl (fun _ => 0)) := (fE163 (1 + nd) 12 (fun q9 => absurd q9.2 (by decide))).trans c_151
            have c_179 : E161 0 0 = .inr (0, [.ref (ad81 0 1), .ref (ad81 0 5), .ref (ad81 0 7), .ref (ad81 0 9), .int (nI ml), .int lf_1]) := (fE163 0 0 (fun q9 => absurd q9.2 (by decide))).trans c_152
            have c_180 : E161 0 1 = .inr (1, [.ref (ad81 0 2), .ref (ad81 0 3), .ref (ad81 0 4), .int (nI len), .int (nI (wl.length))]) := (fE163 0 1 (fun q9 => absurd q9.2 (by decide))).trans c_153
            have c_181 : E161 0 2 = .inl (kA 1, 40, .inl tx_4) := (fE163 0 2 (fun q9 => absurd q9.2 (by decide))).trans c_154
            have c_182 : E161 0 3 = .inl (kA 0, 20, .inl fb_4) := (fE163 0 3 (fun q9 => absurd q9.2 (by decide))).trans c_155
            have c_183 : E161 0 4 = .inl (kA 0, 20, .inl fe_4) := (fE163 0 4 (fun q9 => absurd q9.2 (by decide))).trans c_156
            have c_184 : E161 0 7 = .inr (3, [.ref (ad81 0 5), .ref (ad81 0 8), .int (nI cs), .int cf_18, pv_18]) := (fE163 0 7 (fun q9 => absurd q9.2 (by decide))).trans c_158
            have c_185 : E161 0 8 = .inl (kA 4, 12, .inr (.inr (.inr (.inr fc_18)))) := (fE163 0 8 (fun q9 => absurd q9.2 (by decide))).trans c_159
            have c_186 : E161 0 9 = .inl (kA 5, 5, .inr (.inr (.inr (.inr fl_23)))) := (fE163 0 9 (fun q9 => absurd q9.2 (by decide))).trans c_160
            have hTDn : TD (va_up (va_up g 3 (upd (g 3) nd 0)) 4 (upd (g 4) nd (wN (g 0) wl 2))) (E161 (1 + nd)) nd := TD_mk (k0 := 0) (k1 := 0) (k2 := 0) (k3 := 0) (by omega) (by omega) (by omega) (by omega) c_166 c_167 c_168 c_169 c_170 c_171 c_172 c_173 c_174 c_177 c_178 (TT_D ((hZI nd (by omega)).1 (Nat.le_refl _))) (fun i9 hi9 => absurd hi9 (by omega))
            have hTD2 : TDs (va_up (va_up g 3 (upd (g 3) nd 0)) 4 (upd (g 4) nd (wN (g 0) wl 2))) E161 (nd + 1) := TDs_add hDIs (fun d9 hd9 => fun2 fun o9 => by show E161 (1 + d9) o9 = _; rw [fE163 (1 + d9) o9 (by omega), fE136 (1 + d9) o9 (by omega), p_97 (1 + d9) o9 (by omega) (by omega) (by omega) (by omega) (by omega) (by omega) (by omega) (by omega) (by omega) (by omega) (by omega) (by omega) (by omega), fE52 (1 + d9) o9 (by omega)]) (fun d9 hd9 => AG_D (by omega)) hTDn hTD
            have hFRL : FRL ml nd ad ad81 E E161 := ⟨fun n9 hn9 => ⟨fun2 fun o9 => by show E161 (20 + n9) o9 = _; rw [fE163 (20 + n9) o9 (by omega), fE136 (20 + n9) o9 (by omega), p_97 (20 + n9) o9 (by omega) (by omega) (by omega) (by omega) (by omega) (by omega) (by omega) (by omega) (by omega) (by omega) (by omega) (by omega) (by omega), fE52 (20 + n9) o9 (by omega)], fun2 fun o9 => by show ad81 (20 + n9) o9 = _; rw [p_98 (20 + n9) o9 (by omega) (by omega) (by omega) (by omega) (by omega) (by omega) (by omega) (by omega) (by omega) (by omega) (by omega) (by omega), fA53 (20 + n9) o9 (by omega)]⟩, fun d9 hd9 => by show ad81 (1 + d9) 0 = _; rw [p_98 (1 + d9) 0 (by omega) (by omega) (by omega) (by omega) (by omega) (by omega) (by omega) (by omega) (by omega) (by omega) (by omega) (by omega), fA53 (1 + d9) 0 (by omega)], by show E161 0 0 = _; rw [fE163 0 0 (by omega), fE136 0 0 (by omega), p_97 0 0 (by omega) (by omega) (by omega) (by omega) (by omega) (by omega) (by omega) (by omega) (by omega) (by omega) (by omega) (by omega) (by omega), fE52 0 0 (by omega)]⟩
            have hCI : CI kA ad81 E161 RL83 ml (nd + 1) len wl.length cs := ⟨(fun o9 h9 => p_99 _ (hs54 _ (hmB o9 h9))), ⟨lf_1, c_179⟩, ⟨tx_4, fb_4, fe_4, (by omega), (by omega), c_180, c_181, c_182, c_183, hws_4⟩, ⟨(va_up fd_13 nd (some (ad81 (1 + nd) 0))), (by omega), c_164, c_165, (DS_add hds_13 (fun d9 hd9 => by show ad81 (1 + d9) 0 = _; rw [p_98 (1 + d9) 0 (by omega) (by omega) (by omega) (by omega) (by omega) (by omega) (by omega) (by omega) (by omega) (by omega) (by omega) (by omega), fA53 (1 + d9) 0 (by omega)]))⟩, ⟨cf_18, pv_18, fc_18, (by omega), (PV_ad hpv_18 (fun n9 hn9 => by show ad81 (20 + n9) 0 = _; rw [p_98 (20 + n9) 0 (by omega) (by omega) (by omega) (by omega) (by omega) (by omega) (by omega) (by omega) (by omega) (by omega) (by omega) (by omega), fA53 (20 + n9) 0 (by omega)])), c_184, c_185, (FC_ad hfc_18 (fun d9 hd9 => by show ad81 (1 + d9) 0 = _; rw [p_98 (1 + d9) 0 (by omega) (by omega) (by omega) (by omega) (by omega) (by omega) (by omega) (by omega) (by omega) (by omega) (by omega) (by omega), fA53 (1 + d9) 0 (by omega)]) (by omega))⟩, ⟨fl_23, (by omega), c_186, (LA_ad hla_23 (fun n9 hn9 => by show ad81 (20 + n9) 0 = _; rw [p_98 (20 + n9) 0 (by omega) (by omega) (by omega) (by omega) (by omega) (by omega) (by omega) (by omega) (by omega) (by omega) (by omega) (by omega), fA53 (20 + n9) 0 (by omega)]))⟩, (DIs_add (fun d9 hd9 => fun2 fun o9 => by show E161 (1 + d9) o9 = _; rw [fE163 (1 + d9) o9 (by omega), fE136 (1 + d9) o9 (by omega), p_97 (1 + d9) o9 (by omega) (by omega) (by omega) (by omega) (by omega) (by omega) (by omega) (by omega) (by omega) (by omega) (by omega) (by omega) (by omega), fE52 (1 + d9) o9 (by omega)]) (fun d9 hd9 => fun2 fun o9 => by show ad81 (1 + d9) o9 = _; rw [p_98 (1 + d9) o9 (by omega) (by omega) (by omega) (by omega) (by omega) (by omega) (by omega) (by omega) (by omega) (by omega) (by omega) (by omega), fA53 (1 + d9) o9 (by omega)]) (fun _ h9 => p_99 _ (hs54 _ h9)) ⟨(fun o9 ho9 => by
          have ho8 : o9 = 0 ∨ o9 = 1 ∨ o9 = 2 ∨ o9 = 3 ∨ o9 = 4 ∨ o9 = 5 ∨ o9 = 6 ∨ o9 = 7 ∨ o9 = 8 ∨ o9 = 9 ∨ o9 = 10 ∨ o9 = 11 ∨ o9 = 12 := by omega
          rcases ho8 with rfl | rfl | rfl | rfl | rfl | rfl | rfl | rfl | rfl | rfl | rfl | rfl | rfl
          · exact m_123
          · exact p_100
          · exact p_101
          · exact p_102
          · exact p_103
          · exact p_104
          · exact p_105
          · exact p_106
          · exact p_107
          · exact p_108
          · exact p_109
          · exact p_110
          · exact p_111), 0, (wN (g 0) wl 2), 0, 0, 0, 0, 0, (fun _ => 0), (fun _ => 0), (fun _ => 0), (fun _ => 0), (fun _ => none), (fun _ => none), (fun _ => 0), (fun _ => 0), (by omega), (by omega), (by omega), (by omega), c_166, c_167, c_168, c_169, c_170, c_171, c_172, c_173, c_174, c_175, c_176, c_177, c_178, fun i9 hi9 => absurd hi9 (by omega)⟩ hDIs), (LIs_same (by omega) (fun n9 hn9 => fun2 fun o9 => by show E161 (20 + n9) o9 = _; rw [fE163 (20 + n9) o9 (by omega), fE136 (20 + n9) o9 (by omega), p_97 (20 + n9) o9 (by omega) (by omega) (by omega) (by omega) (by omega) (by omega) (by omega) (by omega) (by omega) (by omega) (by omega) (by omega) (by omega), fE52 (20 + n9) o9 (by omega)]) (fun n9 hn9 => fun2 fun o9 => by show ad81 (20 + n9) o9 = _; rw [p_98 (20 + n9) o9 (by omega) (by omega) (by omega) (by omega) (by omega) (by omega) (by omega) (by omega) (by omega) (by omega) (by omega) (by omega), fA53 (20 + n9) o9 (by omega)]) (fun d9 hd9 => by show ad81 (1 + d9) 0 = _; rw [p_98 (1 + d9) 0 (by omega) (by omega) (by omega) (by omega) (by omega) (by omega) (by omega) (by omega) (by omega) (by omega) (by omega) (by omega), fA53 (1 + d9) 0 (by omega)]) (fun _ h9 => p_99 _ (hs54 _ h9)) hLIs)⟩
            have hA00 : ad81 0 0 = ad 0 0 := by show ad81 0 0 = _; rw [p_98 0 0 (by omega) (by omega) (by omega) (by omega) (by omega) (by omega) (by omega) (by omega) (by omega) (by omega) (by omega) (by omega), fA53 0 0 (by omega)]
            obtain ⟨hmB, hDk, hLi, hSh, hCh, hLa, hDIs, hLIs⟩ := id hCI
            refine lv_iconst (v := 1) hx hb xd_Sh_acceptDescriptor_120 (by decide) ?_
            refine W.widen (k := 13) (n := 66) (Nat.le_of_ble_eq_true rfl) (Nat.le_of_ble_eq_true rfl) ?_
            exact W.iret (v := 1) hx hb hr (fun t ht hW => ⟨⟨1, (ad81, E161, RL83), rfl, (by
        rw [lD_y (fF_0 hw7) rfl ⟨by omega, Or.inl hw7, hc38, fun j hj q => ff_no z44 j hj ⟨q.1.trans (fF_0 hw7).symm, q.2⟩, by omega⟩]
        exact ⟨hCI, hTD2, hA00, hFRL⟩), by rw [ht]; exact hP, hD⟩, hS.F ht⟩) hS.2.2 xd_Sh_acceptDescriptor_121
          · refine lv_bipush (v := (-2)) hx hb xd_Sh_acceptDescriptor_85 (by decide) ?_
            refine W.widen (k := 13) (n := 66) (Nat.le_of_ble_eq_true rfl) (Nat.le_of_ble_eq_true rfl) ?_
            exact W.iret (v := (-2)) hx hb hr (fun t ht hW => ⟨⟨(-2), (ad, E, RL), rfl, (by rw [lD_n (fun q => absurd q.2.2.2.2 (by omega))]; exact ⟨hCI, hTD, rfl, FRL_rf⟩), by rw [ht]; exact hP, hD⟩, hS.F ht⟩) hS.2.2 xd_Sh_acceptDescriptor_87
        · refine W.eq (g2 := F0 m 71 ls [.ref (ad (1 + z45) 0)]) rfl ?_
          refine lv_ifnull hx hb xd_Sh_acceptDescriptor_71 ?_
          refine lv_iconst (v := (-1)) hx hb xd_Sh_acceptDescriptor_74 (by decide) ?_
          refine W.widen (k := 13) (n := 66) (Nat.le_of_ble_eq_true rfl) (Nat.le_of_ble_eq_true rfl) ?_
          exact W.iret (v := (-1)) hx hb hr (fun t ht hW => ⟨⟨(-1), (ad, E, RL), rfl, (by rw [lD_n (fun q => q.2.2.2.1 z45 z46 ⟨(ff_is z47).2.1.1.trans (fF_0 hw7), (ff_is z47).2.1.2⟩)]; exact ⟨hCI, hTD, rfl, FRL_rf⟩), by rw [ht]; exact hP, hD⟩, hS.F ht⟩) hS.2.2 xd_Sh_acceptDescriptor_75
  · have hw7 : ¬ wS (g 0) wl 1 [48] := by have q := z30; rw [zw7] at q; exact q
    refine W.eq (g2 := F0 m 7 ls [.int 0]) rfl ?_
    refine lv_if_eq (tgt := 14) hx hb xd_Sh_acceptDescriptor_7 (by decide) (fun _ => ?_) (fun hc187 => absurd (by decide) hc187)
    refine lv_aload_n hx hb xd_Sh_acceptDescriptor_14 rfl (lv_at hl 1 rfl) ?_
    refine lv_iconst (v := 1) hx hb xd_Sh_acceptDescriptor_15 (by decide) ?_
    refine va_ldcS (q := Z.1 8) hx hb hown hZ.2.2.2.1.2.2.2.2.2.2.2.2.1 xd_Sh_acceptDescriptor_16 ?_
    have hFc := px_free hD hS hA
    refine va_calli (va_runV (As := [.int 1, .ref (Z.1 8)]) (rest := []) ⟨hx, hb, hml, hown, hT⟩ (xc_Li_wordIsX l D kA H.size ad E RL Z g ml nd len lt wl cs 1 8 (by first | assumption | omega) (by first | assumption | omega) (by first | assumption | omega) (by first | assumption | omega)) (cwV 2 hT (wT_V k5e_1 k5e_2 k5e_3 k5e_4 k5e_0) rfl rfl rfl (by decide +kernel) ⟨Nat.le_of_ble_eq_true rfl, Nat.le_of_ble_eq_true rfl⟩) (px_preVZ hK hP hD m_6 c_5 rfl hFc (hZ.kept hS)) rfl rfl hl.1 rfl (lv_room (Nat.le_of_ble_eq_true rfl)) xd_Sh_acceptDescriptor_18 ⟨(Nat.le_of_ble_eq_true rfl), (Nat.le_of_ble_eq_true rfl)⟩) hS (fun q _ h => hFc q h) hFc (fun r188 u189 t H1 locs ht hvm hp190 hB hz1 hk1 hS => ?_)
    obtain ⟨hP1, hD1⟩ := hB
    rw [ht] at hP1
    have hD1 := hD1.weaken (fun _ _ _ h => hFc _ h)
    generalize H1 = H at hP1 hS ⊢
    have hP := hP1
    have hD := hD1
    have hP : va_P D xcl (rp ad E RL) H := hP
    have hD : va_D A (rp ad E RL) := hD
    rcases hp190 with ⟨rfl, z191⟩ | ⟨rfl, z192⟩
    · have hw8 : wS (g 0) wl 1 [49] := by have q := z191; rw [zw8] at q; exact q
      refine W.eq (g2 := F0 m 21 ls [.int 1]) rfl ?_
      refine lv_if_eq (tgt := 28) hx hb xd_Sh_acceptDescriptor_21 (by decide) (fun hc193 => absurd hc193 (by decide)) (fun _ => ?_)
      refine lv_iconst (v := 1) hx hb xd_Sh_acceptDescriptor_24 (by decide) ?_
      refine lv_goto (tgt := 29) hx hb xd_Sh_acceptDescriptor_25 (by decide) ?_
      refine lv_istore_n hx hb xd_Sh_acceptDescriptor_29 rfl hl (Nat.le_of_ble_eq_true rfl) rfl (fun ls hl => ?_)
      have hl : lv_has ls 5 [(2, .int 1), (0, .ref (ad 0 5)), (1, .ref (ad 0 1))] := hl
      refine lv_aload_n hx hb xd_Sh_acceptDescriptor_30 rfl (lv_at hl 2 rfl) ?_
      refine lv_iconst (v := 2) hx hb xd_Sh_acceptDescriptor_31 (by decide) ?_
      have hFc := px_free hD hS hA
      refine va_calli (va_runV (As := [.int 2]) (rest := []) ⟨hx, hb, hml, hown, hT⟩ (xc_Li_nameAtX l D kA H.size ad E RL g ml nd len lt wl cs 2 (by first | assumption | omega) (by first | assumption | omega) (by first | assumption | omega)) (cwV 1 hT (wT_V k5e_6 k5e_7 k5e_8 k5e_4 k5e_5) rfl rfl rfl (by decide +kernel) ⟨Nat.le_of_ble_eq_true rfl, Nat.le_of_ble_eq_true rfl⟩) (px_preV hK hP hD m_6 c_5 rfl) rfl rfl hl.1 rfl (lv_room (Nat.le_of_ble_eq_true rfl)) xd_Sh_acceptDescriptor_32 ⟨(Nat.le_of_ble_eq_true rfl), (Nat.le_of_ble_eq_true rfl)⟩) hS (fun q _ h => hFc q h) hFc (fun r194 u195 t H1 locs ht hvm hp196 hB hz1 hk1 hS => ?_)
      obtain ⟨hP1, hD1⟩ := hB
      rw [ht] at hP1
      have hD1 := hD1.weaken (fun _ _ _ h => hFc _ h)
      generalize H1 = H at hP1 hS ⊢
      have hP := hP1
      have hD := hD1
      have hP : va_P D xcl (rp ad E RL) H := hP
      have hD : va_D A (rp ad E RL) := hD
      have hp196 : r194 = wN (g 0) wl 2 := hp196
      subst hp196
      have hP : va_P D xcl (rp ad E RL) H := hP
      have hD : va_D A (rp ad E RL) := hD
      refine lv_istore_n hx hb xd_Sh_acceptDescriptor_35 rfl hl (Nat.le_of_ble_eq_true rfl) rfl (fun ls hl => ?_)
      have hl : lv_has ls 5 [(3, .int (wN (g 0) wl 2)), (2, .int 1), (0, .ref (ad 0 5)), (1, .ref (ad 0 1))] := hl
      refine lv_aload_n hx hb xd_Sh_acceptDescriptor_36 rfl (lv_at hl 3 rfl) ?_
      refine px_get (D := D) (ci := 1) (v := .int (nI (wl.length))) (C := xR_Li) (T := xT_Li) (N := 5) hx hb hT xi_Li hown hK.1 hP m_6 c_5 rfl 4 (by decide) (hT _ k5e_9) (fun _ h9 => h9) rfl xd_Sh_acceptDescriptor_37 ?_
      refine lv_iconst (v := 3) hx hb xd_Sh_acceptDescriptor_40 (by decide) ?_
      refine xn_ne (a := wl.length) (b := 3) (tgt := 57) hx hb xd_Sh_acceptDescriptor_41 (by decide) (by omega) (by omega) (fun hc197 => ?_) (fun hc197 => ?_)
      · refine lv_iconst (v := 0) hx hb xd_Sh_acceptDescriptor_57 (by decide) ?_
        refine lv_istore hx hb xd_Sh_acceptDescriptor_58 hl (Nat.le_of_ble_eq_true rfl) rfl (fun ls hl => ?_)
        have hl : lv_has ls 5 [(4, .int 0), (3, .int (wN (g 0) wl 2)), (2, .int 1), (0, .ref (ad 0 5)), (1, .ref (ad 0 1))] := hl
        refine lv_iload hx hb xd_Sh_acceptDescriptor_60 (lv_at hl 0 rfl) ?_
        refine lv_if_eq (tgt := 74) hx hb xd_Sh_acceptDescriptor_62 (by decide) (fun _ => ?_) (fun hc198 => absurd (by decide) hc198)
        refine lv_iconst (v := (-1)) hx hb xd_Sh_acceptDescriptor_74 (by decide) ?_
        refine W.widen (k := 13) (n := 66) (Nat.le_of_ble_eq_true rfl) (Nat.le_of_ble_eq_true rfl) ?_
        exact W.iret (v := (-1)) hx hb hr (fun t ht hW => ⟨⟨(-1), (ad, E, RL), rfl, (by rw [lD_n (fun q => absurd q.1 (by omega))]; exact ⟨hCI, hTD, rfl, FRL_rf⟩), by rw [ht]; exact hP, hD⟩, hS.F ht⟩) hS.2.2 xd_Sh_acceptDescriptor_75
      · refine lv_iload_n hx hb xd_Sh_acceptDescriptor_44 rfl (lv_at hl 1 rfl) ?_
        refine lv_iconst (v := (-1)) hx hb xd_Sh_acceptDescriptor_45 (by decide) ?_
        refine lv_icmp_eq (tgt := 57) hx hb xd_Sh_acceptDescriptor_46 (by decide) (fun hc199 => absurd hc199 (by decide)) (fun _ => ?_)
        refine lv_iload_n hx hb xd_Sh_acceptDescriptor_49 rfl (lv_at hl 0 rfl) ?_
        refine lv_if_eq (tgt := 57) hx hb xd_Sh_acceptDescriptor_50 (by decide) (fun hc200 => ?_) (fun hc200 => ?_)
        · refine lv_iconst (v := 0) hx hb xd_Sh_acceptDescriptor_57 (by decide) ?_
          refine lv_istore hx hb xd_Sh_acceptDescriptor_58 hl (Nat.le_of_ble_eq_true rfl) rfl (fun ls hl => ?_)
          have hl : lv_has ls 5 [(4, .int 0), (3, .int (wN (g 0) wl 2)), (2, .int 1), (0, .ref (ad 0 5)), (1, .ref (ad 0 1))] := hl
          refine lv_iload hx hb xd_Sh_acceptDescriptor_60 (lv_at hl 0 rfl) ?_
          refine lv_if_eq (tgt := 74) hx hb xd_Sh_acceptDescriptor_62 (by decide) (fun _ => ?_) (fun hc201 => absurd (by decide) hc201)
          refine lv_iconst (v := (-1)) hx hb xd_Sh_acceptDescriptor_74 (by decide) ?_
          refine W.widen (k := 13) (n := 66) (Nat.le_of_ble_eq_true rfl) (Nat.le_of_ble_eq_true rfl) ?_
          exact W.iret (v := (-1)) hx hb hr (fun t ht hW => ⟨⟨(-1), (ad, E, RL), rfl, (by rw [lD_n (fun q => q.2.2.1 hc200)]; exact ⟨hCI, hTD, rfl, FRL_rf⟩), by rw [ht]; exact hP, hD⟩, hS.F ht⟩) hS.2.2 xd_Sh_acceptDescriptor_75
        · refine lv_iconst (v := 1) hx hb xd_Sh_acceptDescriptor_53 (by decide) ?_
          refine lv_goto (tgt := 58) hx hb xd_Sh_acceptDescriptor_54 (by decide) ?_
          refine lv_istore hx hb xd_Sh_acceptDescriptor_58 hl (Nat.le_of_ble_eq_true rfl) rfl (fun ls hl => ?_)
          have hl : lv_has ls 5 [(4, .int 1), (3, .int (wN (g 0) wl 2)), (2, .int 1), (0, .ref (ad 0 5)), (1, .ref (ad 0 1))] := hl
          refine lv_iload hx hb xd_Sh_acceptDescriptor_60 (lv_at hl 0 rfl) ?_
          refine lv_if_eq (tgt := 74) hx hb xd_Sh_acceptDescriptor_62 (by decide) (fun hc202 => absurd hc202 (by decide)) (fun _ => ?_)
          refine lv_aload_n hx hb xd_Sh_acceptDescriptor_65 rfl (lv_at hl 3 rfl) ?_
          refine lv_iload_n hx hb xd_Sh_acceptDescriptor_66 rfl (lv_at hl 2 rfl) ?_
          refine lv_iload_n hx hb xd_Sh_acceptDescriptor_67 rfl (lv_at hl 1 rfl) ?_
          have hFc := px_free hD hS hA
          refine va_callq (va_runV (As := [.int 1, .int (wN (g 0) wl 2)]) (rest := []) ⟨hx, hb, hml, hown, hT⟩ (xc_Sh_findX l D kA H.size ad E RL g ml nd len wl.length cs 1 (wN (g 0) wl 2) (by first | assumption | omega) (by first | assumption | omega)) (cwV 2 hT (wT_V k5e_11 k5e_12 k5e_13 k5e_14 k5e_10) rfl rfl rfl (by decide +kernel) ⟨Nat.le_of_ble_eq_true rfl, Nat.le_of_ble_eq_true rfl⟩) (px_preV hK hP hD m_15 c_14 rfl) rfl rfl hl.1 rfl (lv_room (Nat.le_of_ble_eq_true rfl)) xd_Sh_acceptDescriptor_68 ⟨(Nat.le_of_ble_eq_true rfl), (Nat.le_of_ble_eq_true rfl)⟩) hS (fun q _ h => hFc q h) hFc (fun r203 u204 t H1 locs ht hvm hp205 hB hz1 hk1 hS => ?_)
          obtain ⟨hP1, hD1⟩ := hB
          rw [ht] at hP1
          have hD1 := hD1.weaken (fun _ _ _ h => hFc _ h)
          generalize H1 = H at hP1 hS ⊢
          have hP := hP1
          have hD := hD1
          have hP : va_P D xcl (rp ad E RL) H := hP
          have hD : va_D A (rp ad E RL) := hD
          rcases hp205 with ⟨rfl, z206⟩ | ⟨z207, z208, rfl, z209⟩
          · refine W.eq (g2 := F0 m 71 ls [.null]) rfl ?_
            refine lv_ifnullN (tgt := 76) hx hb xd_Sh_acceptDescriptor_71 (by decide) ?_
            refine lv_aload_n hx hb xd_Sh_acceptDescriptor_76 rfl (lv_at hl 3 rfl) ?_
            refine px_get (D := D) (ci := 2) (v := .int (nI nd)) (C := xR_Sh) (T := xT_Sh) (N := 2) hx hb hT xi_Sh hown hK.1 hP m_15 c_14 rfl 1 (by decide) (hT _ k5e_15) (fun _ h9 => h9) rfl xd_Sh_acceptDescriptor_77 ?_
            refine lv_bipush (v := 12) hx hb xd_Sh_acceptDescriptor_80 (by decide) ?_
            refine xn_lt (a := nd) (b := 12) (tgt := 88) hx hb xd_Sh_acceptDescriptor_82 (by decide) (by omega) (by omega) (fun hc210 => ?_) (fun hc210 => ?_)
            · refine lv_aload_n hx hb xd_Sh_acceptDescriptor_88 rfl (lv_at hl 3 rfl) ?_
              refine px_get (D := D) (ci := 2) (v := .ref (ad 0 6)) (C := xR_Sh) (T := xT_Sh) (N := 2) hx hb hT xi_Sh hown hK.1 hP m_15 c_14 rfl 0 (by decide) (hT _ k5e_16) (fun _ h9 => h9) rfl xd_Sh_acceptDescriptor_89 ?_
              refine lv_aload_n hx hb xd_Sh_acceptDescriptor_92 rfl (lv_at hl 3 rfl) ?_
              refine px_get (D := D) (ci := 2) (v := .int (nI nd)) (C := xR_Sh) (T := xT_Sh) (N := 2) hx hb hT xi_Sh hown hK.1 hP m_15 c_14 rfl 1 (by decide) (hT _ k5e_15) (fun _ h9 => h9) rfl xd_Sh_acceptDescriptor_93 ?_
              refine px_new (ci := 7) (fs := [.int 0, .int 0, .int 0, .null, .null, .null, .null, .null, .null, .null, .null, .int 0]) (C := xR_Ds) (T := xT_Ds) (N := 12) (1 + nd) 0 hx hb hT xi_Ds xt_Ds xt_Ds_ok hown (hT _ k5e_17) (hT _ k5e_18) (hT _ k5e_19) hK.1 hP hD hS hA rfl (by decide +kernel) (Nat.le_of_ble_eq_true rfl) (Nat.le_of_ble_eq_true rfl) xd_Sh_acceptDescriptor_96 (fun ad211 E212 RL213 H hA1 hE1 hs1 hm1 hP hD hS => ?_)
              have fE214 : ∀ b2 o2, ¬ (b2 = 1 + nd ∧ o2 = 0) → E212 b2 o2 = E b2 o2 := fun b2 o2 h9 => by rw [hE1]; exact up2_ne (nr_or h9)
              have fA215 : ∀ b2 o2, ¬ (b2 = 1 + nd ∧ o2 = 0) → ad211 b2 o2 = ad b2 o2 := fun b2 o2 h9 => by rw [hA1]; exact up2_ne (nr_or h9)
              have hs216 := hs1
              refine W.eq (g2 := F0 m _ ls [.ref (ad211 (1 + nd) 0), .int (nI nd), .ref (ad211 0 6)]) (by rw [fA215 0 6 (fun q9 => absurd q9.2 (by decide))]) ?_
              have c_217 : E212 (1 + nd) 0 = .inr (7, [.int 0, .int 0, .int 0, .null, .null, .null, .null, .null, .null, .null, .null, .int 0]) := by rw [hE1]; exact up2_eq
              have hl : lv_has ls 5 [(4, .int 1), (3, .int (wN (g 0) wl 2)), (2, .int 1), (0, .ref (ad211 0 5)), (1, .ref (ad211 0 1))] := by
                rw [fA215 0 5 (fun q9 => absurd q9.2 (by decide)), fA215 0 1 (fun q9 => absurd q9.2 (by decide))]; exact hl
              have m_219 : (0, 0) ∈ RL213 := hs216 _ m_3
              have m_220 : (0, 1) ∈ RL213 := hs216 _ m_6
              have m_221 : (0, 2) ∈ RL213 := hs216 _ m_8
              have m_222 : (0, 3) ∈ RL213 := hs216 _ m_10
              have m_223 : (0, 4) ∈ RL213 := hs216 _ m_12
              have m_224 : (0, 5) ∈ RL213 := hs216 _ m_15
              have m_225 : (0, 6) ∈ RL213 := hs216 _ m_17
              have m_226 : (0, 7) ∈ RL213 := hs216 _ m_20
              have m_227 : (0, 8) ∈ RL213 := hs216 _ m_22
              have m_228 : (0, 9) ∈ RL213 := hs216 _ m_25
              have nb_229 : ¬ (0 = 1 + nd) := by omega
              have c_230 : E212 0 0 = .inr (0, [.ref (ad211 0 1), .ref (ad211 0 5), .ref (ad211 0 7), .ref (ad211 0 9), .int (nI ml), .int lf_1]) := by rw [fE214 0 0 (fun q9 => nb_229 q9.1), fA215 0 1 (fun q9 => absurd q9.2 (by decide)), fA215 0 5 (fun q9 => absurd q9.2 (by decide)), fA215 0 7 (fun q9 => absurd q9.2 (by decide)), fA215 0 9 (fun q9 => absurd q9.2 (by decide))]; exact c_2
              have c_231 : E212 0 1 = .inr (1, [.ref (ad211 0 2), .ref (ad211 0 3), .ref (ad211 0 4), .int (nI len), .int (nI (wl.length))]) := by rw [fE214 0 1 (fun q9 => absurd q9.2 (by decide)), fA215 0 2 (fun q9 => absurd q9.2 (by decide)), fA215 0 3 (fun q9 => absurd q9.2 (by decide)), fA215 0 4 (fun q9 => absurd q9.2 (by decide))]; exact c_5
              have c_232 : E212 0 2 = .inl (kA 1, 40, .inl tx_4) := by rw [fE214 0 2 (fun q9 => absurd q9.2 (by decide))]; exact c_7
              have c_233 : E212 0 3 = .inl (kA 0, 20, .inl fb_4) := by rw [fE214 0 3 (fun q9 => absurd q9.2 (by decide))]; exact c_9
              have c_234 : E212 0 4 = .inl (kA 0, 20, .inl fe_4) := by rw [fE214 0 4 (fun q9 => absurd q9.2 (by decide))]; exact c_11
              have c_235 : E212 0 5 = .inr (2, [.ref (ad211 0 6), .int (nI nd)]) := by rw [fE214 0 5 (fun q9 => absurd q9.2 (by decide)), fA215 0 6 (fun q9 => absurd q9.2 (by decide))]; exact c_14
              have c_236 : E212 0 6 = .inl (kA 4, 12, .inr (.inr (.inr (.inr fd_13)))) := by rw [fE214 0 6 (fun q9 => absurd q9.2 (by decide))]; exact c_16
              have c_237 : E212 0 7 = .inr (3, [.ref (ad211 0 5), .ref (ad211 0 8), .int (nI cs), .int cf_18, pv_18]) := by rw [fE214 0 7 (fun q9 => absurd q9.2 (by decide)), fA215 0 5 (fun q9 => absurd q9.2 (by decide)), fA215 0 8 (fun q9 => absurd q9.2 (by decide))]; exact c_19
              have c_238 : E212 0 8 = .inl (kA 4, 12, .inr (.inr (.inr (.inr fc_18)))) := by rw [fE214 0 8 (fun q9 => absurd q9.2 (by decide))]; exact c_21
              have c_239 : E212 0 9 = .inl (kA 5, 5, .inr (.inr (.inr (.inr fl_23)))) := by rw [fE214 0 9 (fun q9 => absurd q9.2 (by decide))]; exact c_24
              have m_218 : (1 + nd, 0) ∈ RL213 := hm1
              have hP : va_P D xcl (rp ad211 E212 RL213) H := hP
              have hD : va_D A (rp ad211 E212 RL213) := hD
              refine lv_dup hx hb xd_Sh_acceptDescriptor_99 rfl ?_
              refine lv_aload_n hx hb xd_Sh_acceptDescriptor_100 rfl (lv_at hl 3 rfl) ?_
              refine px_get (D := D) (ci := 2) (v := .int (nI nd)) (C := xR_Sh) (T := xT_Sh) (N := 2) hx hb hT xi_Sh hown hK.1 hP m_224 c_235 rfl 1 (by decide) (hT _ k5e_15) (fun _ h9 => h9) rfl xd_Sh_acceptDescriptor_101 ?_
              refine lv_iload_n hx hb xd_Sh_acceptDescriptor_104 rfl (lv_at hl 2 rfl) ?_
              refine lv_iload_n hx hb xd_Sh_acceptDescriptor_105 rfl (lv_at hl 1 rfl) ?_
              have hFc := px_free hD hS hA
              refine va_callv (va_runI (As := [.int (nI nd), .int 1, .int (wN (g 0) wl 2)]) (rest := [.ref (ad211 (1 + nd) 0), .int (nI nd), .ref (ad211 0 6)]) ⟨hx, hb, hml, hown, hT⟩ (xc_Ds_init l D kA H.size ad211 E212 RL213 nd 1 (wN (g 0) wl 2) m_218 c_217) (cwI 3 hT (wT_I k5e_20) rfl rfl rfl (hT _ k5e_19) (hT _ k5e_21) (hT _ k5e_22) rfl (by decide +kernel) ⟨Nat.le_of_ble_eq_true rfl, Nat.le_of_ble_eq_true rfl⟩) (x_preS hK hP hD) rfl rfl hl.1 rfl (lv_room (Nat.le_of_ble_eq_true rfl)) xd_Sh_acceptDescriptor_106 ⟨(Nat.le_of_ble_eq_true rfl), (Nat.le_of_ble_eq_true rfl)⟩) hS (fun q _ h => hFc q h) hFc (fun u241 t H1 locs ht hvm hp242 hB hz1 hk1 hS => ?_)
              obtain ⟨hP1, hD1⟩ := hB
              rw [ht] at hP1
              have hD1 := hD1.weaken (fun _ _ _ h => hFc _ h)
              generalize H1 = H at hP1 hS ⊢
              have hP := hP1
              have hD := hD1
              obtain ⟨ad243, E244, RL245⟩ := u241
              obtain ⟨hp274, p_246, p_247, p_248, p_249, p_250, p_251, p_252, p_253, p_254, p_255, p_256, p_257, p_258, p_259, p_260, p_261, p_262, p_263, p_264, p_265, p_266, p_267, p_268, p_269, p_270, p_271, p_272, p_273⟩ := hp242
              have p_246 : E244 (1 + nd) 0 = .inr (7, [.int (nI nd), .int 1, .int (wN (g 0) wl 2), .ref (ad243 (1 + nd) 1), .ref (ad243 (1 + nd) 9), .ref (ad243 (1 + nd) 10), .ref (ad243 (1 + nd) 2), .ref (ad243 (1 + nd) 11), .ref (ad243 (1 + nd) 12), .ref (ad243 (1 + nd) 3), .ref (ad243 (1 + nd) 4), .int 0]) := p_246
              have p_247 : E244 (1 + nd) 1 = .inr (8, [.ref (ad243 (1 + nd) 5), .int 0]) := p_247
              have p_248 : E244 (1 + nd) 2 = .inr (8, [.ref (ad243 (1 + nd) 6), .int 0]) := p_248
              have p_249 : E244 (1 + nd) 3 = .inr (8, [.ref (ad243 (1 + nd) 7), .int 0]) := p_249
              have p_250 : E244 (1 + nd) 4 = .inr (8, [.ref (ad243 (1 + nd) 8), .int 0]) := p_250
              have p_251 : E244 (1 + nd) 5 = .inl (kA 0, 6, .inl (fun _ => 0)) := p_251
              have p_252 : E244 (1 + nd) 6 = .inl (kA 0, 5, .inl (fun _ => 0)) := p_252
              have p_253 : E244 (1 + nd) 7 = .inl (kA 0, 3, .inl (fun _ => 0)) := p_253
              have p_254 : E244 (1 + nd) 8 = .inl (kA 0, 3, .inl (fun _ => 0)) := p_254
              have p_255 : E244 (1 + nd) 9 = .inl (kA 8, 6, .inr (.inr (.inr (.inr (fun _ => none))))) := p_255
              have p_256 : E244 (1 + nd) 10 = .inl (kA 8, 6, .inr (.inr (.inr (.inr (fun _ => none))))) := p_256
              have p_257 : E244 (1 + nd) 11 = .inl (kA 2, 5, .inl (fun _ => 0)) := p_257
              have p_258 : E244 (1 + nd) 12 = .inl (kA 2, 5, .inl (fun _ => 0)) := p_258
              have p_259 : (∀ b2 o2, ¬ (b2 = 1 + nd ∧ o2 = 0) → ¬ (b2 = 1 + nd ∧ o2 = 1) → ¬ (b2 = 1 + nd ∧ o2 = 2) → ¬ (b2 = 1 + nd ∧ o2 = 3) → ¬ (b2 = 1 + nd ∧ o2 = 4) → ¬ (b2 = 1 + nd ∧ o2 = 5) → ¬ (b2 = 1 + nd ∧ o2 = 6) → ¬ (b2 = 1 + nd ∧ o2 = 7) → ¬ (b2 = 1 + nd ∧ o2 = 8) → ¬ (b2 = 1 + nd ∧ o2 = 9) → ¬ (b2 = 1 + nd ∧ o2 = 10) → ¬ (b2 = 1 + nd ∧ o2 = 11) → ¬ (b2 = 1 + nd ∧ o2 = 12) → E244 b2 o2 = E212 b2 o2) := p_259
              have p_260 : (∀ b2 o2, ¬ (b2 = 1 + nd ∧ o2 = 1) → ¬ (b2 = 1 + nd ∧ o2 = 2) → ¬ (b2 = 1 + nd ∧ o2 = 3) → ¬ (b2 = 1 + nd ∧ o2 = 4) → ¬ (b2 = 1 + nd ∧ o2 = 5) → ¬ (b2 = 1 + nd ∧ o2 = 6) → ¬ (b2 = 1 + nd ∧ o2 = 7) → ¬ (b2 = 1 + nd ∧ o2 = 8) → ¬ (b2 = 1 + nd ∧ o2 = 9) → ¬ (b2 = 1 + nd ∧ o2 = 10) → ¬ (b2 = 1 + nd ∧ o2 = 11) → ¬ (b2 = 1 + nd ∧ o2 = 12) → ad243 b2 o2 = ad211 b2 o2) := p_260
              have p_261 : (∀ x ∈ RL213, x ∈ RL245) := p_261
              have p_262 : (1 + nd, 1) ∈ RL245 := p_262
              have p_263 : (1 + nd, 2) ∈ RL245 := p_263
              have p_264 : (1 + nd, 3) ∈ RL245 := p_264
              have p_265 : (1 + nd, 4) ∈ RL245 := p_265
              have p_266 : (1 + nd, 5) ∈ RL245 := p_266
              have p_267 : (1 + nd, 6) ∈ RL245 := p_267
              have p_268 : (1 + nd, 7) ∈ RL245 := p_268
              have p_269 : (1 + nd, 8) ∈ RL245 := p_269
              have p_270 : (1 + nd, 9) ∈ RL245 := p_270
              have p_271 : (1 + nd, 10) ∈ RL245 := p_271
              have p_272 : (1 + nd, 11) ∈ RL245 := p_272
              have p_273 : (1 + nd, 12) ∈ RL245 := p_273
              refine W.eq (g2 := F0 m 109 ls [.ref (ad243 (1 + nd) 0), .int (nI nd), .ref (ad243 0 6)]) (by rw [p_260 (1 + nd) 0 (fun q9 => absurd q9.2 (by decide)) (fun q9 => absurd q9.2 (by decide)) (fun q9 => absurd q9.2 (by decide)) (fun q9 => absurd q9.2 (by decide)) (fun q9 => absurd q9.2 (by decide)) (fun q9 => absurd q9.2 (by decide)) (fun q9 => absurd q9.2 (by decide)) (fun q9 => absurd q9.2 (by decide)) (fun q9 => absurd q9.2 (by decide)) (fun q9 => absurd q9.2 (by decide)) (fun q9 => absurd q9.2 (by decide)) (fun q9 => absurd q9.2 (by decide)), p_260 0 6 (fun q9 => absurd q9.2 (by decide)) (fun q9 => absurd q9.2 (by decide)) (fun q9 => absurd q9.2 (by decide)) (fun q9 => absurd q9.2 (by decide)) (fun q9 => absurd q9.2 (by decide)) (fun q9 => nb_229 q9.1) (fun q9 => absurd q9.2 (by decide)) (fun q9 => absurd q9.2 (by decide)) (fun q9 => absurd q9.2 (by decide)) (fun q9 => absurd q9.2 (by decide)) (fun q9 => absurd q9.2 (by decide)) (fun q9 => absurd q9.2 (by decide))]) ?_
              have hl : lv_has ls 5 [(4, .int 1), (3, .int (wN (g 0) wl 2)), (2, .int 1), (0, .ref (ad243 0 5)), (1, .ref (ad243 0 1))] := by
                rw [p_260 0 5 (fun q9 => absurd q9.2 (by decide)) (fun q9 => absurd q9.2 (by decide)) (fun q9 => absurd q9.2 (by decide)) (fun q9 => absurd q9.2 (by decide)) (fun q9 => nb_229 q9.1) (fun q9 => absurd q9.2 (by decide)) (fun q9 => absurd q9.2 (by decide)) (fun q9 => absurd q9.2 (by decide)) (fun q9 => absurd q9.2 (by decide)) (fun q9 => absurd q9.2 (by decide)) (fun q9 => absurd q9.2 (by decide)) (fun q9 => absurd q9.2 (by decide)), p_260 0 1 (fun q9 => nb_229 q9.1) (fun q9 => absurd q9.2 (by decide)) (fun q9 => absurd q9.2 (by decide)) (fun q9 => absurd q9.2 (by decide)) (fun q9 => absurd q9.2 (by decide)) (fun q9 => absurd q9.2 (by decide)) (fun q9 => absurd q9.2 (by decide)) (fun q9 => absurd q9.2 (by decide)) (fun q9 => absurd q9.2 (by decide)) (fun q9 => absurd q9.2 (by decide)) (fun q9 => absurd q9.2 (by decide)) (fun q9 => absurd q9.2 (by decide))]; exact hl
              have m_275 : (0, 0) ∈ RL245 := p_261 _ m_219
              have m_276 : (0, 1) ∈ RL245 := p_261 _ m_220
              have m_277 : (0, 2) ∈ RL245 := p_261 _ m_221
              have m_278 : (0, 3) ∈ RL245 := p_261 _ m_222
              have m_279 : (0, 4) ∈ RL245 := p_261 _ m_223
              have m_280 : (0, 5) ∈ RL245 := p_261 _ m_224
              have m_281 : (0, 6) ∈ RL245 := p_261 _ m_225
              have m_282 : (0, 7) ∈ RL245 := p_261 _ m_226
              have m_283 : (0, 8) ∈ RL245 := p_261 _ m_227
              have m_284 : (0, 9) ∈ RL245 := p_261 _ m_228
              have m_285 : (1 + nd, 0) ∈ RL245 := p_261 _ m_218
              have c_286 : E244 0 0 = .inr (0, [.ref (ad243 0 1), .ref (ad243 0 5), .ref (ad243 0 7), .ref (ad243 0 9), .int (nI ml), .int lf_1]) := by rw [p_259 0 0 (fun q9 => nb_229 q9.1) (fun q9 => absurd q9.2 (by decide)) (fun q9 => absurd q9.2 (by decide)) (fun q9 => absurd q9.2 (by decide)) (fun q9 => absurd q9.2 (by decide)) (fun q9 => absurd q9.2 (by decide)) (fun q9 => absurd q9.2 (by decide)) (fun q9 => absurd q9.2 (by decide)) (fun q9 => absurd q9.2 (by decide)) (fun q9 => absurd q9.2 (by decide)) (fun q9 => absurd q9.2 (by decide)) (fun q9 => absurd q9.2 (by decide)) (fun q9 => absurd q9.2 (by decide)), p_260 0 1 (fun q9 => nb_229 q9.1) (fun q9 => absurd q9.2 (by decide)) (fun q9 => absurd q9.2 (by decide)) (fun q9 => absurd q9.2 (by decide)) (fun q9 => absurd q9.2 (by decide)) (fun q9 => absurd q9.2 (by decide)) (fun q9 => absurd q9.2 (by decide)) (fun q9 => absurd q9.2 (by decide)) (fun q9 => absurd q9.2 (by decide)) (fun q9 => absurd q9.2 (by decide)) (fun q9 => absurd q9.2 (by decide)) (fun q9 => absurd q9.2 (by decide)), p_260 0 5 (fun q9 => absurd q9.2 (by decide)) (fun q9 => absurd q9.2 (by decide)) (fun q9 => absurd q9.2 (by decide)) (fun q9 => absurd q9.2 (by decide)) (fun q9 => nb_229 q9.1) (fun q9 => absurd q9.2 (by decide)) (fun q9 => absurd q9.2 (by decide)) (fun q9 => absurd q9.2 (by decide)) (fun q9 => absurd q9.2 (by decide)) (fun q9 => absurd q9.2 (by decide)) (fun q9 => absurd q9.2 (by decide)) (fun q9 => absurd q9.2 (by decide)), p_260 0 7 (fun q9 => absurd q9.2 (by decide)) (fun q9 => absurd q9.2 (by decide)) (fun q9 => absurd q9.2 (by decide)) (fun q9 => absurd q9.2 (by decide)) (fun q9 => absurd q9.2 (by decide)) (fun q9 => absurd q9.2 (by decide)) (fun q9 => nb_229 q9.1) (fun q9 => absurd q9.2 (by decide)) (fun q9 => absurd q9.2 (by decide)) (fun q9 => absurd q9.2 (by decide)) (fun q9 => absurd q9.2 (by decide)) (fun q9 => absurd q9.2 (by decide)), p_260 0 9 (fun q9 => absurd q9.2 (by decide)) (fun q9 => absurd q9.2 (by decide)) (fun q9 => absurd q9.2 (by decide)) (fun q9 => absurd q9.2 (by decide)) (fun q9 => absurd q9.2 (by decide)) (fun q9 => absurd q9.2 (by decide)) (fun q9 => absurd q9.2 (by decide)) (fun q9 => absurd q9.2 (by decide)) (fun q9 => nb_229 q9.1) (fun q9 => absurd q9.2 (by decide)) (fun q9 => absurd q9.2 (by decide)) (fun q9 => absurd q9.2 (by decide))]; exact c_230
              have c_287 : E244 0 1 = .inr (1, [.ref (ad243 0 2), .ref (ad243 0 3), .ref (ad243 0 4), .int (nI len), .int (nI (wl.length))]) := by rw [p_259 0 1 (fun q9 => absurd q9.2 (by decide)) (fun q9 => nb_229 q9.1) (fun q9 => absurd q9.2 (by decide)) (fun q9 => absurd q9.2 (by decide)) (fun q9 => absurd q9.2 (by decide)) (fun q9 => absurd q9.2 (by decide)) (fun q9 => absurd q9.2 (by decide)) (fun q9 => absurd q9.2 (by decide)) (fun q9 => absurd q9.2 (by decide)) (fun q9 => absurd q9.2 (by decide)) (fun q9 => absurd q9.2 (by decide)) (fun q9 => absurd q9.2 (by decide)) (fun q9 => absurd q9.2 (by decide)), p_260 0 2 (fun q9 => absurd q9.2 (by decide)) (fun q9 => nb_229 q9.1) (fun q9 => absurd q9.2 (by decide)) (fun q9 => absurd q9.2 (by decide)) (fun q9 => absurd q9.2 (by decide)) (fun q9 => absurd q9.2 (by decide)) (fun q9 => absurd q9.2 (by decide)) (fun q9 => absurd q9.2 (by decide)) (fun q9 => absurd q9.2 (by decide)) (fun q9 => absurd q9.2 (by decide)) (fun q9 => absurd q9.2 (by decide)) (fun q9 => absurd q9.2 (by decide)), p_260 0 3 (fun q9 => absurd q9.2 (by decide)) (fun q9 => absurd q9.2 (by decide)) (fun q9 => nb_229 q9.1) (fun q9 => absurd q9.2 (by decide)) (fun q9 => absurd q9.2 (by decide)) (fun q9 => absurd q9.2 (by decide)) (fun q9 => absurd q9.2 (by decide)) (fun q9 => absurd q9.2 (by decide)) (fun q9 => absurd q9.2 (by decide)) (fun q9 => absurd q9.2 (by decide)) (fun q9 => absurd q9.2 (by decide)) (fun q9 => absurd q9.2 (by decide)), p_260 0 4 (fun q9 => absurd q9.2 (by decide)) (fun q9 => absurd q9.2 (by decide)) (fun q9 => absurd q9.2 (by decide)) (fun q9 => nb_229 q9.1) (fun q9 => absurd q9.2 (by decide)) (fun q9 => absurd q9.2 (by decide)) (fun q9 => absurd q9.2 (by decide)) (fun q9 => absurd q9.2 (by decide)) (fun q9 => absurd q9.2 (by decide)) (fun q9 => absurd q9.2 (by decide)) (fun q9 => absurd q9.2 (by decide)) (fun q9 => absurd q9.2 (by decide))]; exact c_231
              have c_288 : E244 0 2 = .inl (kA 1, 40, .inl tx_4) := by rw [p_259 0 2 (fun q9 => absurd q9.2 (by decide)) (fun q9 => absurd q9.2 (by decide)) (fun q9 => nb_229 q9.1) (fun q9 => absurd q9.2 (by decide)) (fun q9 => absurd q9.2 (by decide)) (fun q9 => absurd q9.2 (by decide)) (fun q9 => absurd q9.2 (by decide)) (fun q9 => absurd q9.2 (by decide)) (fun q9 => absurd q9.2 (by decide)) (fun q9 => absurd q9.2 (by decide)) (fun q9 => absurd q9.2 (by decide)) (fun q9 => absurd q9.2 (by decide)) (fun q9 => absurd q9.2 (by decide))]; exact c_232
              have c_289 : E244 0 3 = .inl (kA 0, 20, .inl fb_4) := by rw [p_259 0 3 (fun q9 => absurd q9.2 (by decide)) (fun q9 => absurd q9.2 (by decide)) (fun q9 => absurd q9.2 (by decide)) (fun q9 => nb_229 q9.1) (fun q9 => absurd q9.2 (by decide)) (fun q9 => absurd q9.2 (by decide)) (fun q9 => absurd q9.2 (by decide)) (fun q9 => absurd q9.2 (by decide)) (fun q9 => absurd q9.2 (by decide)) (fun q9 => absurd q9.2 (by decide)) (fun q9 => absurd q9.2 (by decide)) (fun q9 => absurd q9.2 (by decide)) (fun q9 => absurd q9.2 (by decide))]; exact c_233
              have c_290 : E244 0 4 = .inl (kA 0, 20, .inl fe_4) := by rw [p_259 0 4 (fun q9 => absurd q9.2 (by decide)) (fun q9 => absurd q9.2 (by decide)) (fun q9 => absurd q9.2 (by decide)) (fun q9 => absurd q9.2 (by decide)) (fun q9 => nb_229 q9.1) (fun q9 => absurd q9.2 (by decide)) (fun q9 => absurd q9.2 (by decide)) (fun q9 => absurd q9.2 (by decide)) (fun q9 => absurd q9.2 (by decide)) (fun q9 => absurd q9.2 (by decide)) (fun q9 => absurd q9.2 (by decide)) (fun q9 => absurd q9.2 (by decide)) (fun q9 => absurd q9.2 (by decide))]; exact c_234
              have c_291 : E244 0 5 = .inr (2, [.ref (ad243 0 6), .int (nI nd)]) := by rw [p_259 0 5 (fun q9 => absurd q9.2 (by decide)) (fun q9 => absurd q9.2 (by decide)) (fun q9 => absurd q9.2 (by decide)) (fun q9 => absurd q9.2 (by decide)) (fun q9 => absurd q9.2 (by decide)) (fun q9 => nb_229 q9.1) (fun q9 => absurd q9.2 (by decide)) (fun q9 => absurd q9.2 (by decide)) (fun q9 => absurd q9.2 (by decide)) (fun q9 => absurd q9.2 (by decide)) (fun q9 => absurd q9.2 (by decide)) (fun q9 => absurd q9.2 (by decide)) (fun q9 => absurd q9.2 (by decide)), p_260 0 6 (fun q9 => absurd q9.2 (by decide)) (fun q9 => absurd q9.2 (by decide)) (fun q9 => absurd q9.2 (by decide)) (fun q9 => absurd q9.2 (by decide)) (fun q9 => absurd q9.2 (by decide)) (fun q9 => nb_229 q9.1) (fun q9 => absurd q9.2 (by decide)) (fun q9 => absurd q9.2 (by decide)) (fun q9 => absurd q9.2 (by decide)) (fun q9 => absurd q9.2 (by decide)) (fun q9 => absurd q9.2 (by decide)) (fun q9 => absurd q9.2 (by decide))]; exact c_235
              have c_292 : E244 0 6 = .inl (kA 4, 12, .inr (.inr (.inr (.inr fd_13)))) := by rw [p_259 0 6 (fun q9 => absurd q9.2 (by decide)) (fun q9 => absurd q9.2 (by decide)) (fun q9 => absurd q9.2 (by decide)) (fun q9 => absurd q9.2 (by decide)) (fun q9 => absurd q9.2 (by decide)) (fun q9 => absurd q9.2 (by decide)) (fun q9 => nb_229 q9.1) (fun q9 => absurd q9.2 (by decide)) (fun q9 => absurd q9.2 (by decide)) (fun q9 => absurd q9.2 (by decide)) (fun q9 => absurd q9.2 (by decide)) (fun q9 => absurd q9.2 (by decide)) (fun q9 => absurd q9.2 (by decide))]; exact c_236
              have c_293 : E244 0 7 = .inr (3, [.ref (ad243 0 5), .ref (ad243 0 8), .int (nI cs), .int cf_18, pv_18]) := by rw [p_259 0 7 (fun q9 => absurd q9.2 (by decide)) (fun q9 => absurd q9.2 (by decide)) (fun q9 => absurd q9.2 (by decide)) (fun q9 => absurd q9.2 (by decide)) (fun q9 => absurd q9.2 (by decide)) (fun q9 => absurd q9.2 (by decide)) (fun q9 => absurd q9.2 (by decide)) (fun q9 => nb_229 q9.1) (fun q9 => absurd q9.2 (by decide)) (fun q9 => absurd q9.2 (by decide)) (fun q9 => absurd q9.2 (by decide)) (fun q9 => absurd q9.2 (by decide)) (fun q9 => absurd q9.2 (by decide)), p_260 0 5 (fun q9 => absurd q9.2 (by decide)) (fun q9 => absurd q9.2 (by decide)) (fun q9 => absurd q9.2 (by decide)) (fun q9 => absurd q9.2 (by decide)) (fun q9 => nb_229 q9.1) (fun q9 => absurd q9.2 (by decide)) (fun q9 => absurd q9.2 (by decide)) (fun q9 => absurd q9.2 (by decide)) (fun q9 => absurd q9.2 (by decide)) (fun q9 => absurd q9.2 (by decide)) (fun q9 => absurd q9.2 (by decide)) (fun q9 => absurd q9.2 (by decide)), p_260 0 8 (fun q9 => absurd q9.2 (by decide)) (fun q9 => absurd q9.2 (by decide)) (fun q9 => absurd q9.2 (by decide)) (fun q9 => absurd q9.2 (by decide)) (fun q9 => absurd q9.2 (by decide)) (fun q9 => absurd q9.2 (by decide)) (fun q9 => absurd q9.2 (by decide)) (fun q9 => nb_229 q9.1) (fun q9 => absurd q9.2 (by decide)) (fun q9 => absurd q9.2 (by decide)) (fun q9 => absurd q9.2 (by decide)) (fun q9 => absurd q9.2 (by decide))]; exact c_237
              have c_294 : E244 0 8 = .inl (kA 4, 12, .inr (.inr (.inr (.inr fc_18)))) := by rw [p_259 0 8 (fun q9 => absurd q9.2 (by decide)) (fun q9 => absurd q9.2 (by decide)) (fun q9 => absurd q9.2 (by decide)) (fun q9 => absurd q9.2 (by decide)) (fun q9 => absurd q9.2 (by decide)) (fun q9 => absurd q9.2 (by decide)) (fun q9 => absurd q9.2 (by decide)) (fun q9 => absurd q9.2 (by decide)) (fun q9 => nb_229 q9.1) (fun q9 => absurd q9.2 (by decide)) (fun q9 => absurd q9.2 (by decide)) (fun q9 => absurd q9.2 (by decide)) (fun q9 => absurd q9.2 (by decide))]; exact c_238
              have c_295 : E244 0 9 = .inl (kA 5, 5, .inr (.inr (.inr (.inr fl_23)))) := by rw [p_259 0 9 (fun q9 => absurd q9.2 (by decide)) (fun q9 => absurd q9.2 (by decide)) (fun q9 => absurd q9.2 (by decide)) (fun q9 => absurd q9.2 (by decide)) (fun q9 => absurd q9.2 (by decide)) (fun q9 => absurd q9.2 (by decide)) (fun q9 => absurd q9.2 (by decide)) (fun q9 => absurd q9.2 (by decide)) (fun q9 => absurd q9.2 (by decide)) (fun q9 => nb_229 q9.1) (fun q9 => absurd q9.2 (by decide)) (fun q9 => absurd q9.2 (by decide)) (fun q9 => absurd q9.2 (by decide))]; exact c_239
              have hP : va_P D xcl (rp ad243 E244 RL245) H := hP
              have hD : va_D A (rp ad243 E244 RL245) := hD
              refine px_aast (i := nd) (r := (xR_Ds, xT_Ds, 12)) hx hb hK.1 hP hD hS m_281 c_292 4 rfl m_285 p_246 rfl (by omega) (by decide) xd_Sh_acceptDescriptor_109 (fun H locs hP hD hS => ?_)
              have hP : va_P D xcl (rp ad243 (up2 E244 0 6 (.inl (kA 4, 12, .inr (.inr (.inr (.inr (va_up fd_13 nd (some (ad243 (1 + nd) 0))))))))) RL245) H := hP
              have hD : va_D A (rp ad243 (up2 E244 0 6 (.inl (kA 4, 12, .inr (.inr (.inr (.inr (va_up fd_13 nd (some (ad243 (1 + nd) 0))))))))) RL245) := hD
              generalize hE297 : up2 E244 0 6 (.inl (kA 4, 12, .inr (.inr (.inr (.inr (va_up fd_13 nd (some (ad243 (1 + nd) 0)))))))) = E296 at hP hD
              have fE298 : ∀ b2 o2, ¬ (b2 = 0 ∧ o2 = 6) → E296 b2 o2 = E244 b2 o2 := fun b2 o2 h9 => by rw [← hE297]; exact up2_ne (nr_or h9)
              have c_299 : E296 0 6 = .inl (kA 4, 12, .inr (.inr (.inr (.inr (va_up fd_13 nd (some (ad243 (1 + nd) 0))))))) := by rw [← hE297]; exact up2_eq
              have c_300 : E296 (1 + nd) 0 = .inr (7, [.int (nI nd), .int 1, .int (wN (g 0) wl 2), .ref (ad243 (1 + nd) 1), .ref (ad243 (1 + nd) 9), .ref (ad243 (1 + nd) 10), .ref (ad243 (1 + nd) 2), .ref (ad243 (1 + nd) 11), .ref (ad243 (1 + nd) 12), .ref (ad243 (1 + nd) 3), .ref (ad243 (1 + nd) 4), .int 0]) := (fE298 (1 + nd) 0 (fun q9 => absurd q9.2 (by decide))).trans p_246
              have c_301 : E296 (1 + nd) 1 = .inr (8, [.ref (ad243 (1 + nd) 5), .int 0]) := (fE298 (1 + nd) 1 (fun q9 => absurd q9.2 (by decide))).trans p_247
              have c_302 : E296 (1 + nd) 2 = .inr (8, [.ref (ad243 (1 + nd) 6), .int 0]) := (fE298 (1 + nd) 2 (fun q9 => absurd q9.2 (by decide))).trans p_248
              have c_303 : E296 (1 + nd) 3 = .inr (8, [.ref (ad243 (1 + nd) 7), .int 0]) := (fE298 (1 + nd) 3 (fun q9 => absurd q9.2 (by decide))).trans p_249
              have c_304 : E296 (1 + nd) 4 = .inr (8, [.ref (ad243 (1 + nd) 8), .int 0]) := (fE298 (1 + nd) 4 (fun q9 => absurd q9.2 (by decide))).trans p_250
              have c_305 : E296 (1 + nd) 5 = .inl (kA 0, 6, .inl (fun _ => 0)) := (fE298 (1 + nd) 5 (fun q9 => absurd q9.2 (by decide))).trans p_251
              have nb_306 : ¬ (1 + nd = 0) := by omega
              have c_307 : E296 (1 + nd) 6 = .inl (kA 0, 5, .inl (fun _ => 0)) := (fE298 (1 + nd) 6 (fun q9 => nb_306 q9.1)).trans p_252
              have c_308 : E296 (1 + nd) 7 = .inl (kA 0, 3, .inl (fun _ => 0)) := (fE298 (1 + nd) 7 (fun q9 => absurd q9.2 (by decide))).trans p_253
              have c_309 : E296 (1 + nd) 8 = .inl (kA 0, 3, .inl (fun _ => 0)) := (fE298 (1 + nd) 8 (fun q9 => absurd q9.2 (by decide))).trans p_254
              have c_310 : E296 (1 + nd) 9 = .inl (kA 8, 6, .inr (.inr (.inr (.inr (fun _ => none))))) := (fE298 (1 + nd) 9 (fun q9 => absurd q9.2 (by decide))).trans p_255
              have c_311 : E296 (1 + nd) 10 = .inl (kA 8, 6, .inr (.inr (.inr (.inr (fun _ => none))))) := (fE298 (1 + nd) 10 (fun q9 => absurd q9.2 (by decide))).trans p_256
              have c_312 : E296 (1 + nd) 11 = .inl (kA 2, 5, .inl (fun _ => 0)) := (fE298 (1 + nd) 11 (fun q9 => absurd q9.2 (by decide))).trans p_257
              have c_313 : E296 (1 + nd) 12 = .inl (kA 2, 5, .inl (fun _ => 0)) := (fE298 (1 + nd) 12 (fun q9 => absurd q9.2 (by decide))).trans p_258
              have c_314 : E296 0 0 = .inr (0, [.ref (ad243 0 1), .ref (ad243 0 5), .ref (ad243 0 7), .ref (ad243 0 9), .int (nI ml), .int lf_1]) := (fE298 0 0 (fun q9 => absurd q9.2 (by decide))).trans c_286
              have c_315 : E296 0 1 = .inr (1, [.ref (ad243 0 2), .ref (ad243 0 3), .ref (ad243 0 4), .int (nI len), .int (nI (wl.length))]) := (fE298 0 1 (fun q9 => absurd q9.2 (by decide))).trans c_287
              have c_316 : E296 0 2 = .inl (kA 1, 40, .inl tx_4) := (fE298 0 2 (fun q9 => absurd q9.2 (by decide))).trans c_288
              have c_317 : E296 0 3 = .inl (kA 0, 20, .inl fb_4) := (fE298 0 3 (fun q9 => absurd q9.2 (by decide))).trans c_289
              have c_318 : E296 0 4 = .inl (kA 0, 20, .inl fe_4) := (fE298 0 4 (fun q9 => absurd q9.2 (by decide))).trans c_290
              have c_319 : E296 0 5 = .inr (2, [.ref (ad243 0 6), .int (nI nd)]) := (fE298 0 5 (fun q9 => absurd q9.2 (by decide))).trans c_291
              have c_320 : E296 0 7 = .inr (3, [.ref (ad243 0 5), .ref (ad243 0 8), .int (nI cs), .int cf_18, pv_18]) := (fE298 0 7 (fun q9 => absurd q9.2 (by decide))).trans c_293
              have c_321 : E296 0 8 = .inl (kA 4, 12, .inr (.inr (.inr (.inr fc_18)))) := (fE298 0 8 (fun q9 => absurd q9.2 (by decide))).trans c_294
              have c_322 : E296 0 9 = .inl (kA 5, 5, .inr (.inr (.inr (.inr fl_23)))) := (fE298 0 9 (fun q9 => absurd q9.2 (by decide))).trans c_295
              refine lv_aload_n hx hb xd_Sh_acceptDescriptor_110 rfl (lv_at hl 3 rfl) ?_
              refine lv_dup hx hb xd_Sh_acceptDescriptor_111 rfl ?_
              refine px_get (D := D) (ci := 2) (v := .int (nI nd)) (C := xR_Sh) (T := xT_Sh) (N := 2) hx hb hT xi_Sh hown hK.1 hP m_280 c_319 rfl 1 (by decide) (hT _ k5e_15) (fun _ h9 => h9) rfl xd_Sh_acceptDescriptor_112 ?_
              refine lv_iconst (v := 1) hx hb xd_Sh_acceptDescriptor_115 (by decide) ?_
              refine lv_iadd hx hb xd_Sh_acceptDescriptor_116 ?_
              refine xn_top (y := nI (nd + 1)) (nI_add nd 1) ?_
              refine px_put (D := D) (ci := 2) (v := .int (nI (nd + 1))) (ty := .int) (C := xR_Sh) (T := xT_Sh) (N := 2) hx hb hT xi_Sh xt_Sh xt_Sh_ok xn_Sh hown hK.1 hP hD hS m_280 c_319 rfl 1 (by decide) (hT _ k5e_15) (fun _ h9 => h9) rfl (by decide +kernel) rfl rfl (Nat.le_of_ble_eq_true rfl) xd_Sh_acceptDescriptor_117 (fun H locs hP hD hS => ?_)
              have hP : va_P D xcl (rp ad243 (up2 E296 0 5 (.inr (2, [.ref (ad243 0 6), .int (nI (nd + 1))]))) RL245) H := hP
              have hD : va_D A (rp ad243 (up2 E296 0 5 (.inr (2, [.ref (ad243 0 6), .int (nI (nd + 1))]))) RL245) := hD
              generalize hE324 : up2 E296 0 5 (.inr (2, [.ref (ad243 0 6), .int (nI (nd + 1))])) = E323 at hP hD
              have fE325 : ∀ b2 o2, ¬ (b2 = 0 ∧ o2 = 5) → E323 b2 o2 = E296 b2 o2 := fun b2 o2 h9 => by rw [← hE324]; exact up2_ne (nr_or h9)
              have c_326 : E323 0 5 = .inr (2, [.ref (ad243 0 6), .int (nI (nd + 1))]) := by rw [← hE324]; exact up2_eq
              have c_327 : E323 0 6 = .inl (kA 4, 12, .inr (.inr (.inr (.inr (va_up fd_13 nd (some (ad243 (1 + nd) 0))))))) := (fE325 0 6 (fun q9 => absurd q9.2 (by decide))).trans c_299
              have c_328 : E323 (1 + nd) 0 = .inr (7, [.int (nI nd), .int 1, .int (wN (g 0) wl 2), .ref (ad243 (1 + nd) 1), .ref (ad243 (1 + nd) 9), .ref (ad243 (1 + nd) 10), .ref (ad243 (1 + nd) 2), .ref (ad243 (1 + nd) 11), .ref (ad243 (1 + nd) 12), .ref (ad243 (1 + nd) 3), .ref (ad243 (1 + nd) 4), .int 0]) := (fE325 (1 + nd) 0 (fun q9 => absurd q9.2 (by decide))).trans c_300
              have c_329 : E323 (1 + nd) 1 = .inr (8, [.ref (ad243 (1 + nd) 5), .int 0]) := (fE325 (1 + nd) 1 (fun q9 => absurd q9.2 (by decide))).trans c_301
              have c_330 : E323 (1 + nd) 2 = .inr (8, [.ref (ad243 (1 + nd) 6), .int 0]) := (fE325 (1 + nd) 2 (fun q9 => absurd q9.2 (by decide))).trans c_302
              have c_331 : E323 (1 + nd) 3 = .inr (8, [.ref (ad243 (1 + nd) 7), .int 0]) := (fE325 (1 + nd) 3 (fun q9 => absurd q9.2 (by decide))).trans c_303
              have c_332 : E323 (1 + nd) 4 = .inr (8, [.ref (ad243 (1 + nd) 8), .int 0]) := (fE325 (1 + nd) 4 (fun q9 => absurd q9.2 (by decide))).trans c_304
              have c_333 : E323 (1 + nd) 5 = .inl (kA 0, 6, .inl (fun _ => 0)) := (fE325 (1 + nd) 5 (fun q9 => nb_306 q9.1)).trans c_305
              have c_334 : E323 (1 + nd) 6 = .inl (kA 0, 5, .inl (fun _ => 0)) := (fE325 (1 + nd) 6 (fun q9 => absurd q9.2 (by decide))).trans c_307
              have c_335 : E323 (1 + nd) 7 = .inl (kA 0, 3, .inl (fun _ => 0)) := (fE325 (1 + nd) 7 (fun q9 => absurd q9.2 (by decide))).trans c_308
              have c_336 : E323 (1 + nd) 8 = .inl (kA 0, 3, .inl (fun _ => 0)) := (fE325 (1 + nd) 8 (fun q9 => absurd q9.2 (by decide))).trans c_309
              have c_337 : E323 (1 + nd) 9 = .inl (kA 8, 6, .inr (.inr (.inr (.inr (fun _ => none))))) := (fE325 (1 + nd) 9 (fun q9 => absurd q9.2 (by decide))).trans c_310
              have c_338 : E323 (1 + nd) 10 = .inl (kA 8, 6, .inr (.inr (.inr (.inr (fun _ => none))))) := (fE325 (1 + nd) 10 (fun q9 => absurd q9.2 (by decide))).trans c_311
              have c_339 : E323 (1 + nd) 11 = .inl (kA 2, 5, .inl (fun _ => 0)) := (fE325 (1 + nd) 11 (fun q9 => absurd q9.2 (by decide))).trans c_312
              have c_340 : E323 (1 + nd) 12 = .inl (kA 2, 5, .inl (fun _ => 0)) := (fE325 (1 + nd) 12 (fun q9 => absurd q9.2 (by decide))).trans c_313
              have c_341 : E323 0 0 = .inr (0, [.ref (ad243 0 1), .ref (ad243 0 5), .ref (ad243 0 7), .ref (ad243 0 9), .int (nI ml), .int lf_1]) := (fE325 0 0 (fun q9 => absurd q9.2 (by decide))).trans c_314
              have c_342 : E323 0 1 = .inr (1, [.ref (ad243 0 2), .ref (ad243 0 3), .ref (ad243 0 4), .int (nI len), .int (nI (wl.length))]) := (fE325 0 1 (fun q9 => absurd q9.2 (by decide))).trans c_315
              have c_343 : E323 0 2 = .inl (kA 1, 40, .inl tx_4) := (fE325 0 2 (fun q9 => absurd q9.2 (by decide))).trans c_316
              have c_344 : E323 0 3 = .inl (kA 0, 20, .inl fb_4) := (fE325 0 3 (fun q9 => absurd q9.2 (by decide))).trans c_317
              have c_345 : E323 0 4 = .inl (kA 0, 20, .inl fe_4) := (fE325 0 4 (fun q9 => absurd q9.2 (by decide))).trans c_318
              have c_346 : E323 0 7 = .inr (3, [.ref (ad243 0 5), .ref (ad243 0 8), .int (nI cs), .int cf_18, pv_18]) := (fE325 0 7 (fun q9 => absurd q9.2 (by decide))).trans c_320
              have c_347 : E323 0 8 = .inl (kA 4, 12, .inr (.inr (.inr (.inr fc_18)))) := (fE325 0 8 (fun q9 => absurd q9.2 (by decide))).trans c_321
              have c_348 : E323 0 9 = .inl (kA 5, 5, .inr (.inr (.inr (.inr fl_23)))) := (fE325 0 9 (fun q9 => absurd q9.2 (by decide))).trans c_322
              have hTDn : TD (va_up (va_up g 3 (upd (g 3) nd 1)) 4 (upd (g 4) nd (wN (g 0) wl 2))) (E323 (1 + nd)) nd := TD_mk (k0 := 0) (k1 := 0) (k2 := 0) (k3 := 0) (by omega) (by omega) (by omega) (by omega) c_328 c_329 c_330 c_331 c_332 c_333 c_334 c_335 c_336 c_339 c_340 (TT_D ((hZI nd (by omega)).1 (Nat.le_refl _))) (fun i9 hi9 => absurd hi9 (by omega))
              have hTD2 : TDs (va_up (va_up g 3 (upd (g 3) nd 1)) 4 (upd (g 4) nd (wN (g 0) wl 2))) E323 (nd + 1) := TDs_add hDIs (fun d9 hd9 => fun2 fun o9 => by show E323 (1 + d9) o9 = _; rw [fE325 (1 + d9) o9 (by omega), fE298 (1 + d9) o9 (by omega), p_259 (1 + d9) o9 (by omega) (by omega) (by omega) (by omega) (by omega) (by omega) (by omega) (by omega) (by omega) (by omega) (by omega) (by omega) (by omega), fE214 (1 + d9) o9 (by omega)]) (fun d9 hd9 => AG_D (by omega)) hTDn hTD
              have hFRL : FRL ml nd ad ad243 E E323 := ⟨fun n9 hn9 => ⟨fun2 fun o9 => by show E323 (20 + n9) o9 = _; rw [fE325 (20 + n9) o9 (by omega), fE298 (20 + n9) o9 (by omega), p_259 (20 + n9) o9 (by omega) (by omega) (by omega) (by omega) (by omega) (by omega) (by omega) (by omega) (by omega) (by omega) (by omega) (by omega) (by omega), fE214 (20 + n9) o9 (by omega)], fun2 fun o9 => by show ad243 (20 + n9) o9 = _; rw [p_260 (20 + n9) o9 (by omega) (by omega) (by omega) (by omega) (by omega) (by omega) (by omega) (by omega) (by omega) (by omega) (by omega) (by omega), fA215 (20 + n9) o9 (by omega)]⟩, fun d9 hd9 => by show ad243 (1 + d9) 0 = _; rw [p_260 (1 + d9) 0 (by omega) (by omega) (by omega) (by omega) (by omega) (by omega) (by omega) (by omega) (by omega) (by omega) (by omega) (by omega), fA215 (1 + d9) 0 (by omega)], by show E323 0 0 = _; rw [fE325 0 0 (by omega), fE298 0 0 (by omega), p_259 0 0 (by omega) (by omega) (by omega) (by omega) (by omega) (by omega) (by omega) (by omega) (by omega) (by omega) (by omega) (by omega) (by omega), fE214 0 0 (by omega)]⟩
              have hCI : CI kA ad243 E323 RL245 ml (nd + 1) len wl.length cs := ⟨(fun o9 h9 => p_261 _ (hs216 _ (hmB o9 h9))), ⟨lf_1, c_341⟩, ⟨tx_4, fb_4, fe_4, (by omega), (by omega), c_342, c_343, c_344, c_345, hws_4⟩, ⟨(va_up fd_13 nd (some (ad243 (1 + nd) 0))), (by omega), c_326, c_327, (DS_add hds_13 (fun d9 hd9 => by show ad243 (1 + d9) 0 = _; rw [p_260 (1 + d9) 0 (by omega) (by omega) (by omega) (by omega) (by omega) (by omega) (by omega) (by omega) (by omega) (by omega) (by omega) (by omega), fA215 (1 + d9) 0 (by omega)]))⟩, ⟨cf_18, pv_18, fc_18, (by omega), (PV_ad hpv_18 (fun n9 hn9 => by show ad243 (20 + n9) 0 = _; rw [p_260 (20 + n9) 0 (by omega) (by omega) (by omega) (by omega) (by omega) (by omega) (by omega) (by omega) (by omega) (by omega) (by omega) (by omega), fA215 (20 + n9) 0 (by omega)])), c_346, c_347, (FC_ad hfc_18 (fun d9 hd9 => by show ad243 (1 + d9) 0 = _; rw [p_260 (1 + d9) 0 (by omega) (by omega) (by omega) (by omega) (by omega) (by omega) (by omega) (by omega) (by omega) (by omega) (by omega) (by omega), fA215 (1 + d9) 0 (by omega)]) (by omega))⟩, ⟨fl_23, (by omega), c_348, (LA_ad hla_23 (fun n9 hn9 => by show ad243 (20 + n9) 0 = _; rw [p_260 (20 + n9) 0 (by omega) (by omega) (by omega) (by omega) (by omega) (by omega) (by omega) (by omega) (by omega) (by omega) (by omega) (by omega), fA215 (20 + n9) 0 (by omega)]))⟩, (DIs_add (fun d9 hd9 => fun2 fun o9 => by show E323 (1 + d9) o9 = _; rw [fE325 (1 + d9) o9 (by omega), fE298 (1 + d9) o9 (by omega), p_259 (1 + d9) o9 (by omega) (by omega) (by omega) (by omega) (by omega) (by omega) (by omega) (by omega) (by omega) (by omega) (by omega) (by omega) (by omega), fE214 (1 + d9) o9 (by omega)]) (fun d9 hd9 => fun2 fun o9 => by show ad243 (1 + d9) o9 = _; rw [p_260 (1 + d9) o9 (by omega) (by omega) (by omega) (by omega) (by omega) (by omega) (by omega) (by omega) (by omega) (by omega) (by omega) (by omega), fA215 (1 + d9) o9 (by omega)]) (fun _ h9 => p_261 _ (hs216 _ h9)) ⟨(fun o9 ho9 => by
          have ho8 : o9 = 0 ∨ o9 = 1 ∨ o9 = 2 ∨ o9 = 3 ∨ o9 = 4 ∨ o9 = 5 ∨ o9 = 6 ∨ o9 = 7 ∨ o9 = 8 ∨ o9 = 9 ∨ o9 = 10 ∨ o9 = 11 ∨ o9 = 12 := by omega
          rcases ho8 with rfl | rfl | rfl | rfl | rfl | rfl | rfl | rfl | rfl | rfl | rfl | rfl | rfl
          · exact m_285
          · exact p_262
          · exact p_263
          · exact p_264
          · exact p_265
          · exact p_266
          · exact p_267
          · exact p_268
          · exact p_269
          · exact p_270
          · exact p_271
          · exact p_272
          · exact p_273), 1, (wN (g 0) wl 2), 0, 0, 0, 0, 0, (fun _ => 0), (fun _ => 0), (fun _ => 0), (fun _ => 0), (fun _ => none), (fun _ => none), (fun _ => 0), (fun _ => 0), (by omega), (by omega), (by omega), (by omega), c_328, c_329, c_330, c_331, c_332, c_333, c_334, c_335, c_336, c_337, c_338, c_339, c_340, fun i9 hi9 => absurd hi9 (by omega)⟩ hDIs), (LIs_same (by omega) (fun n9 hn9 => fun2 fun o9 => by show E323 (20 + n9) o9 = _; rw [fE325 (20 + n9) o9 (by omega), fE298 (20 + n9) o9 (by omega), p_259 (20 + n9) o9 (by omega) (by omega) (by omega) (by omega) (by omega) (by omega) (by omega) (by omega) (by omega) (by omega) (by omega) (by omega) (by omega), fE214 (20 + n9) o9 (by omega)]) (fun n9 hn9 => fun2 fun o9 => by show ad243 (20 + n9) o9 = _; rw [p_260 (20 + n9) o9 (by omega) (by omega) (by omega) (by omega) (by omega) (by omega) (by omega) (by omega) (by omega) (by omega) (by omega) (by omega), fA215 (20 + n9) o9 (by omega)]) (fun d9 hd9 => by show ad243 (1 + d9) 0 = _; rw [p_260 (1 + d9) 0 (by omega) (by omega) (by omega) (by omega) (by omega) (by omega) (by omega) (by omega) (by omega) (by omega) (by omega) (by omega), fA215 (1 + d9) 0 (by omega)]) (fun _ h9 => p_261 _ (hs216 _ h9)) hLIs)⟩
              have hA00 : ad243 0 0 = ad 0 0 := by show ad243 0 0 = _; rw [p_260 0 0 (by omega) (by omega) (by omega) (by omega) (by omega) (by omega) (by omega) (by omega) (by omega) (by omega) (by omega) (by omega), fA215 0 0 (by omega)]
              obtain ⟨hmB, hDk, hLi, hSh, hCh, hLa, hDIs, hLIs⟩ := id hCI
              refine lv_iconst (v := 1) hx hb xd_Sh_acceptDescriptor_120 (by decide) ?_
              refine W.widen (k := 13) (n := 66) (Nat.le_of_ble_eq_true rfl) (Nat.le_of_ble_eq_true rfl) ?_
              exact W.iret (v := 1) hx hb hr (fun t ht hW => ⟨⟨1, (ad243, E323, RL245), rfl, (by
        rw [lD_y (fF_1 hw7) rfl ⟨by omega, Or.inr hw8, hc200, fun j hj q => ff_no z206 j hj ⟨q.1.trans (fF_1 hw7).symm, q.2⟩, by omega⟩]
        exact ⟨hCI, hTD2, hA00, hFRL⟩), by rw [ht]; exact hP, hD⟩, hS.F ht⟩) hS.2.2 xd_Sh_acceptDescriptor_121
            · refine lv_bipush (v := (-2)) hx hb xd_Sh_acceptDescriptor_85 (by decide) ?_
              refine W.widen (k := 13) (n := 66) (Nat.le_of_ble_eq_true rfl) (Nat.le_of_ble_eq_true rfl) ?_
              exact W.iret (v := (-2)) hx hb hr (fun t ht hW => ⟨⟨(-2), (ad, E, RL), rfl, (by rw [lD_n (fun q => absurd q.2.2.2.2 (by omega))]; exact ⟨hCI, hTD, rfl, FRL_rf⟩), by rw [ht]; exact hP, hD⟩, hS.F ht⟩) hS.2.2 xd_Sh_acceptDescriptor_87
          · refine W.eq (g2 := F0 m 71 ls [.ref (ad (1 + z207) 0)]) rfl ?_
            refine lv_ifnull hx hb xd_Sh_acceptDescriptor_71 ?_
            refine lv_iconst (v := (-1)) hx hb xd_Sh_acceptDescriptor_74 (by decide) ?_
            refine W.widen (k := 13) (n := 66) (Nat.le_of_ble_eq_true rfl) (Nat.le_of_ble_eq_true rfl) ?_
            exact W.iret (v := (-1)) hx hb hr (fun t ht hW => ⟨⟨(-1), (ad, E, RL), rfl, (by rw [lD_n (fun q => q.2.2.2.1 z207 z208 ⟨(ff_is z209).2.1.1.trans (fF_1 hw7), (ff_is z209).2.1.2⟩)]; exact ⟨hCI, hTD, rfl, FRL_rf⟩), by rw [ht]; exact hP, hD⟩, hS.F ht⟩) hS.2.2 xd_Sh_acceptDescriptor_75
    · have hw8 : ¬ wS (g 0) wl 1 [49] := by have q := z192; rw [zw8] at q; exact q
      refine W.eq (g2 := F0 m 21 ls [.int 0]) rfl ?_
      refine lv_if_eq (tgt := 28) hx hb xd_Sh_acceptDescriptor_21 (by decide) (fun _ => ?_) (fun hc349 => absurd (by decide) hc349)
      refine lv_iconst (v := (-1)) hx hb xd_Sh_acceptDescriptor_28 (by decide) ?_
      refine lv_istore_n hx hb xd_Sh_acceptDescriptor_29 rfl hl (Nat.le_of_ble_eq_true rfl) rfl (fun ls hl => ?_)
      have hl : lv_has ls 5 [(2, .int (-1)), (0, .ref (ad 0 5)), (1, .ref (ad 0 1))] := hl
      refine lv_aload_n hx hb xd_Sh_acceptDescriptor_30 rfl (lv_at hl 2 rfl) ?_
      refine lv_iconst (v := 2) hx hb xd_Sh_acceptDescriptor_31 (by decide) ?_
      have hFc := px_free hD hS hA
      refine va_calli (va_runV (As := [.int 2]) (rest := []) ⟨hx, hb, hml, hown, hT⟩ (xc_Li_nameAtX l D kA H.size ad E RL g ml nd len lt wl cs 2 (by first | assumption | omega) (by first | assumption | omega) (by first | assumption | omega)) (cwV 1 hT (wT_V k5e_6 k5e_7 k5e_8 k5e_4 k5e_5) rfl rfl rfl (by decide +kernel) ⟨Nat.le_of_ble_eq_true rfl, Nat.le_of_ble_eq_true rfl⟩) (px_preV hK hP hD m_6 c_5 rfl) rfl rfl hl.1 rfl (lv_room (Nat.le_of_ble_eq_true rfl)) xd_Sh_acceptDescriptor_32 ⟨(Nat.le_of_ble_eq_true rfl), (Nat.le_of_ble_eq_true rfl)⟩) hS (fun q _ h => hFc q h) hFc (fun r350 u351 t H1 locs ht hvm hp352 hB hz1 hk1 hS => ?_)
      obtain ⟨hP1, hD1⟩ := hB
      rw [ht] at hP1
      have hD1 := hD1.weaken (fun _ _ _ h => hFc _ h)
      generalize H1 = H at hP1 hS ⊢
      have hP := hP1
      have hD := hD1
      have hP : va_P D xcl (rp ad E RL) H := hP
      have hD : va_D A (rp ad E RL) := hD
      have hp352 : r350 = wN (g 0) wl 2 := hp352
      subst hp352
      have hP : va_P D xcl (rp ad E RL) H := hP
      have hD : va_D A (rp ad E RL) := hD
      refine lv_istore_n hx hb xd_Sh_acceptDescriptor_35 rfl hl (Nat.le_of_ble_eq_true rfl) rfl (fun ls hl => ?_)
      have hl : lv_has ls 5 [(3, .int (wN (g 0) wl 2)), (2, .int (-1)), (0, .ref (ad 0 5)), (1, .ref (ad 0 1))] := hl
      refine lv_aload_n hx hb xd_Sh_acceptDescriptor_36 rfl (lv_at hl 3 rfl) ?_
      refine px_get (D := D) (ci := 1) (v := .int (nI (wl.length))) (C := xR_Li) (T := xT_Li) (N := 5) hx hb hT xi_Li hown hK.1 hP m_6 c_5 rfl 4 (by decide) (hT _ k5e_9) (fun _ h9 => h9) rfl xd_Sh_acceptDescriptor_37 ?_
      refine lv_iconst (v := 3) hx hb xd_Sh_acceptDescriptor_40 (by decide) ?_
      refine xn_ne (a := wl.length) (b := 3) (tgt := 57) hx hb xd_Sh_acceptDescriptor_41 (by decide) (by omega) (by omega) (fun hc353 => ?_) (fun hc353 => ?_)
      · refine lv_iconst (v := 0) hx hb xd_Sh_acceptDescriptor_57 (by decide) ?_
        refine lv_istore hx hb xd_Sh_acceptDescriptor_58 hl (Nat.le_of_ble_eq_true rfl) rfl (fun ls hl => ?_)
        have hl : lv_has ls 5 [(4, .int 0), (3, .int (wN (g 0) wl 2)), (2, .int (-1)), (0, .ref (ad 0 5)), (1, .ref (ad 0 1))] := hl
        refine lv_iload hx hb xd_Sh_acceptDescriptor_60 (lv_at hl 0 rfl) ?_
        refine lv_if_eq (tgt := 74) hx hb xd_Sh_acceptDescriptor_62 (by decide) (fun _ => ?_) (fun hc354 => absurd (by decide) hc354)
        refine lv_iconst (v := (-1)) hx hb xd_Sh_acceptDescriptor_74 (by decide) ?_
        refine W.widen (k := 13) (n := 66) (Nat.le_of_ble_eq_true rfl) (Nat.le_of_ble_eq_true rfl) ?_
        exact W.iret (v := (-1)) hx hb hr (fun t ht hW => ⟨⟨(-1), (ad, E, RL), rfl, (by rw [lD_n (fun q => absurd q.1 (by omega))]; exact ⟨hCI, hTD, rfl, FRL_rf⟩), by rw [ht]; exact hP, hD⟩, hS.F ht⟩) hS.2.2 xd_Sh_acceptDescriptor_75
      · refine lv_iload_n hx hb xd_Sh_acceptDescriptor_44 rfl (lv_at hl 1 rfl) ?_
        refine lv_iconst (v := (-1)) hx hb xd_Sh_acceptDescriptor_45 (by decide) ?_
        refine lv_icmp_eq (tgt := 57) hx hb xd_Sh_acceptDescriptor_46 (by decide) (fun _ => ?_) (fun hc355 => absurd (by decide) hc355)
        refine lv_iconst (v := 0) hx hb xd_Sh_acceptDescriptor_57 (by decide) ?_
        refine lv_istore hx hb xd_Sh_acceptDescriptor_58 hl (Nat.le_of_ble_eq_true rfl) rfl (fun ls hl => ?_)
        have hl : lv_has ls 5 [(4, .int 0), (3, .int (wN (g 0) wl 2)), (2, .int (-1)), (0, .ref (ad 0 5)), (1, .ref (ad 0 1))] := hl
        refine lv_iload hx hb xd_Sh_acceptDescriptor_60 (lv_at hl 0 rfl) ?_
        refine lv_if_eq (tgt := 74) hx hb xd_Sh_acceptDescriptor_62 (by decide) (fun _ => ?_) (fun hc356 => absurd (by decide) hc356)
        refine lv_iconst (v := (-1)) hx hb xd_Sh_acceptDescriptor_74 (by decide) ?_
        refine W.widen (k := 13) (n := 66) (Nat.le_of_ble_eq_true rfl) (Nat.le_of_ble_eq_true rfl) ?_
        exact W.iret (v := (-1)) hx hb hr (fun t ht hW => ⟨⟨(-1), (ad, E, RL), rfl, (by rw [lD_n (fun q => q.2.1.elim hw7 hw8)]; exact ⟨hCI, hTD, rfl, FRL_rf⟩), by rw [ht]; exact hP, hD⟩, hS.F ht⟩) hS.2.2 xd_Sh_acceptDescriptor_75
theorem k5f_0 : (Cond.code xy_Li_nameAt xb_Li_nameAt 4 (some .int)) ∈ wT := wT_t (List.mem_append_right _ (List.mem_append_left _ (List.mem_of_getElem? (i := 17) rfl))) rfl
theorem k5f_1 : (Cond.methodLink "LayerDesk$Shelf" 70 xy_Li_nameAt) ∈ wT := wT_t (List.mem_append_right _ (List.mem_append_left _ (List.mem_of_getElem? (i := 14) rfl))) rfl
theorem k5f_2 : (Cond.instanceMethod xy_Li_nameAt) ∈ wT := wT_t (List.mem_append_right _ (List.mem_append_left _ (List.mem_of_getElem? (i := 15) rfl))) rfl
theorem k5f_3 : (Cond.selects "LayerDesk$Line" xy_Li_nameAt xy_Li_nameAt) ∈ wT := wT_t (List.mem_append_right _ (List.mem_append_left _ (List.mem_of_getElem? (i := 16) rfl))) rfl
theorem k5f_4 : (Cond.initialized "LayerDesk$Line") ∈ wT := wT_t (List.mem_append_left _ (List.mem_of_getElem? (i := 2) rfl)) rfl
theorem k5f_5 : (Cond.fieldLink "LayerDesk$Shelf" 27 "LayerDesk$Line" "words" "I") ∈ wT := wT_t (List.mem_append_left _ (List.mem_of_getElem? (i := 41) rfl)) rfl
theorem k5f_6 : (Cond.code xy_Sh_latest xb_Sh_latest 1 (some (.object "LayerDesk$Descriptor"))) ∈ wT := wT_t (List.mem_append_right _ (List.mem_append_left _ (List.mem_of_getElem? (i := 119) rfl))) rfl
theorem k5f_7 : (Cond.methodLink "LayerDesk$Shelf" 81 xy_Sh_latest) ∈ wT := wT_t (List.mem_append_right _ (List.mem_append_left _ (List.mem_of_getElem? (i := 116) rfl))) rfl
theorem k5f_8 : (Cond.instanceMethod xy_Sh_latest) ∈ wT := wT_t (List.mem_append_right _ (List.mem_append_left _ (List.mem_of_getElem? (i := 118) rfl))) rfl
theorem k5f_9 : (Cond.selects "LayerDesk$Shelf" xy_Sh_latest xy_Sh_latest) ∈ wT := wT_s (q := (xy_Sh_latest, 2)) (by decide +kernel) rfl
theorem k5f_10 : (Cond.initialized "LayerDesk$Shelf") ∈ wT := wT_t (List.mem_append_left _ (List.mem_of_getElem? (i := 3) rfl)) rfl
theorem k5f_11 : (Cond.fieldLink "LayerDesk$Shelf" 85 "LayerDesk$Descriptor" "packages" "LLayerDesk$Names;") ∈ wT := wT_t (List.mem_append_right _ (List.mem_append_left _ (List.mem_of_getElem? (i := 62) rfl))) rfl
theorem k5f_12 : (Cond.code xy_Na_holds xb_Na_holds 2 (some .boolean)) ∈ wT := wT_t (List.mem_append_right _ (List.mem_append_left _ (List.mem_of_getElem? (i := 123) rfl))) rfl
theorem k5f_13 : (Cond.methodLink "LayerDesk$Shelf" 89 xy_Na_holds) ∈ wT := wT_t (List.mem_append_right _ (List.mem_append_left _ (List.mem_of_getElem? (i := 120) rfl))) rfl
theorem k5f_14 : (Cond.instanceMethod xy_Na_holds) ∈ wT := wT_t (List.mem_append_right _ (List.mem_append_left _ (List.mem_of_getElem? (i := 121) rfl))) rfl
theorem k5f_15 : (Cond.selects "LayerDesk$Names" xy_Na_holds xy_Na_holds) ∈ wT := wT_t (List.mem_append_right _ (List.mem_append_left _ (List.mem_of_getElem? (i := 122) rfl))) rfl
theorem k5f_16 : (Cond.initialized "LayerDesk$Names") ∈ wT := wT_t (List.mem_append_left _ (List.mem_of_getElem? (i := 11) rfl)) rfl
theorem k5f_17 : (Cond.fieldLink "LayerDesk$Shelf" 95 "LayerDesk$Descriptor" "settled" "Z") ∈ wT := wT_t (List.mem_append_right _ (List.mem_append_left _ (List.mem_of_getElem? (i := 83) rfl))) rfl
theorem k5f_18 : (Cond.code xy_Na_isFull xb_Na_isFull 1 (some .boolean)) ∈ wT := wT_t (List.mem_append_right _ (List.mem_append_left _ (List.mem_of_getElem? (i := 131) rfl))) rfl
theorem k5f_19 : (Cond.methodLink "LayerDesk$Shelf" 99 xy_Na_isFull) ∈ wT := wT_t (List.mem_append_right _ (List.mem_append_left _ (List.mem_of_getElem? (i := 128) rfl))) rfl
theorem k5f_20 : (Cond.instanceMethod xy_Na_isFull) ∈ wT := wT_t (List.mem_append_right _ (List.mem_append_left _ (List.mem_of_getElem? (i := 129) rfl))) rfl
theorem k5f_21 : (Cond.selects "LayerDesk$Names" xy_Na_isFull xy_Na_isFull) ∈ wT := wT_t (List.mem_append_right _ (List.mem_append_left _ (List.mem_of_getElem? (i := 130) rfl))) rfl
theorem k5f_22 : (Cond.code xy_Ds_addPackage xb_Ds_addPackage 2 none) ∈ wT := wT_t (List.mem_append_right _ (List.mem_append_left _ (List.mem_of_getElem? (i := 135) rfl))) rfl
theorem k5f_23 : (Cond.methodLink "LayerDesk$Shelf" 103 xy_Ds_addPackage) ∈ wT := wT_t (List.mem_append_right _ (List.mem_append_left _ (List.mem_of_getElem? (i := 132) rfl))) rfl
theorem k5f_24 : (Cond.instanceMethod xy_Ds_addPackage) ∈ wT := wT_t (List.mem_append_right _ (List.mem_append_left _ (List.mem_of_getElem? (i := 133) rfl))) rfl
theorem k5f_25 : (Cond.selects "LayerDesk$Descriptor" xy_Ds_addPackage xy_Ds_addPackage) ∈ wT := wT_t (List.mem_append_right _ (List.mem_append_left _ (List.mem_of_getElem? (i := 134) rfl))) rfl
theorem k5f_26 : (Cond.initialized "LayerDesk$Descriptor") ∈ wT := wT_t (List.mem_append_left _ (List.mem_of_getElem? (i := 10) rfl)) rfl
set_option maxHeartbeats 4000000 in
set_option maxRecDepth 100000 in
theorem xc_Sh_acceptPackageX (l : Launch) (D : va_G) (kA : Nat → ClassId) (sz : Nat) (ad : Nat → Nat → Nat) (E : Nat → Nat → va_E) (RL : List (Nat × Nat)) (Z : zT) (g : Nat → Nat → Int32) (ml : Nat) (nd : Nat) (len : Nat) (lt : Nat) (wl : List (Nat × Nat)) (cs : Nat) (hCI : CI kA ad E RL ml nd len wl.length cs) (hLW : LW g E lt wl) (hTD : TDs g E nd) (hZI : ZI g nd) : Met l xy_Sh_acceptPackage (.code xy_Sh_acceptPackage xb_Sh_acceptPackage 4 (some .int) :: wT) { frames := 4, cells := 6, slots := 20, locals := 76 } (va_Pc [.ref (ad 0 5), .ref (ad 0 1)] (xPreZ D kA sz (rp ad E RL) Z)) (va_Qi (fun (r : Int32) (u : (Nat → Nat → Nat) × (Nat → Nat → va_E) × List (Nat × Nat)) => CI kA u.1 u.2.1 u.2.2 ml nd len wl.length cs ∧ TDs (lP (g 0) wl nd g) u.2.1 nd ∧ u.1 0 0 = ad 0 0 ∧ FRL ml nd ad u.1 E u.2.1) (fun (u : (Nat → Nat → Nat) × (Nat → Nat → va_E) × List (Nat × Nat)) t => va_P D xcl (rp u.1 u.2.1 u.2.2) t.heap ∧ va_D (va_A (rp ad E RL) sz) (rp u.1 u.2.1 u.2.2)) (va_A (rp ad E RL) sz)) 6 20 (va_A (rp ad E RL) sz) := by
  refine Met.ofW (cc := xb_Sh_acceptPackage) (maxL := 4) (ret := (some .int)) (by decide) rfl ?_
  intro p e s m args below meth c s₁ B hml hv
  obtain ⟨rfl, ⟨hsz, hP, hK, hD0⟩, hZ⟩ := hv
  have hx := B.exec
  have hb := B.bytes
  have hr := B.returns
  have hT := x_hT B.pre
  have hown : s.vm.findClass xR_Sh = some m.cls := findClass_of_methodNamed B.named
  have hlocks := B.notSynchronized
  subst hsz
  have hD := hD0.self (sz := s.heap.size)
  generalize hAe : va_A (rp ad E RL) s.heap.size = A at hD hZ ⊢
  have hA : ∀ q : Nat, s.heap.size ≤ q → A q := fun q h => by rw [← hAe]; exact Or.inr h
  have hS : va_S A s.heap s.heap [] := va_S.rf
  have hl := lv_entry ([.ref (ad 0 5), .ref (ad 0 1)]) (n := 4) (Nat.le_of_ble_eq_true rfl)
  rw [lg_entry_eq]
  generalize (lg_sl ([.ref (ad 0 5), .ref (ad 0 1)]) ++ List.replicate (4 - (lg_sl ([.ref (ad 0 5), .ref (ad 0 1)])).length) Slot.unset).toArray = ls at hl ⊢
  have hl : lv_has ls 4 [(0, .ref (ad 0 5)), (1, .ref (ad 0 1))] := hl
  have hP : va_P D xcl (rp ad E RL) s.heap := hP
  obtain ⟨hmB, hDk, hLi, hSh, hCh, hLa, hDIs, hLIs⟩ := id hCI
  obtain ⟨hWL, hlt40, hLwd, hLtx⟩ := id hLW
  obtain ⟨lf_1, q_1⟩ := id (hDk)
  have c_2 : E 0 0 = .inr (0, [.ref (ad 0 1), .ref (ad 0 5), .ref (ad 0 7), .ref (ad 0 9), .int (nI ml), .int lf_1]) := q_1
  have m_3 : (0, 0) ∈ RL := hmB 0 (by decide)
  obtain ⟨tx_4, fb_4, fe_4, hl1_4, hw2_4, q1_4, q2_4, q3_4, q4_4, hws_4⟩ := id (hLi)
  have c_5 : E 0 1 = .inr (1, [.ref (ad 0 2), .ref (ad 0 3), .ref (ad 0 4), .int (nI len), .int (nI (wl.length))]) := q1_4
  have m_6 : (0, 1) ∈ RL := hmB 1 (by decide)
  have c_7 : E 0 2 = .inl (kA 1, 40, .inl tx_4) := q2_4
  have m_8 : (0, 2) ∈ RL := hmB 2 (by decide)
  have c_9 : E 0 3 = .inl (kA 0, 20, .inl fb_4) := q3_4
  have m_10 : (0, 3) ∈ RL := hmB 3 (by decide)
  have c_11 : E 0 4 = .inl (kA 0, 20, .inl fe_4) := q4_4
  have m_12 : (0, 4) ∈ RL := hmB 4 (by decide)
  obtain ⟨fd_13, hnd_13, q5_13, q6_13, hds_13⟩ := id (hSh)
  have c_14 : E 0 5 = .inr (2, [.ref (ad 0 6), .int (nI nd)]) := q5_13
  have m_15 : (0, 5) ∈ RL := hmB 5 (by decide)
  have c_16 : E 0 6 = .inl (kA 4, 12, .inr (.inr (.inr (.inr fd_13)))) := q6_13
  have m_17 : (0, 6) ∈ RL := hmB 6 (by decide)
  obtain ⟨cf_18, pv_18, fc_18, hcs_18, hpv_18, q7_18, q8_18, hfc_18⟩ := id (hCh)
  have c_19 : E 0 7 = .inr (3, [.ref (ad 0 5), .ref (ad 0 8), .int (nI cs), .int cf_18, pv_18]) := q7_18
  have m_20 : (0, 7) ∈ RL := hmB 7 (by decide)
  have c_21 : E 0 8 = .inl (kA 4, 12, .inr (.inr (.inr (.inr fc_18)))) := q8_18
  have m_22 : (0, 8) ∈ RL := hmB 8 (by decide)
  obtain ⟨fl_23, hml_23, q9_23, hla_23⟩ := id (hLa)
  have c_24 : E 0 9 = .inl (kA 5, 5, .inr (.inr (.inr (.inr fl_23)))) := q9_23
  have m_25 : (0, 9) ∈ RL := hmB 9 (by decide)
  obtain ⟨zw0, zw1, zw2, zw3, zw4, zw5, zw6, zw7, zw8, zw9, zw10, zw11⟩ := zW_all
  refine lv_aload_n hx hb xd_Sh_acceptPackage_0 rfl (lv_at hl 1 rfl) ?_
  refine lv_iconst (v := 1) hx hb xd_Sh_acceptPackage_1 (by decide) ?_
  have hFc := px_free hD hS hA
  refine va_calli (va_runV (As := [.int 1]) (rest := []) ⟨hx, hb, hml, hown, hT⟩ (xc_Li_nameAtX l D kA s.heap.size ad E RL g ml nd len lt wl cs 1 (by first | assumption | omega) (by first | assumption | omega) (by first | assumption | omega)) (cwV 1 hT (wT_V k5f_1 k5f_2 k5f_3 k5f_4 k5f_0) rfl rfl rfl (by decide +kernel) ⟨Nat.le_of_ble_eq_true rfl, Nat.le_of_ble_eq_true rfl⟩) (px_preV hK hP hD m_6 c_5 rfl) rfl rfl hl.1 rfl (lv_room (Nat.le_of_ble_eq_true rfl)) xd_Sh_acceptPackage_2 ⟨(Nat.le_of_ble_eq_true rfl), (Nat.le_of_ble_eq_true rfl)⟩) hS (fun q _ h => hFc q h) hFc (fun r26 u27 t H1 locs ht hvm hp28 hB hz1 hk1 hS => ?_)
  obtain ⟨hP1, hD1⟩ := hB
  rw [ht] at hP1
  have hD1 := hD1.weaken (fun _ _ _ h => hFc _ h)
  generalize H1 = H at hP1 hS ⊢
  have hP := hP1
  have hD := hD1
  have hP : va_P D xcl (rp ad E RL) H := hP
  have hD : va_D A (rp ad E RL) := hD
  have hp28 : r26 = wN (g 0) wl 1 := hp28
  subst hp28
  have hP : va_P D xcl (rp ad E RL) H := hP
  have hD : va_D A (rp ad E RL) := hD
  refine lv_istore_n hx hb xd_Sh_acceptPackage_5 rfl hl (Nat.le_of_ble_eq_true rfl) rfl (fun ls hl => ?_)
  have hl : lv_has ls 4 [(2, .int (wN (g 0) wl 1)), (0, .ref (ad 0 5)), (1, .ref (ad 0 1))] := hl
  refine lv_aload_n hx hb xd_Sh_acceptPackage_6 rfl (lv_at hl 2 rfl) ?_
  refine px_get (D := D) (ci := 1) (v := .int (nI (wl.length))) (C := xR_Li) (T := xT_Li) (N := 5) hx hb hT xi_Li hown hK.1 hP m_6 c_5 rfl 4 (by decide) (hT _ k5f_5) (fun _ h9 => h9) rfl xd_Sh_acceptPackage_7 ?_
  refine lv_iconst (v := 2) hx hb xd_Sh_acceptPackage_10 (by decide) ?_
  refine xn_ne (a := wl.length) (b := 2) (tgt := 18) hx hb xd_Sh_acceptPackage_11 (by decide) (by omega) (by omega) (fun hc29 => ?_) (fun hc29 => ?_)
  · refine lv_iconst (v := (-1)) hx hb xd_Sh_acceptPackage_18 (by decide) ?_
    refine W.widen (k := 6) (n := 20) (Nat.le_of_ble_eq_true rfl) (Nat.le_of_ble_eq_true rfl) ?_
    exact W.iret (v := (-1)) hx hb hr (fun t ht hW => ⟨⟨(-1), (ad, E, RL), rfl, ⟨hCI, by rw [← lP_no (fun q => absurd q.1 (by omega))]; exact hTD, rfl, FRL_rf⟩, by rw [ht]; exact hP, hD⟩, hS.F ht⟩) hS.2.2 xd_Sh_acceptPackage_19
  · refine lv_iload_n hx hb xd_Sh_acceptPackage_14 rfl (lv_at hl 0 rfl) ?_
    refine lv_if_ne (tgt := 20) hx hb xd_Sh_acceptPackage_15 (by decide) (fun hc30 => ?_) (fun hc30 => ?_)
    · refine lv_aload_n hx hb xd_Sh_acceptPackage_20 rfl (lv_at hl 1 rfl) ?_
      have hFc := px_free hD hS hA
      refine va_callq (va_runV (As := []) (rest := []) ⟨hx, hb, hml, hown, hT⟩ (xc_Sh_latestX l D kA H.size ad E RL ml nd len wl.length cs (by first | assumption | omega)) (cwV 0 hT (wT_V k5f_7 k5f_8 k5f_9 k5f_10 k5f_6) rfl rfl rfl (by decide +kernel) ⟨Nat.le_of_ble_eq_true rfl, Nat.le_of_ble_eq_true rfl⟩) (px_preV hK hP hD m_15 c_14 rfl) rfl rfl hl.1 rfl (lv_room (Nat.le_of_ble_eq_true rfl)) xd_Sh_acceptPackage_21 ⟨(Nat.le_of_ble_eq_true rfl), (Nat.le_of_ble_eq_true rfl)⟩) hS (fun q _ h => hFc q h) hFc (fun r31 u32 t H1 locs ht hvm hp33 hB hz1 hk1 hS => ?_)
      obtain ⟨hP1, hD1⟩ := hB
      rw [ht] at hP1
      have hD1 := hD1.weaken (fun _ _ _ h => hFc _ h)
      generalize H1 = H at hP1 hS ⊢
      have hP := hP1
      have hD := hD1
      have hP : va_P D xcl (rp ad E RL) H := hP
      have hD : va_D A (rp ad E RL) := hD
      rcases hp33 with ⟨rfl, z34⟩ | ⟨z35, rfl⟩
      · refine W.eq (g2 := F0 m 24 ls [.null]) rfl ?_
        refine lv_astore_nN hx hb xd_Sh_acceptPackage_24 rfl hl (Nat.le_of_ble_eq_true rfl) rfl (fun ls hl => ?_)
        have hl : lv_has ls 4 [(3, .null), (2, .int (wN (g 0) wl 1)), (0, .ref (ad 0 5)), (1, .ref (ad 0 1))] := hl
        refine lv_aload_nN hx hb xd_Sh_acceptPackage_25 rfl (lv_at hl 0 rfl) ?_
        refine lv_ifnonnullN hx hb xd_Sh_acceptPackage_26 ?_
        refine lv_bipush (v := (-2)) hx hb xd_Sh_acceptPackage_29 (by decide) ?_
        refine W.widen (k := 6) (n := 20) (Nat.le_of_ble_eq_true rfl) (Nat.le_of_ble_eq_true rfl) ?_
        exact W.iret (v := (-2)) hx hb hr (fun t ht hW => ⟨⟨(-2), (ad, E, RL), rfl, ⟨hCI, by rw [← lP_no (fun q => absurd q.2.2.1 (by omega))]; exact hTD, rfl, FRL_rf⟩, by rw [ht]; exact hP, hD⟩, hS.F ht⟩) hS.2.2 xd_Sh_acceptPackage_31
      · refine W.eq (g2 := F0 m 24 ls [.ref (ad (1 + (nd - 1)) 0)]) rfl ?_
        refine lv_astore_n hx hb xd_Sh_acceptPackage_24 rfl hl (Nat.le_of_ble_eq_true rfl) rfl (fun ls hl => ?_)
        have hl : lv_has ls 4 [(3, .ref (ad (1 + (nd - 1)) 0)), (2, .int (wN (g 0) wl 1)), (0, .ref (ad 0 5)), (1, .ref (ad 0 1))] := hl
        refine lv_aload_n hx hb xd_Sh_acceptPackage_25 rfl (lv_at hl 0 rfl) ?_
        refine lv_ifnonnull (tgt := 32) hx hb xd_Sh_acceptPackage_26 (by decide) ?_
        refine lv_aload_n hx hb xd_Sh_acceptPackage_32 rfl (lv_at hl 0 rfl) ?_
        obtain ⟨hm_36, fd_36, nm_36, sd_36, k0_36, k1_36, k2_36, k3_36, f0_36, f1_36, f2_36, f3_36, fe_36, fo_36, tr_36, op_36, hk0_36, hk1_36, hk2_36, hk3_36, q0_36, q1_36, q2_36, q3_36, q4_36, q5_36, q6_36, q7_36, q8_36, q9_36, q10_36, q11_36, q12_36, hg_36⟩ := id (hDIs (nd - 1) (by omega))
        have c_37 : E (1 + (nd - 1)) 0 = .inr (7, [.int (nI ((nd - 1))), .int fd_36, .int nm_36, .ref (ad (1 + (nd - 1)) 1), .ref (ad (1 + (nd - 1)) 9), .ref (ad (1 + (nd - 1)) 10), .ref (ad (1 + (nd - 1)) 2), .ref (ad (1 + (nd - 1)) 11), .ref (ad (1 + (nd - 1)) 12), .ref (ad (1 + (nd - 1)) 3), .ref (ad (1 + (nd - 1)) 4), .int sd_36]) := q0_36
        have m_38 : (1 + (nd - 1), 0) ∈ RL := hm_36 0 (by decide)
        have c_39 : E (1 + (nd - 1)) 1 = .inr (8, [.ref (ad (1 + (nd - 1)) 5), .int (nI k0_36)]) := q1_36
        have m_40 : (1 + (nd - 1), 1) ∈ RL := hm_36 1 (by decide)
        have c_41 : E (1 + (nd - 1)) 2 = .inr (8, [.ref (ad (1 + (nd - 1)) 6), .int (nI k1_36)]) := q2_36
        have m_42 : (1 + (nd - 1), 2) ∈ RL := hm_36 2 (by decide)
        have c_43 : E (1 + (nd - 1)) 3 = .inr (8, [.ref (ad (1 + (nd - 1)) 7), .int (nI k2_36)]) := q3_36
        have m_44 : (1 + (nd - 1), 3) ∈ RL := hm_36 3 (by decide)
        have c_45 : E (1 + (nd - 1)) 4 = .inr (8, [.ref (ad (1 + (nd - 1)) 8), .int (nI k3_36)]) := q4_36
        have m_46 : (1 + (nd - 1), 4) ∈ RL := hm_36 4 (by decide)
        have c_47 : E (1 + (nd - 1)) 5 = .inl (kA 0, 6, .inl f0_36) := q5_36
        have m_48 : (1 + (nd - 1), 5) ∈ RL := hm_36 5 (by decide)
        have c_49 : E (1 + (nd - 1)) 6 = .inl (kA 0, 5, .inl f1_36) := q6_36
        have m_50 : (1 + (nd - 1), 6) ∈ RL := hm_36 6 (by decide)
        have c_51 : E (1 + (nd - 1)) 7 = .inl (kA 0, 3, .inl f2_36) := q7_36
        have m_52 : (1 + (nd - 1), 7) ∈ RL := hm_36 7 (by decide)
        have c_53 : E (1 + (nd - 1)) 8 = .inl (kA 0, 3, .inl f3_36) := q8_36
        have m_54 : (1 + (nd - 1), 8) ∈ RL := hm_36 8 (by decide)
        have c_55 : E (1 + (nd - 1)) 9 = .inl (kA 8, 6, .inr (.inr (.inr (.inr fe_36)))) := q9_36
        have m_56 : (1 + (nd - 1), 9) ∈ RL := hm_36 9 (by decide)
        have c_57 : E (1 + (nd - 1)) 10 = .inl (kA 8, 6, .inr (.inr (.inr (.inr fo_36)))) := q10_36
        have m_58 : (1 + (nd - 1), 10) ∈ RL := hm_36 10 (by decide)
        have c_59 : E (1 + (nd - 1)) 11 = .inl (kA 2, 5, .inl tr_36) := q11_36
        have m_60 : (1 + (nd - 1), 11) ∈ RL := hm_36 11 (by decide)
        have c_61 : E (1 + (nd - 1)) 12 = .inl (kA 2, 5, .inl op_36) := q12_36
        have m_62 : (1 + (nd - 1), 12) ∈ RL := hm_36 12 (by decide)
        have hg_36 : ∀ w9, w9 < k0_36 → fe_36 w9 = some (ad (1 + (nd - 1)) (20 + 3 * w9)) ∧ fo_36 w9 = some (ad (1 + (nd - 1)) (38 + 3 * w9)) ∧ GI kA (ad (1 + (nd - 1))) (E (1 + (nd - 1))) (fun o => (1 + (nd - 1), o) ∈ RL) (20 + 3 * w9) (21 + 3 * w9) (22 + 3 * w9) ∧ GI kA (ad (1 + (nd - 1))) (E (1 + (nd - 1))) (fun o => (1 + (nd - 1), o) ∈ RL) (38 + 3 * w9) (39 + 3 * w9) (40 + 3 * w9) := hg_36
        obtain ⟨hTT_36, tgr_36⟩ := TD_get hk0_36 hk1_36 hk2_36 hk3_36 c_37 c_39 c_41 c_43 c_45 c_47 c_49 c_51 c_53 c_59 c_61 (hTD (nd - 1) (by omega))
        obtain ⟨tfd_36, tnm_36, tsd_36, tk0_36, tf0_36, tk1_36, tf1_36, tk2_36, tk3_36⟩ := id hTT_36
        have ik0_36 : iN (g 5 (nd - 1)) = k0_36 := by rw [← tk0_36, iN_nI (by omega)]
        have ik1_36 : iN (g 12 (nd - 1)) = k1_36 := by rw [← tk1_36, iN_nI (by omega)]
        refine px_get (D := D) (ci := 7) (v := .ref (ad (1 + (nd - 1)) 1)) (C := xR_Ds) (T := xT_Ds) (N := 12) hx hb hT xi_Ds hown hK.1 hP m_38 c_37 rfl 3 (by decide) (hT _ k5f_11) (fun _ h9 => h9) rfl xd_Sh_acceptPackage_33 ?_
        refine lv_iload_n hx hb xd_Sh_acceptPackage_36 rfl (lv_at hl 1 rfl) ?_
        have hFc := px_free hD hS hA
        refine va_calli (va_runV (As := [.int (wN (g 0) wl 1)]) (rest := []) ⟨hx, hb, hml, hown, hT⟩ (xc_Na_holds l D kA H.size ad E RL (1 + (nd - 1)) 1 5 6 k0_36 f0_36 (wN (g 0) wl 1) m_40 c_39 m_48 c_47 (by first | assumption | omega) (by first | assumption | omega)) (cwV 1 hT (wT_V k5f_13 k5f_14 k5f_15 k5f_16 k5f_12) rfl rfl rfl (by decide +kernel) ⟨Nat.le_of_ble_eq_true rfl, Nat.le_of_ble_eq_true rfl⟩) (px_preV hK hP hD m_40 c_39 rfl) rfl rfl hl.1 rfl (lv_room (Nat.le_of_ble_eq_true rfl)) xd_Sh_acceptPackage_37 ⟨(Nat.le_of_ble_eq_true rfl), (Nat.le_of_ble_eq_true rfl)⟩) hS (fun q _ h => hFc q h) hFc (fun r63 u64 t H1 locs ht hvm hp65 hB hz1 hk1 hS => ?_)
        obtain ⟨hP1, hD1⟩ := hB
        rw [ht] at hP1
        have hD1 := hD1.weaken (fun _ _ _ h => hFc _ h)
        generalize H1 = H at hP1 hS ⊢
        have hP := hP1
        have hD := hD1
        have hP : va_P D xcl (rp ad E RL) H := hP
        have hD : va_D A (rp ad E RL) := hD
        rcases hp65 with ⟨rfl, z66, z67, z68⟩ | ⟨rfl, z69⟩
        · refine W.eq (g2 := F0 m 40 ls [.int 1]) rfl ?_
          refine lv_if_eq (tgt := 45) hx hb xd_Sh_acceptPackage_40 (by decide) (fun hc70 => absurd hc70 (by decide)) (fun _ => ?_)
          refine lv_iconst (v := (-1)) hx hb xd_Sh_acceptPackage_43 (by decide) ?_
          refine W.widen (k := 6) (n := 20) (Nat.le_of_ble_eq_true rfl) (Nat.le_of_ble_eq_true rfl) ?_
          exact W.iret (v := (-1)) hx hb hr (fun t ht hW => ⟨⟨(-1), (ad, E, RL), rfl, ⟨hCI, by rw [← lP_no (fun q => q.2.2.2.1 (6 * (nd - 1) + z66) (by omega) (by omega) (by rw [← tf0_36 _ z67]; exact z68))]; exact hTD, rfl, FRL_rf⟩, by rw [ht]; exact hP, hD⟩, hS.F ht⟩) hS.2.2 xd_Sh_acceptPackage_44
        · refine W.eq (g2 := F0 m 40 ls [.int 0]) rfl ?_
          refine lv_if_eq (tgt := 45) hx hb xd_Sh_acceptPackage_40 (by decide) (fun _ => ?_) (fun hc71 => absurd (by decide) hc71)
          refine lv_aload_n hx hb xd_Sh_acceptPackage_45 rfl (lv_at hl 0 rfl) ?_
          refine px_get (D := D) (ci := 7) (v := .int sd_36) (C := xR_Ds) (T := xT_Ds) (N := 12) hx hb hT xi_Ds hown hK.1 hP m_38 c_37 rfl 11 (by decide) (hT _ k5f_17) (fun _ h9 => h9) rfl xd_Sh_acceptPackage_46 ?_
          refine lv_if_ne (tgt := 62) hx hb xd_Sh_acceptPackage_49 (by decide) (fun hc72 => ?_) (fun hc72 => ?_)
          · refine lv_bipush (v := (-2)) hx hb xd_Sh_acceptPackage_62 (by decide) ?_
            refine W.widen (k := 6) (n := 20) (Nat.le_of_ble_eq_true rfl) (Nat.le_of_ble_eq_true rfl) ?_
            exact W.iret (v := (-2)) hx hb hr (fun t ht hW => ⟨⟨(-2), (ad, E, RL), rfl, ⟨hCI, by rw [← lP_no (fun q => hc72 (by rw [tsd_36]; exact q.2.2.2.2.1))]; exact hTD, rfl, FRL_rf⟩, by rw [ht]; exact hP, hD⟩, hS.F ht⟩) hS.2.2 xd_Sh_acceptPackage_64
          · refine lv_aload_n hx hb xd_Sh_acceptPackage_52 rfl (lv_at hl 0 rfl) ?_
            refine px_get (D := D) (ci := 7) (v := .ref (ad (1 + (nd - 1)) 1)) (C := xR_Ds) (T := xT_Ds) (N := 12) hx hb hT xi_Ds hown hK.1 hP m_38 c_37 rfl 3 (by decide) (hT _ k5f_11) (fun _ h9 => h9) rfl xd_Sh_acceptPackage_53 ?_
            have hFc := px_free hD hS hA
            refine va_calli (va_runV (As := []) (rest := []) ⟨hx, hb, hml, hown, hT⟩ (xc_Na_isFull l D kA H.size ad E RL (1 + (nd - 1)) 1 5 6 k0_36 f0_36 m_40 c_39 m_48 c_47 (by first | assumption | omega) (by first | assumption | omega)) (cwV 0 hT (wT_V k5f_19 k5f_20 k5f_21 k5f_16 k5f_18) rfl rfl rfl (by decide +kernel) ⟨Nat.le_of_ble_eq_true rfl, Nat.le_of_ble_eq_true rfl⟩) (px_preV hK hP hD m_40 c_39 rfl) rfl rfl hl.1 rfl (lv_room (Nat.le_of_ble_eq_true rfl)) xd_Sh_acceptPackage_56 ⟨(Nat.le_of_ble_eq_true rfl), (Nat.le_of_ble_eq_true rfl)⟩) hS (fun q _ h => hFc q h) hFc (fun r73 u74 t H1 locs ht hvm hp75 hB hz1 hk1 hS => ?_)
            obtain ⟨hP1, hD1⟩ := hB
            rw [ht] at hP1
            have hD1 := hD1.weaken (fun _ _ _ h => hFc _ h)
            generalize H1 = H at hP1 hS ⊢
            have hP := hP1
            have hD := hD1
            have hP : va_P D xcl (rp ad E RL) H := hP
            have hD : va_D A (rp ad E RL) := hD
            rcases hp75 with ⟨rfl, z76⟩ | ⟨rfl, z77⟩
            · refine W.eq (g2 := F0 m 59 ls [.int 1]) rfl ?_
              refine lv_if_eq (tgt := 65) hx hb xd_Sh_acceptPackage_59 (by decide) (fun hc78 => absurd hc78 (by decide)) (fun _ => ?_)
              refine lv_bipush (v := (-2)) hx hb xd_Sh_acceptPackage_62 (by decide) ?_
              refine W.widen (k := 6) (n := 20) (Nat.le_of_ble_eq_true rfl) (Nat.le_of_ble_eq_true rfl) ?_
              exact W.iret (v := (-2)) hx hb hr (fun t ht hW => ⟨⟨(-2), (ad, E, RL), rfl, ⟨hCI, by rw [← lP_no (fun q => absurd q.2.2.2.2.2 (by have := z76; omega))]; exact hTD, rfl, FRL_rf⟩, by rw [ht]; exact hP, hD⟩, hS.F ht⟩) hS.2.2 xd_Sh_acceptPackage_64
            · refine W.eq (g2 := F0 m 59 ls [.int 0]) rfl ?_
              refine lv_if_eq (tgt := 65) hx hb xd_Sh_acceptPackage_59 (by decide) (fun _ => ?_) (fun hc79 => absurd (by decide) hc79)
              refine lv_aload_n hx hb xd_Sh_acceptPackage_65 rfl (lv_at hl 0 rfl) ?_
              refine lv_iload_n hx hb xd_Sh_acceptPackage_66 rfl (lv_at hl 1 rfl) ?_
              have hl := lv_sub hl [1, 2, 3] rfl
              have hl : lv_has ls 4 [(2, .int (wN (g 0) wl 1)), (0, .ref (ad 0 5)), (1, .ref (ad 0 1))] := hl
              have hFc := px_free hD hS hA
              refine va_callv (va_runV (As := [.int (wN (g 0) wl 1)]) (rest := []) ⟨hx, hb, hml, hown, hT⟩ (xc_Ds_addPackageX l D kA H.size ad E RL g (nd - 1) (wN (g 0) wl 1) (hDIs (nd - 1) (by omega)) (hTD (nd - 1) (by omega)) (by have := z77; omega) ((hZI (nd - 1) (by omega)).2 (iN (g 5 (nd - 1))) (by omega) (Or.inr (Nat.le_refl _)))) (cwV 1 hT (wT_V k5f_23 k5f_24 k5f_25 k5f_26 k5f_22) rfl rfl rfl (by decide +kernel) ⟨Nat.le_of_ble_eq_true rfl, Nat.le_of_ble_eq_true rfl⟩) (px_preV hK hP hD m_38 c_37 rfl) rfl rfl hl.1 rfl (lv_room (Nat.le_of_ble_eq_true rfl)) xd_Sh_acceptPackage_67 ⟨(Nat.le_of_ble_eq_true rfl), (Nat.le_of_ble_eq_true rfl)⟩) hS (fun q _ h => hFc q h) hFc (fun u81 t H1 locs ht hvm hp82 hB hz1 hk1 hS => ?_)
              obtain ⟨hP1, hD1⟩ := hB
              rw [ht] at hP1
              have hD1 := hD1.weaken (fun _ _ _ h => hFc _ h)
              generalize H1 = H at hP1 hS ⊢
              have hP := hP1
              have hD := hD1
              obtain ⟨ad83, E84, RL85⟩ := u81
              obtain ⟨hp89, p_86, p_87, p_88⟩ := hp82
              have p_86 : (∀ b2 o2, ¬ (b2 = 1 + (nd - 1)) → E84 b2 o2 = E b2 o2) := p_86
              have p_87 : (∀ b2 o2, ¬ (b2 = 1 + (nd - 1)) → ad83 b2 o2 = ad b2 o2) := p_87
              have p_88 : (∀ x ∈ RL, x ∈ RL85) := p_88
              have nb_90 : ¬ (0 = 1 + (nd - 1)) := by omega
              have hl : lv_has ls 4 [(2, .int (wN (g 0) wl 1)), (0, .ref (ad83 0 5)), (1, .ref (ad83 0 1))] := by
                rw [p_87 0 5 nb_90, p_87 0 1 nb_90]; exact hl
              have m_91 : (0, 0) ∈ RL85 := p_88 _ m_3
              have m_92 : (0, 1) ∈ RL85 := p_88 _ m_6
              have m_93 : (0, 2) ∈ RL85 := p_88 _ m_8
              have m_94 : (0, 3) ∈ RL85 := p_88 _ m_10
              have m_95 : (0, 4) ∈ RL85 := p_88 _ m_12
              have m_96 : (0, 5) ∈ RL85 := p_88 _ m_15
              have m_97 : (0, 6) ∈ RL85 := p_88 _ m_17
              have m_98 : (0, 7) ∈ RL85 := p_88 _ m_20
              have m_99 : (0, 8) ∈ RL85 := p_88 _ m_22
              have m_100 : (0, 9) ∈ RL85 := p_88 _ m_25
              have m_101 : (1 + (nd - 1), 0) ∈ RL85 := p_88 _ m_38
              have m_102 : (1 + (nd - 1), 1) ∈ RL85 := p_88 _ m_40
              have m_103 : (1 + (nd - 1), 2) ∈ RL85 := p_88 _ m_42
              have m_104 : (1 + (nd - 1), 3) ∈ RL85 := p_88 _ m_44
              have m_105 : (1 + (nd - 1), 4) ∈ RL85 := p_88 _ m_46
              have m_106 : (1 + (nd - 1), 5) ∈ RL85 := p_88 _ m_48
              have m_107 : (1 + (nd - 1), 6) ∈ RL85 := p_88 _ m_50
              have m_108 : (1 + (nd - 1), 7) ∈ RL85 := p_88 _ m_52
              have m_109 : (1 + (nd - 1), 8) ∈ RL85 := p_88 _ m_54
              have m_110 : (1 + (nd - 1), 9) ∈ RL85 := p_88 _ m_56
              have m_111 : (1 + (nd - 1), 10) ∈ RL85 := p_88 _ m_58
              have m_112 : (1 + (nd - 1), 11) ∈ RL85 := p_88 _ m_60
              have m_113 : (1 + (nd - 1), 12) ∈ RL85 := p_88 _ m_62
              have c_114 : E84 0 0 = .inr (0, [.ref (ad83 0 1), .ref (ad83 0 5), .ref (ad83 0 7), .ref (ad83 0 9), .int (nI ml), .int lf_1]) := by rw [p_86 0 0 nb_90, p_87 0 1 nb_90, p_87 0 5 nb_90, p_87 0 7 nb_90, p_87 0 9 nb_90]; exact c_2
              have c_115 : E84 0 1 = .inr (1, [.ref (ad83 0 2), .ref (ad83 0 3), .ref (ad83 0 4), .int (nI len), .int (nI (wl.length))]) := by rw [p_86 0 1 nb_90, p_87 0 2 nb_90, p_87 0 3 nb_90, p_87 0 4 nb_90]; exact c_5
              have c_116 : E84 0 2 = .inl (kA 1, 40, .inl tx_4) := by rw [p_86 0 2 nb_90]; exact c_7
              have c_117 : E84 0 3 = .inl (kA 0, 20, .inl fb_4) := by rw [p_86 0 3 nb_90]; exact c_9
              have c_118 : E84 0 4 = .inl (kA 0, 20, .inl fe_4) := by rw [p_86 0 4 nb_90]; exact c_11
              have c_119 : E84 0 5 = .inr (2, [.ref (ad83 0 6), .int (nI nd)]) := by rw [p_86 0 5 nb_90, p_87 0 6 nb_90]; exact c_14
              have c_120 : E84 0 6 = .inl (kA 4, 12, .inr (.inr (.inr (.inr fd_13)))) := by rw [p_86 0 6 nb_90]; exact c_16
              have c_121 : E84 0 7 = .inr (3, [.ref (ad83 0 5), .ref (ad83 0 8), .int (nI cs), .int cf_18, pv_18]) := by rw [p_86 0 7 nb_90, p_87 0 5 nb_90, p_87 0 8 nb_90]; exact c_19
              have c_122 : E84 0 8 = .inl (kA 4, 12, .inr (.inr (.inr (.inr fc_18)))) := by rw [p_86 0 8 nb_90]; exact c_21
              have c_123 : E84 0 9 = .inl (kA 5, 5, .inr (.inr (.inr (.inr fl_23)))) := by rw [p_86 0 9 nb_90]; exact c_24
              have hP : va_P D xcl (rp ad83 E84 RL85) H := hP
              have hD : va_D A (rp ad83 E84 RL85) := hD
              obtain ⟨hDI9, hA9, hTD9⟩ := hp89
              have hA0 : ∀ d9, d9 < nd → ad83 (1 + d9) 0 = ad (1 + d9) 0 := fun d9 hd9 => by
                  by_cases q : d9 = nd - 1
                  · subst q; exact hA9 0 (by omega)
                  · exact p_87 (1 + d9) 0 (by omega)
              have hTD2 : TDs (pkU g (nd - 1) (wN (g 0) wl 1)) E84 nd := TDs_upd (x := nd - 1) hDIs (fun d9 hd9 hx9 => fun2 fun o9 => by show E84 (1 + d9) o9 = _; rw [p_86 (1 + d9) o9 (by omega)]) (fun d9 hd9 hx9 => AG_P (by omega) hx9) hTD9 hTD
              have hFRL : FRL ml nd ad ad83 E E84 := ⟨fun n9 hn9 => ⟨fun2 fun o9 => by show E84 (20 + n9) o9 = _; rw [p_86 (20 + n9) o9 (by omega)], fun2 fun o9 => by show ad83 (20 + n9) o9 = _; rw [p_87 (20 + n9) o9 (by omega)]⟩, hA0, by show E84 0 0 = _; rw [p_86 0 0 (by omega)]⟩
              have hCI : CI kA ad83 E84 RL85 ml nd len wl.length cs := ⟨(fun o9 h9 => p_88 _ (hmB o9 h9)), ⟨lf_1, c_114⟩, ⟨tx_4, fb_4, fe_4, (by omega), (by omega), c_115, c_116, c_117, c_118, hws_4⟩, ⟨fd_13, (by omega), c_119, c_120, (DS_ad hds_13 hA0)⟩, ⟨cf_18, pv_18, fc_18, (by omega), (PV_ad hpv_18 (fun n9 hn9 => by show ad83 (20 + n9) 0 = _; rw [p_87 (20 + n9) 0 (by omega)])), c_121, c_122, (FC_ad hfc_18 hA0 (by omega))⟩, ⟨fl_23, (by omega), c_123, (LA_ad hla_23 (fun n9 hn9 => by show ad83 (20 + n9) 0 = _; rw [p_87 (20 + n9) 0 (by omega)]))⟩, (DIs_set (x := nd - 1) (fun d9 hd9 hx9 => fun2 fun o9 => by show E84 (1 + d9) o9 = _; rw [p_86 (1 + d9) o9 (by omega)]) (fun d9 hd9 hx9 => fun2 fun o9 => by show ad83 (1 + d9) o9 = _; rw [p_87 (1 + d9) o9 (by omega)]) (fun _ h9 => p_88 _ h9) hDI9 hDIs), (LIs_same (Nat.le_refl _) (fun n9 hn9 => fun2 fun o9 => by show E84 (20 + n9) o9 = _; rw [p_86 (20 + n9) o9 (by omega)]) (fun n9 hn9 => fun2 fun o9 => by show ad83 (20 + n9) o9 = _; rw [p_87 (20 + n9) o9 (by omega)]) hA0 (fun _ h9 => p_88 _ h9) hLIs)⟩
              have hA00 : ad83 0 0 = ad 0 0 := by show ad83 0 0 = _; rw [p_87 0 0 (by omega)]
              obtain ⟨hmB, hDk, hLi, hSh, hCh, hLa, hDIs, hLIs⟩ := id hCI
              refine lv_iconst (v := 2) hx hb xd_Sh_acceptPackage_70 (by decide) ?_
              refine W.widen (k := 6) (n := 20) (Nat.le_of_ble_eq_true rfl) (Nat.le_of_ble_eq_true rfl) ?_
              exact W.iret (v := 2) hx hb hr (fun t ht hW => ⟨⟨2, (ad83, E84, RL85), rfl, (by
        rw [lP_y ⟨by omega, hc30, by omega, fun j a9 b9 q => by
          have q2 := z69 (j - 6 * (nd - 1)) (by omega)
          rw [tf0_36 _ (by omega), show 6 * (nd - 1) + (j - 6 * (nd - 1)) = j by omega] at q2
          exact q2 q, by rw [← tsd_36]; exact hc72, by omega⟩]
        exact ⟨hCI, hTD2, hA00, hFRL⟩), by rw [ht]; exact hP, hD⟩, hS.F ht⟩) hS.2.2 xd_Sh_acceptPackage_71
    · refine lv_iconst (v := (-1)) hx hb xd_Sh_acceptPackage_18 (by decide) ?_
      refine W.widen (k := 6) (n := 20) (Nat.le_of_ble_eq_true rfl) (Nat.le_of_ble_eq_true rfl) ?_
      exact W.iret (v := (-1)) hx hb hr (fun t ht hW => ⟨⟨(-1), (ad, E, RL), rfl, ⟨hCI, by rw [← lP_no (fun q => q.2.1 hc30)]; exact hTD, rfl, FRL_rf⟩, by rw [ht]; exact hP, hD⟩, hS.F ht⟩) hS.2.2 xd_Sh_acceptPackage_19
theorem cif_eq {α : Type} {C : Prop} {a b c : α} (h1 : a = c) (h2 : b = c) : cif C a b = c := by
  by_cases q : C
  · rw [cif_pos q]; exact h1
  · rw [cif_neg q]; exact h2
theorem gr_all7 {g g' : gT} {e e' : Nat → va_E} {d i k0 : Nat} (hk0 : k0 ≤ 6) (h8 : g' 8 = g 8) (h10 : g' 10 = g 10) (h7 : ∀ i9, i9 < 6 → ¬ i9 = i → g' 9 (6 * d + i9) = g 9 (6 * d + i9) ∧ ∀ j, j < 3 → g' 7 (3 * (6 * d + i9) + j) = g 7 (3 * (6 * d + i9) + j)) (hi : i < 6) (he : ∀ o, ¬ o = 20 + 3 * i → ¬ o = 21 + 3 * i → ¬ o = 22 + 3 * i → e' o = e o) (hn : TG (e' (20 + 3 * i)) (e' (21 + 3 * i)) (e' (22 + 3 * i)) (g' 9 (6 * d + i)) (fun j => g' 7 (3 * (6 * d + i) + j))) (h : ∀ i, i < k0 → TG (e (20 + 3 * i)) (e (21 + 3 * i)) (e (22 + 3 * i)) (g 9 (6 * d + i)) (fun j => g 7 (3 * (6 * d + i) + j)) ∧ TG (e (38 + 3 * i)) (e (39 + 3 * i)) (e (40 + 3 * i)) (g 10 (6 * d + i)) (fun j => g 8 (3 * (6 * d + i) + j))) : ∀ i, i < k0 → TG (e' (20 + 3 * i)) (e' (21 + 3 * i)) (e' (22 + 3 * i)) (g' 9 (6 * d + i)) (fun j => g' 7 (3 * (6 * d + i) + j)) ∧ TG (e' (38 + 3 * i)) (e' (39 + 3 * i)) (e' (40 + 3 * i)) (g' 10 (6 * d + i)) (fun j => g' 8 (3 * (6 * d + i) + j)) := fun i9 hi9 => by
  obtain ⟨q1, q2⟩ := h i9 hi9
  rw [h8, h10, he (38 + 3 * i9) (by omega) (by omega) (by omega), he (39 + 3 * i9) (by omega) (by omega) (by omega), he (40 + 3 * i9) (by omega) (by omega) (by omega)]
  refine ⟨?_, q2⟩
  by_cases q : i9 = i
  · rw [q]; exact hn
  · rw [he (20 + 3 * i9) (by omega) (by omega) (by omega), he (21 + 3 * i9) (by omega) (by omega) (by omega), he (22 + 3 * i9) (by omega) (by omega) (by omega), (h7 i9 (by omega) q).1]
    exact TG_congr (h7 i9 (by omega) q).2 q1
theorem gr_all8 {g g' : gT} {e e' : Nat → va_E} {d i k0 : Nat} (hk0 : k0 ≤ 6) (h7 : g' 7 = g 7) (h9 : g' 9 = g 9) (h8 : ∀ i9, i9 < 6 → ¬ i9 = i → g' 10 (6 * d + i9) = g 10 (6 * d + i9) ∧ ∀ j, j < 3 → g' 8 (3 * (6 * d + i9) + j) = g 8 (3 * (6 * d + i9) + j)) (hi : i < 6) (he : ∀ o, ¬ o = 38 + 3 * i → ¬ o = 39 + 3 * i → ¬ o = 40 + 3 * i → e' o = e o) (hn : TG (e' (38 + 3 * i)) (e' (39 + 3 * i)) (e' (40 + 3 * i)) (g' 10 (6 * d + i)) (fun j => g' 8 (3 * (6 * d + i) + j))) (h : ∀ i, i < k0 → TG (e (20 + 3 * i)) (e (21 + 3 * i)) (e (22 + 3 * i)) (g 9 (6 * d + i)) (fun j => g 7 (3 * (6 * d + i) + j)) ∧ TG (e (38 + 3 * i)) (e (39 + 3 * i)) (e (40 + 3 * i)) (g 10 (6 * d + i)) (fun j => g 8 (3 * (6 * d + i) + j))) : ∀ i, i < k0 → TG (e' (20 + 3 * i)) (e' (21 + 3 * i)) (e' (22 + 3 * i)) (g' 9 (6 * d + i)) (fun j => g' 7 (3 * (6 * d + i) + j)) ∧ TG (e' (38 + 3 * i)) (e' (39 + 3 * i)) (e' (40 + 3 * i)) (g' 10 (6 * d + i)) (fun j => g' 8 (3 * (6 * d + i) + j)) := fun i9 hi9 => by
  obtain ⟨q1, q2⟩ := h i9 hi9
  rw [h7, h9, he (20 + 3 * i9) (by omega) (by omega) (by omega), he (21 + 3 * i9) (by omega) (by omega) (by omega), he (22 + 3 * i9) (by omega) (by omega) (by omega)]
  refine ⟨q1, ?_⟩
  by_cases q : i9 = i
  · rw [q]; exact hn
  · rw [he (38 + 3 * i9) (by omega) (by omega) (by omega), he (39 + 3 * i9) (by omega) (by omega) (by omega), he (40 + 3 * i9) (by omega) (by omega) (by omega), (h8 i9 (by omega) q).1]
    exact TG_congr (h8 i9 (by omega) q).2 q2
theorem lG_oth {a a2 i : Nat} {t : Nat → Int32} {wl : List (Nat × Nat)} {nd : Nat} {g : gT} (haa : a ≠ a2) (hp : pI g (nd - 1) (wN t wl 1) = some i) (hi : i < 6) : ∀ i9, i9 < 6 → ¬ i9 = i → lG a a2 t wl nd g a2 (6 * (nd - 1) + i9) = g a2 (6 * (nd - 1) + i9) ∧ ∀ j, j < 3 → lG a a2 t wl nd g a (3 * (6 * (nd - 1) + i9) + j) = g a (3 * (6 * (nd - 1) + i9) + j) := fun i9 h9 hne => by
  refine ⟨lG_a2 haa (fun i2 q z => ?_), fun j hj => lG_a haa (fun i2 k q hk z => ?_)⟩
  · rw [hp] at q
    have := Option.some.inj q
    omega
  · rw [hp] at q
    have := Option.some.inj q
    omega
theorem gr_up2 {a a2 p n n2 : Nat} {g : gT} {ta ta2 x : Int32} {f f2 : Nat → Int32} (hx : x = 0) (h : (x = 0 ∧ ta2 = 1 ∧ n2 = n ∧ f2 = f) ∨ (¬ x = 0 ∧ COV ta n f x ∧ ta2 = ta ∧ n2 = n ∧ f2 = f) ∨ (¬ x = 0 ∧ ¬ COV ta n f x ∧ ta2 = ta ∧ ((n < 3 ∧ n2 = n + 1 ∧ f2 = upd f n x) ∨ (3 ≤ n ∧ n2 = n ∧ f2 = f)))) : ta2 = va_up g a2 (upd (g a2) p 1) a2 p ∧ (ta2 = 0 → NT n2 f2 (fun j => va_up g a2 (upd (g a2) p 1) a (3 * p + j))) := by
  rcases h with ⟨_, q1, _⟩ | ⟨q, _⟩ | ⟨q, _⟩
  · refine ⟨?_, fun z => ?_⟩
    · rw [q1, show va_up g a2 (upd (g a2) p 1) a2 = upd (g a2) p 1 by simp [va_up], pk_us]
    · rw [q1] at z; exact absurd z (by decide)
  · exact absurd hx q
  · exact absurd hx q
