abbrev xb_Ds_addRequired : ByteArray := prog_3_method_3_code
def xy_Ds_addRequired : MethodName := ⟨"LayerDesk$Descriptor", "addRequired", "(IZZ)V"⟩
abbrev xb_Ds_addPackage : ByteArray := prog_3_method_2_code
def xy_Ds_addPackage : MethodName := ⟨"LayerDesk$Descriptor", "addPackage", "(I)V"⟩
theorem xd_Ds_addPackage_0 : decode xb_Ds_addPackage 0 = .ok (.aload_n 0, 1) := by decide +kernel
theorem xd_Ds_addPackage_1 : decode xb_Ds_addPackage 1 = .ok (.getfield 14, 3) := by decide +kernel
theorem xd_Ds_addPackage_4 : decode xb_Ds_addPackage 4 = .ok (.invokevirtual 57, 3) := by decide +kernel
theorem xd_Ds_addPackage_7 : decode xb_Ds_addPackage 7 = .ok (.ifCond .ne 49, 3) := by decide +kernel
theorem xd_Ds_addPackage_10 : decode xb_Ds_addPackage 10 = .ok (.aload_n 0, 1) := by decide +kernel
theorem xd_Ds_addPackage_11 : decode xb_Ds_addPackage 11 = .ok (.getfield 20, 3) := by decide +kernel
theorem xd_Ds_addPackage_14 : decode xb_Ds_addPackage 14 = .ok (.aload_n 0, 1) := by decide +kernel
theorem xd_Ds_addPackage_15 : decode xb_Ds_addPackage 15 = .ok (.getfield 14, 3) := by decide +kernel
theorem xd_Ds_addPackage_18 : decode xb_Ds_addPackage 18 = .ok (.getfield 61, 3) := by decide +kernel
theorem xd_Ds_addPackage_21 : decode xb_Ds_addPackage 21 = .ok (.new 18, 3) := by decide +kernel
theorem xd_Ds_addPackage_24 : decode xb_Ds_addPackage 24 = .ok (.dup, 1) := by decide +kernel
theorem xd_Ds_addPackage_25 : decode xb_Ds_addPackage 25 = .ok (.invokespecial 64, 3) := by decide +kernel
theorem xd_Ds_addPackage_28 : decode xb_Ds_addPackage 28 = .ok (.aastore, 1) := by decide +kernel
theorem xd_Ds_addPackage_29 : decode xb_Ds_addPackage 29 = .ok (.aload_n 0, 1) := by decide +kernel
theorem xd_Ds_addPackage_30 : decode xb_Ds_addPackage 30 = .ok (.getfield 24, 3) := by decide +kernel
theorem xd_Ds_addPackage_33 : decode xb_Ds_addPackage 33 = .ok (.aload_n 0, 1) := by decide +kernel
theorem xd_Ds_addPackage_34 : decode xb_Ds_addPackage 34 = .ok (.getfield 14, 3) := by decide +kernel
theorem xd_Ds_addPackage_37 : decode xb_Ds_addPackage 37 = .ok (.getfield 61, 3) := by decide +kernel
theorem xd_Ds_addPackage_40 : decode xb_Ds_addPackage 40 = .ok (.new 18, 3) := by decide +kernel
theorem xd_Ds_addPackage_43 : decode xb_Ds_addPackage 43 = .ok (.dup, 1) := by decide +kernel
theorem xd_Ds_addPackage_44 : decode xb_Ds_addPackage 44 = .ok (.invokespecial 64, 3) := by decide +kernel
theorem xd_Ds_addPackage_47 : decode xb_Ds_addPackage 47 = .ok (.aastore, 1) := by decide +kernel
theorem xd_Ds_addPackage_48 : decode xb_Ds_addPackage 48 = .ok (.aload_n 0, 1) := by decide +kernel
theorem xd_Ds_addPackage_49 : decode xb_Ds_addPackage 49 = .ok (.getfield 14, 3) := by decide +kernel
theorem xd_Ds_addPackage_52 : decode xb_Ds_addPackage 52 = .ok (.iload_n 1, 1) := by decide +kernel
theorem xd_Ds_addPackage_53 : decode xb_Ds_addPackage 53 = .ok (.invokevirtual 65, 3) := by decide +kernel
theorem xd_Ds_addPackage_56 : decode xb_Ds_addPackage 56 = .ok (.return_, 1) := by decide +kernel
theorem xd_Ds_addRequired_0 : decode xb_Ds_addRequired 0 = .ok (.aload_n 0, 1) := by decide +kernel
theorem xd_Ds_addRequired_1 : decode xb_Ds_addRequired 1 = .ok (.getfield 27, 3) := by decide +kernel
theorem xd_Ds_addRequired_4 : decode xb_Ds_addRequired 4 = .ok (.invokevirtual 57, 3) := by decide +kernel
theorem xd_Ds_addRequired_7 : decode xb_Ds_addRequired 7 = .ok (.ifCond .ne 37, 3) := by decide +kernel
theorem xd_Ds_addRequired_10 : decode xb_Ds_addRequired 10 = .ok (.aload_n 0, 1) := by decide +kernel
theorem xd_Ds_addRequired_11 : decode xb_Ds_addRequired 11 = .ok (.getfield 30, 3) := by decide +kernel
theorem xd_Ds_addRequired_14 : decode xb_Ds_addRequired 14 = .ok (.aload_n 0, 1) := by decide +kernel
theorem xd_Ds_addRequired_15 : decode xb_Ds_addRequired 15 = .ok (.getfield 27, 3) := by decide +kernel
theorem xd_Ds_addRequired_18 : decode xb_Ds_addRequired 18 = .ok (.getfield 61, 3) := by decide +kernel
theorem xd_Ds_addRequired_21 : decode xb_Ds_addRequired 21 = .ok (.iload_n 2, 1) := by decide +kernel
theorem xd_Ds_addRequired_22 : decode xb_Ds_addRequired 22 = .ok (.bastore, 1) := by decide +kernel
theorem xd_Ds_addRequired_23 : decode xb_Ds_addRequired 23 = .ok (.aload_n 0, 1) := by decide +kernel
theorem xd_Ds_addRequired_24 : decode xb_Ds_addRequired 24 = .ok (.getfield 34, 3) := by decide +kernel
theorem xd_Ds_addRequired_27 : decode xb_Ds_addRequired 27 = .ok (.aload_n 0, 1) := by decide +kernel
theorem xd_Ds_addRequired_28 : decode xb_Ds_addRequired 28 = .ok (.getfield 27, 3) := by decide +kernel
theorem xd_Ds_addRequired_31 : decode xb_Ds_addRequired 31 = .ok (.getfield 61, 3) := by decide +kernel
theorem xd_Ds_addRequired_34 : decode xb_Ds_addRequired 34 = .ok (.iload_n 3, 1) := by decide +kernel
theorem xd_Ds_addRequired_35 : decode xb_Ds_addRequired 35 = .ok (.bastore, 1) := by decide +kernel
theorem xd_Ds_addRequired_36 : decode xb_Ds_addRequired 36 = .ok (.aload_n 0, 1) := by decide +kernel
theorem xd_Ds_addRequired_37 : decode xb_Ds_addRequired 37 = .ok (.getfield 27, 3) := by decide +kernel
theorem xd_Ds_addRequired_40 : decode xb_Ds_addRequired 40 = .ok (.iload_n 1, 1) := by decide +kernel
theorem xd_Ds_addRequired_41 : decode xb_Ds_addRequired 41 = .ok (.invokevirtual 65, 3) := by decide +kernel
theorem xd_Ds_addRequired_44 : decode xb_Ds_addRequired 44 = .ok (.return_, 1) := by decide +kernel
theorem yr1_0 : (Cond.fieldLink "LayerDesk$Descriptor" 27 "LayerDesk$Descriptor" "required" "LLayerDesk$Names;") ∈ wT := wT_t (List.mem_append_right _ (List.mem_append_left _ (List.mem_of_getElem? (i := 66) rfl))) rfl
theorem yr1_1 : (Cond.code xy_Na_isFull xb_Na_isFull 1 (some .boolean)) ∈ wT := wT_t (List.mem_append_right _ (List.mem_append_left _ (List.mem_of_getElem? (i := 131) rfl))) rfl
theorem yr1_2 : (Cond.methodLink "LayerDesk$Descriptor" 57 xy_Na_isFull) ∈ wT := wT_t (List.mem_append_right _ (List.mem_append_left _ (List.mem_of_getElem? (i := 136) rfl))) rfl
theorem yr1_3 : (Cond.instanceMethod xy_Na_isFull) ∈ wT := wT_t (List.mem_append_right _ (List.mem_append_left _ (List.mem_of_getElem? (i := 129) rfl))) rfl
theorem yr1_4 : (Cond.selects "LayerDesk$Names" xy_Na_isFull xy_Na_isFull) ∈ wT := wT_t (List.mem_append_right _ (List.mem_append_left _ (List.mem_of_getElem? (i := 130) rfl))) rfl
theorem yr1_5 : (Cond.initialized "LayerDesk$Names") ∈ wT := wT_t (List.mem_append_left _ (List.mem_of_getElem? (i := 11) rfl)) rfl
theorem yr1_6 : (Cond.fieldLink "LayerDesk$Descriptor" 30 "LayerDesk$Descriptor" "transitive" "[Z") ∈ wT := wT_t (List.mem_append_right _ (List.mem_append_left _ (List.mem_of_getElem? (i := 70) rfl))) rfl
theorem yr1_7 : (Cond.fieldLink "LayerDesk$Descriptor" 61 "LayerDesk$Names" "size" "I") ∈ wT := wT_t (List.mem_append_right _ (List.mem_append_left _ (List.mem_of_getElem? (i := 36) rfl))) rfl
theorem yr1_8 : (Cond.fieldLink "LayerDesk$Descriptor" 34 "LayerDesk$Descriptor" "optional" "[Z") ∈ wT := wT_t (List.mem_append_right _ (List.mem_append_left _ (List.mem_of_getElem? (i := 72) rfl))) rfl
theorem yr1_9 : (Cond.code xy_Na_append xb_Na_append 2 none) ∈ wT := wT_t (List.mem_append_right _ (List.mem_append_left _ (List.mem_of_getElem? (i := 154) rfl))) rfl
theorem yr1_10 : (Cond.methodLink "LayerDesk$Descriptor" 65 xy_Na_append) ∈ wT := wT_t (List.mem_append_right _ (List.mem_append_left _ (List.mem_of_getElem? (i := 151) rfl))) rfl
theorem yr1_11 : (Cond.instanceMethod xy_Na_append) ∈ wT := wT_t (List.mem_append_right _ (List.mem_append_left _ (List.mem_of_getElem? (i := 152) rfl))) rfl
theorem yr1_12 : (Cond.selects "LayerDesk$Names" xy_Na_append xy_Na_append) ∈ wT := wT_t (List.mem_append_right _ (List.mem_append_left _ (List.mem_of_getElem? (i := 153) rfl))) rfl
theorem yr1_13 : (Cond.fieldLink "LayerDesk$Descriptor" 14 "LayerDesk$Descriptor" "packages" "LLayerDesk$Names;") ∈ wT := wT_t (List.mem_append_right _ (List.mem_append_left _ (List.mem_of_getElem? (i := 60) rfl))) rfl
theorem yr1_14 : (Cond.fieldLink "LayerDesk$Descriptor" 20 "LayerDesk$Descriptor" "exported" "[LLayerDesk$Grant;") ∈ wT := wT_t (List.mem_append_right _ (List.mem_append_left _ (List.mem_of_getElem? (i := 64) rfl))) rfl
theorem yr1_15 : (Cond.classLink "LayerDesk$Descriptor" 18 "LayerDesk$Grant") ∈ wT := wT_t (List.mem_append_right _ (List.mem_append_left _ (List.mem_of_getElem? (i := 44) rfl))) rfl
theorem yr1_16 : (Cond.instantiable "LayerDesk$Grant" 2) ∈ wT := wT_t (List.mem_append_right _ (List.mem_append_left _ (List.mem_of_getElem? (i := 137) rfl))) rfl
theorem yr1_17 : (Cond.initialized "LayerDesk$Grant") ∈ wT := wT_t (List.mem_append_left _ (List.mem_of_getElem? (i := 12) rfl)) rfl
theorem yr1_18 : (Cond.code xy_Gr_init xb_Gr_init 1 none) ∈ wT := wT_t (List.mem_append_right _ (List.mem_append_left _ (List.mem_of_getElem? (i := 140) rfl))) rfl
theorem yr1_19 : (Cond.instanceMethod xy_Gr_init) ∈ wT := wT_t (List.mem_append_right _ (List.mem_append_left _ (List.mem_of_getElem? (i := 139) rfl))) rfl
theorem yr1_20 : (Cond.fieldLink "LayerDesk$Descriptor" 24 "LayerDesk$Descriptor" "opened" "[LLayerDesk$Grant;") ∈ wT := wT_t (List.mem_append_right _ (List.mem_append_left _ (List.mem_of_getElem? (i := 65) rfl))) rfl
set_option maxHeartbeats 4000000 in
set_option maxRecDepth 100000 in
theorem xc_Ds_addRequired (l : Launch) (D : va_G) (kA : Nat → ClassId) (sz : Nat) (ad : Nat → Nat → Nat) (E : Nat → Nat → va_E) (RL : List (Nat × Nat)) (d : Nat) (nm : Int32) (b1 : Int32) (b2 : Int32) (hDI : DI kA d (ad (1 + d)) (E (1 + d)) (fun o => (1 + d, o) ∈ RL)) : Met l xy_Ds_addRequired (.code xy_Ds_addRequired xb_Ds_addRequired 4 none :: wT) { frames := 2, cells := 0, slots := 0, locals := 41 } (va_Pc [.ref (ad (1 + d) 0), .int nm, .int b1, .int b2] (xPre D kA sz (rp ad E RL))) (va_Qv (fun (u : Nat → Nat → va_E) => (DI kA d (ad (1 + d)) (u (1 + d)) (fun o => (1 + d, o) ∈ RL)) ∧ ((∀ b2 o2, ¬ (b2 = 1 + d) → u b2 o2 = E b2 o2))) (fun (u : Nat → Nat → va_E) t => va_P D xcl (rp ad u RL) t.heap ∧ va_D (va_A (rp ad E RL) sz) (rp ad u RL)) (va_A (rp ad E RL) sz)) 0 0 (va_A (rp ad E RL) sz) := by
  refine Met.ofW (cc := xb_Ds_addRequired) (maxL := 4) (ret := none) (by decide) rfl ?_
  intro p e s m args below meth c s₁ B hml hv
  obtain ⟨rfl, hsz, hP, hK, hD0⟩ := hv
  have hx := B.exec
  have hb := B.bytes
  have hr := B.returns
  have hT := x_hT B.pre
  have hown : s.vm.findClass xR_Ds = some m.cls := findClass_of_methodNamed B.named
  have hlocks := B.notSynchronized
  subst hsz
  have hD := hD0.self (sz := s.heap.size)
  generalize hAe : va_A (rp ad E RL) s.heap.size = A at hD ⊢
  have hA : ∀ q : Nat, s.heap.size ≤ q → A q := fun q h => by rw [← hAe]; exact Or.inr h
  have hS : va_S A s.heap s.heap [] := va_S.rf
  have hl := lv_entry ([.ref (ad (1 + d) 0), .int nm, .int b1, .int b2]) (n := 4) (Nat.le_of_ble_eq_true rfl)
  rw [lg_entry_eq]
  generalize (lg_sl ([.ref (ad (1 + d) 0), .int nm, .int b1, .int b2]) ++ List.replicate (4 - (lg_sl ([.ref (ad (1 + d) 0), .int nm, .int b1, .int b2])).length) Slot.unset).toArray = ls at hl ⊢
  have hl : lv_has ls 4 [(0, .ref (ad (1 + d) 0)), (1, .int nm), (2, .int b1), (3, .int b2)] := hl
  have hP : va_P D xcl (rp ad E RL) s.heap := hP
  obtain ⟨hm_1, fd_1, nm_1, sd_1, k0_1, k1_1, k2_1, k3_1, f0_1, f1_1, f2_1, f3_1, fe_1, fo_1, tr_1, op_1, hk0_1, hk1_1, hk2_1, hk3_1, q0_1, q1_1, q2_1, q3_1, q4_1, q5_1, q6_1, q7_1, q8_1, q9_1, q10_1, q11_1, q12_1, hg_1⟩ := id (hDI)
  have c_2 : E (1 + d) 0 = .inr (7, [.int (nI d), .int fd_1, .int nm_1, .ref (ad (1 + d) 1), .ref (ad (1 + d) 9), .ref (ad (1 + d) 10), .ref (ad (1 + d) 2), .ref (ad (1 + d) 11), .ref (ad (1 + d) 12), .ref (ad (1 + d) 3), .ref (ad (1 + d) 4), .int sd_1]) := q0_1
  have m_3 : (1 + d, 0) ∈ RL := hm_1 0 (by omega)
  have c_4 : E (1 + d) 1 = .inr (8, [.ref (ad (1 + d) 5), .int (nI k0_1)]) := q1_1
  have m_5 : (1 + d, 1) ∈ RL := hm_1 1 (by omega)
  have c_6 : E (1 + d) 2 = .inr (8, [.ref (ad (1 + d) 6), .int (nI k1_1)]) := q2_1
  have m_7 : (1 + d, 2) ∈ RL := hm_1 2 (by omega)
  have c_8 : E (1 + d) 3 = .inr (8, [.ref (ad (1 + d) 7), .int (nI k2_1)]) := q3_1
  have m_9 : (1 + d, 3) ∈ RL := hm_1 3 (by omega)
  have c_10 : E (1 + d) 4 = .inr (8, [.ref (ad (1 + d) 8), .int (nI k3_1)]) := q4_1
  have m_11 : (1 + d, 4) ∈ RL := hm_1 4 (by omega)
  have c_12 : E (1 + d) 5 = .inl (kA 0, 6, .inl f0_1) := q5_1
  have m_13 : (1 + d, 5) ∈ RL := hm_1 5 (by omega)
  have c_14 : E (1 + d) 6 = .inl (kA 0, 5, .inl f1_1) := q6_1
  have m_15 : (1 + d, 6) ∈ RL := hm_1 6 (by omega)
  have c_16 : E (1 + d) 7 = .inl (kA 0, 3, .inl f2_1) := q7_1
  have m_17 : (1 + d, 7) ∈ RL := hm_1 7 (by omega)
  have c_18 : E (1 + d) 8 = .inl (kA 0, 3, .inl f3_1) := q8_1
  have m_19 : (1 + d, 8) ∈ RL := hm_1 8 (by omega)
  have c_20 : E (1 + d) 9 = .inl (kA 8, 6, .inr (.inr (.inr (.inr fe_1)))) := q9_1
  have m_21 : (1 + d, 9) ∈ RL := hm_1 9 (by omega)
  have c_22 : E (1 + d) 10 = .inl (kA 8, 6, .inr (.inr (.inr (.inr fo_1)))) := q10_1
  have m_23 : (1 + d, 10) ∈ RL := hm_1 10 (by omega)
  have c_24 : E (1 + d) 11 = .inl (kA 2, 5, .inl tr_1) := q11_1
  have m_25 : (1 + d, 11) ∈ RL := hm_1 11 (by omega)
  have c_26 : E (1 + d) 12 = .inl (kA 2, 5, .inl op_1) := q12_1
  have m_27 : (1 + d, 12) ∈ RL := hm_1 12 (by omega)
  have hg_1 : ∀ w9, w9 < k0_1 → fe_1 w9 = some (ad (1 + d) (20 + 3 * w9)) ∧ fo_1 w9 = some (ad (1 + d) (38 + 3 * w9)) ∧ GI kA (ad (1 + d)) (E (1 + d)) (fun o => (1 + d, o) ∈ RL) (20 + 3 * w9) (21 + 3 * w9) (22 + 3 * w9) ∧ GI kA (ad (1 + d)) (E (1 + d)) (fun o => (1 + d, o) ∈ RL) (38 + 3 * w9) (39 + 3 * w9) (40 + 3 * w9) := hg_1
  refine lv_aload_n hx hb xd_Ds_addRequired_0 rfl (lv_at hl 0 rfl) ?_
  refine px_get (D := D) (ci := 7) (v := .ref (ad (1 + d) 2)) (C := xR_Ds) (T := xT_Ds) (N := 12) hx hb hT xi_Ds hown hK.1 hP m_3 c_2 rfl 6 (by decide) (hT _ yr1_0) (fun _ h9 => h9) rfl xd_Ds_addRequired_1 ?_
  have hFc := px_free hD hS hA
  refine va_calli (va_runV (As := []) (rest := []) ⟨hx, hb, hml, hown, hT⟩ (xc_Na_isFull l D kA s.heap.size ad E RL (1 + d) 2 6 5 k1_1 f1_1 m_7 c_6 m_15 c_14 (by first | assumption | omega) (by first | assumption | omega)) (cwV 0 hT (wT_V yr1_2 yr1_3 yr1_4 yr1_5 yr1_1) rfl rfl rfl (by decide +kernel) ⟨Nat.le_of_ble_eq_true rfl, Nat.le_of_ble_eq_true rfl⟩) (px_preV hK hP hD m_7 c_6 rfl) rfl rfl hl.1 rfl (lv_room (Nat.le_of_ble_eq_true rfl)) xd_Ds_addRequired_4 ⟨(Nat.le_of_ble_eq_true rfl), (Nat.le_of_ble_eq_true rfl)⟩) hS (fun q _ h => hFc q h) hFc (fun r28 u29 t H1 locs ht hvm hp30 hB hz1 hk1 hS => ?_)
  obtain ⟨hP1, hD1⟩ := hB
  rw [ht] at hP1
  have hD1 := hD1.weaken (fun _ _ _ h => hFc _ h)
  generalize H1 = H at hP1 hS ⊢
  have hP := hP1
  have hD := hD1
  have hP : va_P D xcl (rp ad E RL) H := hP
  have hD : va_D A (rp ad E RL) := hD
  rcases hp30 with ⟨rfl, z31⟩ | ⟨rfl, z32⟩
  · refine W.eq (g2 := F0 m 7 ls [.int 1]) rfl ?_
    refine lv_if_ne (tgt := 44) hx hb xd_Ds_addRequired_7 (by decide) (fun _ => ?_) (fun hc33 => absurd hc33 (by decide))
    exact W.vret hx hb hr (fun t ht hW => ⟨⟨E, rfl, ⟨⟨hm_1, fd_1, nm_1, sd_1, k0_1, k1_1, k2_1, k3_1, f0_1, f1_1, f2_1, f3_1, fe_1, fo_1, tr_1, op_1, (by omega), (by omega), (by omega), (by omega), c_2, c_4, c_6, c_8, c_10, c_12, c_14, c_16, c_18, c_20, c_22, c_24, c_26, (fun i9 hi9 => ⟨(hg_1 i9 (by omega)).1, (hg_1 i9 (by omega)).2.1, (GI_at (rfl) (rfl) (rfl) (rfl) (rfl) (fun _ h9 => h9) (hg_1 i9 (by omega)).2.2.1), (GI_at (rfl) (rfl) (rfl) (rfl) (rfl) (fun _ h9 => h9) (hg_1 i9 (by omega)).2.2.2)⟩)⟩, (fun b2 o2 h09 => rfl)⟩, by rw [ht]; exact hP, hD⟩, hS.F ht⟩) hS.2.2 xd_Ds_addRequired_44
  · refine W.eq (g2 := F0 m 7 ls [.int 0]) rfl ?_
    refine lv_if_ne (tgt := 44) hx hb xd_Ds_addRequired_7 (by decide) (fun hc34 => absurd (by decide) hc34) (fun _ => ?_)
    refine lv_aload_n hx hb xd_Ds_addRequired_10 rfl (lv_at hl 0 rfl) ?_
    refine px_get (D := D) (ci := 7) (v := .ref (ad (1 + d) 11)) (C := xR_Ds) (T := xT_Ds) (N := 12) hx hb hT xi_Ds hown hK.1 hP m_3 c_2 rfl 7 (by decide) (hT _ yr1_6) (fun _ h9 => h9) rfl xd_Ds_addRequired_11 ?_
    refine lv_aload_n hx hb xd_Ds_addRequired_14 rfl (lv_at hl 0 rfl) ?_
    refine px_get (D := D) (ci := 7) (v := .ref (ad (1 + d) 2)) (C := xR_Ds) (T := xT_Ds) (N := 12) hx hb hT xi_Ds hown hK.1 hP m_3 c_2 rfl 6 (by decide) (hT _ yr1_0) (fun _ h9 => h9) rfl xd_Ds_addRequired_15 ?_
    refine px_get (D := D) (ci := 8) (v := .int (nI k1_1)) (C := xR_Na) (T := xT_Na) (N := 2) hx hb hT xi_Na hown hK.1 hP m_7 c_6 rfl 1 (by decide) (hT _ yr1_7) (fun _ h9 => h9) rfl xd_Ds_addRequired_18 ?_
    refine lv_iload_n hx hb xd_Ds_addRequired_21 rfl (lv_at hl 2 rfl) ?_
    refine px_zast (i := k1_1) hx hb hK.1 hP hD hS m_25 c_24 2 rfl (by omega) (by decide) xd_Ds_addRequired_22 (fun H locs hP hD hS => ?_)
    have hP : va_P D xcl (rp ad (up2 E (1 + d) 11 (.inl (kA 2, 5, .inl (upd tr_1 k1_1 (vp_nar .boolean b1))))) RL) H := hP
    have hD : va_D A (rp ad (up2 E (1 + d) 11 (.inl (kA 2, 5, .inl (upd tr_1 k1_1 (vp_nar .boolean b1))))) RL) := hD
    generalize hE36 : up2 E (1 + d) 11 (.inl (kA 2, 5, .inl (upd tr_1 k1_1 (vp_nar .boolean b1)))) = E35 at hP hD
    have fE37 : ∀ b2 o2, ¬ (b2 = 1 + d ∧ o2 = 11) → E35 b2 o2 = E b2 o2 := fun b2 o2 h9 => by rw [← hE36]; exact up2_ne (by omega)
    have c_38 : E35 (1 + d) 11 = .inl (kA 2, 5, .inl (upd tr_1 k1_1 (vp_nar .boolean b1))) := by rw [← hE36]; exact up2_eq
    have c_39 : E35 (1 + d) 0 = .inr (7, [.int (nI d), .int fd_1, .int nm_1, .ref (ad (1 + d) 1), .ref (ad (1 + d) 9), .ref (ad (1 + d) 10), .ref (ad (1 + d) 2), .ref (ad (1 + d) 11), .ref (ad (1 + d) 12), .ref (ad (1 + d) 3), .ref (ad (1 + d) 4), .int sd_1]) := (fE37 (1 + d) 0 (by omega)).trans c_2
    have c_40 : E35 (1 + d) 1 = .inr (8, [.ref (ad (1 + d) 5), .int (nI k0_1)]) := (fE37 (1 + d) 1 (by omega)).trans c_4
    have c_41 : E35 (1 + d) 2 = .inr (8, [.ref (ad (1 + d) 6), .int (nI k1_1)]) := (fE37 (1 + d) 2 (by omega)).trans c_6
    have c_42 : E35 (1 + d) 3 = .inr (8, [.ref (ad (1 + d) 7), .int (nI k2_1)]) := (fE37 (1 + d) 3 (by omega)).trans c_8
    have c_43 : E35 (1 + d) 4 = .inr (8, [.ref (ad (1 + d) 8), .int (nI k3_1)]) := (fE37 (1 + d) 4 (by omega)).trans c_10
    have c_44 : E35 (1 + d) 5 = .inl (kA 0, 6, .inl f0_1) := (fE37 (1 + d) 5 (by omega)).trans c_12
    have c_45 : E35 (1 + d) 6 = .inl (kA 0, 5, .inl f1_1) := (fE37 (1 + d) 6 (by omega)).trans c_14
    have c_46 : E35 (1 + d) 7 = .inl (kA 0, 3, .inl f2_1) := (fE37 (1 + d) 7 (by omega)).trans c_16
    have c_47 : E35 (1 + d) 8 = .inl (kA 0, 3, .inl f3_1) := (fE37 (1 + d) 8 (by omega)).trans c_18
    have c_48 : E35 (1 + d) 9 = .inl (kA 8, 6, .inr (.inr (.inr (.inr fe_1)))) := (fE37 (1 + d) 9 (by omega)).trans c_20
    have c_49 : E35 (1 + d) 10 = .inl (kA 8, 6, .inr (.inr (.inr (.inr fo_1)))) := (fE37 (1 + d) 10 (by omega)).trans c_22
    have c_50 : E35 (1 + d) 12 = .inl (kA 2, 5, .inl op_1) := (fE37 (1 + d) 12 (by omega)).trans c_26
    refine lv_aload_n hx hb xd_Ds_addRequired_23 rfl (lv_at hl 0 rfl) ?_
    refine px_get (D := D) (ci := 7) (v := .ref (ad (1 + d) 12)) (C := xR_Ds) (T := xT_Ds) (N := 12) hx hb hT xi_Ds hown hK.1 hP m_3 c_39 rfl 8 (by decide) (hT _ yr1_8) (fun _ h9 => h9) rfl xd_Ds_addRequired_24 ?_
    refine lv_aload_n hx hb xd_Ds_addRequired_27 rfl (lv_at hl 0 rfl) ?_
    refine px_get (D := D) (ci := 7) (v := .ref (ad (1 + d) 2)) (C := xR_Ds) (T := xT_Ds) (N := 12) hx hb hT xi_Ds hown hK.1 hP m_3 c_39 rfl 6 (by decide) (hT _ yr1_0) (fun _ h9 => h9) rfl xd_Ds_addRequired_28 ?_
    refine px_get (D := D) (ci := 8) (v := .int (nI k1_1)) (C := xR_Na) (T := xT_Na) (N := 2) hx hb hT xi_Na hown hK.1 hP m_7 c_41 rfl 1 (by decide) (hT _ yr1_7) (fun _ h9 => h9) rfl xd_Ds_addRequired_31 ?_
    refine lv_iload_n hx hb xd_Ds_addRequired_34 rfl (lv_at hl 3 rfl) ?_
    refine px_zast (i := k1_1) hx hb hK.1 hP hD hS m_27 c_50 2 rfl (by omega) (by decide) xd_Ds_addRequired_35 (fun H locs hP hD hS => ?_)
    have hP : va_P D xcl (rp ad (up2 E35 (1 + d) 12 (.inl (kA 2, 5, .inl (upd op_1 k1_1 (vp_nar .boolean b2))))) RL) H := hP
    have hD : va_D A (rp ad (up2 E35 (1 + d) 12 (.inl (kA 2, 5, .inl (upd op_1 k1_1 (vp_nar .boolean b2))))) RL) := hD
    generalize hE52 : up2 E35 (1 + d) 12 (.inl (kA 2, 5, .inl (upd op_1 k1_1 (vp_nar .boolean b2)))) = E51 at hP hD
    have fE53 : ∀ b2 o2, ¬ (b2 = 1 + d ∧ o2 = 12) → E51 b2 o2 = E35 b2 o2 := fun b2 o2 h9 => by rw [← hE52]; exact up2_ne (by omega)
    have c_54 : E51 (1 + d) 12 = .inl (kA 2, 5, .inl (upd op_1 k1_1 (vp_nar .boolean b2))) := by rw [← hE52]; exact up2_eq
    have c_55 : E51 (1 + d) 11 = .inl (kA 2, 5, .inl (upd tr_1 k1_1 (vp_nar .boolean b1))) := (fE53 (1 + d) 11 (by omega)).trans c_38
    have c_56 : E51 (1 + d) 0 = .inr (7, [.int (nI d), .int fd_1, .int nm_1, .ref (ad (1 + d) 1), .ref (ad (1 + d) 9), .ref (ad (1 + d) 10), .ref (ad (1 + d) 2), .ref (ad (1 + d) 11), .ref (ad (1 + d) 12), .ref (ad (1 + d) 3), .ref (ad (1 + d) 4), .int sd_1]) := (fE53 (1 + d) 0 (by omega)).trans c_39
    have c_57 : E51 (1 + d) 1 = .inr (8, [.ref (ad (1 + d) 5), .int (nI k0_1)]) := (fE53 (1 + d) 1 (by omega)).trans c_40
    have c_58 : E51 (1 + d) 2 = .inr (8, [.ref (ad (1 + d) 6), .int (nI k1_1)]) := (fE53 (1 + d) 2 (by omega)).trans c_41
    have c_59 : E51 (1 + d) 3 = .inr (8, [.ref (ad (1 + d) 7), .int (nI k2_1)]) := (fE53 (1 + d) 3 (by omega)).trans c_42
    have c_60 : E51 (1 + d) 4 = .inr (8, [.ref (ad (1 + d) 8), .int (nI k3_1)]) := (fE53 (1 + d) 4 (by omega)).trans c_43
    have c_61 : E51 (1 + d) 5 = .inl (kA 0, 6, .inl f0_1) := (fE53 (1 + d) 5 (by omega)).trans c_44
    have c_62 : E51 (1 + d) 6 = .inl (kA 0, 5, .inl f1_1) := (fE53 (1 + d) 6 (by omega)).trans c_45
    have c_63 : E51 (1 + d) 7 = .inl (kA 0, 3, .inl f2_1) := (fE53 (1 + d) 7 (by omega)).trans c_46
    have c_64 : E51 (1 + d) 8 = .inl (kA 0, 3, .inl f3_1) := (fE53 (1 + d) 8 (by omega)).trans c_47
    have c_65 : E51 (1 + d) 9 = .inl (kA 8, 6, .inr (.inr (.inr (.inr fe_1)))) := (fE53 (1 + d) 9 (by omega)).trans c_48
    have c_66 : E51 (1 + d) 10 = .inl (kA 8, 6, .inr (.inr (.inr (.inr fo_1)))) := (fE53 (1 + d) 10 (by omega)).trans c_49
    refine lv_aload_n hx hb xd_Ds_addRequired_36 rfl (lv_at hl 0 rfl) ?_
    refine px_get (D := D) (ci := 7) (v := .ref (ad (1 + d) 2)) (C := xR_Ds) (T := xT_Ds) (N := 12) hx hb hT xi_Ds hown hK.1 hP m_3 c_56 rfl 6 (by decide) (hT _ yr1_0) (fun _ h9 => h9) rfl xd_Ds_addRequired_37 ?_
    refine lv_iload_n hx hb xd_Ds_addRequired_40 rfl (lv_at hl 1 rfl) ?_
    have hFc := px_free hD hS hA
    refine va_callv (va_runV (As := [.int nm]) (rest := []) ⟨hx, hb, hml, hown, hT⟩ (xc_Na_append l D kA H.size ad E51 RL (1 + d) 2 6 5 k1_1 f1_1 nm m_7 c_58 m_15 c_62 (by first | assumption | omega) (by first | assumption | omega) (by first | assumption | omega)) (cwV 1 hT (wT_V yr1_10 yr1_11 yr1_12 yr1_5 yr1_9) rfl rfl rfl (by decide +kernel) ⟨Nat.le_of_ble_eq_true rfl, Nat.le_of_ble_eq_true rfl⟩) (px_preV hK hP hD m_7 c_58 rfl) rfl rfl hl.1 rfl (lv_room (Nat.le_of_ble_eq_true rfl)) xd_Ds_addRequired_41 ⟨(Nat.le_of_ble_eq_true rfl), (Nat.le_of_ble_eq_true rfl)⟩) hS (fun q _ h => hFc q h) hFc (fun u68 t H1 locs ht hvm hp69 hB hz1 hk1 hS => ?_)
    obtain ⟨hP1, hD1⟩ := hB
    rw [ht] at hP1
    have hD1 := hD1.weaken (fun _ _ _ h => hFc _ h)
    generalize H1 = H at hP1 hS ⊢
    have hP := hP1
    have hD := hD1
    obtain ⟨E70, rfl⟩ : ∃ z, z = u68 := ⟨_, rfl⟩
    obtain ⟨w71, w72, hp76, p_73, p_74, p_75⟩ := hp69
    have p_73 : E70 (1 + d) 2 = .inr (8, [.ref (ad (1 + d) 6), .int (nI w71)]) := p_73
    have p_74 : E70 (1 + d) 6 = .inl (kA 0, 5, .inl w72) := p_74
    have p_75 : (∀ b2 o2, ¬ (b2 = (1 + d) ∧ o2 = 2) → ¬ (b2 = (1 + d) ∧ o2 = 6) → E70 b2 o2 = E51 b2 o2) := p_75
    have c_77 : E70 (1 + d) 12 = .inl (kA 2, 5, .inl (upd op_1 k1_1 (vp_nar .boolean b2))) := (p_75 (1 + d) 12 (by omega) (by omega)).trans c_54
    have c_78 : E70 (1 + d) 11 = .inl (kA 2, 5, .inl (upd tr_1 k1_1 (vp_nar .boolean b1))) := (p_75 (1 + d) 11 (by omega) (by omega)).trans c_55
    have c_79 : E70 (1 + d) 0 = .inr (7, [.int (nI d), .int fd_1, .int nm_1, .ref (ad (1 + d) 1), .ref (ad (1 + d) 9), .ref (ad (1 + d) 10), .ref (ad (1 + d) 2), .ref (ad (1 + d) 11), .ref (ad (1 + d) 12), .ref (ad (1 + d) 3), .ref (ad (1 + d) 4), .int sd_1]) := (p_75 (1 + d) 0 (by omega) (by omega)).trans c_56
    have c_80 : E70 (1 + d) 1 = .inr (8, [.ref (ad (1 + d) 5), .int (nI k0_1)]) := (p_75 (1 + d) 1 (by omega) (by omega)).trans c_57
    have c_81 : E70 (1 + d) 3 = .inr (8, [.ref (ad (1 + d) 7), .int (nI k2_1)]) := (p_75 (1 + d) 3 (by omega) (by omega)).trans c_59
    have c_82 : E70 (1 + d) 4 = .inr (8, [.ref (ad (1 + d) 8), .int (nI k3_1)]) := (p_75 (1 + d) 4 (by omega) (by omega)).trans c_60
    have c_83 : E70 (1 + d) 5 = .inl (kA 0, 6, .inl f0_1) := (p_75 (1 + d) 5 (by omega) (by omega)).trans c_61
    have c_84 : E70 (1 + d) 7 = .inl (kA 0, 3, .inl f2_1) := (p_75 (1 + d) 7 (by omega) (by omega)).trans c_63
    have c_85 : E70 (1 + d) 8 = .inl (kA 0, 3, .inl f3_1) := (p_75 (1 + d) 8 (by omega) (by omega)).trans c_64
    have c_86 : E70 (1 + d) 9 = .inl (kA 8, 6, .inr (.inr (.inr (.inr fe_1)))) := (p_75 (1 + d) 9 (by omega) (by omega)).trans c_65
    have c_87 : E70 (1 + d) 10 = .inl (kA 8, 6, .inr (.inr (.inr (.inr fo_1)))) := (p_75 (1 + d) 10 (by omega) (by omega)).trans c_66
    have hP : va_P D xcl (rp ad E70 RL) H := hP
    have hD : va_D A (rp ad E70 RL) := hD
    exact W.vret hx hb hr (fun t ht hW => ⟨⟨E70, rfl, ⟨⟨hm_1, fd_1, nm_1, sd_1, k0_1, w71, k2_1, k3_1, f0_1, w72, f2_1, f3_1, fe_1, fo_1, (upd tr_1 k1_1 (vp_nar .boolean b1)), (upd op_1 k1_1 (vp_nar .boolean b2)), (by omega), (by omega), (by omega), (by omega), c_79, c_80, p_73, c_81, c_82, c_83, p_74, c_84, c_85, c_86, c_87, c_78, c_77, (fun i9 hi9 => ⟨(hg_1 i9 (by omega)).1, (hg_1 i9 (by omega)).2.1, (GI_at (by show E70 (1 + d) (20 + 3 * i9) = _; rw [p_75 (1 + d) (20 + 3 * i9) (by omega) (by omega), fE53 (1 + d) (20 + 3 * i9) (by omega), fE37 (1 + d) (20 + 3 * i9) (by omega)]) (by show E70 (1 + d) (21 + 3 * i9) = _; rw [p_75 (1 + d) (21 + 3 * i9) (by omega) (by omega), fE53 (1 + d) (21 + 3 * i9) (by omega), fE37 (1 + d) (21 + 3 * i9) (by omega)]) (by show E70 (1 + d) (22 + 3 * i9) = _; rw [p_75 (1 + d) (22 + 3 * i9) (by omega) (by omega), fE53 (1 + d) (22 + 3 * i9) (by omega), fE37 (1 + d) (22 + 3 * i9) (by omega)]) (rfl) (rfl) (fun _ h9 => h9) (hg_1 i9 (by omega)).2.2.1), (GI_at (by show E70 (1 + d) (38 + 3 * i9) = _; rw [p_75 (1 + d) (38 + 3 * i9) (by omega) (by omega), fE53 (1 + d) (38 + 3 * i9) (by omega), fE37 (1 + d) (38 + 3 * i9) (by omega)]) (by show E70 (1 + d) (39 + 3 * i9) = _; rw [p_75 (1 + d) (39 + 3 * i9) (by omega) (by omega), fE53 (1 + d) (39 + 3 * i9) (by omega), fE37 (1 + d) (39 + 3 * i9) (by omega)]) (by show E70 (1 + d) (40 + 3 * i9) = _; rw [p_75 (1 + d) (40 + 3 * i9) (by omega) (by omega), fE53 (1 + d) (40 + 3 * i9) (by omega), fE37 (1 + d) (40 + 3 * i9) (by omega)]) (rfl) (rfl) (fun _ h9 => h9) (hg_1 i9 (by omega)).2.2.2)⟩)⟩, (fun b2 o2 h09 => by show E70 b2 o2 = _; rw [p_75 b2 o2 (by omega) (by omega), fE53 b2 o2 (by omega), fE37 b2 o2 (by omega)])⟩, by rw [ht]; exact hP, hD⟩, hS.F ht⟩) hS.2.2 xd_Ds_addRequired_44
set_option maxHeartbeats 4000000 in
set_option maxRecDepth 100000 in
theorem xc_Ds_addPackage (l : Launch) (D : va_G) (kA : Nat → ClassId) (sz : Nat) (ad : Nat → Nat → Nat) (E : Nat → Nat → va_E) (RL : List (Nat × Nat)) (d : Nat) (nm : Int32) (hDI : DI kA d (ad (1 + d)) (E (1 + d)) (fun o => (1 + d, o) ∈ RL)) : Met l xy_Ds_addPackage (.code xy_Ds_addPackage xb_Ds_addPackage 2 none :: wT) { frames := 3, cells := 6, slots := 20, locals := 55 } (va_Pc [.ref (ad (1 + d) 0), .int nm] (xPre D kA sz (rp ad E RL))) (va_Qv (fun (u : (Nat → Nat → Nat) × (Nat → Nat → va_E) × List (Nat × Nat)) => ((DI kA d (u.1 (1 + d)) (u.2.1 (1 + d)) (fun o => (1 + d, o) ∈ u.2.2)) ∧ ∀ o, o < 13 → u.1 (1 + d) o = ad (1 + d) o) ∧ ((∀ b2 o2, ¬ (b2 = 1 + d) → u.2.1 b2 o2 = E b2 o2)) ∧ ((∀ b2 o2, ¬ (b2 = 1 + d) → u.1 b2 o2 = ad b2 o2)) ∧ ((∀ x ∈ RL, x ∈ u.2.2))) (fun (u : (Nat → Nat → Nat) × (Nat → Nat → va_E) × List (Nat × Nat)) t => va_P D xcl (rp u.1 u.2.1 u.2.2) t.heap ∧ va_D (va_A (rp ad E RL) sz) (rp u.1 u.2.1 u.2.2)) (va_A (rp ad E RL) sz)) 6 20 (va_A (rp ad E RL) sz) := by
  refine Met.ofW (cc := xb_Ds_addPackage) (maxL := 2) (ret := none) (by decide) rfl ?_
  intro p e s m args below meth c s₁ B hml hv
  obtain ⟨rfl, hsz, hP, hK, hD0⟩ := hv
  have hx := B.exec
  have hb := B.bytes
  have hr := B.returns
  have hT := x_hT B.pre
  have hown : s.vm.findClass xR_Ds = some m.cls := findClass_of_methodNamed B.named
  have hlocks := B.notSynchronized
  subst hsz
  have hD := hD0.self (sz := s.heap.size)
  generalize hAe : va_A (rp ad E RL) s.heap.size = A at hD ⊢
  have hA : ∀ q : Nat, s.heap.size ≤ q → A q := fun q h => by rw [← hAe]; exact Or.inr h
  have hS : va_S A s.heap s.heap [] := va_S.rf
  have hl := lv_entry ([.ref (ad (1 + d) 0), .int nm]) (n := 2) (Nat.le_of_ble_eq_true rfl)
  rw [lg_entry_eq]
  generalize (lg_sl ([.ref (ad (1 + d) 0), .int nm]) ++ List.replicate (2 - (lg_sl ([.ref (ad (1 + d) 0), .int nm])).length) Slot.unset).toArray = ls at hl ⊢
  have hl : lv_has ls 2 [(0, .ref (ad (1 + d) 0)), (1, .int nm)] := hl
  have hP : va_P D xcl (rp ad E RL) s.heap := hP
  obtain ⟨hm_1, fd_1, nm_1, sd_1, k0_1, k1_1, k2_1, k3_1, f0_1, f1_1, f2_1, f3_1, fe_1, fo_1, tr_1, op_1, hk0_1, hk1_1, hk2_1, hk3_1, q0_1, q1_1, q2_1, q3_1, q4_1, q5_1, q6_1, q7_1, q8_1, q9_1, q10_1, q11_1, q12_1, hg_1⟩ := id (hDI)
  have c_2 : E (1 + d) 0 = .inr (7, [.int (nI d), .int fd_1, .int nm_1, .ref (ad (1 + d) 1), .ref (ad (1 + d) 9), .ref (ad (1 + d) 10), .ref (ad (1 + d) 2), .ref (ad (1 + d) 11), .ref (ad (1 + d) 12), .ref (ad (1 + d) 3), .ref (ad (1 + d) 4), .int sd_1]) := q0_1
  have m_3 : (1 + d, 0) ∈ RL := hm_1 0 (by omega)
  have c_4 : E (1 + d) 1 = .inr (8, [.ref (ad (1 + d) 5), .int (nI k0_1)]) := q1_1
  have m_5 : (1 + d, 1) ∈ RL := hm_1 1 (by omega)
  have c_6 : E (1 + d) 2 = .inr (8, [.ref (ad (1 + d) 6), .int (nI k1_1)]) := q2_1
  have m_7 : (1 + d, 2) ∈ RL := hm_1 2 (by omega)
  have c_8 : E (1 + d) 3 = .inr (8, [.ref (ad (1 + d) 7), .int (nI k2_1)]) := q3_1
  have m_9 : (1 + d, 3) ∈ RL := hm_1 3 (by omega)
  have c_10 : E (1 + d) 4 = .inr (8, [.ref (ad (1 + d) 8), .int (nI k3_1)]) := q4_1
  have m_11 : (1 + d, 4) ∈ RL := hm_1 4 (by omega)
  have c_12 : E (1 + d) 5 = .inl (kA 0, 6, .inl f0_1) := q5_1
  have m_13 : (1 + d, 5) ∈ RL := hm_1 5 (by omega)
  have c_14 : E (1 + d) 6 = .inl (kA 0, 5, .inl f1_1) := q6_1
  have m_15 : (1 + d, 6) ∈ RL := hm_1 6 (by omega)
  have c_16 : E (1 + d) 7 = .inl (kA 0, 3, .inl f2_1) := q7_1
  have m_17 : (1 + d, 7) ∈ RL := hm_1 7 (by omega)
  have c_18 : E (1 + d) 8 = .inl (kA 0, 3, .inl f3_1) := q8_1
  have m_19 : (1 + d, 8) ∈ RL := hm_1 8 (by omega)
  have c_20 : E (1 + d) 9 = .inl (kA 8, 6, .inr (.inr (.inr (.inr fe_1)))) := q9_1
  have m_21 : (1 + d, 9) ∈ RL := hm_1 9 (by omega)
  have c_22 : E (1 + d) 10 = .inl (kA 8, 6, .inr (.inr (.inr (.inr fo_1)))) := q10_1
  have m_23 : (1 + d, 10) ∈ RL := hm_1 10 (by omega)
  have c_24 : E (1 + d) 11 = .inl (kA 2, 5, .inl tr_1) := q11_1
  have m_25 : (1 + d, 11) ∈ RL := hm_1 11 (by omega)
  have c_26 : E (1 + d) 12 = .inl (kA 2, 5, .inl op_1) := q12_1
  have m_27 : (1 + d, 12) ∈ RL := hm_1 12 (by omega)
  have hg_1 : ∀ w9, w9 < k0_1 → fe_1 w9 = some (ad (1 + d) (20 + 3 * w9)) ∧ fo_1 w9 = some (ad (1 + d) (38 + 3 * w9)) ∧ GI kA (ad (1 + d)) (E (1 + d)) (fun o => (1 + d, o) ∈ RL) (20 + 3 * w9) (21 + 3 * w9) (22 + 3 * w9) ∧ GI kA (ad (1 + d)) (E (1 + d)) (fun o => (1 + d, o) ∈ RL) (38 + 3 * w9) (39 + 3 * w9) (40 + 3 * w9) := hg_1
  refine lv_aload_n hx hb xd_Ds_addPackage_0 rfl (lv_at hl 0 rfl) ?_
  refine px_get (D := D) (ci := 7) (v := .ref (ad (1 + d) 1)) (C := xR_Ds) (T := xT_Ds) (N := 12) hx hb hT xi_Ds hown hK.1 hP m_3 c_2 rfl 3 (by decide) (hT _ yr1_13) (fun _ h9 => h9) rfl xd_Ds_addPackage_1 ?_
  have hFc := px_free hD hS hA
  refine va_calli (va_runV (As := []) (rest := []) ⟨hx, hb, hml, hown, hT⟩ (xc_Na_isFull l D kA s.heap.size ad E RL (1 + d) 1 5 6 k0_1 f0_1 m_5 c_4 m_13 c_12 (by first | assumption | omega) (by first | assumption | omega)) (cwV 0 hT (wT_V yr1_2 yr1_3 yr1_4 yr1_5 yr1_1) rfl rfl rfl (by decide +kernel) ⟨Nat.le_of_ble_eq_true rfl, Nat.le_of_ble_eq_true rfl⟩) (px_preV hK hP hD m_5 c_4 rfl) rfl rfl hl.1 rfl (lv_room (Nat.le_of_ble_eq_true rfl)) xd_Ds_addPackage_4 ⟨(Nat.le_of_ble_eq_true rfl), (Nat.le_of_ble_eq_true rfl)⟩) hS (fun q _ h => hFc q h) hFc (fun r28 u29 t H1 locs ht hvm hp30 hB hz1 hk1 hS => ?_)
  obtain ⟨hP1, hD1⟩ := hB
  rw [ht] at hP1
  have hD1 := hD1.weaken (fun _ _ _ h => hFc _ h)
  generalize H1 = H at hP1 hS ⊢
  have hP := hP1
  have hD := hD1
  have hP : va_P D xcl (rp ad E RL) H := hP
  have hD : va_D A (rp ad E RL) := hD
  rcases hp30 with ⟨rfl, z31⟩ | ⟨rfl, z32⟩
  · refine W.eq (g2 := F0 m 7 ls [.int 1]) rfl ?_
    refine lv_if_ne (tgt := 56) hx hb xd_Ds_addPackage_7 (by decide) (fun _ => ?_) (fun hc33 => absurd hc33 (by decide))
    refine W.widen (k := 6) (n := 20) (Nat.le_of_ble_eq_true rfl) (Nat.le_of_ble_eq_true rfl) ?_
    exact W.vret hx hb hr (fun t ht hW => ⟨⟨(ad, E, RL), rfl, ⟨⟨(show DI kA d (ad (1 + d)) (E (1 + d)) (fun o => (1 + d, o) ∈ RL) from ⟨hm_1, fd_1, nm_1, sd_1, k0_1, k1_1, k2_1, k3_1, f0_1, f1_1, f2_1, f3_1, fe_1, fo_1, tr_1, op_1, (by omega), (by omega), (by omega), (by omega), c_2, c_4, c_6, c_8, c_10, c_12, c_14, c_16, c_18, c_20, c_22, c_24, c_26, (fun i9 hi9 => ⟨(hg_1 i9 (by omega)).1, (hg_1 i9 (by omega)).2.1, (GI_at (rfl) (rfl) (rfl) (rfl) (rfl) (fun _ h9 => h9) (hg_1 i9 (by omega)).2.2.1), (GI_at (rfl) (rfl) (rfl) (rfl) (rfl) (fun _ h9 => h9) (hg_1 i9 (by omega)).2.2.2)⟩)⟩), fun o9 ho9 => rfl⟩, (fun b2 o2 h09 => rfl), (fun b2 o2 h09 => rfl), (fun x9 hx9 => hx9)⟩, by rw [ht]; exact hP, hD⟩, hS.F ht⟩) hS.2.2 xd_Ds_addPackage_56
  · refine W.eq (g2 := F0 m 7 ls [.int 0]) rfl ?_
    refine lv_if_ne (tgt := 56) hx hb xd_Ds_addPackage_7 (by decide) (fun hc34 => absurd (by decide) hc34) (fun _ => ?_)
    refine lv_aload_n hx hb xd_Ds_addPackage_10 rfl (lv_at hl 0 rfl) ?_
    refine px_get (D := D) (ci := 7) (v := .ref (ad (1 + d) 9)) (C := xR_Ds) (T := xT_Ds) (N := 12) hx hb hT xi_Ds hown hK.1 hP m_3 c_2 rfl 4 (by decide) (hT _ yr1_14) (fun _ h9 => h9) rfl xd_Ds_addPackage_11 ?_
    refine lv_aload_n hx hb xd_Ds_addPackage_14 rfl (lv_at hl 0 rfl) ?_
    refine px_get (D := D) (ci := 7) (v := .ref (ad (1 + d) 1)) (C := xR_Ds) (T := xT_Ds) (N := 12) hx hb hT xi_Ds hown hK.1 hP m_3 c_2 rfl 3 (by decide) (hT _ yr1_13) (fun _ h9 => h9) rfl xd_Ds_addPackage_15 ?_
    refine px_get (D := D) (ci := 8) (v := .int (nI k0_1)) (C := xR_Na) (T := xT_Na) (N := 2) hx hb hT xi_Na hown hK.1 hP m_5 c_4 rfl 1 (by decide) (hT _ yr1_7) (fun _ h9 => h9) rfl xd_Ds_addPackage_18 ?_
    refine px_new (ci := 9) (fs := [.null, .int 0]) (C := xR_Gr) (T := xT_Gr) (N := 2) (1 + d) (20 + 3 * k0_1) hx hb hT xi_Gr xt_Gr xt_Gr_ok hown (hT _ yr1_15) (hT _ yr1_16) (hT _ yr1_17) hK.1 hP hD hS hA rfl (by decide +kernel) (Nat.le_of_ble_eq_true rfl) (Nat.le_of_ble_eq_true rfl) xd_Ds_addPackage_21 (fun ad35 E36 RL37 H hA1 hE1 hs1 hm1 hP hD hS => ?_)
    have fE38 : ∀ b2 o2, ¬ (b2 = 1 + d ∧ o2 = 20 + 3 * k0_1) → E36 b2 o2 = E b2 o2 := fun b2 o2 h9 => by rw [hE1]; exact up2_ne (by omega)
    have fA39 : ∀ b2 o2, ¬ (b2 = 1 + d ∧ o2 = 20 + 3 * k0_1) → ad35 b2 o2 = ad b2 o2 := fun b2 o2 h9 => by rw [hA1]; exact up2_ne (by omega)
    have hs40 := hs1
    refine W.eq (g2 := F0 m _ ls [.ref (ad35 (1 + d) (20 + 3 * k0_1)), .int (nI k0_1), .ref (ad35 (1 + d) 9)]) (by rw [fA39 (1 + d) 9 (by omega)]) ?_
    have c_41 : E36 (1 + d) (20 + 3 * k0_1) = .inr (9, [.null, .int 0]) := by rw [hE1]; exact up2_eq
    have hl : lv_has ls 2 [(0, .ref (ad35 (1 + d) 0)), (1, .int nm)] := by
      rw [fA39 (1 + d) 0 (by omega)]; exact hl
    have m_43 : (1 + d, 0) ∈ RL37 := hs40 _ m_3
    have m_44 : (1 + d, 1) ∈ RL37 := hs40 _ m_5
    have m_45 : (1 + d, 2) ∈ RL37 := hs40 _ m_7
    have m_46 : (1 + d, 3) ∈ RL37 := hs40 _ m_9
    have m_47 : (1 + d, 4) ∈ RL37 := hs40 _ m_11
    have m_48 : (1 + d, 5) ∈ RL37 := hs40 _ m_13
    have m_49 : (1 + d, 6) ∈ RL37 := hs40 _ m_15
    have m_50 : (1 + d, 7) ∈ RL37 := hs40 _ m_17
    have m_51 : (1 + d, 8) ∈ RL37 := hs40 _ m_19
    have m_52 : (1 + d, 9) ∈ RL37 := hs40 _ m_21
    have m_53 : (1 + d, 10) ∈ RL37 := hs40 _ m_23
    have m_54 : (1 + d, 11) ∈ RL37 := hs40 _ m_25
    have m_55 : (1 + d, 12) ∈ RL37 := hs40 _ m_27
    have c_56 : E36 (1 + d) 0 = .inr (7, [.int (nI d), .int fd_1, .int nm_1, .ref (ad35 (1 + d) 1), .ref (ad35 (1 + d) 9), .ref (ad35 (1 + d) 10), .ref (ad35 (1 + d) 2), .ref (ad35 (1 + d) 11), .ref (ad35 (1 + d) 12), .ref (ad35 (1 + d) 3), .ref (ad35 (1 + d) 4), .int sd_1]) := by rw [fE38 (1 + d) 0 (by omega), fA39 (1 + d) 1 (by omega), fA39 (1 + d) 9 (by omega), fA39 (1 + d) 10 (by omega), fA39 (1 + d) 2 (by omega), fA39 (1 + d) 11 (by omega), fA39 (1 + d) 12 (by omega), fA39 (1 + d) 3 (by omega), fA39 (1 + d) 4 (by omega)]; exact c_2
    have c_57 : E36 (1 + d) 1 = .inr (8, [.ref (ad35 (1 + d) 5), .int (nI k0_1)]) := by rw [fE38 (1 + d) 1 (by omega), fA39 (1 + d) 5 (by omega)]; exact c_4
    have c_58 : E36 (1 + d) 2 = .inr (8, [.ref (ad35 (1 + d) 6), .int (nI k1_1)]) := by rw [fE38 (1 + d) 2 (by omega), fA39 (1 + d) 6 (by omega)]; exact c_6
    have c_59 : E36 (1 + d) 3 = .inr (8, [.ref (ad35 (1 + d) 7), .int (nI k2_1)]) := by rw [fE38 (1 + d) 3 (by omega), fA39 (1 + d) 7 (by omega)]; exact c_8
    have c_60 : E36 (1 + d) 4 = .inr (8, [.ref (ad35 (1 + d) 8), .int (nI k3_1)]) := by rw [fE38 (1 + d) 4 (by omega), fA39 (1 + d) 8 (by omega)]; exact c_10
    have c_61 : E36 (1 + d) 5 = .inl (kA 0, 6, .inl f0_1) := by rw [fE38 (1 + d) 5 (by omega)]; exact c_12
    have c_62 : E36 (1 + d) 6 = .inl (kA 0, 5, .inl f1_1) := by rw [fE38 (1 + d) 6 (by omega)]; exact c_14
    have c_63 : E36 (1 + d) 7 = .inl (kA 0, 3, .inl f2_1) := by rw [fE38 (1 + d) 7 (by omega)]; exact c_16
    have c_64 : E36 (1 + d) 8 = .inl (kA 0, 3, .inl f3_1) := by rw [fE38 (1 + d) 8 (by omega)]; exact c_18
    have c_65 : E36 (1 + d) 9 = .inl (kA 8, 6, .inr (.inr (.inr (.inr fe_1)))) := by rw [fE38 (1 + d) 9 (by omega)]; exact c_20
    have c_66 : E36 (1 + d) 10 = .inl (kA 8, 6, .inr (.inr (.inr (.inr fo_1)))) := by rw [fE38 (1 + d) 10 (by omega)]; exact c_22
    have c_67 : E36 (1 + d) 11 = .inl (kA 2, 5, .inl tr_1) := by rw [fE38 (1 + d) 11 (by omega)]; exact c_24
    have c_68 : E36 (1 + d) 12 = .inl (kA 2, 5, .inl op_1) := by rw [fE38 (1 + d) 12 (by omega)]; exact c_26
    have m_42 : (1 + d, 20 + 3 * k0_1) ∈ RL37 := hm1
    have hP : va_P D xcl (rp ad35 E36 RL37) H := hP
    have hD : va_D A (rp ad35 E36 RL37) := hD
    refine lv_dup hx hb xd_Ds_addPackage_24 rfl ?_
    have hFc := px_free hD hS hA
    refine va_callv (va_runIN (As := []) (rest := [.ref (ad35 (1 + d) (20 + 3 * k0_1)), .int (nI k0_1), .ref (ad35 (1 + d) 9)]) ⟨hx, hb, hml, hown, hT⟩ (xc_Gr_init l D kA H.size ad35 E36 RL37 (1 + d) (20 + 3 * k0_1) (21 + 3 * k0_1) (22 + 3 * k0_1) m_42 c_41 (by first | assumption | omega)) ⟨va_cnB 0 hT (wT_I yr1_18) rfl rfl rfl hK.2.1.2.2.1 (hT _ yr1_17) (by decide +kernel) ⟨Nat.le_of_ble_eq_true rfl, Nat.le_of_ble_eq_true rfl⟩, rfl, hT _ yr1_19⟩ (x_preS hK hP hD) rfl rfl hl.1 rfl (lv_room (Nat.le_of_ble_eq_true rfl)) xd_Ds_addPackage_25 ⟨(Nat.le_of_ble_eq_true rfl), (Nat.le_of_ble_eq_true rfl)⟩) hS (fun q _ h => hFc q h) hFc (fun u70 t H1 locs ht hvm hp71 hB hz1 hk1 hS => ?_)
    obtain ⟨hP1, hD1⟩ := hB
    rw [ht] at hP1
    have hD1 := hD1.weaken (fun _ _ _ h => hFc _ h)
    generalize H1 = H at hP1 hS ⊢
    have hP := hP1
    have hD := hD1
    obtain ⟨ad72, E73, RL74⟩ := u70
    obtain ⟨hp83, p_75, p_76, p_77, p_78, p_79, p_80, p_81, p_82⟩ := hp71
    have p_75 : E73 (1 + d) (20 + 3 * k0_1) = .inr (9, [.ref (ad72 (1 + d) (21 + 3 * k0_1)), .int 0]) := p_75
    have p_76 : E73 (1 + d) (21 + 3 * k0_1) = .inr (8, [.ref (ad72 (1 + d) (22 + 3 * k0_1)), .int 0]) := p_76
    have p_77 : E73 (1 + d) (22 + 3 * k0_1) = .inl (kA 0, 3, .inl (fun _ => 0)) := p_77
    have p_78 : (∀ b2 o2, ¬ (b2 = (1 + d) ∧ o2 = (20 + 3 * k0_1)) → ¬ (b2 = (1 + d) ∧ o2 = (21 + 3 * k0_1)) → ¬ (b2 = (1 + d) ∧ o2 = (22 + 3 * k0_1)) → E73 b2 o2 = E36 b2 o2) := p_78
    have p_79 : (∀ b2 o2, ¬ (b2 = (1 + d) ∧ o2 = (21 + 3 * k0_1)) → ¬ (b2 = (1 + d) ∧ o2 = (22 + 3 * k0_1)) → ad72 b2 o2 = ad35 b2 o2) := p_79
    have p_80 : (∀ x ∈ RL37, x ∈ RL74) := p_80
    have p_81 : ((1 + d), (21 + 3 * k0_1)) ∈ RL74 := p_81
    have p_82 : ((1 + d), (22 + 3 * k0_1)) ∈ RL74 := p_82
    refine W.eq (g2 := F0 m 28 ls [.ref (ad72 (1 + d) (20 + 3 * k0_1)), .int (nI k0_1), .ref (ad72 (1 + d) 9)]) (by rw [p_79 (1 + d) (20 + 3 * k0_1) (by omega) (by omega), p_79 (1 + d) 9 (by omega) (by omega)]) ?_
    have hl : lv_has ls 2 [(0, .ref (ad72 (1 + d) 0)), (1, .int nm)] := by
      rw [p_79 (1 + d) 0 (by omega) (by omega)]; exact hl
    have m_84 : (1 + d, 0) ∈ RL74 := p_80 _ m_43
    have m_85 : (1 + d, 1) ∈ RL74 := p_80 _ m_44
    have m_86 : (1 + d, 2) ∈ RL74 := p_80 _ m_45
    have m_87 : (1 + d, 3) ∈ RL74 := p_80 _ m_46
    have m_88 : (1 + d, 4) ∈ RL74 := p_80 _ m_47
    have m_89 : (1 + d, 5) ∈ RL74 := p_80 _ m_48
    have m_90 : (1 + d, 6) ∈ RL74 := p_80 _ m_49
    have m_91 : (1 + d, 7) ∈ RL74 := p_80 _ m_50
    have m_92 : (1 + d, 8) ∈ RL74 := p_80 _ m_51
    have m_93 : (1 + d, 9) ∈ RL74 := p_80 _ m_52
    have m_94 : (1 + d, 10) ∈ RL74 := p_80 _ m_53
    have m_95 : (1 + d, 11) ∈ RL74 := p_80 _ m_54
    have m_96 : (1 + d, 12) ∈ RL74 := p_80 _ m_55
    have m_97 : (1 + d, 20 + 3 * k0_1) ∈ RL74 := p_80 _ m_42
    have c_98 : E73 (1 + d) 0 = .inr (7, [.int (nI d), .int fd_1, .int nm_1, .ref (ad72 (1 + d) 1), .ref (ad72 (1 + d) 9), .ref (ad72 (1 + d) 10), .ref (ad72 (1 + d) 2), .ref (ad72 (1 + d) 11), .ref (ad72 (1 + d) 12), .ref (ad72 (1 + d) 3), .ref (ad72 (1 + d) 4), .int sd_1]) := by rw [p_78 (1 + d) 0 (by omega) (by omega) (by omega), p_79 (1 + d) 1 (by omega) (by omega), p_79 (1 + d) 9 (by omega) (by omega), p_79 (1 + d) 10 (by omega) (by omega), p_79 (1 + d) 2 (by omega) (by omega), p_79 (1 + d) 11 (by omega) (by omega), p_79 (1 + d) 12 (by omega) (by omega), p_79 (1 + d) 3 (by omega) (by omega), p_79 (1 + d) 4 (by omega) (by omega)]; exact c_56
    have c_99 : E73 (1 + d) 1 = .inr (8, [.ref (ad72 (1 + d) 5), .int (nI k0_1)]) := by rw [p_78 (1 + d) 1 (by omega) (by omega) (by omega), p_79 (1 + d) 5 (by omega) (by omega)]; exact c_57
    have c_100 : E73 (1 + d) 2 = .inr (8, [.ref (ad72 (1 + d) 6), .int (nI k1_1)]) := by rw [p_78 (1 + d) 2 (by omega) (by omega) (by omega), p_79 (1 + d) 6 (by omega) (by omega)]; exact c_58
    have c_101 : E73 (1 + d) 3 = .inr (8, [.ref (ad72 (1 + d) 7), .int (nI k2_1)]) := by rw [p_78 (1 + d) 3 (by omega) (by omega) (by omega), p_79 (1 + d) 7 (by omega) (by omega)]; exact c_59
    have c_102 : E73 (1 + d) 4 = .inr (8, [.ref (ad72 (1 + d) 8), .int (nI k3_1)]) := by rw [p_78 (1 + d) 4 (by omega) (by omega) (by omega), p_79 (1 + d) 8 (by omega) (by omega)]; exact c_60
    have c_103 : E73 (1 + d) 5 = .inl (kA 0, 6, .inl f0_1) := by rw [p_78 (1 + d) 5 (by omega) (by omega) (by omega)]; exact c_61
    have c_104 : E73 (1 + d) 6 = .inl (kA 0, 5, .inl f1_1) := by rw [p_78 (1 + d) 6 (by omega) (by omega) (by omega)]; exact c_62
    have c_105 : E73 (1 + d) 7 = .inl (kA 0, 3, .inl f2_1) := by rw [p_78 (1 + d) 7 (by omega) (by omega) (by omega)]; exact c_63
    have c_106 : E73 (1 + d) 8 = .inl (kA 0, 3, .inl f3_1) := by rw [p_78 (1 + d) 8 (by omega) (by omega) (by omega)]; exact c_64
    have c_107 : E73 (1 + d) 9 = .inl (kA 8, 6, .inr (.inr (.inr (.inr fe_1)))) := by rw [p_78 (1 + d) 9 (by omega) (by omega) (by omega)]; exact c_65
    have c_108 : E73 (1 + d) 10 = .inl (kA 8, 6, .inr (.inr (.inr (.inr fo_1)))) := by rw [p_78 (1 + d) 10 (by omega) (by omega) (by omega)]; exact c_66
    have c_109 : E73 (1 + d) 11 = .inl (kA 2, 5, .inl tr_1) := by rw [p_78 (1 + d) 11 (by omega) (by omega) (by omega)]; exact c_67
    have c_110 : E73 (1 + d) 12 = .inl (kA 2, 5, .inl op_1) := by rw [p_78 (1 + d) 12 (by omega) (by omega) (by omega)]; exact c_68
    have hP : va_P D xcl (rp ad72 E73 RL74) H := hP
    have hD : va_D A (rp ad72 E73 RL74) := hD
    refine px_aast (i := k0_1) (r := (xR_Gr, xT_Gr, 2)) hx hb hK.1 hP hD hS m_93 c_107 8 rfl m_97 p_75 rfl (by omega) (by decide) xd_Ds_addPackage_28 (fun H locs hP hD hS => ?_)
    have hP : va_P D xcl (rp ad72 (up2 E73 (1 + d) 9 (.inl (kA 8, 6, .inr (.inr (.inr (.inr (va_up fe_1 k0_1 (some (ad72 (1 + d) (20 + 3 * k0_1)))))))))) RL74) H := hP
    have hD : va_D A (rp ad72 (up2 E73 (1 + d) 9 (.inl (kA 8, 6, .inr (.inr (.inr (.inr (va_up fe_1 k0_1 (some (ad72 (1 + d) (20 + 3 * k0_1)))))))))) RL74) := hD
    generalize hE112 : up2 E73 (1 + d) 9 (.inl (kA 8, 6, .inr (.inr (.inr (.inr (va_up fe_1 k0_1 (some (ad72 (1 + d) (20 + 3 * k0_1))))))))) = E111 at hP hD
    have fE113 : ∀ b2 o2, ¬ (b2 = 1 + d ∧ o2 = 9) → E111 b2 o2 = E73 b2 o2 := fun b2 o2 h9 => by rw [← hE112]; exact up2_ne (by omega)
    have c_114 : E111 (1 + d) 9 = .inl (kA 8, 6, .inr (.inr (.inr (.inr (va_up fe_1 k0_1 (some (ad72 (1 + d) (20 + 3 * k0_1)))))))) := by rw [← hE112]; exact up2_eq
    have c_115 : E111 (1 + d) (20 + 3 * k0_1) = .inr (9, [.ref (ad72 (1 + d) (21 + 3 * k0_1)), .int 0]) := (fE113 (1 + d) (20 + 3 * k0_1) (by omega)).trans p_75
    have c_116 : E111 (1 + d) (21 + 3 * k0_1) = .inr (8, [.ref (ad72 (1 + d) (22 + 3 * k0_1)), .int 0]) := (fE113 (1 + d) (21 + 3 * k0_1) (by omega)).trans p_76
    have c_117 : E111 (1 + d) (22 + 3 * k0_1) = .inl (kA 0, 3, .inl (fun _ => 0)) := (fE113 (1 + d) (22 + 3 * k0_1) (by omega)).trans p_77
    have c_118 : E111 (1 + d) 0 = .inr (7, [.int (nI d), .int fd_1, .int nm_1, .ref (ad72 (1 + d) 1), .ref (ad72 (1 + d) 9), .ref (ad72 (1 + d) 10), .ref (ad72 (1 + d) 2), .ref (ad72 (1 + d) 11), .ref (ad72 (1 + d) 12), .ref (ad72 (1 + d) 3), .ref (ad72 (1 + d) 4), .int sd_1]) := (fE113 (1 + d) 0 (by omega)).trans c_98
    have c_119 : E111 (1 + d) 1 = .inr (8, [.ref (ad72 (1 + d) 5), .int (nI k0_1)]) := (fE113 (1 + d) 1 (by omega)).trans c_99
    have c_120 : E111 (1 + d) 2 = .inr (8, [.ref (ad72 (1 + d) 6), .int (nI k1_1)]) := (fE113 (1 + d) 2 (by omega)).trans c_100
    have c_121 : E111 (1 + d) 3 = .inr (8, [.ref (ad72 (1 + d) 7), .int (nI k2_1)]) := (fE113 (1 + d) 3 (by omega)).trans c_101
    have c_122 : E111 (1 + d) 4 = .inr (8, [.ref (ad72 (1 + d) 8), .int (nI k3_1)]) := (fE113 (1 + d) 4 (by omega)).trans c_102
    have c_123 : E111 (1 + d) 5 = .inl (kA 0, 6, .inl f0_1) := (fE113 (1 + d) 5 (by omega)).trans c_103
    have c_124 : E111 (1 + d) 6 = .inl (kA 0, 5, .inl f1_1) := (fE113 (1 + d) 6 (by omega)).trans c_104
    have c_125 : E111 (1 + d) 7 = .inl (kA 0, 3, .inl f2_1) := (fE113 (1 + d) 7 (by omega)).trans c_105
    have c_126 : E111 (1 + d) 8 = .inl (kA 0, 3, .inl f3_1) := (fE113 (1 + d) 8 (by omega)).trans c_106
    have c_127 : E111 (1 + d) 10 = .inl (kA 8, 6, .inr (.inr (.inr (.inr fo_1)))) := (fE113 (1 + d) 10 (by omega)).trans c_108
    have c_128 : E111 (1 + d) 11 = .inl (kA 2, 5, .inl tr_1) := (fE113 (1 + d) 11 (by omega)).trans c_109
    have c_129 : E111 (1 + d) 12 = .inl (kA 2, 5, .inl op_1) := (fE113 (1 + d) 12 (by omega)).trans c_110
    refine lv_aload_n hx hb xd_Ds_addPackage_29 rfl (lv_at hl 0 rfl) ?_
    refine px_get (D := D) (ci := 7) (v := .ref (ad72 (1 + d) 10)) (C := xR_Ds) (T := xT_Ds) (N := 12) hx hb hT xi_Ds hown hK.1 hP m_84 c_118 rfl 5 (by decide) (hT _ yr1_20) (fun _ h9 => h9) rfl xd_Ds_addPackage_30 ?_
    refine lv_aload_n hx hb xd_Ds_addPackage_33 rfl (lv_at hl 0 rfl) ?_
    refine px_get (D := D) (ci := 7) (v := .ref (ad72 (1 + d) 1)) (C := xR_Ds) (T := xT_Ds) (N := 12) hx hb hT xi_Ds hown hK.1 hP m_84 c_118 rfl 3 (by decide) (hT _ yr1_13) (fun _ h9 => h9) rfl xd_Ds_addPackage_34 ?_
    refine px_get (D := D) (ci := 8) (v := .int (nI k0_1)) (C := xR_Na) (T := xT_Na) (N := 2) hx hb hT xi_Na hown hK.1 hP m_85 c_119 rfl 1 (by decide) (hT _ yr1_7) (fun _ h9 => h9) rfl xd_Ds_addPackage_37 ?_
    refine px_new (ci := 9) (fs := [.null, .int 0]) (C := xR_Gr) (T := xT_Gr) (N := 2) (1 + d) (38 + 3 * k0_1) hx hb hT xi_Gr xt_Gr xt_Gr_ok hown (hT _ yr1_15) (hT _ yr1_16) (hT _ yr1_17) hK.1 hP hD hS hA rfl (by decide +kernel) (Nat.le_of_ble_eq_true rfl) (Nat.le_of_ble_eq_true rfl) xd_Ds_addPackage_40 (fun ad130 E131 RL132 H hA1 hE1 hs1 hm1 hP hD hS => ?_)
    have fE133 : ∀ b2 o2, ¬ (b2 = 1 + d ∧ o2 = 38 + 3 * k0_1) → E131 b2 o2 = E111 b2 o2 := fun b2 o2 h9 => by rw [hE1]; exact up2_ne (by omega)
    have fA134 : ∀ b2 o2, ¬ (b2 = 1 + d ∧ o2 = 38 + 3 * k0_1) → ad130 b2 o2 = ad72 b2 o2 := fun b2 o2 h9 => by rw [hA1]; exact up2_ne (by omega)
    have hs135 := hs1
    refine W.eq (g2 := F0 m _ ls [.ref (ad130 (1 + d) (38 + 3 * k0_1)), .int (nI k0_1), .ref (ad130 (1 + d) 10)]) (by rw [fA134 (1 + d) 10 (by omega)]) ?_
    have c_136 : E131 (1 + d) (38 + 3 * k0_1) = .inr (9, [.null, .int 0]) := by rw [hE1]; exact up2_eq
    have hl : lv_has ls 2 [(0, .ref (ad130 (1 + d) 0)), (1, .int nm)] := by
      rw [fA134 (1 + d) 0 (by omega)]; exact hl
    have m_138 : (1 + d, 0) ∈ RL132 := hs135 _ m_84
    have m_139 : (1 + d, 1) ∈ RL132 := hs135 _ m_85
    have m_140 : (1 + d, 2) ∈ RL132 := hs135 _ m_86
    have m_141 : (1 + d, 3) ∈ RL132 := hs135 _ m_87
    have m_142 : (1 + d, 4) ∈ RL132 := hs135 _ m_88
    have m_143 : (1 + d, 5) ∈ RL132 := hs135 _ m_89
    have m_144 : (1 + d, 6) ∈ RL132 := hs135 _ m_90
    have m_145 : (1 + d, 7) ∈ RL132 := hs135 _ m_91
    have m_146 : (1 + d, 8) ∈ RL132 := hs135 _ m_92
    have m_147 : (1 + d, 9) ∈ RL132 := hs135 _ m_93
    have m_148 : (1 + d, 10) ∈ RL132 := hs135 _ m_94
    have m_149 : (1 + d, 11) ∈ RL132 := hs135 _ m_95
    have m_150 : (1 + d, 12) ∈ RL132 := hs135 _ m_96
    have m_151 : (1 + d, 20 + 3 * k0_1) ∈ RL132 := hs135 _ m_97
    have m_152 : (1 + d, 21 + 3 * k0_1) ∈ RL132 := hs135 _ p_81
    have m_153 : (1 + d, 22 + 3 * k0_1) ∈ RL132 := hs135 _ p_82
    have c_154 : E131 (1 + d) 9 = .inl (kA 8, 6, .inr (.inr (.inr (.inr (va_up fe_1 k0_1 (some (ad72 (1 + d) (20 + 3 * k0_1)))))))) := by rw [fE133 (1 + d) 9 (by omega)]; exact c_114
    have c_155 : E131 (1 + d) (20 + 3 * k0_1) = .inr (9, [.ref (ad130 (1 + d) (21 + 3 * k0_1)), .int 0]) := by rw [fE133 (1 + d) (20 + 3 * k0_1) (by omega), fA134 (1 + d) (21 + 3 * k0_1) (by omega)]; exact c_115
    have c_156 : E131 (1 + d) (21 + 3 * k0_1) = .inr (8, [.ref (ad130 (1 + d) (22 + 3 * k0_1)), .int 0]) := by rw [fE133 (1 + d) (21 + 3 * k0_1) (by omega), fA134 (1 + d) (22 + 3 * k0_1) (by omega)]; exact c_116
    have c_157 : E131 (1 + d) (22 + 3 * k0_1) = .inl (kA 0, 3, .inl (fun _ => 0)) := by rw [fE133 (1 + d) (22 + 3 * k0_1) (by omega)]; exact c_117
    have c_158 : E131 (1 + d) 0 = .inr (7, [.int (nI d), .int fd_1, .int nm_1, .ref (ad130 (1 + d) 1), .ref (ad130 (1 + d) 9), .ref (ad130 (1 + d) 10), .ref (ad130 (1 + d) 2), .ref (ad130 (1 + d) 11), .ref (ad130 (1 + d) 12), .ref (ad130 (1 + d) 3), .ref (ad130 (1 + d) 4), .int sd_1]) := by rw [fE133 (1 + d) 0 (by omega), fA134 (1 + d) 1 (by omega), fA134 (1 + d) 9 (by omega), fA134 (1 + d) 10 (by omega), fA134 (1 + d) 2 (by omega), fA134 (1 + d) 11 (by omega), fA134 (1 + d) 12 (by omega), fA134 (1 + d) 3 (by omega), fA134 (1 + d) 4 (by omega)]; exact c_118
    have c_159 : E131 (1 + d) 1 = .inr (8, [.ref (ad130 (1 + d) 5), .int (nI k0_1)]) := by rw [fE133 (1 + d) 1 (by omega), fA134 (1 + d) 5 (by omega)]; exact c_119
    have c_160 : E131 (1 + d) 2 = .inr (8, [.ref (ad130 (1 + d) 6), .int (nI k1_1)]) := by rw [fE133 (1 + d) 2 (by omega), fA134 (1 + d) 6 (by omega)]; exact c_120
    have c_161 : E131 (1 + d) 3 = .inr (8, [.ref (ad130 (1 + d) 7), .int (nI k2_1)]) := by rw [fE133 (1 + d) 3 (by omega), fA134 (1 + d) 7 (by omega)]; exact c_121
    have c_162 : E131 (1 + d) 4 = .inr (8, [.ref (ad130 (1 + d) 8), .int (nI k3_1)]) := by rw [fE133 (1 + d) 4 (by omega), fA134 (1 + d) 8 (by omega)]; exact c_122
    have c_163 : E131 (1 + d) 5 = .inl (kA 0, 6, .inl f0_1) := by rw [fE133 (1 + d) 5 (by omega)]; exact c_123
    have c_164 : E131 (1 + d) 6 = .inl (kA 0, 5, .inl f1_1) := by rw [fE133 (1 + d) 6 (by omega)]; exact c_124
    have c_165 : E131 (1 + d) 7 = .inl (kA 0, 3, .inl f2_1) := by rw [fE133 (1 + d) 7 (by omega)]; exact c_125
    have c_166 : E131 (1 + d) 8 = .inl (kA 0, 3, .inl f3_1) := by rw [fE133 (1 + d) 8 (by omega)]; exact c_126
    have c_167 : E131 (1 + d) 10 = .inl (kA 8, 6, .inr (.inr (.inr (.inr fo_1)))) := by rw [fE133 (1 + d) 10 (by omega)]; exact c_127
    have c_168 : E131 (1 + d) 11 = .inl (kA 2, 5, .inl tr_1) := by rw [fE133 (1 + d) 11 (by omega)]; exact c_128
    have c_169 : E131 (1 + d) 12 = .inl (kA 2, 5, .inl op_1) := by rw [fE133 (1 + d) 12 (by omega)]; exact c_129
    have m_137 : (1 + d, 38 + 3 * k0_1) ∈ RL132 := hm1
    have hP : va_P D xcl (rp ad130 E131 RL132) H := hP
    have hD : va_D A (rp ad130 E131 RL132) := hD
    refine lv_dup hx hb xd_Ds_addPackage_43 rfl ?_
    have hFc := px_free hD hS hA
    refine va_callv (va_runIN (As := []) (rest := [.ref (ad130 (1 + d) (38 + 3 * k0_1)), .int (nI k0_1), .ref (ad130 (1 + d) 10)]) ⟨hx, hb, hml, hown, hT⟩ (xc_Gr_init l D kA H.size ad130 E131 RL132 (1 + d) (38 + 3 * k0_1) (39 + 3 * k0_1) (40 + 3 * k0_1) m_137 c_136 (by first | assumption | omega)) ⟨va_cnB 0 hT (wT_I yr1_18) rfl rfl rfl hK.2.1.2.2.1 (hT _ yr1_17) (by decide +kernel) ⟨Nat.le_of_ble_eq_true rfl, Nat.le_of_ble_eq_true rfl⟩, rfl, hT _ yr1_19⟩ (x_preS hK hP hD) rfl rfl hl.1 rfl (lv_room (Nat.le_of_ble_eq_true rfl)) xd_Ds_addPackage_44 ⟨(Nat.le_of_ble_eq_true rfl), (Nat.le_of_ble_eq_true rfl)⟩) hS (fun q _ h => hFc q h) hFc (fun u171 t H1 locs ht hvm hp172 hB hz1 hk1 hS => ?_)
    obtain ⟨hP1, hD1⟩ := hB
    rw [ht] at hP1
    have hD1 := hD1.weaken (fun _ _ _ h => hFc _ h)
    generalize H1 = H at hP1 hS ⊢
    have hP := hP1
    have hD := hD1
    obtain ⟨ad173, E174, RL175⟩ := u171
    obtain ⟨hp184, p_176, p_177, p_178, p_179, p_180, p_181, p_182, p_183⟩ := hp172
    have p_176 : E174 (1 + d) (38 + 3 * k0_1) = .inr (9, [.ref (ad173 (1 + d) (39 + 3 * k0_1)), .int 0]) := p_176
    have p_177 : E174 (1 + d) (39 + 3 * k0_1) = .inr (8, [.ref (ad173 (1 + d) (40 + 3 * k0_1)), .int 0]) := p_177
    have p_178 : E174 (1 + d) (40 + 3 * k0_1) = .inl (kA 0, 3, .inl (fun _ => 0)) := p_178
    have p_179 : (∀ b2 o2, ¬ (b2 = (1 + d) ∧ o2 = (38 + 3 * k0_1)) → ¬ (b2 = (1 + d) ∧ o2 = (39 + 3 * k0_1)) → ¬ (b2 = (1 + d) ∧ o2 = (40 + 3 * k0_1)) → E174 b2 o2 = E131 b2 o2) := p_179
    have p_180 : (∀ b2 o2, ¬ (b2 = (1 + d) ∧ o2 = (39 + 3 * k0_1)) → ¬ (b2 = (1 + d) ∧ o2 = (40 + 3 * k0_1)) → ad173 b2 o2 = ad130 b2 o2) := p_180
    have p_181 : (∀ x ∈ RL132, x ∈ RL175) := p_181
    have p_182 : ((1 + d), (39 + 3 * k0_1)) ∈ RL175 := p_182
    have p_183 : ((1 + d), (40 + 3 * k0_1)) ∈ RL175 := p_183
    refine W.eq (g2 := F0 m 47 ls [.ref (ad173 (1 + d) (38 + 3 * k0_1)), .int (nI k0_1), .ref (ad173 (1 + d) 10)]) (by rw [p_180 (1 + d) (38 + 3 * k0_1) (by omega) (by omega), p_180 (1 + d) 10 (by omega) (by omega)]) ?_
    have hl : lv_has ls 2 [(0, .ref (ad173 (1 + d) 0)), (1, .int nm)] := by
      rw [p_180 (1 + d) 0 (by omega) (by omega)]; exact hl
    have m_185 : (1 + d, 0) ∈ RL175 := p_181 _ m_138
    have m_186 : (1 + d, 1) ∈ RL175 := p_181 _ m_139
    have m_187 : (1 + d, 2) ∈ RL175 := p_181 _ m_140
    have m_188 : (1 + d, 3) ∈ RL175 := p_181 _ m_141
    have m_189 : (1 + d, 4) ∈ RL175 := p_181 _ m_142
    have m_190 : (1 + d, 5) ∈ RL175 := p_181 _ m_143
    have m_191 : (1 + d, 6) ∈ RL175 := p_181 _ m_144
    have m_192 : (1 + d, 7) ∈ RL175 := p_181 _ m_145
    have m_193 : (1 + d, 8) ∈ RL175 := p_181 _ m_146
    have m_194 : (1 + d, 9) ∈ RL175 := p_181 _ m_147
    have m_195 : (1 + d, 10) ∈ RL175 := p_181 _ m_148
    have m_196 : (1 + d, 11) ∈ RL175 := p_181 _ m_149
    have m_197 : (1 + d, 12) ∈ RL175 := p_181 _ m_150
    have m_198 : (1 + d, 20 + 3 * k0_1) ∈ RL175 := p_181 _ m_151
    have m_199 : (1 + d, 21 + 3 * k0_1) ∈ RL175 := p_181 _ m_152
    have m_200 : (1 + d, 22 + 3 * k0_1) ∈ RL175 := p_181 _ m_153
    have m_201 : (1 + d, 38 + 3 * k0_1) ∈ RL175 := p_181 _ m_137
    have c_202 : E174 (1 + d) 9 = .inl (kA 8, 6, .inr (.inr (.inr (.inr (va_up fe_1 k0_1 (some (ad72 (1 + d) (20 + 3 * k0_1)))))))) := by rw [p_179 (1 + d) 9 (by omega) (by omega) (by omega)]; exact c_154
    have c_203 : E174 (1 + d) (20 + 3 * k0_1) = .inr (9, [.ref (ad173 (1 + d) (21 + 3 * k0_1)), .int 0]) := by rw [p_179 (1 + d) (20 + 3 * k0_1) (by omega) (by omega) (by omega), p_180 (1 + d) (21 + 3 * k0_1) (by omega) (by omega)]; exact c_155
    have c_204 : E174 (1 + d) (21 + 3 * k0_1) = .inr (8, [.ref (ad173 (1 + d) (22 + 3 * k0_1)), .int 0]) := by rw [p_179 (1 + d) (21 + 3 * k0_1) (by omega) (by omega) (by omega), p_180 (1 + d) (22 + 3 * k0_1) (by omega) (by omega)]; exact c_156
    have c_205 : E174 (1 + d) (22 + 3 * k0_1) = .inl (kA 0, 3, .inl (fun _ => 0)) := by rw [p_179 (1 + d) (22 + 3 * k0_1) (by omega) (by omega) (by omega)]; exact c_157
    have c_206 : E174 (1 + d) 0 = .inr (7, [.int (nI d), .int fd_1, .int nm_1, .ref (ad173 (1 + d) 1), .ref (ad173 (1 + d) 9), .ref (ad173 (1 + d) 10), .ref (ad173 (1 + d) 2), .ref (ad173 (1 + d) 11), .ref (ad173 (1 + d) 12), .ref (ad173 (1 + d) 3), .ref (ad173 (1 + d) 4), .int sd_1]) := by rw [p_179 (1 + d) 0 (by omega) (by omega) (by omega), p_180 (1 + d) 1 (by omega) (by omega), p_180 (1 + d) 9 (by omega) (by omega), p_180 (1 + d) 10 (by omega) (by omega), p_180 (1 + d) 2 (by omega) (by omega), p_180 (1 + d) 11 (by omega) (by omega), p_180 (1 + d) 12 (by omega) (by omega), p_180 (1 + d) 3 (by omega) (by omega), p_180 (1 + d) 4 (by omega) (by omega)]; exact c_158
    have c_207 : E174 (1 + d) 1 = .inr (8, [.ref (ad173 (1 + d) 5), .int (nI k0_1)]) := by rw [p_179 (1 + d) 1 (by omega) (by omega) (by omega), p_180 (1 + d) 5 (by omega) (by omega)]; exact c_159
    have c_208 : E174 (1 + d) 2 = .inr (8, [.ref (ad173 (1 + d) 6), .int (nI k1_1)]) := by rw [p_179 (1 + d) 2 (by omega) (by omega) (by omega), p_180 (1 + d) 6 (by omega) (by omega)]; exact c_160
    have c_209 : E174 (1 + d) 3 = .inr (8, [.ref (ad173 (1 + d) 7), .int (nI k2_1)]) := by rw [p_179 (1 + d) 3 (by omega) (by omega) (by omega), p_180 (1 + d) 7 (by omega) (by omega)]; exact c_161
    have c_210 : E174 (1 + d) 4 = .inr (8, [.ref (ad173 (1 + d) 8), .int (nI k3_1)]) := by rw [p_179 (1 + d) 4 (by omega) (by omega) (by omega), p_180 (1 + d) 8 (by omega) (by omega)]; exact c_162
    have c_211 : E174 (1 + d) 5 = .inl (kA 0, 6, .inl f0_1) := by rw [p_179 (1 + d) 5 (by omega) (by omega) (by omega)]; exact c_163
    have c_212 : E174 (1 + d) 6 = .inl (kA 0, 5, .inl f1_1) := by rw [p_179 (1 + d) 6 (by omega) (by omega) (by omega)]; exact c_164
    have c_213 : E174 (1 + d) 7 = .inl (kA 0, 3, .inl f2_1) := by rw [p_179 (1 + d) 7 (by omega) (by omega) (by omega)]; exact c_165
    have c_214 : E174 (1 + d) 8 = .inl (kA 0, 3, .inl f3_1) := by rw [p_179 (1 + d) 8 (by omega) (by omega) (by omega)]; exact c_166
    have c_215 : E174 (1 + d) 10 = .inl (kA 8, 6, .inr (.inr (.inr (.inr fo_1)))) := by rw [p_179 (1 + d) 10 (by omega) (by omega) (by omega)]; exact c_167
    have c_216 : E174 (1 + d) 11 = .inl (kA 2, 5, .inl tr_1) := by rw [p_179 (1 + d) 11 (by omega) (by omega) (by omega)]; exact c_168
    have c_217 : E174 (1 + d) 12 = .inl (kA 2, 5, .inl op_1) := by rw [p_179 (1 + d) 12 (by omega) (by omega) (by omega)]; exact c_169
    have hP : va_P D xcl (rp ad173 E174 RL175) H := hP
    have hD : va_D A (rp ad173 E174 RL175) := hD
    refine px_aast (i := k0_1) (r := (xR_Gr, xT_Gr, 2)) hx hb hK.1 hP hD hS m_195 c_215 8 rfl m_201 p_176 rfl (by omega) (by decide) xd_Ds_addPackage_47 (fun H locs hP hD hS => ?_)
    have hP : va_P D xcl (rp ad173 (up2 E174 (1 + d) 10 (.inl (kA 8, 6, .inr (.inr (.inr (.inr (va_up fo_1 k0_1 (some (ad173 (1 + d) (38 + 3 * k0_1)))))))))) RL175) H := hP
    have hD : va_D A (rp ad173 (up2 E174 (1 + d) 10 (.inl (kA 8, 6, .inr (.inr (.inr (.inr (va_up fo_1 k0_1 (some (ad173 (1 + d) (38 + 3 * k0_1)))))))))) RL175) := hD
    generalize hE219 : up2 E174 (1 + d) 10 (.inl (kA 8, 6, .inr (.inr (.inr (.inr (va_up fo_1 k0_1 (some (ad173 (1 + d) (38 + 3 * k0_1))))))))) = E218 at hP hD
    have fE220 : ∀ b2 o2, ¬ (b2 = 1 + d ∧ o2 = 10) → E218 b2 o2 = E174 b2 o2 := fun b2 o2 h9 => by rw [← hE219]; exact up2_ne (by omega)
    have c_221 : E218 (1 + d) 10 = .inl (kA 8, 6, .inr (.inr (.inr (.inr (va_up fo_1 k0_1 (some (ad173 (1 + d) (38 + 3 * k0_1)))))))) := by rw [← hE219]; exact up2_eq
    have c_222 : E218 (1 + d) (38 + 3 * k0_1) = .inr (9, [.ref (ad173 (1 + d) (39 + 3 * k0_1)), .int 0]) := (fE220 (1 + d) (38 + 3 * k0_1) (by omega)).trans p_176
    have c_223 : E218 (1 + d) (39 + 3 * k0_1) = .inr (8, [.ref (ad173 (1 + d) (40 + 3 * k0_1)), .int 0]) := (fE220 (1 + d) (39 + 3 * k0_1) (by omega)).trans p_177
    have c_224 : E218 (1 + d) (40 + 3 * k0_1) = .inl (kA 0, 3, .inl (fun _ => 0)) := (fE220 (1 + d) (40 + 3 * k0_1) (by omega)).trans p_178
    have c_225 : E218 (1 + d) 9 = .inl (kA 8, 6, .inr (.inr (.inr (.inr (va_up fe_1 k0_1 (some (ad72 (1 + d) (20 + 3 * k0_1)))))))) := (fE220 (1 + d) 9 (by omega)).trans c_202
    have c_226 : E218 (1 + d) (20 + 3 * k0_1) = .inr (9, [.ref (ad173 (1 + d) (21 + 3 * k0_1)), .int 0]) := (fE220 (1 + d) (20 + 3 * k0_1) (by omega)).trans c_203
    have c_227 : E218 (1 + d) (21 + 3 * k0_1) = .inr (8, [.ref (ad173 (1 + d) (22 + 3 * k0_1)), .int 0]) := (fE220 (1 + d) (21 + 3 * k0_1) (by omega)).trans c_204
    have c_228 : E218 (1 + d) (22 + 3 * k0_1) = .inl (kA 0, 3, .inl (fun _ => 0)) := (fE220 (1 + d) (22 + 3 * k0_1) (by omega)).trans c_205
    have c_229 : E218 (1 + d) 0 = .inr (7, [.int (nI d), .int fd_1, .int nm_1, .ref (ad173 (1 + d) 1), .ref (ad173 (1 + d) 9), .ref (ad173 (1 + d) 10), .ref (ad173 (1 + d) 2), .ref (ad173 (1 + d) 11), .ref (ad173 (1 + d) 12), .ref (ad173 (1 + d) 3), .ref (ad173 (1 + d) 4), .int sd_1]) := (fE220 (1 + d) 0 (by omega)).trans c_206
    have c_230 : E218 (1 + d) 1 = .inr (8, [.ref (ad173 (1 + d) 5), .int (nI k0_1)]) := (fE220 (1 + d) 1 (by omega)).trans c_207
    have c_231 : E218 (1 + d) 2 = .inr (8, [.ref (ad173 (1 + d) 6), .int (nI k1_1)]) := (fE220 (1 + d) 2 (by omega)).trans c_208
    have c_232 : E218 (1 + d) 3 = .inr (8, [.ref (ad173 (1 + d) 7), .int (nI k2_1)]) := (fE220 (1 + d) 3 (by omega)).trans c_209
    have c_233 : E218 (1 + d) 4 = .inr (8, [.ref (ad173 (1 + d) 8), .int (nI k3_1)]) := (fE220 (1 + d) 4 (by omega)).trans c_210
    have c_234 : E218 (1 + d) 5 = .inl (kA 0, 6, .inl f0_1) := (fE220 (1 + d) 5 (by omega)).trans c_211
    have c_235 : E218 (1 + d) 6 = .inl (kA 0, 5, .inl f1_1) := (fE220 (1 + d) 6 (by omega)).trans c_212
    have c_236 : E218 (1 + d) 7 = .inl (kA 0, 3, .inl f2_1) := (fE220 (1 + d) 7 (by omega)).trans c_213
    have c_237 : E218 (1 + d) 8 = .inl (kA 0, 3, .inl f3_1) := (fE220 (1 + d) 8 (by omega)).trans c_214
    have c_238 : E218 (1 + d) 11 = .inl (kA 2, 5, .inl tr_1) := (fE220 (1 + d) 11 (by omega)).trans c_216
    have c_239 : E218 (1 + d) 12 = .inl (kA 2, 5, .inl op_1) := (fE220 (1 + d) 12 (by omega)).trans c_217
    refine lv_aload_n hx hb xd_Ds_addPackage_48 rfl (lv_at hl 0 rfl) ?_
    refine px_get (D := D) (ci := 7) (v := .ref (ad173 (1 + d) 1)) (C := xR_Ds) (T := xT_Ds) (N := 12) hx hb hT xi_Ds hown hK.1 hP m_185 c_229 rfl 3 (by decide) (hT _ yr1_13) (fun _ h9 => h9) rfl xd_Ds_addPackage_49 ?_
    refine lv_iload_n hx hb xd_Ds_addPackage_52 rfl (lv_at hl 1 rfl) ?_
    have hFc := px_free hD hS hA
    refine va_callv (va_runV (As := [.int nm]) (rest := []) ⟨hx, hb, hml, hown, hT⟩ (xc_Na_append l D kA H.size ad173 E218 RL175 (1 + d) 1 5 6 k0_1 f0_1 nm m_186 c_230 m_190 c_234 (by first | assumption | omega) (by first | assumption | omega) (by first | assumption | omega)) (cwV 1 hT (wT_V yr1_10 yr1_11 yr1_12 yr1_5 yr1_9) rfl rfl rfl (by decide +kernel) ⟨Nat.le_of_ble_eq_true rfl, Nat.le_of_ble_eq_true rfl⟩) (px_preV hK hP hD m_186 c_230 rfl) rfl rfl hl.1 rfl (lv_room (Nat.le_of_ble_eq_true rfl)) xd_Ds_addPackage_53 ⟨(Nat.le_of_ble_eq_true rfl), (Nat.le_of_ble_eq_true rfl)⟩) hS (fun q _ h => hFc q h) hFc (fun u241 t H1 locs ht hvm hp242 hB hz1 hk1 hS => ?_)
    obtain ⟨hP1, hD1⟩ := hB
    rw [ht] at hP1
    have hD1 := hD1.weaken (fun _ _ _ h => hFc _ h)
    generalize H1 = H at hP1 hS ⊢
    have hP := hP1
    have hD := hD1
    obtain ⟨E243, rfl⟩ : ∃ z, z = u241 := ⟨_, rfl⟩
    obtain ⟨w244, w245, hp249, p_246, p_247, p_248⟩ := hp242
    have p_246 : E243 (1 + d) 1 = .inr (8, [.ref (ad173 (1 + d) 5), .int (nI w244)]) := p_246
    have p_247 : E243 (1 + d) 5 = .inl (kA 0, 6, .inl w245) := p_247
    have p_248 : (∀ b2 o2, ¬ (b2 = (1 + d) ∧ o2 = 1) → ¬ (b2 = (1 + d) ∧ o2 = 5) → E243 b2 o2 = E218 b2 o2) := p_248
    have c_250 : E243 (1 + d) 10 = .inl (kA 8, 6, .inr (.inr (.inr (.inr (va_up fo_1 k0_1 (some (ad173 (1 + d) (38 + 3 * k0_1)))))))) := (p_248 (1 + d) 10 (by omega) (by omega)).trans c_221
    have c_251 : E243 (1 + d) (38 + 3 * k0_1) = .inr (9, [.ref (ad173 (1 + d) (39 + 3 * k0_1)), .int 0]) := (p_248 (1 + d) (38 + 3 * k0_1) (by omega) (by omega)).trans c_222
    have c_252 : E243 (1 + d) (39 + 3 * k0_1) = .inr (8, [.ref (ad173 (1 + d) (40 + 3 * k0_1)), .int 0]) := (p_248 (1 + d) (39 + 3 * k0_1) (by omega) (by omega)).trans c_223
    have c_253 : E243 (1 + d) (40 + 3 * k0_1) = .inl (kA 0, 3, .inl (fun _ => 0)) := (p_248 (1 + d) (40 + 3 * k0_1) (by omega) (by omega)).trans c_224
    have c_254 : E243 (1 + d) 9 = .inl (kA 8, 6, .inr (.inr (.inr (.inr (va_up fe_1 k0_1 (some (ad72 (1 + d) (20 + 3 * k0_1)))))))) := (p_248 (1 + d) 9 (by omega) (by omega)).trans c_225
    have c_255 : E243 (1 + d) (20 + 3 * k0_1) = .inr (9, [.ref (ad173 (1 + d) (21 + 3 * k0_1)), .int 0]) := (p_248 (1 + d) (20 + 3 * k0_1) (by omega) (by omega)).trans c_226
    have c_256 : E243 (1 + d) (21 + 3 * k0_1) = .inr (8, [.ref (ad173 (1 + d) (22 + 3 * k0_1)), .int 0]) := (p_248 (1 + d) (21 + 3 * k0_1) (by omega) (by omega)).trans c_227
    have c_257 : E243 (1 + d) (22 + 3 * k0_1) = .inl (kA 0, 3, .inl (fun _ => 0)) := (p_248 (1 + d) (22 + 3 * k0_1) (by omega) (by omega)).trans c_228
    have c_258 : E243 (1 + d) 0 = .inr (7, [.int (nI d), .int fd_1, .int nm_1, .ref (ad173 (1 + d) 1), .ref (ad173 (1 + d) 9), .ref (ad173 (1 + d) 10), .ref (ad173 (1 + d) 2), .ref (ad173 (1 + d) 11), .ref (ad173 (1 + d) 12), .ref (ad173 (1 + d) 3), .ref (ad173 (1 + d) 4), .int sd_1]) := (p_248 (1 + d) 0 (by omega) (by omega)).trans c_229
    have c_259 : E243 (1 + d) 2 = .inr (8, [.ref (ad173 (1 + d) 6), .int (nI k1_1)]) := (p_248 (1 + d) 2 (by omega) (by omega)).trans c_231
    have c_260 : E243 (1 + d) 3 = .inr (8, [.ref (ad173 (1 + d) 7), .int (nI k2_1)]) := (p_248 (1 + d) 3 (by omega) (by omega)).trans c_232
    have c_261 : E243 (1 + d) 4 = .inr (8, [.ref (ad173 (1 + d) 8), .int (nI k3_1)]) := (p_248 (1 + d) 4 (by omega) (by omega)).trans c_233
    have c_262 : E243 (1 + d) 6 = .inl (kA 0, 5, .inl f1_1) := (p_248 (1 + d) 6 (by omega) (by omega)).trans c_235
    have c_263 : E243 (1 + d) 7 = .inl (kA 0, 3, .inl f2_1) := (p_248 (1 + d) 7 (by omega) (by omega)).trans c_236
    have c_264 : E243 (1 + d) 8 = .inl (kA 0, 3, .inl f3_1) := (p_248 (1 + d) 8 (by omega) (by omega)).trans c_237
    have c_265 : E243 (1 + d) 11 = .inl (kA 2, 5, .inl tr_1) := (p_248 (1 + d) 11 (by omega) (by omega)).trans c_238
    have c_266 : E243 (1 + d) 12 = .inl (kA 2, 5, .inl op_1) := (p_248 (1 + d) 12 (by omega) (by omega)).trans c_239
    have hP : va_P D xcl (rp ad173 E243 RL175) H := hP
    have hD : va_D A (rp ad173 E243 RL175) := hD
    refine W.widen (k := 6) (n := 20) (Nat.le_of_ble_eq_true rfl) (Nat.le_of_ble_eq_true rfl) ?_
    exact W.vret hx hb hr (fun t ht hW => ⟨⟨(ad173, E243, RL175), rfl, ⟨⟨(show DI kA d (ad173 (1 + d)) (E243 (1 + d)) (fun o => (1 + d, o) ∈ RL175) from ⟨(fun o9 h9 => p_181 _ (hs135 _ (p_80 _ (hs40 _ (hm_1 o9 h9))))), fd_1, nm_1, sd_1, w244, k1_1, k2_1, k3_1, w245, f1_1, f2_1, f3_1, (va_up fe_1 k0_1 (some (ad72 (1 + d) (20 + 3 * k0_1)))), (va_up fo_1 k0_1 (some (ad173 (1 + d) (38 + 3 * k0_1)))), tr_1, op_1, (by omega), (by omega), (by omega), (by omega), c_258, p_246, c_259, c_260, c_261, p_247, c_262, c_263, c_264, c_254, c_250, c_265, c_266, (fun i9 hi9 => by
        by_cases h9 : i9 = k0_1
        · rw [h9]; exact ⟨vu_eq.trans (by rw [p_180 (1 + d) (20 + 3 * k0_1) (by omega) (by omega), fA134 (1 + d) (20 + 3 * k0_1) (by omega)]), vu_eq, ⟨m_198, m_199, m_200, 0, 0, (fun _ => 0), by omega, c_255, c_256, c_257⟩, ⟨m_201, p_182, p_183, 0, 0, (fun _ => 0), by omega, c_251, c_252, c_253⟩⟩
        · exact ⟨(by rw [vu_ne (by omega), p_180 (1 + d) (20 + 3 * i9) (by omega) (by omega), fA134 (1 + d) (20 + 3 * i9) (by omega), p_79 (1 + d) (20 + 3 * i9) (by omega) (by omega), fA39 (1 + d) (20 + 3 * i9) (by omega)]; exact (hg_1 i9 (by omega)).1), (by rw [vu_ne (by omega), p_180 (1 + d) (38 + 3 * i9) (by omega) (by omega), fA134 (1 + d) (38 + 3 * i9) (by omega), p_79 (1 + d) (38 + 3 * i9) (by omega) (by omega), fA39 (1 + d) (38 + 3 * i9) (by omega)]; exact (hg_1 i9 (by omega)).2.1), (GI_at (by show E243 (1 + d) (20 + 3 * i9) = _; rw [p_248 (1 + d) (20 + 3 * i9) (by omega) (by omega), fE220 (1 + d) (20 + 3 * i9) (by omega), p_179 (1 + d) (20 + 3 * i9) (by omega) (by omega) (by omega), fE133 (1 + d) (20 + 3 * i9) (by omega), fE113 (1 + d) (20 + 3 * i9) (by omega), p_78 (1 + d) (20 + 3 * i9) (by omega) (by omega) (by omega), fE38 (1 + d) (20 + 3 * i9) (by omega)]) (by show E243 (1 + d) (21 + 3 * i9) = _; rw [p_248 (1 + d) (21 + 3 * i9) (by omega) (by omega), fE220 (1 + d) (21 + 3 * i9) (by omega), p_179 (1 + d) (21 + 3 * i9) (by omega) (by omega) (by omega), fE133 (1 + d) (21 + 3 * i9) (by omega), fE113 (1 + d) (21 + 3 * i9) (by omega), p_78 (1 + d) (21 + 3 * i9) (by omega) (by omega) (by omega), fE38 (1 + d) (21 + 3 * i9) (by omega)]) (by show E243 (1 + d) (22 + 3 * i9) = _; rw [p_248 (1 + d) (22 + 3 * i9) (by omega) (by omega), fE220 (1 + d) (22 + 3 * i9) (by omega), p_179 (1 + d) (22 + 3 * i9) (by omega) (by omega) (by omega), fE133 (1 + d) (22 + 3 * i9) (by omega), fE113 (1 + d) (22 + 3 * i9) (by omega), p_78 (1 + d) (22 + 3 * i9) (by omega) (by omega) (by omega), fE38 (1 + d) (22 + 3 * i9) (by omega)]) (by show ad173 (1 + d) (21 + 3 * i9) = _; rw [p_180 (1 + d) (21 + 3 * i9) (by omega) (by omega), fA134 (1 + d) (21 + 3 * i9) (by omega), p_79 (1 + d) (21 + 3 * i9) (by omega) (by omega), fA39 (1 + d) (21 + 3 * i9) (by omega)]) (by show ad173 (1 + d) (22 + 3 * i9) = _; rw [p_180 (1 + d) (22 + 3 * i9) (by omega) (by omega), fA134 (1 + d) (22 + 3 * i9) (by omega), p_79 (1 + d) (22 + 3 * i9) (by omega) (by omega), fA39 (1 + d) (22 + 3 * i9) (by omega)]) (fun _ h9 => p_181 _ (hs135 _ (p_80 _ (hs40 _ h9)))) (hg_1 i9 (by omega)).2.2.1), (GI_at (by show E243 (1 + d) (38 + 3 * i9) = _; rw [p_248 (1 + d) (38 + 3 * i9) (by omega) (by omega), fE220 (1 + d) (38 + 3 * i9) (by omega), p_179 (1 + d) (38 + 3 * i9) (by omega) (by omega) (by omega), fE133 (1 + d) (38 + 3 * i9) (by omega), fE113 (1 + d) (38 + 3 * i9) (by omega), p_78 (1 + d) (38 + 3 * i9) (by omega) (by omega) (by omega), fE38 (1 + d) (38 + 3 * i9) (by omega)]) (by show E243 (1 + d) (39 + 3 * i9) = _; rw [p_248 (1 + d) (39 + 3 * i9) (by omega) (by omega), fE220 (1 + d) (39 + 3 * i9) (by omega), p_179 (1 + d) (39 + 3 * i9) (by omega) (by omega) (by omega), fE133 (1 + d) (39 + 3 * i9) (by omega), fE113 (1 + d) (39 + 3 * i9) (by omega), p_78 (1 + d) (39 + 3 * i9) (by omega) (by omega) (by omega), fE38 (1 + d) (39 + 3 * i9) (by omega)]) (by show E243 (1 + d) (40 + 3 * i9) = _; rw [p_248 (1 + d) (40 + 3 * i9) (by omega) (by omega), fE220 (1 + d) (40 + 3 * i9) (by omega), p_179 (1 + d) (40 + 3 * i9) (by omega) (by omega) (by omega), fE133 (1 + d) (40 + 3 * i9) (by omega), fE113 (1 + d) (40 + 3 * i9) (by omega), p_78 (1 + d) (40 + 3 * i9) (by omega) (by omega) (by omega), fE38 (1 + d) (40 + 3 * i9) (by omega)]) (by show ad173 (1 + d) (39 + 3 * i9) = _; rw [p_180 (1 + d) (39 + 3 * i9) (by omega) (by omega), fA134 (1 + d) (39 + 3 * i9) (by omega), p_79 (1 + d) (39 + 3 * i9) (by omega) (by omega), fA39 (1 + d) (39 + 3 * i9) (by omega)]) (by show ad173 (1 + d) (40 + 3 * i9) = _; rw [p_180 (1 + d) (40 + 3 * i9) (by omega) (by omega), fA134 (1 + d) (40 + 3 * i9) (by omega), p_79 (1 + d) (40 + 3 * i9) (by omega) (by omega), fA39 (1 + d) (40 + 3 * i9) (by omega)]) (fun _ h9 => p_181 _ (hs135 _ (p_80 _ (hs40 _ h9)))) (hg_1 i9 (by omega)).2.2.2)⟩)⟩), fun o9 ho9 => by show ad173 (1 + d) o9 = _; rw [p_180 (1 + d) o9 (by omega) (by omega), fA134 (1 + d) o9 (by omega), p_79 (1 + d) o9 (by omega) (by omega), fA39 (1 + d) o9 (by omega)]⟩, (fun b2 o2 h09 => by show E243 b2 o2 = _; rw [p_248 b2 o2 (by omega) (by omega), fE220 b2 o2 (by omega), p_179 b2 o2 (by omega) (by omega) (by omega), fE133 b2 o2 (by omega), fE113 b2 o2 (by omega), p_78 b2 o2 (by omega) (by omega) (by omega), fE38 b2 o2 (by omega)]), (fun b2 o2 h09 => by show ad173 b2 o2 = _; rw [p_180 b2 o2 (by omega) (by omega), fA134 b2 o2 (by omega), p_79 b2 o2 (by omega) (by omega), fA39 b2 o2 (by omega)]), (fun x9 hx9 => p_181 _ (hs135 _ (p_80 _ (hs40 _ hx9))))⟩, by rw [ht]; exact hP, hD⟩, hS.F ht⟩) hS.2.2 xd_Ds_addPackage_56
