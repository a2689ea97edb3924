theorem k7x_0 : (Cond.code xy_De_openLayer xb_De_openLayer 3 (some (.object "LayerDesk$Layer"))) ∈ wT := wT_t (List.mem_append_left _ (List.mem_of_getElem? (i := 137) rfl)) rfl
theorem k7x_1 : (Cond.methodLink "LayerDesk" 68 xy_De_openLayer) ∈ wT := wT_t (List.mem_append_left _ (List.mem_of_getElem? (i := 134) rfl)) rfl
theorem k7x_2 : (Cond.instanceMethod xy_De_openLayer) ∈ wT := wT_t (List.mem_append_left _ (List.mem_of_getElem? (i := 136) rfl)) rfl
theorem k7x_3 : (Cond.selects "LayerDesk" xy_De_openLayer xy_De_openLayer) ∈ wT := wT_s (q := (xy_De_openLayer, 6)) (by decide +kernel) rfl
theorem k7x_4 : (Cond.initialized "LayerDesk") ∈ wT := wT_t (List.mem_append_left _ (List.mem_of_getElem? (i := 1) rfl)) rfl
theorem k7x_5 : (Cond.fieldLink "LayerDesk" 128 "LayerDesk$Layer" "members" "[LLayerDesk$Member;") ∈ wT := wT_t (List.mem_append_right _ (List.mem_append_right _ (List.mem_append_left _ (List.mem_of_getElem? (i := 150) rfl)))) rfl
theorem k7x_6 : (Cond.fieldLink "LayerDesk$Layer" 19 "LayerDesk$Layer" "members" "[LLayerDesk$Member;") ∈ wT := wT_t (List.mem_append_right _ (List.mem_append_right _ (List.mem_append_left _ (List.mem_of_getElem? (i := 147) rfl)))) rfl
theorem k7x_7 : (Cond.fieldLink "LayerDesk$Layer" 27 "LayerDesk$Member" "descriptor" "LLayerDesk$Descriptor;") ∈ wT := wT_t (List.mem_append_right _ (List.mem_append_right _ (List.mem_append_left _ (List.mem_of_getElem? (i := 183) rfl)))) rfl
theorem k7x_8 : (Cond.fieldLink "LayerDesk$Layer" 36 "LayerDesk$Descriptor" "number" "I") ∈ wT := wT_t (List.mem_append_right _ (List.mem_append_left _ (List.mem_of_getElem? (i := 48) rfl))) rfl
theorem k7x_9 : (Cond.code xy_Ly_withDescriptor xb_Ly_withDescriptor 3 (some (.object "LayerDesk$Member"))) ∈ wT := wT_t (List.mem_append_left _ (List.mem_of_getElem? (i := 173) rfl)) rfl
theorem k7x_10 : (Cond.methodLink "LayerDesk" 195 xy_Ly_withDescriptor) ∈ wT := wT_t (List.mem_append_left _ (List.mem_of_getElem? (i := 170) rfl)) rfl
theorem k7x_11 : (Cond.instanceMethod xy_Ly_withDescriptor) ∈ wT := wT_t (List.mem_append_left _ (List.mem_of_getElem? (i := 171) rfl)) rfl
theorem k7x_12 : (Cond.selects "LayerDesk$Layer" xy_Ly_withDescriptor xy_Ly_withDescriptor) ∈ wT := wT_t (List.mem_append_left _ (List.mem_of_getElem? (i := 172) rfl)) rfl
theorem k7x_13 : (Cond.initialized "LayerDesk$Layer") ∈ wT := wT_t (List.mem_append_left _ (List.mem_of_getElem? (i := 19) rfl)) rfl
theorem k7x_14 : (Cond.code xy_De_memberAt xb_De_memberAt 4 (some (.object "LayerDesk$Member"))) ∈ wT := wT_t (List.mem_append_left _ (List.mem_of_getElem? (i := 161) rfl)) rfl
theorem k7x_15 : (Cond.methodLink "LayerDesk" 132 xy_De_memberAt) ∈ wT := wT_t (List.mem_append_left _ (List.mem_of_getElem? (i := 158) rfl)) rfl
theorem k7x_16 : (Cond.instanceMethod xy_De_memberAt) ∈ wT := wT_t (List.mem_append_left _ (List.mem_of_getElem? (i := 160) rfl)) rfl
theorem k7x_17 : (Cond.selects "LayerDesk" xy_De_memberAt xy_De_memberAt) ∈ wT := wT_s (q := (xy_De_memberAt, 6)) (by decide +kernel) rfl
theorem k7x_18 : (Cond.code xy_De_memberOf xb_De_memberOf 4 (some (.object "LayerDesk$Member"))) ∈ wT := wT_t (List.mem_append_left _ (List.mem_of_getElem? (i := 169) rfl)) rfl
theorem k7x_19 : (Cond.methodLink "LayerDesk" 145 xy_De_memberOf) ∈ wT := wT_t (List.mem_append_left _ (List.mem_of_getElem? (i := 166) rfl)) rfl
theorem k7x_20 : (Cond.instanceMethod xy_De_memberOf) ∈ wT := wT_t (List.mem_append_left _ (List.mem_of_getElem? (i := 168) rfl)) rfl
theorem k7x_21 : (Cond.selects "LayerDesk" xy_De_memberOf xy_De_memberOf) ∈ wT := wT_s (q := (xy_De_memberOf, 6)) (by decide +kernel) rfl
theorem k7x_22 : (Cond.fieldLink "LayerDesk" 148 "LayerDesk$Member" "reading" "LLayerDesk$Reach;") ∈ wT := wT_t (List.mem_append_right _ (List.mem_append_right _ (List.mem_append_left _ (List.mem_of_getElem? (i := 192) rfl)))) rfl
theorem k7x_23 : (Cond.code xy_Re_marks xb_Re_marks 2 (some .boolean)) ∈ wT := wT_t (List.mem_append_left _ (List.mem_of_getElem? (i := 177) rfl)) rfl
theorem k7x_24 : (Cond.methodLink "LayerDesk" 152 xy_Re_marks) ∈ wT := wT_t (List.mem_append_left _ (List.mem_of_getElem? (i := 174) rfl)) rfl
theorem k7x_25 : (Cond.instanceMethod xy_Re_marks) ∈ wT := wT_t (List.mem_append_left _ (List.mem_of_getElem? (i := 175) rfl)) rfl
theorem k7x_26 : (Cond.selects "LayerDesk$Reach" xy_Re_marks xy_Re_marks) ∈ wT := wT_t (List.mem_append_left _ (List.mem_of_getElem? (i := 176) rfl)) rfl
theorem k7x_27 : (Cond.initialized "LayerDesk$Reach") ∈ wT := wT_t (List.mem_append_left _ (List.mem_of_getElem? (i := 21) rfl)) rfl
set_option maxHeartbeats 4000000 in
set_option maxRecDepth 100000 in
theorem xc_De_memberAtA (l : Launch) (D : va_G) (kA : Nat → ClassId) (sz : Nat) (ad : Nat → Nat → Nat) (E : Nat → Nat → va_E) (RL : List (Nat × Nat)) (g : Nat → Nat → Int32) (ml : Nat) (nd : Nat) (len : Nat) (wn : Nat) (cs : Nat) (ix : Int32) (kx : Int32) (hCI : CI kA ad E RL ml nd len wn cs) (hTL : TLas g ad E nd ml) : Met l xy_De_memberAt (.code xy_De_memberAt xb_De_memberAt 4 (some (.object "LayerDesk$Member")) :: wT) { frames := 1, cells := 0, slots := 0, locals := 22 } (va_Pc [.ref (ad 0 0), .int ix, .int kx] (xPre D kA sz (rp ad E RL))) (va_Qq (fun (r : Option Nat) (u : Unit) => (r = none ∧ ¬ ∃ la kn, moQ g ml ix kx la kn) ∨ ∃ x k, moQ g ml ix kx x k ∧ r = some (ad (20 + x) (10 + 10 * k)) ∧ MEI kA ad E RL nd x k) (fun (u : Unit) t => va_P D xcl (rp ad E RL) t.heap ∧ va_D (va_A (rp ad E RL) sz) (rp ad E RL)) (va_A (rp ad E RL) sz)) 0 0 (va_A (rp ad E RL) sz) := by
  refine Met.ofW (cc := xb_De_memberAt) (maxL := 4) (ret := (some (.object "LayerDesk$Member"))) (by decide) rfl ?_
  intro p e s m args below meth c s₁ B hml hv
  obtain ⟨rfl, hsz, hP, hK, hD0⟩ := hv
  have hx := B.exec
  have hb := B.bytes
  have hr := B.returns
  have hT := x_hT B.pre
  have hown : s.vm.findClass xR_De = some m.cls := findClass_of_methodNamed B.named
  have hlocks := B.notSynchronized
  subst hsz
  have hD := hD0.self (sz := s.heap.size)
  generalize hAe : va_A (rp ad E RL) s.heap.size = A at hD ⊢
  have hA : ∀ q : Nat, s.heap.size ≤ q → A q := fun q h => by rw [← hAe]; exact Or.inr h
  have hS : va_S A s.heap s.heap [] := va_S.rf
  have hl := lv_entry ([.ref (ad 0 0), .int ix, .int kx]) (n := 4) (Nat.le_of_ble_eq_true rfl)
  rw [lg_entry_eq]
  generalize (lg_sl ([.ref (ad 0 0), .int ix, .int kx]) ++ List.replicate (4 - (lg_sl ([.ref (ad 0 0), .int ix, .int kx])).length) Slot.unset).toArray = ls at hl ⊢
  have hl : lv_has ls 4 [(0, .ref (ad 0 0)), (1, .int ix), (2, .int kx)] := hl
  have hP : va_P D xcl (rp ad E RL) s.heap := hP
  obtain ⟨hmB, hDk, hLi, hSh, hCh, hLa, hDIs, hLIs⟩ := id hCI
  obtain ⟨fl_1, hml_1, q9_1, hla_1⟩ := id (hLa)
  have c_2 : E 0 9 = .inl (kA 5, 5, .inr (.inr (.inr (.inr fl_1)))) := q9_1
  have m_3 : (0, 9) ∈ RL := hmB 9 (by decide)
  obtain ⟨_, hnd12, hml5, _, _⟩ := CI_b hCI
  have hLKP : LKP g ml := LKP_C hCI hTL
  have hmcb : ∀ la, la < ml → mcv g la ≤ 12 := fun la hl9 => (hLKP.2 la hl9).1
  refine lv_aload_n hx hb xd_De_memberAt_0 rfl (lv_at hl 0 rfl) ?_
  refine lv_iload_n hx hb xd_De_memberAt_1 rfl (lv_at hl 1 rfl) ?_
  have hFc := px_free hD hS hA
  obtain ⟨lf_4, q_4⟩ := id (hDk)
  have c_5 : E 0 0 = .inr (0, [.ref (ad 0 1), .ref (ad 0 5), .ref (ad 0 7), .ref (ad 0 9), .int (nI ml), .int lf_4]) := q_4
  have m_6 : (0, 0) ∈ RL := hmB 0 (by decide)
  refine va_callq (va_runV (As := [.int ix]) (rest := []) ⟨hx, hb, hml, hown, hT⟩ (xc_De_openLayerX l D kA s.heap.size ad E RL g ml nd len wn cs ix (by first | assumption | omega) (by first | assumption | omega)) (cwV 1 hT (wT_V k7x_1 k7x_2 k7x_3 k7x_4 k7x_0) rfl rfl rfl (by decide +kernel) ⟨Nat.le_of_ble_eq_true rfl, Nat.le_of_ble_eq_true rfl⟩) (px_preV hK hP hD m_6 c_5 rfl) rfl rfl hl.1 rfl (lv_room (Nat.le_of_ble_eq_true rfl)) xd_De_memberAt_2 ⟨(Nat.le_of_ble_eq_true rfl), (Nat.le_of_ble_eq_true rfl)⟩) hS (fun q _ h => hFc q h) hFc (fun r7 u8 t H1 locs ht hvm hp9 hB hz1 hk1 hS => ?_)
  obtain ⟨hP1, hD1⟩ := hB
  rw [ht] at hP1
  have hD1 := hD1.weaken (fun _ _ _ h => hFc _ h)
  generalize H1 = H at hP1 hS ⊢
  have hP := hP1
  have hD := hD1
  have hP : va_P D xcl (rp ad E RL) H := hP
  have hD : va_D A (rp ad E RL) := hD
  rcases hp9 with ⟨rfl, z10⟩ | ⟨z11, z12, z13, z14, rfl⟩
  · refine W.eq (g2 := F0 m 5 ls [.null]) rfl ?_
    refine lv_astore_nN hx hb xd_De_memberAt_5 rfl hl (Nat.le_of_ble_eq_true rfl) rfl (fun ls hl => ?_)
    have hl : lv_has ls 4 [(3, .null), (0, .ref (ad 0 0)), (1, .int ix), (2, .int kx)] := hl
    refine lv_aload_nN hx hb xd_De_memberAt_6 rfl (lv_at hl 0 rfl) ?_
    refine lv_ifnullN (tgt := 23) hx hb xd_De_memberAt_7 (by decide) ?_
    refine lv_null hx hb xd_De_memberAt_23 ?_
    refine lv_goto (tgt := 33) hx hb xd_De_memberAt_24 (by decide) ?_
    exact W.aret (v := .null) hx hb hr (Or.inl ⟨_, rfl⟩) (Or.inl rfl) (fun t ht hW => ⟨⟨none, (), rfl, Or.inl ⟨rfl, fun ⟨la9, kn9, q⟩ => z10 ⟨la9, q.1, q.2.1, q.2.2.1⟩⟩, by rw [ht]; exact hP, hD⟩, hS.F ht⟩) hS.2.2 xd_De_memberAt_33
  · refine W.eq (g2 := F0 m 5 ls [.ref (ad (20 + z11) 0)]) rfl ?_
    refine lv_astore_n hx hb xd_De_memberAt_5 rfl hl (Nat.le_of_ble_eq_true rfl) rfl (fun ls hl => ?_)
    have hl : lv_has ls 4 [(3, .ref (ad (20 + z11) 0)), (0, .ref (ad 0 0)), (1, .int ix), (2, .int kx)] := hl
    refine lv_aload_n hx hb xd_De_memberAt_6 rfl (lv_at hl 0 rfl) ?_
    refine lv_ifnull hx hb xd_De_memberAt_7 ?_
    refine lv_iload_n hx hb xd_De_memberAt_10 rfl (lv_at hl 3 rfl) ?_
    refine lv_if_lt (tgt := 23) hx hb xd_De_memberAt_11 (by decide) (fun hc15 => ?_) (fun hc15 => ?_)
    · refine lv_null hx hb xd_De_memberAt_23 ?_
      refine lv_goto (tgt := 33) hx hb xd_De_memberAt_24 (by decide) ?_
      exact W.aret (v := .null) hx hb hr (Or.inl ⟨_, rfl⟩) (Or.inl rfl) (fun t ht hW => ⟨⟨none, (), rfl, Or.inl ⟨rfl, fun ⟨la9, kn9, q⟩ => absurd (show nI kn9 < 0 by rw [← q.2.2.2.1]; exact hc15) (nI_pos (by rw [xb_31]; have z1 := q.2.2.2.2; have z2 := hmcb la9 q.1; omega))⟩, by rw [ht]; exact hP, hD⟩, hS.F ht⟩) hS.2.2 xd_De_memberAt_33
    · obtain ⟨kn, hkn31, hkn⟩ := nI_of hc15
      rw [xb_31] at hkn31
      rw [hkn] at hl
      refine lv_iload_n hx hb xd_De_memberAt_14 rfl (lv_at hl 3 rfl) ?_
      refine lv_aload_n hx hb xd_De_memberAt_15 rfl (lv_at hl 0 rfl) ?_
      obtain ⟨m0_16, m1_16, pv_16, op_16, mk_16, fm_16, hmk_16, hpv_16, q0_16, q1_16, hk_16⟩ := id (hLIs z11 (by omega))
      have c_17 : E (20 + z11) 0 = .inr (5, [.int (nI z11), pv_16, .ref (ad (20 + z11) 1), .int op_16]) := q0_16
      have m_18 : (20 + z11, 0) ∈ RL := m0_16
      have c_19 : E (20 + z11) 1 = .inl (kA 6, mk_16, .inr (.inr (.inr (.inr fm_16)))) := q1_16
      have m_20 : (20 + z11, 1) ∈ RL := m1_16
      obtain ⟨top_16, ⟨lq_16, hlq_16, h19_16, hpv2_16⟩, h20_16, tmd_16⟩ := TLa_get c_17 c_19 (hTL z11 (by omega))
      have c_21 : E (20 + z11) 0 = .inr (5, [.int (nI z11), (lyv ad lq_16), .ref (ad (20 + z11) 1), .int op_16]) := by rw [← hpv2_16]; exact c_17
      have i20_16 : iN (g 20 z11) = mk_16 := by rw [h20_16, iN_nI (by omega)]
      refine px_get (D := D) (ci := 5) (v := .ref (ad (20 + z11) 1)) (C := xR_Ly) (T := xT_Ly) (N := 4) hx hb hT xi_Ly hown hK.1 hP m_18 c_21 rfl 2 (by decide) (hT _ k7x_5) (fun _ h9 => h9) rfl xd_De_memberAt_16 ?_
      refine px_alen hx hb hK.1 hP m_20 c_19 6 rfl xd_De_memberAt_19 ?_
      refine W.eq (g2 := F0 m 20 ls [.int (nI mk_16), .int (nI kn)]) rfl ?_
      refine xn_lt (a := kn) (b := mk_16) (tgt := 27) hx hb xd_De_memberAt_20 (by decide) (by omega) (by omega) (fun hc22 => ?_) (fun hc22 => ?_)
      · refine lv_aload_n hx hb xd_De_memberAt_27 rfl (lv_at hl 0 rfl) ?_
        refine px_get (D := D) (ci := 5) (v := .ref (ad (20 + z11) 1)) (C := xR_Ly) (T := xT_Ly) (N := 4) hx hb hT xi_Ly hown hK.1 hP m_18 c_21 rfl 2 (by decide) (hT _ k7x_5) (fun _ h9 => h9) rfl xd_De_memberAt_28 ?_
        refine lv_iload_n hx hb xd_De_memberAt_31 rfl (lv_at hl 3 rfl) ?_
        refine px_aald (i := kn) (x := (some (ad (20 + z11) (10 + 10 * kn)))) hx hb hK.1 hP m_20 c_19 6 rfl ((hk_16 kn (by omega)).1) (by omega) (by omega) xd_De_memberAt_32 ?_
        exact W.aret (v := .ref (ad (20 + z11) (10 + 10 * kn))) hx hb hr (Or.inl ⟨_, rfl⟩) (Or.inr ⟨_, rfl⟩) (fun t ht hW => ⟨⟨(some (ad (20 + z11) (10 + 10 * kn))), (), rfl, Or.inr ⟨z11, kn, ⟨z12, z13, z14, hkn, by unfold mcv; rw [i20_16]; omega⟩, rfl, (hk_16 kn (by omega)).2⟩, by rw [ht]; exact hP, hD⟩, hS.F ht⟩) hS.2.2 xd_De_memberAt_33
      · refine lv_null hx hb xd_De_memberAt_23 ?_
        refine lv_goto (tgt := 33) hx hb xd_De_memberAt_24 (by decide) ?_
        exact W.aret (v := .null) hx hb hr (Or.inl ⟨_, rfl⟩) (Or.inl rfl) (fun t ht hW => ⟨⟨none, (), rfl, Or.inl ⟨rfl, fun ⟨la9, kn9, q⟩ => by
        obtain ⟨q1, q2, q3, q4, q5⟩ := q
        have e1 := nI_inj9 (by omega) (by omega) (z13.symm.trans q2)
        have q6 := hmcb la9 q1
        have e2 := nI_inj9 (by omega) (by omega) (hkn.symm.trans q4)
        rw [← e1] at q5
        unfold mcv at q5
        rw [i20_16] at q5
        omega⟩, by rw [ht]; exact hP, hD⟩, hS.F ht⟩) hS.2.2 xd_De_memberAt_33
set_option maxHeartbeats 4000000 in
set_option maxRecDepth 100000 in
theorem xc_Ly_withDescriptorA (l : Launch) (D : va_G) (kA : Nat → ClassId) (sz : Nat) (ad : Nat → Nat → Nat) (E : Nat → Nat → va_E) (RL : List (Nat × Nat)) (g : Nat → Nat → Int32) (nd : Nat) (nL : Nat) (n : Nat) (dx : Int32) (hDIs : DIs kA ad E RL nd) (hLIs : LIs kA ad E RL nd nL) (hnL : nL ≤ 6) (hn : n < nL) (hTD : TDs g E nd) (hTL : TLas g ad E nd nL) (hnd12 : nd ≤ 12) : Met l xy_Ly_withDescriptor (.code xy_Ly_withDescriptor xb_Ly_withDescriptor 3 (some (.object "LayerDesk$Member")) :: wT) { frames := 0, cells := 0, slots := 0, locals := 0 } (va_Pc [.ref (ad (20 + n) 0), .int dx] (xPre D kA sz (rp ad E RL))) (va_Qq (fun (r : Option Nat) (u : Unit) => (r = none ∧ ∀ j, j < mcv g n → ¬ dx = nI (mdv g n j)) ∨ ∃ k, k < mcv g n ∧ dx = nI (mdv g n k) ∧ r = some (ad (20 + n) (10 + 10 * k)) ∧ MEI kA ad E RL nd n k) (fun (u : Unit) t => va_P D xcl (rp ad E RL) t.heap ∧ va_D (va_A (rp ad E RL) sz) (rp ad E RL)) (va_A (rp ad E RL) sz)) 0 0 (va_A (rp ad E RL) sz) := by
  refine Met.ofW (cc := xb_Ly_withDescriptor) (maxL := 3) (ret := (some (.object "LayerDesk$Member"))) (by decide) rfl ?_
  intro p e s m args below meth c s₁ B hml hv
  obtain ⟨rfl, hsz, hP, hK, hD0⟩ := hv
  have hx := B.exec
  have hb := B.bytes
  have hr := B.returns
  have hT := x_hT B.pre
  have hown : s.vm.findClass xR_Ly = some m.cls := findClass_of_methodNamed B.named
  have hlocks := B.notSynchronized
  subst hsz
  have hD := hD0.self (sz := s.heap.size)
  generalize hAe : va_A (rp ad E RL) s.heap.size = A at hD ⊢
  have hA : ∀ q : Nat, s.heap.size ≤ q → A q := fun q h => by rw [← hAe]; exact Or.inr h
  have hS : va_S A s.heap s.heap [] := va_S.rf
  have hl := lv_entry ([.ref (ad (20 + n) 0), .int dx]) (n := 3) (Nat.le_of_ble_eq_true rfl)
  rw [lg_entry_eq]
  generalize (lg_sl ([.ref (ad (20 + n) 0), .int dx]) ++ List.replicate (3 - (lg_sl ([.ref (ad (20 + n) 0), .int dx])).length) Slot.unset).toArray = ls at hl ⊢
  have hl : lv_has ls 3 [(0, .ref (ad (20 + n) 0)), (1, .int dx)] := hl
  have hP : va_P D xcl (rp ad E RL) s.heap := hP
  refine lv_iconst (v := 0) hx hb xd_Ly_withDescriptor_0 (by decide) ?_
  refine lv_istore_n hx hb xd_Ly_withDescriptor_1 rfl hl (Nat.le_of_ble_eq_true rfl) rfl (fun ls hl => ?_)
  have hl : lv_has ls 3 [(2, .int 0), (0, .ref (ad (20 + n) 0)), (1, .int dx)] := hl
  obtain ⟨m0_1, m1_1, pv_1, op_1, mk_1, fm_1, hmk_1, hpv_1, q0_1, q1_1, hk_1⟩ := id (hLIs n (by omega))
  have c_2 : E (20 + n) 0 = .inr (5, [.int (nI n), pv_1, .ref (ad (20 + n) 1), .int op_1]) := q0_1
  have m_3 : (20 + n, 0) ∈ RL := m0_1
  have c_4 : E (20 + n) 1 = .inl (kA 6, mk_1, .inr (.inr (.inr (.inr fm_1)))) := q1_1
  have m_5 : (20 + n, 1) ∈ RL := m1_1
  obtain ⟨top_1, ⟨lq_1, hlq_1, h19_1, hpv2_1⟩, h20_1, tmd_1⟩ := TLa_get c_2 c_4 (hTL n (by omega))
  have c_6 : E (20 + n) 0 = .inr (5, [.int (nI n), (lyv ad lq_1), .ref (ad (20 + n) 1), .int op_1]) := by rw [← hpv2_1]; exact c_2
  have i20_1 : iN (g 20 n) = mk_1 := by rw [h20_1, iN_nI (by omega)]
  refine xlab (σ := Nat) (ml := 3) 2 (fun (k : Nat) => [(2, .int (nI k)), (0, .ref (ad (20 + n) 0)), (1, .int dx)]) (fun (k : Nat) => []) (fun (k : Nat) => rp ad E RL) (fun (k : Nat) => (k ≤ mk_1) ∧ (∀ j, j < k → ¬ dx = nI (mdv g n j))) (fun (k : Nat) => mk_1 - k) ?_ 0 _ _ _ (lv_sub hl [0, 1, 2] rfl) hP hD hS ⟨(show 0 ≤ mk_1 from by first | assumption | omega), (show ∀ j, j < 0 → ¬ dx = nI (mdv g n j) from fun j hj => absurd hj (by omega))⟩
  intro n9 ih7 a9 ls H locs hμ hl hP hD hS hI
  subst hμ
  obtain ⟨k, rfl⟩ : ∃ z, z = a9 := ⟨_, rfl⟩
  obtain ⟨hk9, hno⟩ := hI
  have hk9 : k ≤ mk_1 := hk9
  have hno : ∀ j, j < k → ¬ dx = nI (mdv g n j) := hno
  have hl : lv_has ls 3 [(2, .int (nI k)), (0, .ref (ad (20 + n) 0)), (1, .int dx)] := hl
  have hP : va_P D xcl (rp ad E RL) H := hP
  have hD : va_D A (rp ad E RL) := hD
  refine lv_iload_n hx hb xd_Ly_withDescriptor_2 rfl (lv_at hl 0 rfl) ?_
  refine lv_aload_n hx hb xd_Ly_withDescriptor_3 rfl (lv_at hl 1 rfl) ?_
  refine px_get (D := D) (ci := 5) (v := .ref (ad (20 + n) 1)) (C := xR_Ly) (T := xT_Ly) (N := 4) hx hb hT xi_Ly hown hK.1 hP m_3 c_6 rfl 2 (by decide) (hT _ k7x_6) (fun _ h9 => h9) rfl xd_Ly_withDescriptor_4 ?_
  refine px_alen hx hb hK.1 hP m_5 c_4 6 rfl xd_Ly_withDescriptor_7 ?_
  refine W.eq (g2 := F0 m 8 ls [.int (nI mk_1), .int (nI k)]) rfl ?_
  refine xn_ge (a := k) (b := mk_1) (tgt := 40) hx hb xd_Ly_withDescriptor_8 (by decide) (by omega) (by omega) (fun hc8 => ?_) (fun hc8 => ?_)
  · refine lv_null hx hb xd_Ly_withDescriptor_40 ?_
    exact W.aret (v := .null) hx hb hr (Or.inl ⟨_, rfl⟩) (Or.inl rfl) (fun t ht hW => ⟨⟨none, (), rfl, Or.inl ⟨rfl, fun j hj => hno j (by unfold mcv at hj; rw [i20_1] at hj; omega)⟩, by rw [ht]; exact hP, hD⟩, hS.F ht⟩) hS.2.2 xd_Ly_withDescriptor_41
  · refine lv_aload_n hx hb xd_Ly_withDescriptor_11 rfl (lv_at hl 1 rfl) ?_
    refine px_get (D := D) (ci := 5) (v := .ref (ad (20 + n) 1)) (C := xR_Ly) (T := xT_Ly) (N := 4) hx hb hT xi_Ly hown hK.1 hP m_3 c_6 rfl 2 (by decide) (hT _ k7x_6) (fun _ h9 => h9) rfl xd_Ly_withDescriptor_12 ?_
    refine lv_iload_n hx hb xd_Ly_withDescriptor_15 rfl (lv_at hl 0 rfl) ?_
    refine px_aald (i := k) (x := (some (ad (20 + n) (10 + 10 * k)))) hx hb hK.1 hP m_5 c_4 6 rfl ((hk_1 k (by omega)).1) (by omega) (by omega) xd_Ly_withDescriptor_16 ?_
    obtain ⟨hm_9, d_9, rs_9, fr_9, g2_9, g3_9, g4_9, hd_9, hrs_9, q0_9, q1_9, q2_9, q3_9, q4_9, q5_9, q6_9, q7_9⟩ := (hk_1 k (by omega)).2
    have c_10 : E (20 + n) (10 + 10 * k) = .inr (6, [.ref (ad (20 + n) 0), .ref (ad (1 + d_9) 0), .ref (ad (20 + n) (11 + 10 * k)), .ref (ad (20 + n) (12 + 10 * k)), .ref (ad (20 + n) (13 + 10 * k)), .ref (ad (20 + n) (14 + 10 * k))]) := q0_9
    have m_11 : (20 + n, 10 + 10 * k) ∈ RL := hm_9 0 (by decide)
    have c_12 : E (20 + n) (11 + 10 * k) = .inl (kA 6, rs_9, .inr (.inr (.inr (.inr fr_9)))) := q1_9
    have m_13 : (20 + n, 11 + 10 * k) ∈ RL := hm_9 1 (by decide)
    have c_14 : E (20 + n) (12 + 10 * k) = .inr (10, [.ref (ad (20 + n) (15 + 10 * k))]) := q2_9
    have m_15 : (20 + n, 12 + 10 * k) ∈ RL := hm_9 2 (by decide)
    have c_16 : E (20 + n) (13 + 10 * k) = .inr (10, [.ref (ad (20 + n) (16 + 10 * k))]) := q3_9
    have m_17 : (20 + n, 13 + 10 * k) ∈ RL := hm_9 3 (by decide)
    have c_18 : E (20 + n) (14 + 10 * k) = .inr (10, [.ref (ad (20 + n) (17 + 10 * k))]) := q4_9
    have m_19 : (20 + n, 14 + 10 * k) ∈ RL := hm_9 4 (by decide)
    have c_20 : E (20 + n) (15 + 10 * k) = .inl (kA 0, 6, .inl g2_9) := q5_9
    have m_21 : (20 + n, 15 + 10 * k) ∈ RL := hm_9 5 (by decide)
    have c_22 : E (20 + n) (16 + 10 * k) = .inl (kA 0, 6, .inl g3_9) := q6_9
    have m_23 : (20 + n, 16 + 10 * k) ∈ RL := hm_9 6 (by decide)
    have c_24 : E (20 + n) (17 + 10 * k) = .inl (kA 0, 6, .inl g4_9) := q7_9
    have m_25 : (20 + n, 17 + 10 * k) ∈ RL := hm_9 7 (by decide)
    have hdm_9 : mdv g n k = d_9 := by
      obtain ⟨dz, hdz, h21z, hvz⟩ := tmd_1 k (by omega)
      rw [c_10] at hvz
      have ez := (rp_inj hD ((hDIs d_9 hd_9).1 0 (by omega)) ((hDIs dz hdz).1 0 (by omega)) (Value.ref.inj hvz)).1
      unfold mdv
      rw [h21z, iN_nI (by omega)]; omega
    refine px_get (D := D) (ci := 6) (v := .ref (ad (1 + d_9) 0)) (C := xR_Me) (T := xT_Me) (N := 6) hx hb hT xi_Me hown hK.1 hP m_11 c_10 rfl 1 (by decide) (hT _ k7x_7) (fun _ h9 => h9) rfl xd_Ly_withDescriptor_17 ?_
    obtain ⟨hm_26, fd_26, nm_26, sd_26, k0_26, k1_26, k2_26, k3_26, f0_26, f1_26, f2_26, f3_26, fe_26, fo_26, tr_26, op_26, hk0_26, hk1_26, hk2_26, hk3_26, q0_26, q1_26, q2_26, q3_26, q4_26, q5_26, q6_26, q7_26, q8_26, q9_26, q10_26, q11_26, q12_26, hg_26⟩ := id (hDIs d_9 (by omega))
    have c_27 : E (1 + d_9) 0 = .inr (7, [.int (nI d_9), .int fd_26, .int nm_26, .ref (ad (1 + d_9) 1), .ref (ad (1 + d_9) 9), .ref (ad (1 + d_9) 10), .ref (ad (1 + d_9) 2), .ref (ad (1 + d_9) 11), .ref (ad (1 + d_9) 12), .ref (ad (1 + d_9) 3), .ref (ad (1 + d_9) 4), .int sd_26]) := q0_26
    have m_28 : (1 + d_9, 0) ∈ RL := hm_26 0 (by decide)
    have c_29 : E (1 + d_9) 1 = .inr (8, [.ref (ad (1 + d_9) 5), .int (nI k0_26)]) := q1_26
    have m_30 : (1 + d_9, 1) ∈ RL := hm_26 1 (by decide)
    have c_31 : E (1 + d_9) 2 = .inr (8, [.ref (ad (1 + d_9) 6), .int (nI k1_26)]) := q2_26
    have m_32 : (1 + d_9, 2) ∈ RL := hm_26 2 (by decide)
    have c_33 : E (1 + d_9) 3 = .inr (8, [.ref (ad (1 + d_9) 7), .int (nI k2_26)]) := q3_26
    have m_34 : (1 + d_9, 3) ∈ RL := hm_26 3 (by decide)
    have c_35 : E (1 + d_9) 4 = .inr (8, [.ref (ad (1 + d_9) 8), .int (nI k3_26)]) := q4_26
    have m_36 : (1 + d_9, 4) ∈ RL := hm_26 4 (by decide)
    have c_37 : E (1 + d_9) 5 = .inl (kA 0, 6, .inl f0_26) := q5_26
    have m_38 : (1 + d_9, 5) ∈ RL := hm_26 5 (by decide)
    have c_39 : E (1 + d_9) 6 = .inl (kA 0, 5, .inl f1_26) := q6_26
    have m_40 : (1 + d_9, 6) ∈ RL := hm_26 6 (by decide)
    have c_41 : E (1 + d_9) 7 = .inl (kA 0, 3, .inl f2_26) := q7_26
    have m_42 : (1 + d_9, 7) ∈ RL := hm_26 7 (by decide)
    have c_43 : E (1 + d_9) 8 = .inl (kA 0, 3, .inl f3_26) := q8_26
    have m_44 : (1 + d_9, 8) ∈ RL := hm_26 8 (by decide)
    have c_45 : E (1 + d_9) 9 = .inl (kA 8, 6, .inr (.inr (.inr (.inr fe_26)))) := q9_26
    have m_46 : (1 + d_9, 9) ∈ RL := hm_26 9 (by decide)
    have c_47 : E (1 + d_9) 10 = .inl (kA 8, 6, .inr (.inr (.inr (.inr fo_26)))) := q10_26
    have m_48 : (1 + d_9, 10) ∈ RL := hm_26 10 (by decide)
    have c_49 : E (1 + d_9) 11 = .inl (kA 2, 5, .inl tr_26) := q11_26
    have m_50 : (1 + d_9, 11) ∈ RL := hm_26 11 (by decide)
    have c_51 : E (1 + d_9) 12 = .inl (kA 2, 5, .inl op_26) := q12_26
    have m_52 : (1 + d_9, 12) ∈ RL := hm_26 12 (by decide)
    have hg_26 : ∀ w9, w9 < k0_26 → fe_26 w9 = some (ad (1 + d_9) (20 + 3 * w9)) ∧ fo_26 w9 = some (ad (1 + d_9) (38 + 3 * w9)) ∧ GI kA (ad (1 + d_9)) (E (1 + d_9)) (fun o => (1 + d_9, o) ∈ RL) (20 + 3 * w9) (21 + 3 * w9) (22 + 3 * w9) ∧ GI kA (ad (1 + d_9)) (E (1 + d_9)) (fun o => (1 + d_9, o) ∈ RL) (38 + 3 * w9) (39 + 3 * w9) (40 + 3 * w9) := hg_26
    obtain ⟨hTT_26, tgr_26⟩ := TD_get hk0_26 hk1_26 hk2_26 hk3_26 c_27 c_29 c_31 c_33 c_35 c_37 c_39 c_41 c_43 c_49 c_51 (hTD d_9 (by omega))
    obtain ⟨tfd_26, tnm_26, tsd_26, tk0_26, tf0_26, tk1_26, tf1_26, tk2_26, tk3_26⟩ := id hTT_26
    have ik0_26 : iN (g 5 d_9) = k0_26 := by rw [← tk0_26, iN_nI (by omega)]
    have ik1_26 : iN (g 12 d_9) = k1_26 := by rw [← tk1_26, iN_nI (by omega)]
    refine px_get (D := D) (ci := 7) (v := .int (nI d_9)) (C := xR_Ds) (T := xT_Ds) (N := 12) hx hb hT xi_Ds hown hK.1 hP m_28 c_27 rfl 0 (by decide) (hT _ k7x_8) (fun _ h9 => h9) rfl xd_Ly_withDescriptor_20 ?_
    refine lv_iload_n hx hb xd_Ly_withDescriptor_23 rfl (lv_at hl 2 rfl) ?_
    refine lv_icmp_ne (tgt := 34) hx hb xd_Ly_withDescriptor_24 (by decide) (fun hc53 => ?_) (fun hc53 => ?_)
    · refine lv_iinc (k := 0) (x := (nI k)) (v := (nI (k + 1))) hx hb xd_Ly_withDescriptor_34 hl rfl (xb_inc k 1) (Nat.le_of_ble_eq_true rfl) rfl (fun ls hl => ?_)
      have hl : lv_has ls 3 [(2, .int (nI (k + 1))), (0, .ref (ad (20 + n) 0)), (1, .int dx)] := hl
      refine lv_goto (tgt := 2) hx hb xd_Ly_withDescriptor_37 (by decide) ?_
      exact ih7 (k + 1) _ _ _ (show mk_1 - (k + 1) < mk_1 - k by omega) (lv_sub hl [0, 1, 2] rfl) hP hD hS ⟨(show (k + 1) ≤ mk_1 from by first | assumption | omega), (show ∀ j, j < (k + 1) → ¬ dx = nI (mdv g n j) from fun j hj => by
        rcases Nat.lt_or_ge j k with z | z
        · exact hno j z
        · rw [show j = k by omega, hdm_9]; exact fun q => hc53 q.symm)⟩
    · refine lv_aload_n hx hb xd_Ly_withDescriptor_27 rfl (lv_at hl 1 rfl) ?_
      refine px_get (D := D) (ci := 5) (v := .ref (ad (20 + n) 1)) (C := xR_Ly) (T := xT_Ly) (N := 4) hx hb hT xi_Ly hown hK.1 hP m_3 c_6 rfl 2 (by decide) (hT _ k7x_6) (fun _ h9 => h9) rfl xd_Ly_withDescriptor_28 ?_
      refine lv_iload_n hx hb xd_Ly_withDescriptor_31 rfl (lv_at hl 0 rfl) ?_
      refine px_aald (i := k) (x := (some (ad (20 + n) (10 + 10 * k)))) hx hb hK.1 hP m_5 c_4 6 rfl ((hk_1 k (by omega)).1) (by omega) (by omega) xd_Ly_withDescriptor_32 ?_
      exact W.aret (v := .ref (ad (20 + n) (10 + 10 * k))) hx hb hr (Or.inl ⟨_, rfl⟩) (Or.inr ⟨_, rfl⟩) (fun t ht hW => ⟨⟨(some (ad (20 + n) (10 + 10 * k))), (), rfl, Or.inr ⟨k, by unfold mcv; rw [i20_1]; omega, by rw [hdm_9]; exact hc53.symm, rfl, (hk_1 k (by omega)).2⟩, by rw [ht]; exact hP, hD⟩, hS.F ht⟩) hS.2.2 xd_Ly_withDescriptor_33
set_option maxHeartbeats 4000000 in
set_option maxRecDepth 100000 in
theorem xc_De_memberOfA (l : Launch) (D : va_G) (kA : Nat → ClassId) (sz : Nat) (ad : Nat → Nat → Nat) (E : Nat → Nat → va_E) (RL : List (Nat × Nat)) (g : Nat → Nat → Int32) (ml : Nat) (nd : Nat) (len : Nat) (wn : Nat) (cs : Nat) (ix : Int32) (dx : Int32) (hCI : CI kA ad E RL ml nd len wn cs) (hTD : TDs g E nd) (hTL : TLas g ad E nd ml) : Met l xy_De_memberOf (.code xy_De_memberOf xb_De_memberOf 4 (some (.object "LayerDesk$Member")) :: wT) { frames := 1, cells := 0, slots := 0, locals := 22 } (va_Pc [.ref (ad 0 0), .int ix, .int dx] (xPre D kA sz (rp ad E RL))) (va_Qq (fun (r : Option Nat) (u : Unit) => (r = none ∧ ¬ ∃ la d, thQ g nd ml ix dx la d) ∨ ∃ x k, thQ g nd ml ix dx x (mdv g x k) ∧ k < mcv g x ∧ r = some (ad (20 + x) (10 + 10 * k)) ∧ MEI kA ad E RL nd x k) (fun (u : Unit) t => va_P D xcl (rp ad E RL) t.heap ∧ va_D (va_A (rp ad E RL) sz) (rp ad E RL)) (va_A (rp ad E RL) sz)) 0 0 (va_A (rp ad E RL) sz) := by
  refine Met.ofW (cc := xb_De_memberOf) (maxL := 4) (ret := (some (.object "LayerDesk$Member"))) (by decide) rfl ?_
  intro p e s m args below meth c s₁ B hml hv
  obtain ⟨rfl, hsz, hP, hK, hD0⟩ := hv
  have hx := B.exec
  have hb := B.bytes
  have hr := B.returns
  have hT := x_hT B.pre
  have hown : s.vm.findClass xR_De = some m.cls := findClass_of_methodNamed B.named
  have hlocks := B.notSynchronized
  subst hsz
  have hD := hD0.self (sz := s.heap.size)
  generalize hAe : va_A (rp ad E RL) s.heap.size = A at hD ⊢
  have hA : ∀ q : Nat, s.heap.size ≤ q → A q := fun q h => by rw [← hAe]; exact Or.inr h
  have hS : va_S A s.heap s.heap [] := va_S.rf
  have hl := lv_entry ([.ref (ad 0 0), .int ix, .int dx]) (n := 4) (Nat.le_of_ble_eq_true rfl)
  rw [lg_entry_eq]
  generalize (lg_sl ([.ref (ad 0 0), .int ix, .int dx]) ++ List.replicate (4 - (lg_sl ([.ref (ad 0 0), .int ix, .int dx])).length) Slot.unset).toArray = ls at hl ⊢
  have hl : lv_has ls 4 [(0, .ref (ad 0 0)), (1, .int ix), (2, .int dx)] := hl
  have hP : va_P D xcl (rp ad E RL) s.heap := hP
  obtain ⟨hmB, hDk, hLi, hSh, hCh, hLa, hDIs, hLIs⟩ := id hCI
  obtain ⟨fl_1, hml_1, q9_1, hla_1⟩ := id (hLa)
  have c_2 : E 0 9 = .inl (kA 5, 5, .inr (.inr (.inr (.inr fl_1)))) := q9_1
  have m_3 : (0, 9) ∈ RL := hmB 9 (by decide)
  obtain ⟨_, hnd12, hml5, _, _⟩ := CI_b hCI
  have hLKP : LKP g ml := LKP_C hCI hTL
  have hmcb : ∀ la, la < ml → mcv g la ≤ 12 := fun la hl9 => (hLKP.2 la hl9).1
  refine lv_aload_n hx hb xd_De_memberOf_0 rfl (lv_at hl 0 rfl) ?_
  refine lv_iload_n hx hb xd_De_memberOf_1 rfl (lv_at hl 1 rfl) ?_
  have hFc := px_free hD hS hA
  obtain ⟨lf_4, q_4⟩ := id (hDk)
  have c_5 : E 0 0 = .inr (0, [.ref (ad 0 1), .ref (ad 0 5), .ref (ad 0 7), .ref (ad 0 9), .int (nI ml), .int lf_4]) := q_4
  have m_6 : (0, 0) ∈ RL := hmB 0 (by decide)
  refine va_callq (va_runV (As := [.int ix]) (rest := []) ⟨hx, hb, hml, hown, hT⟩ (xc_De_openLayerX l D kA s.heap.size ad E RL g ml nd len wn cs ix (by first | assumption | omega) (by first | assumption | omega)) (cwV 1 hT (wT_V k7x_1 k7x_2 k7x_3 k7x_4 k7x_0) rfl rfl rfl (by decide +kernel) ⟨Nat.le_of_ble_eq_true rfl, Nat.le_of_ble_eq_true rfl⟩) (px_preV hK hP hD m_6 c_5 rfl) rfl rfl hl.1 rfl (lv_room (Nat.le_of_ble_eq_true rfl)) xd_De_memberOf_2 ⟨(Nat.le_of_ble_eq_true rfl), (Nat.le_of_ble_eq_true rfl)⟩) hS (fun q _ h => hFc q h) hFc (fun r7 u8 t H1 locs ht hvm hp9 hB hz1 hk1 hS => ?_)
  obtain ⟨hP1, hD1⟩ := hB
  rw [ht] at hP1
  have hD1 := hD1.weaken (fun _ _ _ h => hFc _ h)
  generalize H1 = H at hP1 hS ⊢
  have hP := hP1
  have hD := hD1
  have hP : va_P D xcl (rp ad E RL) H := hP
  have hD : va_D A (rp ad E RL) := hD
  rcases hp9 with ⟨rfl, z10⟩ | ⟨z11, z12, z13, z14, rfl⟩
  · refine W.eq (g2 := F0 m 5 ls [.null]) rfl ?_
    refine lv_astore_nN hx hb xd_De_memberOf_5 rfl hl (Nat.le_of_ble_eq_true rfl) rfl (fun ls hl => ?_)
    have hl : lv_has ls 4 [(3, .null), (0, .ref (ad 0 0)), (1, .int ix), (2, .int dx)] := hl
    refine lv_aload_nN hx hb xd_De_memberOf_6 rfl (lv_at hl 0 rfl) ?_
    refine lv_ifnonnullN hx hb xd_De_memberOf_7 ?_
    refine lv_null hx hb xd_De_memberOf_10 ?_
    refine lv_goto (tgt := 19) hx hb xd_De_memberOf_11 (by decide) ?_
    exact W.aret (v := .null) hx hb hr (Or.inl ⟨_, rfl⟩) (Or.inl rfl) (fun t ht hW => ⟨⟨none, (), rfl, Or.inl ⟨rfl, fun ⟨la9, d9, q⟩ => z10 ⟨la9, q.1, q.2.1, q.2.2.1⟩⟩, by rw [ht]; exact hP, hD⟩, hS.F ht⟩) hS.2.2 xd_De_memberOf_19
  · refine W.eq (g2 := F0 m 5 ls [.ref (ad (20 + z11) 0)]) rfl ?_
    refine lv_astore_n hx hb xd_De_memberOf_5 rfl hl (Nat.le_of_ble_eq_true rfl) rfl (fun ls hl => ?_)
    have hl : lv_has ls 4 [(3, .ref (ad (20 + z11) 0)), (0, .ref (ad 0 0)), (1, .int ix), (2, .int dx)] := hl
    refine lv_aload_n hx hb xd_De_memberOf_6 rfl (lv_at hl 0 rfl) ?_
    refine lv_ifnonnull (tgt := 14) hx hb xd_De_memberOf_7 (by decide) ?_
    refine lv_aload_n hx hb xd_De_memberOf_14 rfl (lv_at hl 0 rfl) ?_
    refine lv_iload_n hx hb xd_De_memberOf_15 rfl (lv_at hl 3 rfl) ?_
    have hFc := px_free hD hS hA
    obtain ⟨m0_15, m1_15, pv_15, op_15, mk_15, fm_15, hmk_15, hpv_15, q0_15, q1_15, hk_15⟩ := id (hLIs z11 (by omega))
    have c_16 : E (20 + z11) 0 = .inr (5, [.int (nI z11), pv_15, .ref (ad (20 + z11) 1), .int op_15]) := q0_15
    have m_17 : (20 + z11, 0) ∈ RL := m0_15
    have c_18 : E (20 + z11) 1 = .inl (kA 6, mk_15, .inr (.inr (.inr (.inr fm_15)))) := q1_15
    have m_19 : (20 + z11, 1) ∈ RL := m1_15
    obtain ⟨top_15, ⟨lq_15, hlq_15, h19_15, hpv2_15⟩, h20_15, tmd_15⟩ := TLa_get c_16 c_18 (hTL z11 (by omega))
    have c_20 : E (20 + z11) 0 = .inr (5, [.int (nI z11), (lyv ad lq_15), .ref (ad (20 + z11) 1), .int op_15]) := by rw [← hpv2_15]; exact c_16
    have i20_15 : iN (g 20 z11) = mk_15 := by rw [h20_15, iN_nI (by omega)]
    refine va_callq (va_runV (As := [.int dx]) (rest := []) ⟨hx, hb, hml, hown, hT⟩ (xc_Ly_withDescriptorA l D kA H.size ad E RL g nd ml z11 dx (by first | assumption | omega) (by first | assumption | omega) (by first | assumption | omega) (by first | assumption | omega) (by first | assumption | omega) (by first | assumption | omega) (by first | assumption | omega)) (cwV 1 hT (wT_V k7x_10 k7x_11 k7x_12 k7x_13 k7x_9) rfl rfl rfl (by decide +kernel) ⟨Nat.le_of_ble_eq_true rfl, Nat.le_of_ble_eq_true rfl⟩) (px_preV hK hP hD m_17 c_20 rfl) rfl rfl hl.1 rfl (lv_room (Nat.le_of_ble_eq_true rfl)) xd_De_memberOf_16 ⟨(Nat.le_of_ble_eq_true rfl), (Nat.le_of_ble_eq_true rfl)⟩) hS (fun q _ h => hFc q h) hFc (fun r21 u22 t H1 locs ht hvm hp23 hB hz1 hk1 hS => ?_)
    obtain ⟨hP1, hD1⟩ := hB
    rw [ht] at hP1
    have hD1 := hD1.weaken (fun _ _ _ h => hFc _ h)
    generalize H1 = H at hP1 hS ⊢
    have hP := hP1
    have hD := hD1
    have hP : va_P D xcl (rp ad E RL) H := hP
    have hD : va_D A (rp ad E RL) := hD
    rcases hp23 with ⟨rfl, z24⟩ | ⟨z25, z26, z27, rfl, z28⟩
    · refine W.eq (g2 := F0 m 19 ls [.null]) rfl ?_
      exact W.aret (v := .null) hx hb hr (Or.inl ⟨_, rfl⟩) (Or.inl rfl) (fun t ht hW => ⟨⟨none, (), rfl, Or.inl ⟨rfl, fun ⟨la9, d9, q1, q2, q3, q4, q5, k9, q6, q7⟩ => by
        have e1 := nI_inj9 (by omega) (by omega) (z13.symm.trans q2)
        rw [← e1] at q6 q7
        exact z24 k9 q6 (by rw [q7]; exact q4)⟩, by rw [ht]; exact hP, hD⟩, hS.F ht⟩) hS.2.2 xd_De_memberOf_19
    · refine W.eq (g2 := F0 m 19 ls [.ref (ad (20 + z11) (10 + 10 * z25))]) rfl ?_
      exact W.aret (v := .ref (ad (20 + z11) (10 + 10 * z25))) hx hb hr (Or.inl ⟨_, rfl⟩) (Or.inr ⟨_, rfl⟩) (fun t ht hW => ⟨⟨(some (ad (20 + z11) (10 + 10 * z25))), (), rfl, Or.inr ⟨z11, z25, ⟨z12, z13, z14, z27, T_md hnd12 z12 hLIs hTL z26, z25, z26, rfl⟩, z26, rfl, z28⟩, by rw [ht]; exact hP, hD⟩, hS.F ht⟩) hS.2.2 xd_De_memberOf_19
set_option maxHeartbeats 4000000 in
set_option maxRecDepth 100000 in
theorem xc_De_readsA (l : Launch) (D : va_G) (kA : Nat → ClassId) (sz : Nat) (ad : Nat → Nat → Nat) (E : Nat → Nat → va_E) (RL : List (Nat × Nat)) (g : Nat → Nat → Int32) (ml : Nat) (nd : Nat) (len : Nat) (wn : Nat) (cs : Nat) (ix : Int32) (kx : Int32) (tx : Int32) (dx : Int32) (hCI : CI kA ad E RL ml nd len wn cs) (hTD : TDs g E nd) (hTL : TLas g ad E nd ml) (hRB : ∀ n, n < ml → RBs g E n) : Met l xy_De_reads (.code xy_De_reads xb_De_reads 7 (some .boolean) :: wT) { frames := 2, cells := 0, slots := 0, locals := 45 } (va_Pc [.ref (ad 0 0), .int ix, .int kx, .int tx, .int dx] (xPre D kA sz (rp ad E RL))) (va_Qi (fun (r : Int32) (u : Unit) => (r = 1 ∧ rdE g nd ml ix kx tx dx) ∨ (r = 0 ∧ ¬ rdE g nd ml ix kx tx dx)) (fun (u : Unit) t => va_P D xcl (rp ad E RL) t.heap ∧ va_D (va_A (rp ad E RL) sz) (rp ad E RL)) (va_A (rp ad E RL) sz)) 0 0 (va_A (rp ad E RL) sz) := by
  refine Met.ofW (cc := xb_De_reads) (maxL := 7) (ret := (some .boolean)) (by decide) rfl ?_
  intro p e s m args below meth c s₁ B hml hv
  obtain ⟨rfl, hsz, hP, hK, hD0⟩ := hv
  have hx := B.exec
  have hb := B.bytes
  have hr := B.returns
  have hT := x_hT B.pre
  have hown : s.vm.findClass xR_De = some m.cls := findClass_of_methodNamed B.named
  have hlocks := B.notSynchronized
  subst hsz
  have hD := hD0.self (sz := s.heap.size)
  generalize hAe : va_A (rp ad E RL) s.heap.size = A at hD ⊢
  have hA : ∀ q : Nat, s.heap.size ≤ q → A q := fun q h => by rw [← hAe]; exact Or.inr h
  have hS : va_S A s.heap s.heap [] := va_S.rf
  have hl := lv_entry ([.ref (ad 0 0), .int ix, .int kx, .int tx, .int dx]) (n := 7) (Nat.le_of_ble_eq_true rfl)
  rw [lg_entry_eq]
  generalize (lg_sl ([.ref (ad 0 0), .int ix, .int kx, .int tx, .int dx]) ++ List.replicate (7 - (lg_sl ([.ref (ad 0 0), .int ix, .int kx, .int tx, .int dx])).length) Slot.unset).toArray = ls at hl ⊢
  have hl : lv_has ls 7 [(0, .ref (ad 0 0)), (1, .int ix), (2, .int kx), (3, .int tx), (4, .int dx)] := hl
  have hP : va_P D xcl (rp ad E RL) s.heap := hP
  obtain ⟨hmB, hDk, hLi, hSh, hCh, hLa, hDIs, hLIs⟩ := id hCI
  obtain ⟨fl_1, hml_1, q9_1, hla_1⟩ := id (hLa)
  have c_2 : E 0 9 = .inl (kA 5, 5, .inr (.inr (.inr (.inr fl_1)))) := q9_1
  have m_3 : (0, 9) ∈ RL := hmB 9 (by decide)
  obtain ⟨_, hnd12, hml5, _, _⟩ := CI_b hCI
  have hLKP : LKP g ml := LKP_C hCI hTL
  have hmcb : ∀ la, la < ml → mcv g la ≤ 12 := fun la hl9 => (hLKP.2 la hl9).1
  refine lv_aload_n hx hb xd_De_reads_0 rfl (lv_at hl 0 rfl) ?_
  refine lv_iload_n hx hb xd_De_reads_1 rfl (lv_at hl 1 rfl) ?_
  refine lv_iload_n hx hb xd_De_reads_2 rfl (lv_at hl 2 rfl) ?_
  have hFc := px_free hD hS hA
  obtain ⟨lf_4, q_4⟩ := id (hDk)
  have c_5 : E 0 0 = .inr (0, [.ref (ad 0 1), .ref (ad 0 5), .ref (ad 0 7), .ref (ad 0 9), .int (nI ml), .int lf_4]) := q_4
  have m_6 : (0, 0) ∈ RL := hmB 0 (by decide)
  refine va_callq (va_runV (As := [.int ix, .int kx]) (rest := []) ⟨hx, hb, hml, hown, hT⟩ (xc_De_memberAtA l D kA s.heap.size ad E RL g ml nd len wn cs ix kx (by first | assumption | omega) (by first | assumption | omega)) (cwV 2 hT (wT_V k7x_15 k7x_16 k7x_17 k7x_4 k7x_14) rfl rfl rfl (by decide +kernel) ⟨Nat.le_of_ble_eq_true rfl, Nat.le_of_ble_eq_true rfl⟩) (px_preV hK hP hD m_6 c_5 rfl) rfl rfl hl.1 rfl (lv_room (Nat.le_of_ble_eq_true rfl)) xd_De_reads_3 ⟨(Nat.le_of_ble_eq_true rfl), (Nat.le_of_ble_eq_true rfl)⟩) hS (fun q _ h => hFc q h) hFc (fun r7 u8 t H1 locs ht hvm hp9 hB hz1 hk1 hS => ?_)
  obtain ⟨hP1, hD1⟩ := hB
  rw [ht] at hP1
  have hD1 := hD1.weaken (fun _ _ _ h => hFc _ h)
  generalize H1 = H at hP1 hS ⊢
  have hP := hP1
  have hD := hD1
  have hP : va_P D xcl (rp ad E RL) H := hP
  have hD : va_D A (rp ad E RL) := hD
  rcases hp9 with ⟨rfl, z10⟩ | ⟨z11, z12, z13, rfl, z14⟩
  · refine W.eq (g2 := F0 m 6 ls [.null]) rfl ?_
    refine lv_astoreN hx hb xd_De_reads_6 hl (Nat.le_of_ble_eq_true rfl) rfl (fun ls hl => ?_)
    have hl : lv_has ls 7 [(5, .null), (0, .ref (ad 0 0)), (1, .int ix), (2, .int kx), (3, .int tx), (4, .int dx)] := hl
    refine lv_aload_n hx hb xd_De_reads_8 rfl (lv_at hl 1 rfl) ?_
    refine lv_iload_n hx hb xd_De_reads_9 rfl (lv_at hl 4 rfl) ?_
    refine lv_iload hx hb xd_De_reads_10 (lv_at hl 5 rfl) ?_
    have hFc := px_free hD hS hA
    refine va_callq (va_runV (As := [.int tx, .int dx]) (rest := []) ⟨hx, hb, hml, hown, hT⟩ (xc_De_memberOfA l D kA H.size ad E RL g ml nd len wn cs tx dx (by first | assumption | omega) (by first | assumption | omega) (by first | assumption | omega)) (cwV 2 hT (wT_V k7x_19 k7x_20 k7x_21 k7x_4 k7x_18) rfl rfl rfl (by decide +kernel) ⟨Nat.le_of_ble_eq_true rfl, Nat.le_of_ble_eq_true rfl⟩) (px_preV hK hP hD m_6 c_5 rfl) rfl rfl hl.1 rfl (lv_room (Nat.le_of_ble_eq_true rfl)) xd_De_reads_12 ⟨(Nat.le_of_ble_eq_true rfl), (Nat.le_of_ble_eq_true rfl)⟩) hS (fun q _ h => hFc q h) hFc (fun r15 u16 t H1 locs ht hvm hp17 hB hz1 hk1 hS => ?_)
    obtain ⟨hP1, hD1⟩ := hB
    rw [ht] at hP1
    have hD1 := hD1.weaken (fun _ _ _ h => hFc _ h)
    generalize H1 = H at hP1 hS ⊢
    have hP := hP1
    have hD := hD1
    have hP : va_P D xcl (rp ad E RL) H := hP
    have hD : va_D A (rp ad E RL) := hD
    rcases hp17 with ⟨rfl, z18⟩ | ⟨z19, z20, z21, z22, rfl, z23⟩
    · refine W.eq (g2 := F0 m 15 ls [.null]) rfl ?_
      refine lv_astoreN hx hb xd_De_reads_15 hl (Nat.le_of_ble_eq_true rfl) rfl (fun ls hl => ?_)
      have hl : lv_has ls 7 [(6, .null), (5, .null), (0, .ref (ad 0 0)), (1, .int ix), (2, .int kx), (3, .int tx), (4, .int dx)] := hl
      refine lv_aloadN hx hb xd_De_reads_17 (lv_at hl 1 rfl) ?_
      refine lv_ifnullN (tgt := 44) hx hb xd_De_reads_19 (by decide) ?_
      refine lv_iconst (v := 0) hx hb xd_De_reads_44 (by decide) ?_
      exact W.zret (v := 0) hx hb hr rfl (fun t ht hW => ⟨⟨0, (), rfl, Or.inr ⟨rfl, fun ⟨la9, kn9, lb9, db9, q1, _, _⟩ => z10 ⟨la9, kn9, q1⟩⟩, by rw [ht]; exact hP, hD⟩, hS.F ht⟩) hS.2.2 xd_De_reads_45
    · refine W.eq (g2 := F0 m 15 ls [.ref (ad (20 + z19) (10 + 10 * z20))]) rfl ?_
      have hlx_hkq2 : z19 < ml := z21.1
      obtain ⟨m0_24, m1_24, pv_24, op_24, mk_24, fm_24, hmk_24, hpv_24, q0_24, q1_24, hk_24⟩ := id (hLIs z19 (by omega))
      have c_25 : E (20 + z19) 0 = .inr (5, [.int (nI z19), pv_24, .ref (ad (20 + z19) 1), .int op_24]) := q0_24
      have m_26 : (20 + z19, 0) ∈ RL := m0_24
      have c_27 : E (20 + z19) 1 = .inl (kA 6, mk_24, .inr (.inr (.inr (.inr fm_24)))) := q1_24
      have m_28 : (20 + z19, 1) ∈ RL := m1_24
      obtain ⟨top_24, ⟨lq_24, hlq_24, h19_24, hpv2_24⟩, h20_24, tmd_24⟩ := TLa_get c_25 c_27 (hTL z19 (by omega))
      have c_29 : E (20 + z19) 0 = .inr (5, [.int (nI z19), (lyv ad lq_24), .ref (ad (20 + z19) 1), .int op_24]) := by rw [← hpv2_24]; exact c_25
      have i20_24 : iN (g 20 z19) = mk_24 := by rw [h20_24, iN_nI (by omega)]
      have hkq2 : z20 < mk_24 := by have q := (show z20 < iN (g 20 z19) from z22); rw [i20_24] at q; exact q
      obtain ⟨hm_30, d_30, rs_30, fr_30, g2_30, g3_30, g4_30, hd_30, hrs_30, q0_30, q1_30, q2_30, q3_30, q4_30, q5_30, q6_30, q7_30⟩ := id z23
      have c_31 : E (20 + z19) (10 + 10 * z20) = .inr (6, [.ref (ad (20 + z19) 0), .ref (ad (1 + d_30) 0), .ref (ad (20 + z19) (11 + 10 * z20)), .ref (ad (20 + z19) (12 + 10 * z20)), .ref (ad (20 + z19) (13 + 10 * z20)), .ref (ad (20 + z19) (14 + 10 * z20))]) := q0_30
      have m_32 : (20 + z19, 10 + 10 * z20) ∈ RL := hm_30 0 (by decide)
      have c_33 : E (20 + z19) (11 + 10 * z20) = .inl (kA 6, rs_30, .inr (.inr (.inr (.inr fr_30)))) := q1_30
      have m_34 : (20 + z19, 11 + 10 * z20) ∈ RL := hm_30 1 (by decide)
      have c_35 : E (20 + z19) (12 + 10 * z20) = .inr (10, [.ref (ad (20 + z19) (15 + 10 * z20))]) := q2_30
      have m_36 : (20 + z19, 12 + 10 * z20) ∈ RL := hm_30 2 (by decide)
      have c_37 : E (20 + z19) (13 + 10 * z20) = .inr (10, [.ref (ad (20 + z19) (16 + 10 * z20))]) := q3_30
      have m_38 : (20 + z19, 13 + 10 * z20) ∈ RL := hm_30 3 (by decide)
      have c_39 : E (20 + z19) (14 + 10 * z20) = .inr (10, [.ref (ad (20 + z19) (17 + 10 * z20))]) := q4_30
      have m_40 : (20 + z19, 14 + 10 * z20) ∈ RL := hm_30 4 (by decide)
      have c_41 : E (20 + z19) (15 + 10 * z20) = .inl (kA 0, 6, .inl g2_30) := q5_30
      have m_42 : (20 + z19, 15 + 10 * z20) ∈ RL := hm_30 5 (by decide)
      have c_43 : E (20 + z19) (16 + 10 * z20) = .inl (kA 0, 6, .inl g3_30) := q6_30
      have m_44 : (20 + z19, 16 + 10 * z20) ∈ RL := hm_30 6 (by decide)
      have c_45 : E (20 + z19) (17 + 10 * z20) = .inl (kA 0, 6, .inl g4_30) := q7_30
      have m_46 : (20 + z19, 17 + 10 * z20) ∈ RL := hm_30 7 (by decide)
      have hdm_30 : mdv g z19 z20 = d_30 := by
        obtain ⟨dz, hdz, h21z, hvz⟩ := tmd_24 z20 (by omega)
        rw [c_31] at hvz
        have ez := (rp_inj hD ((hDIs d_30 hd_30).1 0 (by omega)) ((hDIs dz hdz).1 0 (by omega)) (Value.ref.inj hvz)).1
        unfold mdv
        rw [h21z, iN_nI (by omega)]; omega
      obtain ⟨hm_47, fd_47, nm_47, sd_47, k0_47, k1_47, k2_47, k3_47, f0_47, f1_47, f2_47, f3_47, fe_47, fo_47, tr_47, op_47, hk0_47, hk1_47, hk2_47, hk3_47, q0_47, q1_47, q2_47, q3_47, q4_47, q5_47, q6_47, q7_47, q8_47, q9_47, q10_47, q11_47, q12_47, hg_47⟩ := id (hDIs d_30 (by omega))
      have c_48 : E (1 + d_30) 0 = .inr (7, [.int (nI d_30), .int fd_47, .int nm_47, .ref (ad (1 + d_30) 1), .ref (ad (1 + d_30) 9), .ref (ad (1 + d_30) 10), .ref (ad (1 + d_30) 2), .ref (ad (1 + d_30) 11), .ref (ad (1 + d_30) 12), .ref (ad (1 + d_30) 3), .ref (ad (1 + d_30) 4), .int sd_47]) := q0_47
      have m_49 : (1 + d_30, 0) ∈ RL := hm_47 0 (by decide)
      have c_50 : E (1 + d_30) 1 = .inr (8, [.ref (ad (1 + d_30) 5), .int (nI k0_47)]) := q1_47
      have m_51 : (1 + d_30, 1) ∈ RL := hm_47 1 (by decide)
      have c_52 : E (1 + d_30) 2 = .inr (8, [.ref (ad (1 + d_30) 6), .int (nI k1_47)]) := q2_47
      have m_53 : (1 + d_30, 2) ∈ RL := hm_47 2 (by decide)
      have c_54 : E (1 + d_30) 3 = .inr (8, [.ref (ad (1 + d_30) 7), .int (nI k2_47)]) := q3_47
      have m_55 : (1 + d_30, 3) ∈ RL := hm_47 3 (by decide)
      have c_56 : E (1 + d_30) 4 = .inr (8, [.ref (ad (1 + d_30) 8), .int (nI k3_47)]) := q4_47
      have m_57 : (1 + d_30, 4) ∈ RL := hm_47 4 (by decide)
      have c_58 : E (1 + d_30) 5 = .inl (kA 0, 6, .inl f0_47) := q5_47
      have m_59 : (1 + d_30, 5) ∈ RL := hm_47 5 (by decide)
      have c_60 : E (1 + d_30) 6 = .inl (kA 0, 5, .inl f1_47) := q6_47
      have m_61 : (1 + d_30, 6) ∈ RL := hm_47 6 (by decide)
      have c_62 : E (1 + d_30) 7 = .inl (kA 0, 3, .inl f2_47) := q7_47
      have m_63 : (1 + d_30, 7) ∈ RL := hm_47 7 (by decide)
      have c_64 : E (1 + d_30) 8 = .inl (kA 0, 3, .inl f3_47) := q8_47
      have m_65 : (1 + d_30, 8) ∈ RL := hm_47 8 (by decide)
      have c_66 : E (1 + d_30) 9 = .inl (kA 8, 6, .inr (.inr (.inr (.inr fe_47)))) := q9_47
      have m_67 : (1 + d_30, 9) ∈ RL := hm_47 9 (by decide)
      have c_68 : E (1 + d_30) 10 = .inl (kA 8, 6, .inr (.inr (.inr (.inr fo_47)))) := q10_47
      have m_69 : (1 + d_30, 10) ∈ RL := hm_47 10 (by decide)
      have c_70 : E (1 + d_30) 11 = .inl (kA 2, 5, .inl tr_47) := q11_47
      have m_71 : (1 + d_30, 11) ∈ RL := hm_47 11 (by decide)
      have c_72 : E (1 + d_30) 12 = .inl (kA 2, 5, .inl op_47) := q12_47
      have m_73 : (1 + d_30, 12) ∈ RL := hm_47 12 (by decide)
      have hg_47 : ∀ w9, w9 < k0_47 → fe_47 w9 = some (ad (1 + d_30) (20 + 3 * w9)) ∧ fo_47 w9 = some (ad (1 + d_30) (38 + 3 * w9)) ∧ GI kA (ad (1 + d_30)) (E (1 + d_30)) (fun o => (1 + d_30, o) ∈ RL) (20 + 3 * w9) (21 + 3 * w9) (22 + 3 * w9) ∧ GI kA (ad (1 + d_30)) (E (1 + d_30)) (fun o => (1 + d_30, o) ∈ RL) (38 + 3 * w9) (39 + 3 * w9) (40 + 3 * w9) := hg_47
      obtain ⟨hTT_47, tgr_47⟩ := TD_get hk0_47 hk1_47 hk2_47 hk3_47 c_48 c_50 c_52 c_54 c_56 c_58 c_60 c_62 c_64 c_70 c_72 (hTD d_30 (by omega))
      obtain ⟨tfd_47, tnm_47, tsd_47, tk0_47, tf0_47, tk1_47, tf1_47, tk2_47, tk3_47⟩ := id hTT_47
      have ik0_47 : iN (g 5 d_30) = k0_47 := by rw [← tk0_47, iN_nI (by omega)]
      have ik1_47 : iN (g 12 d_30) = k1_47 := by rw [← tk1_47, iN_nI (by omega)]
      refine lv_astore hx hb xd_De_reads_15 hl (Nat.le_of_ble_eq_true rfl) rfl (fun ls hl => ?_)
      have hl : lv_has ls 7 [(6, .ref (ad (20 + z19) (10 + 10 * z20))), (5, .null), (0, .ref (ad 0 0)), (1, .int ix), (2, .int kx), (3, .int tx), (4, .int dx)] := hl
      refine lv_aloadN hx hb xd_De_reads_17 (lv_at hl 1 rfl) ?_
      refine lv_ifnullN (tgt := 44) hx hb xd_De_reads_19 (by decide) ?_
      refine lv_iconst (v := 0) hx hb xd_De_reads_44 (by decide) ?_
      exact W.zret (v := 0) hx hb hr rfl (fun t ht hW => ⟨⟨0, (), rfl, Or.inr ⟨rfl, fun ⟨la9, kn9, lb9, db9, q1, _, _⟩ => z10 ⟨la9, kn9, q1⟩⟩, by rw [ht]; exact hP, hD⟩, hS.F ht⟩) hS.2.2 xd_De_reads_45
  · refine W.eq (g2 := F0 m 6 ls [.ref (ad (20 + z11) (10 + 10 * z12))]) rfl ?_
    have hlx_hkq : z11 < ml := z13.1
    obtain ⟨m0_74, m1_74, pv_74, op_74, mk_74, fm_74, hmk_74, hpv_74, q0_74, q1_74, hk_74⟩ := id (hLIs z11 (by omega))
    have c_75 : E (20 + z11) 0 = .inr (5, [.int (nI z11), pv_74, .ref (ad (20 + z11) 1), .int op_74]) := q0_74
    have m_76 : (20 + z11, 0) ∈ RL := m0_74
    have c_77 : E (20 + z11) 1 = .inl (kA 6, mk_74, .inr (.inr (.inr (.inr fm_74)))) := q1_74
    have m_78 : (20 + z11, 1) ∈ RL := m1_74
    obtain ⟨top_74, ⟨lq_74, hlq_74, h19_74, hpv2_74⟩, h20_74, tmd_74⟩ := TLa_get c_75 c_77 (hTL z11 (by omega))
    have c_79 : E (20 + z11) 0 = .inr (5, [.int (nI z11), (lyv ad lq_74), .ref (ad (20 + z11) 1), .int op_74]) := by rw [← hpv2_74]; exact c_75
    have i20_74 : iN (g 20 z11) = mk_74 := by rw [h20_74, iN_nI (by omega)]
    have hkq : z12 < mk_74 := by have q := (show z12 < iN (g 20 z11) from z13.2.2.2.2); rw [i20_74] at q; exact q
    obtain ⟨hm_80, d_80, rs_80, fr_80, g2_80, g3_80, g4_80, hd_80, hrs_80, q0_80, q1_80, q2_80, q3_80, q4_80, q5_80, q6_80, q7_80⟩ := id z14
    have c_81 : E (20 + z11) (10 + 10 * z12) = .inr (6, [.ref (ad (20 + z11) 0), .ref (ad (1 + d_80) 0), .ref (ad (20 + z11) (11 + 10 * z12)), .ref (ad (20 + z11) (12 + 10 * z12)), .ref (ad (20 + z11) (13 + 10 * z12)), .ref (ad (20 + z11) (14 + 10 * z12))]) := q0_80
    have m_82 : (20 + z11, 10 + 10 * z12) ∈ RL := hm_80 0 (by decide)
    have c_83 : E (20 + z11) (11 + 10 * z12) = .inl (kA 6, rs_80, .inr (.inr (.inr (.inr fr_80)))) := q1_80
    have m_84 : (20 + z11, 11 + 10 * z12) ∈ RL := hm_80 1 (by decide)
    have c_85 : E (20 + z11) (12 + 10 * z12) = .inr (10, [.ref (ad (20 + z11) (15 + 10 * z12))]) := q2_80
    have m_86 : (20 + z11, 12 + 10 * z12) ∈ RL := hm_80 2 (by decide)
    have c_87 : E (20 + z11) (13 + 10 * z12) = .inr (10, [.ref (ad (20 + z11) (16 + 10 * z12))]) := q3_80
    have m_88 : (20 + z11, 13 + 10 * z12) ∈ RL := hm_80 3 (by decide)
    have c_89 : E (20 + z11) (14 + 10 * z12) = .inr (10, [.ref (ad (20 + z11) (17 + 10 * z12))]) := q4_80
    have m_90 : (20 + z11, 14 + 10 * z12) ∈ RL := hm_80 4 (by decide)
    have c_91 : E (20 + z11) (15 + 10 * z12) = .inl (kA 0, 6, .inl g2_80) := q5_80
    have m_92 : (20 + z11, 15 + 10 * z12) ∈ RL := hm_80 5 (by decide)
    have c_93 : E (20 + z11) (16 + 10 * z12) = .inl (kA 0, 6, .inl g3_80) := q6_80
    have m_94 : (20 + z11, 16 + 10 * z12) ∈ RL := hm_80 6 (by decide)
    have c_95 : E (20 + z11) (17 + 10 * z12) = .inl (kA 0, 6, .inl g4_80) := q7_80
    have m_96 : (20 + z11, 17 + 10 * z12) ∈ RL := hm_80 7 (by decide)
    have hdm_80 : mdv g z11 z12 = d_80 := by
      obtain ⟨dz, hdz, h21z, hvz⟩ := tmd_74 z12 (by omega)
      rw [c_81] at hvz
      have ez := (rp_inj hD ((hDIs d_80 hd_80).1 0 (by omega)) ((hDIs dz hdz).1 0 (by omega)) (Value.ref.inj hvz)).1
      unfold mdv
      rw [h21z, iN_nI (by omega)]; omega
    obtain ⟨hm_97, fd_97, nm_97, sd_97, k0_97, k1_97, k2_97, k3_97, f0_97, f1_97, f2_97, f3_97, fe_97, fo_97, tr_97, op_97, hk0_97, hk1_97, hk2_97, hk3_97, q0_97, q1_97, q2_97, q3_97, q4_97, q5_97, q6_97, q7_97, q8_97, q9_97, q10_97, q11_97, q12_97, hg_97⟩ := id (hDIs d_80 (by omega))
    have c_98 : E (1 + d_80) 0 = .inr (7, [.int (nI d_80), .int fd_97, .int nm_97, .ref (ad (1 + d_80) 1), .ref (ad (1 + d_80) 9), .ref (ad (1 + d_80) 10), .ref (ad (1 + d_80) 2), .ref (ad (1 + d_80) 11), .ref (ad (1 + d_80) 12), .ref (ad (1 + d_80) 3), .ref (ad (1 + d_80) 4), .int sd_97]) := q0_97
    have m_99 : (1 + d_80, 0) ∈ RL := hm_97 0 (by decide)
    have c_100 : E (1 + d_80) 1 = .inr (8, [.ref (ad (1 + d_80) 5), .int (nI k0_97)]) := q1_97
    have m_101 : (1 + d_80, 1) ∈ RL := hm_97 1 (by decide)
    have c_102 : E (1 + d_80) 2 = .inr (8, [.ref (ad (1 + d_80) 6), .int (nI k1_97)]) := q2_97
    have m_103 : (1 + d_80, 2) ∈ RL := hm_97 2 (by decide)
    have c_104 : E (1 + d_80) 3 = .inr (8, [.ref (ad (1 + d_80) 7), .int (nI k2_97)]) := q3_97
    have m_105 : (1 + d_80, 3) ∈ RL := hm_97 3 (by decide)
    have c_106 : E (1 + d_80) 4 = .inr (8, [.ref (ad (1 + d_80) 8), .int (nI k3_97)]) := q4_97
    have m_107 : (1 + d_80, 4) ∈ RL := hm_97 4 (by decide)
    have c_108 : E (1 + d_80) 5 = .inl (kA 0, 6, .inl f0_97) := q5_97
    have m_109 : (1 + d_80, 5) ∈ RL := hm_97 5 (by decide)
    have c_110 : E (1 + d_80) 6 = .inl (kA 0, 5, .inl f1_97) := q6_97
    have m_111 : (1 + d_80, 6) ∈ RL := hm_97 6 (by decide)
    have c_112 : E (1 + d_80) 7 = .inl (kA 0, 3, .inl f2_97) := q7_97
    have m_113 : (1 + d_80, 7) ∈ RL := hm_97 7 (by decide)
    have c_114 : E (1 + d_80) 8 = .inl (kA 0, 3, .inl f3_97) := q8_97
    have m_115 : (1 + d_80, 8) ∈ RL := hm_97 8 (by decide)
    have c_116 : E (1 + d_80) 9 = .inl (kA 8, 6, .inr (.inr (.inr (.inr fe_97)))) := q9_97
    have m_117 : (1 + d_80, 9) ∈ RL := hm_97 9 (by decide)
    have c_118 : E (1 + d_80) 10 = .inl (kA 8, 6, .inr (.inr (.inr (.inr fo_97)))) := q10_97
    have m_119 : (1 + d_80, 10) ∈ RL := hm_97 10 (by decide)
    have c_120 : E (1 + d_80) 11 = .inl (kA 2, 5, .inl tr_97) := q11_97
    have m_121 : (1 + d_80, 11) ∈ RL := hm_97 11 (by decide)
    have c_122 : E (1 + d_80) 12 = .inl (kA 2, 5, .inl op_97) := q12_97
    have m_123 : (1 + d_80, 12) ∈ RL := hm_97 12 (by decide)
    have hg_97 : ∀ w9, w9 < k0_97 → fe_97 w9 = some (ad (1 + d_80) (20 + 3 * w9)) ∧ fo_97 w9 = some (ad (1 + d_80) (38 + 3 * w9)) ∧ GI kA (ad (1 + d_80)) (E (1 + d_80)) (fun o => (1 + d_80, o) ∈ RL) (20 + 3 * w9) (21 + 3 * w9) (22 + 3 * w9) ∧ GI kA (ad (1 + d_80)) (E (1 + d_80)) (fun o => (1 + d_80, o) ∈ RL) (38 + 3 * w9) (39 + 3 * w9) (40 + 3 * w9) := hg_97
    obtain ⟨hTT_97, tgr_97⟩ := TD_get hk0_97 hk1_97 hk2_97 hk3_97 c_98 c_100 c_102 c_104 c_106 c_108 c_110 c_112 c_114 c_120 c_122 (hTD d_80 (by omega))
    obtain ⟨tfd_97, tnm_97, tsd_97, tk0_97, tf0_97, tk1_97, tf1_97, tk2_97, tk3_97⟩ := id hTT_97
    have ik0_97 : iN (g 5 d_80) = k0_97 := by rw [← tk0_97, iN_nI (by omega)]
    have ik1_97 : iN (g 12 d_80) = k1_97 := by rw [← tk1_97, iN_nI (by omega)]
    refine lv_astore hx hb xd_De_reads_6 hl (Nat.le_of_ble_eq_true rfl) rfl (fun ls hl => ?_)
    have hl : lv_has ls 7 [(5, .ref (ad (20 + z11) (10 + 10 * z12))), (0, .ref (ad 0 0)), (1, .int ix), (2, .int kx), (3, .int tx), (4, .int dx)] := hl
    refine lv_aload_n hx hb xd_De_reads_8 rfl (lv_at hl 1 rfl) ?_
    refine lv_iload_n hx hb xd_De_reads_9 rfl (lv_at hl 4 rfl) ?_
    refine lv_iload hx hb xd_De_reads_10 (lv_at hl 5 rfl) ?_
    have hFc := px_free hD hS hA
    refine va_callq (va_runV (As := [.int tx, .int dx]) (rest := []) ⟨hx, hb, hml, hown, hT⟩ (xc_De_memberOfA l D kA H.size ad E RL g ml nd len wn cs tx dx (by first | assumption | omega) (by first | assumption | omega) (by first | assumption | omega)) (cwV 2 hT (wT_V k7x_19 k7x_20 k7x_21 k7x_4 k7x_18) rfl rfl rfl (by decide +kernel) ⟨Nat.le_of_ble_eq_true rfl, Nat.le_of_ble_eq_true rfl⟩) (px_preV hK hP hD m_6 c_5 rfl) rfl rfl hl.1 rfl (lv_room (Nat.le_of_ble_eq_true rfl)) xd_De_reads_12 ⟨(Nat.le_of_ble_eq_true rfl), (Nat.le_of_ble_eq_true rfl)⟩) hS (fun q _ h => hFc q h) hFc (fun r124 u125 t H1 locs ht hvm hp126 hB hz1 hk1 hS => ?_)
    obtain ⟨hP1, hD1⟩ := hB
    rw [ht] at hP1
    have hD1 := hD1.weaken (fun _ _ _ h => hFc _ h)
    generalize H1 = H at hP1 hS ⊢
    have hP := hP1
    have hD := hD1
    have hP : va_P D xcl (rp ad E RL) H := hP
    have hD : va_D A (rp ad E RL) := hD
    rcases hp126 with ⟨rfl, z127⟩ | ⟨z128, z129, z130, z131, rfl, z132⟩
    · refine W.eq (g2 := F0 m 15 ls [.null]) rfl ?_
      refine lv_astoreN hx hb xd_De_reads_15 hl (Nat.le_of_ble_eq_true rfl) rfl (fun ls hl => ?_)
      have hl : lv_has ls 7 [(6, .null), (5, .ref (ad (20 + z11) (10 + 10 * z12))), (0, .ref (ad 0 0)), (1, .int ix), (2, .int kx), (3, .int tx), (4, .int dx)] := hl
      refine lv_aload hx hb xd_De_reads_17 (lv_at hl 1 rfl) ?_
      refine lv_ifnull hx hb xd_De_reads_19 ?_
      refine lv_aloadN hx hb xd_De_reads_22 (lv_at hl 0 rfl) ?_
      refine lv_ifnullN (tgt := 44) hx hb xd_De_reads_24 (by decide) ?_
      refine lv_iconst (v := 0) hx hb xd_De_reads_44 (by decide) ?_
      exact W.zret (v := 0) hx hb hr rfl (fun t ht hW => ⟨⟨0, (), rfl, Or.inr ⟨rfl, fun ⟨la9, kn9, lb9, db9, _, q2, _⟩ => z127 ⟨lb9, db9, q2⟩⟩, by rw [ht]; exact hP, hD⟩, hS.F ht⟩) hS.2.2 xd_De_reads_45
    · refine W.eq (g2 := F0 m 15 ls [.ref (ad (20 + z128) (10 + 10 * z129))]) rfl ?_
      have hlx_hkq2 : z128 < ml := z130.1
      obtain ⟨m0_133, m1_133, pv_133, op_133, mk_133, fm_133, hmk_133, hpv_133, q0_133, q1_133, hk_133⟩ := id (hLIs z128 (by omega))
      have c_134 : E (20 + z128) 0 = .inr (5, [.int (nI z128), pv_133, .ref (ad (20 + z128) 1), .int op_133]) := q0_133
      have m_135 : (20 + z128, 0) ∈ RL := m0_133
      have c_136 : E (20 + z128) 1 = .inl (kA 6, mk_133, .inr (.inr (.inr (.inr fm_133)))) := q1_133
      have m_137 : (20 + z128, 1) ∈ RL := m1_133
      obtain ⟨top_133, ⟨lq_133, hlq_133, h19_133, hpv2_133⟩, h20_133, tmd_133⟩ := TLa_get c_134 c_136 (hTL z128 (by omega))
      have c_138 : E (20 + z128) 0 = .inr (5, [.int (nI z128), (lyv ad lq_133), .ref (ad (20 + z128) 1), .int op_133]) := by rw [← hpv2_133]; exact c_134
      have i20_133 : iN (g 20 z128) = mk_133 := by rw [h20_133, iN_nI (by omega)]
      have hkq2 : z129 < mk_133 := by have q := (show z129 < iN (g 20 z128) from z131); rw [i20_133] at q; exact q
      obtain ⟨hm_139, d_139, rs_139, fr_139, g2_139, g3_139, g4_139, hd_139, hrs_139, q0_139, q1_139, q2_139, q3_139, q4_139, q5_139, q6_139, q7_139⟩ := id z132
      have c_140 : E (20 + z128) (10 + 10 * z129) = .inr (6, [.ref (ad (20 + z128) 0), .ref (ad (1 + d_139) 0), .ref (ad (20 + z128) (11 + 10 * z129)), .ref (ad (20 + z128) (12 + 10 * z129)), .ref (ad (20 + z128) (13 + 10 * z129)), .ref (ad (20 + z128) (14 + 10 * z129))]) := q0_139
      have m_141 : (20 + z128, 10 + 10 * z129) ∈ RL := hm_139 0 (by decide)
      have c_142 : E (20 + z128) (11 + 10 * z129) = .inl (kA 6, rs_139, .inr (.inr (.inr (.inr fr_139)))) := q1_139
      have m_143 : (20 + z128, 11 + 10 * z129) ∈ RL := hm_139 1 (by decide)
      have c_144 : E (20 + z128) (12 + 10 * z129) = .inr (10, [.ref (ad (20 + z128) (15 + 10 * z129))]) := q2_139
      have m_145 : (20 + z128, 12 + 10 * z129) ∈ RL := hm_139 2 (by decide)
      have c_146 : E (20 + z128) (13 + 10 * z129) = .inr (10, [.ref (ad (20 + z128) (16 + 10 * z129))]) := q3_139
      have m_147 : (20 + z128, 13 + 10 * z129) ∈ RL := hm_139 3 (by decide)
      have c_148 : E (20 + z128) (14 + 10 * z129) = .inr (10, [.ref (ad (20 + z128) (17 + 10 * z129))]) := q4_139
      have m_149 : (20 + z128, 14 + 10 * z129) ∈ RL := hm_139 4 (by decide)
      have c_150 : E (20 + z128) (15 + 10 * z129) = .inl (kA 0, 6, .inl g2_139) := q5_139
      have m_151 : (20 + z128, 15 + 10 * z129) ∈ RL := hm_139 5 (by decide)
      have c_152 : E (20 + z128) (16 + 10 * z129) = .inl (kA 0, 6, .inl g3_139) := q6_139
      have m_153 : (20 + z128, 16 + 10 * z129) ∈ RL := hm_139 6 (by decide)
      have c_154 : E (20 + z128) (17 + 10 * z129) = .inl (kA 0, 6, .inl g4_139) := q7_139
      have m_155 : (20 + z128, 17 + 10 * z129) ∈ RL := hm_139 7 (by decide)
      have hdm_139 : mdv g z128 z129 = d_139 := by
        obtain ⟨dz, hdz, h21z, hvz⟩ := tmd_133 z129 (by omega)
        rw [c_140] at hvz
        have ez := (rp_inj hD ((hDIs d_139 hd_139).1 0 (by omega)) ((hDIs dz hdz).1 0 (by omega)) (Value.ref.inj hvz)).1
        unfold mdv
        rw [h21z, iN_nI (by omega)]; omega
      obtain ⟨hm_156, fd_156, nm_156, sd_156, k0_156, k1_156, k2_156, k3_156, f0_156, f1_156, f2_156, f3_156, fe_156, fo_156, tr_156, op_156, hk0_156, hk1_156, hk2_156, hk3_156, q0_156, q1_156, q2_156, q3_156, q4_156, q5_156, q6_156, q7_156, q8_156, q9_156, q10_156, q11_156, q12_156, hg_156⟩ := id (hDIs d_139 (by omega))
      have c_157 : E (1 + d_139) 0 = .inr (7, [.int (nI d_139), .int fd_156, .int nm_156, .ref (ad (1 + d_139) 1), .ref (ad (1 + d_139) 9), .ref (ad (1 + d_139) 10), .ref (ad (1 + d_139) 2), .ref (ad (1 + d_139) 11), .ref (ad (1 + d_139) 12), .ref (ad (1 + d_139) 3), .ref (ad (1 + d_139) 4), .int sd_156]) := q0_156
      have m_158 : (1 + d_139, 0) ∈ RL := hm_156 0 (by decide)
      have c_159 : E (1 + d_139) 1 = .inr (8, [.ref (ad (1 + d_139) 5), .int (nI k0_156)]) := q1_156
      have m_160 : (1 + d_139, 1) ∈ RL := hm_156 1 (by decide)
      have c_161 : E (1 + d_139) 2 = .inr (8, [.ref (ad (1 + d_139) 6), .int (nI k1_156)]) := q2_156
      have m_162 : (1 + d_139, 2) ∈ RL := hm_156 2 (by decide)
      have c_163 : E (1 + d_139) 3 = .inr (8, [.ref (ad (1 + d_139) 7), .int (nI k2_156)]) := q3_156
      have m_164 : (1 + d_139, 3) ∈ RL := hm_156 3 (by decide)
      have c_165 : E (1 + d_139) 4 = .inr (8, [.ref (ad (1 + d_139) 8), .int (nI k3_156)]) := q4_156
      have m_166 : (1 + d_139, 4) ∈ RL := hm_156 4 (by decide)
      have c_167 : E (1 + d_139) 5 = .inl (kA 0, 6, .inl f0_156) := q5_156
      have m_168 : (1 + d_139, 5) ∈ RL := hm_156 5 (by decide)
      have c_169 : E (1 + d_139) 6 = .inl (kA 0, 5, .inl f1_156) := q6_156
      have m_170 : (1 + d_139, 6) ∈ RL := hm_156 6 (by decide)
      have c_171 : E (1 + d_139) 7 = .inl (kA 0, 3, .inl f2_156) := q7_156
      have m_172 : (1 + d_139, 7) ∈ RL := hm_156 7 (by decide)
      have c_173 : E (1 + d_139) 8 = .inl (kA 0, 3, .inl f3_156) := q8_156
      have m_174 : (1 + d_139, 8) ∈ RL := hm_156 8 (by decide)
      have c_175 : E (1 + d_139) 9 = .inl (kA 8, 6, .inr (.inr (.inr (.inr fe_156)))) := q9_156
      have m_176 : (1 + d_139, 9) ∈ RL := hm_156 9 (by decide)
      have c_177 : E (1 + d_139) 10 = .inl (kA 8, 6, .inr (.inr (.inr (.inr fo_156)))) := q10_156
      have m_178 : (1 + d_139, 10) ∈ RL := hm_156 10 (by decide)
      have c_179 : E (1 + d_139) 11 = .inl (kA 2, 5, .inl tr_156) := q11_156
      have m_180 : (1 + d_139, 11) ∈ RL := hm_156 11 (by decide)
      have c_181 : E (1 + d_139) 12 = .inl (kA 2, 5, .inl op_156) := q12_156
      have m_182 : (1 + d_139, 12) ∈ RL := hm_156 12 (by decide)
      have hg_156 : ∀ w9, w9 < k0_156 → fe_156 w9 = some (ad (1 + d_139) (20 + 3 * w9)) ∧ fo_156 w9 = some (ad (1 + d_139) (38 + 3 * w9)) ∧ GI kA (ad (1 + d_139)) (E (1 + d_139)) (fun o => (1 + d_139, o) ∈ RL) (20 + 3 * w9) (21 + 3 * w9) (22 + 3 * w9) ∧ GI kA (ad (1 + d_139)) (E (1 + d_139)) (fun o => (1 + d_139, o) ∈ RL) (38 + 3 * w9) (39 + 3 * w9) (40 + 3 * w9) := hg_156
      obtain ⟨hTT_156, tgr_156⟩ := TD_get hk0_156 hk1_156 hk2_156 hk3_156 c_157 c_159 c_161 c_163 c_165 c_167 c_169 c_171 c_173 c_179 c_181 (hTD d_139 (by omega))
      obtain ⟨tfd_156, tnm_156, tsd_156, tk0_156, tf0_156, tk1_156, tf1_156, tk2_156, tk3_156⟩ := id hTT_156
      have ik0_156 : iN (g 5 d_139) = k0_156 := by rw [← tk0_156, iN_nI (by omega)]
      have ik1_156 : iN (g 12 d_139) = k1_156 := by rw [← tk1_156, iN_nI (by omega)]
      refine lv_astore hx hb xd_De_reads_15 hl (Nat.le_of_ble_eq_true rfl) rfl (fun ls hl => ?_)
      have hl : lv_has ls 7 [(6, .ref (ad (20 + z128) (10 + 10 * z129))), (5, .ref (ad (20 + z11) (10 + 10 * z12))), (0, .ref (ad 0 0)), (1, .int ix), (2, .int kx), (3, .int tx), (4, .int dx)] := hl
      refine lv_aload hx hb xd_De_reads_17 (lv_at hl 1 rfl) ?_
      refine lv_ifnull hx hb xd_De_reads_19 ?_
      refine lv_aload hx hb xd_De_reads_22 (lv_at hl 0 rfl) ?_
      refine lv_ifnull hx hb xd_De_reads_24 ?_
      refine lv_aload hx hb xd_De_reads_27 (lv_at hl 1 rfl) ?_
      refine px_get (D := D) (ci := 6) (v := .ref (ad (20 + z11) (14 + 10 * z12))) (C := xR_Me) (T := xT_Me) (N := 6) hx hb hT xi_Me hown hK.1 hP m_82 c_81 rfl 5 (by decide) (hT _ k7x_22) (fun _ h9 => h9) rfl xd_De_reads_29 ?_
      refine lv_aload hx hb xd_De_reads_32 (lv_at hl 0 rfl) ?_
      have hFc := px_free hD hS hA
      refine va_calli (va_runV (As := [.ref (ad (20 + z128) (10 + 10 * z129))]) (rest := []) ⟨hx, hb, hml, hown, hT⟩ (xc_Re_marks l D kA H.size ad E RL (20 + z11) (14 + 10 * z12) (17 + 10 * z12) g4_80 z128 z129 d_139 (lyv ad lq_133) op_133 fd_156 nm_156 sd_156 m_90 c_89 m_96 c_95 m_141 c_140 m_135 c_138 m_158 c_157 (by first | assumption | omega)) (cwV 1 hT (wT_V k7x_24 k7x_25 k7x_26 k7x_27 k7x_23) rfl rfl rfl (by decide +kernel) ⟨Nat.le_of_ble_eq_true rfl, Nat.le_of_ble_eq_true rfl⟩) (px_preV hK hP hD m_90 c_89 rfl) rfl rfl hl.1 rfl (lv_room (Nat.le_of_ble_eq_true rfl)) xd_De_reads_34 ⟨(Nat.le_of_ble_eq_true rfl), (Nat.le_of_ble_eq_true rfl)⟩) hS (fun q _ h => hFc q h) hFc (fun r183 u184 t H1 locs ht hvm hp185 hB hz1 hk1 hS => ?_)
      obtain ⟨hP1, hD1⟩ := hB
      rw [ht] at hP1
      have hD1 := hD1.weaken (fun _ _ _ h => hFc _ h)
      generalize H1 = H at hP1 hS ⊢
      have hP := hP1
      have hD := hD1
      have hP : va_P D xcl (rp ad E RL) H := hP
      have hD : va_D A (rp ad E RL) := hD
      have hbit : ¬ ((g4_80 z128 >>> (nI d_139 &&& 31)) &&& 1) = 0 ↔ rdQ g z11 (mdv g z11 z12) (12 * z128 + mdv g z128 z129) := (BS_marks (f := g4_80) (n := z128) (d := d_139) (by omega)).trans (by have q := hRB z11 z13.1 z12 z13.2.2.2.2 (12 * z128 + d_139) (by have q9 := z130.1; omega); rw [c_95] at q; rw [hdm_139]; exact q)
      rcases hp185 with ⟨rfl, z186⟩ | ⟨rfl, z187⟩
      · refine W.eq (g2 := F0 m 37 ls [.int 1]) rfl ?_
        refine lv_if_eq (tgt := 44) hx hb xd_De_reads_37 (by decide) (fun hc188 => absurd hc188 (by decide)) (fun _ => ?_)
        refine lv_iconst (v := 1) hx hb xd_De_reads_40 (by decide) ?_
        refine lv_goto (tgt := 45) hx hb xd_De_reads_41 (by decide) ?_
        exact W.zret (v := 1) hx hb hr rfl (fun t ht hW => ⟨⟨1, (), rfl, Or.inl ⟨rfl, _, _, _, _, z13, z130, hbit.mp z186⟩, by rw [ht]; exact hP, hD⟩, hS.F ht⟩) hS.2.2 xd_De_reads_45
      · refine W.eq (g2 := F0 m 37 ls [.int 0]) rfl ?_
        refine lv_if_eq (tgt := 44) hx hb xd_De_reads_37 (by decide) (fun _ => ?_) (fun hc189 => absurd (by decide) hc189)
        refine lv_iconst (v := 0) hx hb xd_De_reads_44 (by decide) ?_
        exact W.zret (v := 0) hx hb hr rfl (fun t ht hW => ⟨⟨0, (), rfl, Or.inr ⟨rfl, fun ⟨la9, kn9, lb9, db9, q1, q2, q3⟩ => by
        obtain ⟨e1, e2⟩ := moQ_u (by omega) hmcb q1 z13
        obtain ⟨e3, e4⟩ := thQ_u (by omega) hnd12 q2 z130
        rw [e1, e2, e3, e4] at q3
        exact hbit.mpr q3 z187⟩, by rw [ht]; exact hP, hD⟩, hS.F ht⟩) hS.2.2 xd_De_reads_45
theorem k7e_0 : (Cond.code xy_De_line xb_De_line 2 (some .int)) ∈ wT := wT_t (List.mem_append_left _ (List.mem_of_getElem? (i := 186) rfl)) rfl
theorem k7e_1 : (Cond.methodLink "LayerDeskLaw" 7 xy_De_line) ∈ wT := wT_t (List.mem_append_left _ (List.mem_of_getElem? (i := 183) rfl)) rfl
theorem k7e_2 : (Cond.instanceMethod xy_De_line) ∈ wT := wT_t (List.mem_append_left _ (List.mem_of_getElem? (i := 184) rfl)) rfl
theorem k7e_3 : (Cond.selects "LayerDesk" xy_De_line xy_De_line) ∈ wT := wT_t (List.mem_append_left _ (List.mem_of_getElem? (i := 185) rfl)) rfl
theorem k7e_4 : (Cond.initialized "LayerDesk") ∈ wT := wT_t (List.mem_append_left _ (List.mem_of_getElem? (i := 1) rfl)) rfl
theorem k7e_5 : (Cond.classLink "LayerDeskLaw" 13 "java/lang/IllegalArgumentException") ∈ wT := wT_t (List.mem_append_left _ (List.mem_of_getElem? (i := 181) rfl)) rfl
theorem k7e_6 : (Cond.classLink "LayerDeskLaw" 15 "java/lang/IllegalStateException") ∈ wT := wT_t (List.mem_append_left _ (List.mem_of_getElem? (i := 182) rfl)) rfl
theorem k7e_7 : (Cond.code xy_De_layer xb_De_layer 7 (some .int)) ∈ wT := wT_t (List.mem_append_right _ (List.mem_append_right _ (List.mem_append_left _ (List.mem_of_getElem? (i := 55) rfl)))) rfl
theorem k7e_8 : (Cond.methodLink "LayerDeskLaw" 17 xy_De_layer) ∈ wT := wT_t (List.mem_append_right _ (List.mem_append_right _ (List.mem_append_left _ (List.mem_of_getElem? (i := 52) rfl)))) rfl
theorem k7e_9 : (Cond.instanceMethod xy_De_layer) ∈ wT := wT_t (List.mem_append_right _ (List.mem_append_right _ (List.mem_append_left _ (List.mem_of_getElem? (i := 53) rfl)))) rfl
theorem k7e_10 : (Cond.selects "LayerDesk" xy_De_layer xy_De_layer) ∈ wT := wT_t (List.mem_append_right _ (List.mem_append_right _ (List.mem_append_left _ (List.mem_of_getElem? (i := 54) rfl)))) rfl
theorem k7e_11 : (Cond.classLink "LayerDeskLaw" 21 "java/util/NoSuchElementException") ∈ wT := wT_t (List.mem_append_right _ (List.mem_append_right _ (List.mem_append_left _ (List.mem_of_getElem? (i := 51) rfl)))) rfl
theorem k7e_12 : (Cond.code xy_De_load xb_De_load 6 (some .int)) ∈ wT := wT_t (List.mem_append_right _ (List.mem_append_right _ (List.mem_append_right _ (List.mem_append_left _ (List.mem_of_getElem? (i := 38) rfl))))) rfl
theorem k7e_13 : (Cond.methodLink "LayerDeskLaw" 23 xy_De_load) ∈ wT := wT_t (List.mem_append_right _ (List.mem_append_right _ (List.mem_append_right _ (List.mem_append_left _ (List.mem_of_getElem? (i := 35) rfl))))) rfl
theorem k7e_14 : (Cond.instanceMethod xy_De_load) ∈ wT := wT_t (List.mem_append_right _ (List.mem_append_right _ (List.mem_append_right _ (List.mem_append_left _ (List.mem_of_getElem? (i := 36) rfl))))) rfl
theorem k7e_15 : (Cond.selects "LayerDesk" xy_De_load xy_De_load) ∈ wT := wT_t (List.mem_append_right _ (List.mem_append_right _ (List.mem_append_right _ (List.mem_append_left _ (List.mem_of_getElem? (i := 37) rfl))))) rfl
theorem k7e_16 : (Cond.code xy_De_peek xb_De_peek 8 (some .boolean)) ∈ wT := wT_t (List.mem_append_right _ (List.mem_append_right _ (List.mem_append_right _ (List.mem_append_left _ (List.mem_of_getElem? (i := 59) rfl))))) rfl
theorem k7e_17 : (Cond.methodLink "LayerDeskLaw" 27 xy_De_peek) ∈ wT := wT_t (List.mem_append_right _ (List.mem_append_right _ (List.mem_append_right _ (List.mem_append_left _ (List.mem_of_getElem? (i := 56) rfl))))) rfl
theorem k7e_18 : (Cond.instanceMethod xy_De_peek) ∈ wT := wT_t (List.mem_append_right _ (List.mem_append_right _ (List.mem_append_right _ (List.mem_append_left _ (List.mem_of_getElem? (i := 57) rfl))))) rfl
theorem k7e_19 : (Cond.selects "LayerDesk" xy_De_peek xy_De_peek) ∈ wT := wT_t (List.mem_append_right _ (List.mem_append_right _ (List.mem_append_right _ (List.mem_append_left _ (List.mem_of_getElem? (i := 58) rfl))))) rfl
theorem k7e_20 : (Cond.code xy_De_provider xb_De_provider 6 (some .int)) ∈ wT := wT_t (List.mem_append_right _ (List.mem_append_right _ (List.mem_append_right _ (List.mem_append_left _ (List.mem_of_getElem? (i := 71) rfl))))) rfl
theorem k7e_21 : (Cond.methodLink "LayerDeskLaw" 31 xy_De_provider) ∈ wT := wT_t (List.mem_append_right _ (List.mem_append_right _ (List.mem_append_right _ (List.mem_append_left _ (List.mem_of_getElem? (i := 68) rfl))))) rfl
theorem k7e_22 : (Cond.instanceMethod xy_De_provider) ∈ wT := wT_t (List.mem_append_right _ (List.mem_append_right _ (List.mem_append_right _ (List.mem_append_left _ (List.mem_of_getElem? (i := 69) rfl))))) rfl
theorem k7e_23 : (Cond.selects "LayerDesk" xy_De_provider xy_De_provider) ∈ wT := wT_t (List.mem_append_right _ (List.mem_append_right _ (List.mem_append_right _ (List.mem_append_left _ (List.mem_of_getElem? (i := 70) rfl))))) rfl
set_option maxHeartbeats 4000000 in
set_option maxRecDepth 100000 in
theorem xc_La_lineX (l : Launch) (hlt : l.stackTraces = false) (D : va_G) (kA : Nat → ClassId) (sz : Nat) (ad : Nat → Nat → Nat) (E : Nat → Nat → va_E) (RL : List (Nat × Nat)) (Z : zT) (g : Nat → Nat → Int32) (ml : Nat) (nd : Nat) (len : Nat) (wn : Nat) (cs : Nat) (ob : Nat) (fo : Nat → Int64) (hCI : CI kA ad E RL ml nd len wn cs) (hTD : TDs g E nd) (hZI : ZI g nd) (hTX : ∀ i, i < len → eA (E 0 2) i = g 0 i) : Met l xy_La_line (.codeWith xy_La_line xb_La_line 3 (some .int) [(0, 8, 11, 13), (0, 8, 14, 15)] :: wT) { frames := 8, cells := 14, slots := 72, locals := 176 } (va_Pc [.ref (ad 0 0), .ref ob] (xPreZ D kA sz ((ob, .inl (kA 3, 1, .inr (.inl fo))) :: rp ad E RL) Z)) (va_Qi (fun (r : Int32) (u : ((Nat → Nat → Nat) × (Nat → Nat → va_E) × List (Nat × Nat)) × (Nat → Int64)) => (∃ wn2, CI kA u.1.1 u.1.2.1 u.1.2.2 ml (lnF (g 0) (w_all (g 0) len) nd g).1 0 wn2 cs) ∧ TDs (lnF (g 0) (w_all (g 0) len) nd g).2 u.1.2.1 (lnF (g 0) (w_all (g 0) len) nd g).1 ∧ u.1.1 0 0 = ad 0 0 ∧ FRL ml nd ad u.1.1 E u.1.2.1) (fun (u : ((Nat → Nat → Nat) × (Nat → Nat → va_E) × List (Nat × Nat)) × (Nat → Int64)) t => va_P D xcl ((ob, .inl (kA 3, 1, .inr (.inl u.2))) :: rp u.1.1 u.1.2.1 u.1.2.2) t.heap ∧ va_D (va_A ((ob, .inl (kA 3, 1, .inr (.inl fo))) :: rp ad E RL) sz) ((ob, .inl (kA 3, 1, .inr (.inl u.2))) :: rp u.1.1 u.1.2.1 u.1.2.2)) (va_A ((ob, .inl (kA 3, 1, .inr (.inl fo))) :: rp ad E RL) sz)) 14 72 (va_A ((ob, .inl (kA 3, 1, .inr (.inl fo))) :: rp ad E RL) sz) := by
  refine va_MetW (cc := xb_La_line) (maxL := 3) (ret := (some .int)) (by decide) rfl ?_
  intro p e s m args below meth c s₁ B hml hv
  obtain ⟨rfl, ⟨hsz, hP, hK, hD0⟩, hZ⟩ := hv
  have hx := B.exec
  have hb := B.bytes
  have hr := B.returns
  have hT := x_hT B.pre
  have hown : s.vm.findClass xR_La = some m.cls := findClass_of_methodNamed B.named
  have hlocks := B.notSynchronized
  subst hsz
  have hD := hD0.self (sz := s.heap.size)
  generalize hAe : va_A ((ob, .inl (kA 3, 1, .inr (.inl fo))) :: rp ad E RL) s.heap.size = A at hD hZ ⊢
  have hA : ∀ q : Nat, s.heap.size ≤ q → A q := fun q h => by rw [← hAe]; exact Or.inr h
  have hS : va_S A s.heap s.heap [] := va_S.rf
  have hl := lv_entry ([.ref (ad 0 0), .ref ob]) (n := 3) (Nat.le_of_ble_eq_true rfl)
  rw [lg_entry_eq]
  generalize (lg_sl ([.ref (ad 0 0), .ref ob]) ++ List.replicate (3 - (lg_sl ([.ref (ad 0 0), .ref ob])).length) Slot.unset).toArray = ls at hl ⊢
  have hl : lv_has ls 3 [(0, .ref (ad 0 0)), (1, .ref ob)] := hl
  have hP : va_P D xcl ((ob, .inl (kA 3, 1, .inr (.inl fo))) :: rp ad E RL) s.heap := hP
  have hex := vx_table (x := xy_La_line) B (atoms_spec (ws := .codeWith xy_La_line xb_La_line 3 (some .int) [(0, 8, 11, 13), (0, 8, 14, 15)] :: wT) B.pre _ List.mem_cons_self)
  refine lv_aload_n hx hb xd_La_line_0 rfl (lv_at hl 1 rfl) ?_
  refine lv_iconst (v := 0) hx hb xd_La_line_1 (by decide) ?_
  refine lv_aload_n hx hb xd_La_line_2 rfl (lv_at hl 0 rfl) ?_
  have hPc := xp_P (X := [(ob, .inl (kA 3, 1, .inr (.inl fo)))]) hP
  have hDc := xp_D (X := [(ob, .inl (kA 3, 1, .inr (.inl fo)))]) hD
  have hFc := va_freeP (X := [(ob, .inl (kA 3, 1, .inr (.inl fo)))]) (cx := []) hD hS hA [] rfl
  have hZc := hZ.kept hS
  obtain ⟨lf, hc0⟩ := hCI.2.1
  refine vx_calli (vx_runV (As := []) (rest := [.int 0, .ref ob]) ⟨hx, hb, hml, hown, hT⟩ (xc_De_lineX l hlt D kA s.heap.size ad E RL Z g ml nd len wn cs hCI hTD hZI hTX) (cwV 0 hT (wT_V k7e_1 k7e_2 k7e_3 k7e_4 k7e_0) rfl rfl rfl (by decide +kernel) ⟨Nat.le_of_ble_eq_true rfl, Nat.le_of_ble_eq_true rfl⟩) (px_preVZ hK hPc hDc (hCI.1 0 (by decide)) hc0 rfl hFc hZc) rfl rfl hl.1 rfl (lv_room (Nat.le_of_ble_eq_true rfl)) xd_La_line_3 ⟨Nat.le_of_ble_eq_true rfl, Nat.le_of_ble_eq_true rfl⟩) hS (fun q _ h => hFc q h) hFc (fun q _ h => hFc q h) (fun E9 ce q9 u t H1 locs ht hvm hpost hB hz1 hk1 hS hce hcv hcl => ?_) (fun r u t H1 locs ht hvm hpost hB hz1 hk1 hS => ?_)
  · obtain ⟨hE9, hP1, hD1⟩ := hB
    rw [ht] at hP1
    obtain ⟨hP, hD⟩ := va_joinP (X := [(ob, .inl (kA 3, 1, .inr (.inl fo)))]) (cx := []) (wr := [(ob, .inl (kA 3, 1, .inr (.inl fo)))]) (rx := []) hP hD [] [0] rfl rfl (by decide) (by decide) hk1 hFc hP1 hD1
    generalize H1 = H at hP hS hce ⊢
    have hl := lv_sub hl [1] rfl
    have hl : lv_has ls 3 [(1, .ref ob)] := hl
    have hP : va_P D xcl ((ob, .inl (kA 3, 1, .inr (.inl fo))) :: rp u.1 u.2.1 u.2.2) H := hP
    have hD : va_D A ((ob, .inl (kA 3, 1, .inr (.inl fo))) :: rp u.1 u.2.1 u.2.2) := hD
    rcases hE9 with rfl | rfl
    · refine vx_catch (own := "LayerDeskLaw") (name := "java/lang/IllegalArgumentException") hown [] ⟨0, 8, 11, 13⟩ [⟨0, 8, 14, 15⟩] (by rw [hex]; rfl) (fun z hz => nomatch hz) rfl (by decide) (hT _ k7e_5) (va_Nw.use rfl hK.2.2.2.2.2.1) hce hcv hcl ?_
      refine lv_astore_n hx hb xd_La_line_11 rfl hl (Nat.le_of_ble_eq_true rfl) rfl (fun ls hl => ?_)
      have hl : lv_has ls 3 [(2, .ref q9), (1, .ref ob)] := hl
      refine lv_iconst (v := 1) hx hb xd_La_line_12 (by decide) ?_
      refine W.widen (k := 14) (n := 72) (Nat.le_of_ble_eq_true rfl) (Nat.le_of_ble_eq_true rfl) ?_
      exact W.iret (v := 1) hx hb hr (fun t ht hW => ⟨⟨1, ((u.1, u.2.1, u.2.2), fo), rfl, hpost, by rw [ht]; exact hP, hD⟩, hS.F ht⟩) hS.2.2 xd_La_line_13
    · refine vx_catch (own := "LayerDeskLaw") (name := "java/lang/IllegalStateException") hown [⟨0, 8, 11, 13⟩] ⟨0, 8, 14, 15⟩ [] (by rw [hex]; rfl) (fun z hz => by rw [List.mem_singleton] at hz; subst hz; exact Or.inr ⟨(by decide), "java/lang/IllegalArgumentException", hT _ k7e_5, hZ.2.2.2.2.1⟩) rfl (by decide) (hT _ k7e_6) (va_Nw.use rfl hK.2.2.2.2.2.2.1) hce hcv hcl ?_
      refine lv_astore_n hx hb xd_La_line_14 rfl hl (Nat.le_of_ble_eq_true rfl) rfl (fun ls hl => ?_)
      have hl : lv_has ls 3 [(2, .ref q9), (1, .ref ob)] := hl
      refine lv_iconst (v := 2) hx hb xd_La_line_15 (by decide) ?_
      refine W.widen (k := 14) (n := 72) (Nat.le_of_ble_eq_true rfl) (Nat.le_of_ble_eq_true rfl) ?_
      exact W.iret (v := 2) hx hb hr (fun t ht hW => ⟨⟨2, ((u.1, u.2.1, u.2.2), fo), rfl, hpost, by rw [ht]; exact hP, hD⟩, hS.F ht⟩) hS.2.2 xd_La_line_16
  · obtain ⟨hP1, hD1⟩ := hB
    rw [ht] at hP1
    obtain ⟨hP, hD⟩ := va_joinP (X := [(ob, .inl (kA 3, 1, .inr (.inl fo)))]) (cx := []) (wr := [(ob, .inl (kA 3, 1, .inr (.inl fo)))]) (rx := []) hP hD [] [0] rfl rfl (by decide) (by decide) hk1 hFc hP1 hD1
    generalize H1 = H at hP hS ⊢
    have hl := lv_sub hl [1] rfl
    have hl : lv_has ls 3 [(1, .ref ob)] := hl
    have hP : va_P D xcl ((ob, .inl (kA 3, 1, .inr (.inl fo))) :: rp u.1 u.2.1 u.2.2) H := hP
    have hD : va_D A ((ob, .inl (kA 3, 1, .inr (.inl fo))) :: rp u.1 u.2.1 u.2.2) := hD
    refine lv_i2l (v := ((r : Int32).toInt64)) hx hb xd_La_line_6 rfl ?_
    refine va_last hx hb hK.1 hP hD hS 0 3 rfl rfl (show ¬ _ by decide) xd_La_line_7 (fun H locs hP hD hS => ?_)
    have hP : va_P D xcl ((ob, .inl (kA 3, 1, .inr (.inl (vp_updL fo (0 : Int32).toNatClampNeg ((r : Int32).toInt64))))) :: rp u.1 u.2.1 u.2.2) H := hP
    have hD : va_D A ((ob, .inl (kA 3, 1, .inr (.inl (vp_updL fo (0 : Int32).toNatClampNeg ((r : Int32).toInt64))))) :: rp u.1 u.2.1 u.2.2) := hD
    refine lv_goto (tgt := 17) hx hb xd_La_line_8 (by decide) ?_
    refine lv_iconst (v := 0) hx hb xd_La_line_17 (by decide) ?_
    refine W.widen (k := 14) (n := 72) (Nat.le_of_ble_eq_true rfl) (Nat.le_of_ble_eq_true rfl) ?_
    exact W.iret (v := 0) hx hb hr (fun t ht hW => ⟨⟨0, ((u.1, u.2.1, u.2.2), (vp_updL fo (0 : Int32).toNatClampNeg ((r : Int32).toInt64))), rfl, hpost, by rw [ht]; exact hP, hD⟩, hS.F ht⟩) hS.2.2 xd_La_line_18
set_option maxHeartbeats 4000000 in
set_option maxRecDepth 100000 in
theorem xc_La_layerX (l : Launch) (hlt : l.stackTraces = false) (D : va_G) (kA : Nat → ClassId) (sz : Nat) (ad : Nat → Nat → Nat) (E : Nat → Nat → va_E) (RL : List (Nat × Nat)) (Z : zT) (g : Nat → Nat → Int32) (ml : Nat) (nd : Nat) (len : Nat) (wn : Nat) (cs : Nat) (ob : Nat) (fo : Nat → Int64) (fi : Int32) (px : Int32) (bi : Int32) (hCI : CI kA ad E RL ml nd len wn cs) (hTD : TDs g E nd) (hTL : TLas g ad E nd ml) (hCB : CBs g E ml) (hTX : ∀ i, i < len → eA (E 0 2) i = g 0 i) (hNZ : NZ g nd) (hUQ : ∀ d, d < nd → UQ1 g d) (hND : NDq g ml) : Met l xy_La_layer (.codeWith xy_La_layer xb_La_layer 6 (some .int) [(0, 12, 15, 13), (0, 12, 19, 21), (0, 12, 23, 15)] :: wT) { frames := 24, cells := 101, slots := 430, locals := 1310 } (va_Pc [.ref (ad 0 0), .int fi, .int px, .int bi, .ref ob] (xPreZ D kA sz ((ob, .inl (kA 3, 1, .inr (.inl fo))) :: rp ad E RL) Z)) (va_Qi (fun (r : Int32) (u : ((Nat → Nat → Nat) × (Nat → Nat → va_E) × List (Nat × Nat)) × (Nat → Int64)) => YP kA g ad E ml nd len fi px bi r u.1.1 u.1.2.1 u.1.2.2 (u.2 0)) (fun (u : ((Nat → Nat → Nat) × (Nat → Nat → va_E) × List (Nat × Nat)) × (Nat → Int64)) t => va_P D xcl ((ob, .inl (kA 3, 1, .inr (.inl u.2))) :: rp u.1.1 u.1.2.1 u.1.2.2) t.heap ∧ va_D (va_A ((ob, .inl (kA 3, 1, .inr (.inl fo))) :: rp ad E RL) sz) ((ob, .inl (kA 3, 1, .inr (.inl u.2))) :: rp u.1.1 u.1.2.1 u.1.2.2)) (va_A ((ob, .inl (kA 3, 1, .inr (.inl fo))) :: rp ad E RL) sz)) 101 430 (va_A ((ob, .inl (kA 3, 1, .inr (.inl fo))) :: rp ad E RL) sz) := by
  refine va_MetW (cc := xb_La_layer) (maxL := 6) (ret := (some .int)) (by decide) rfl ?_
  intro p e s m args below meth c s₁ B hml hv
  obtain ⟨rfl, ⟨hsz, hP, hK, hD0⟩, hZ⟩ := hv
  have hx := B.exec
  have hb := B.bytes
  have hr := B.returns
  have hT := x_hT B.pre
  have hown : s.vm.findClass xR_La = some m.cls := findClass_of_methodNamed B.named
  have hlocks := B.notSynchronized
  subst hsz
  have hD := hD0.self (sz := s.heap.size)
  generalize hAe : va_A ((ob, .inl (kA 3, 1, .inr (.inl fo))) :: rp ad E RL) s.heap.size = A at hD hZ ⊢
  have hA : ∀ q : Nat, s.heap.size ≤ q → A q := fun q h => by rw [← hAe]; exact Or.inr h
  have hS : va_S A s.heap s.heap [] := va_S.rf
  have hl := lv_entry ([.ref (ad 0 0), .int fi, .int px, .int bi, .ref ob]) (n := 6) (Nat.le_of_ble_eq_true rfl)
  rw [lg_entry_eq]
  generalize (lg_sl ([.ref (ad 0 0), .int fi, .int px, .int bi, .ref ob]) ++ List.replicate (6 - (lg_sl ([.ref (ad 0 0), .int fi, .int px, .int bi, .ref ob])).length) Slot.unset).toArray = ls at hl ⊢
  have hl : lv_has ls 6 [(0, .ref (ad 0 0)), (1, .int fi), (2, .int px), (3, .int bi), (4, .ref ob)] := hl
  have hP : va_P D xcl ((ob, .inl (kA 3, 1, .inr (.inl fo))) :: rp ad E RL) s.heap := hP
  have hex := vx_table (x := xy_La_layer) B (atoms_spec (ws := .codeWith xy_La_layer xb_La_layer 6 (some .int) [(0, 12, 15, 13), (0, 12, 19, 21), (0, 12, 23, 15)] :: wT) B.pre _ List.mem_cons_self)
  refine lv_aload hx hb xd_La_layer_0 (lv_at hl 4 rfl) ?_
  refine lv_iconst (v := 0) hx hb xd_La_layer_2 (by decide) ?_
  refine lv_aload_n hx hb xd_La_layer_3 rfl (lv_at hl 0 rfl) ?_
  refine lv_iload_n hx hb xd_La_layer_4 rfl (lv_at hl 1 rfl) ?_
  refine lv_iload_n hx hb xd_La_layer_5 rfl (lv_at hl 2 rfl) ?_
  refine lv_iload_n hx hb xd_La_layer_6 rfl (lv_at hl 3 rfl) ?_
  have hPc := xp_P (X := [(ob, .inl (kA 3, 1, .inr (.inl fo)))]) hP
  have hDc := xp_D (X := [(ob, .inl (kA 3, 1, .inr (.inl fo)))]) hD
  have hFc := va_freeP (X := [(ob, .inl (kA 3, 1, .inr (.inl fo)))]) (cx := []) hD hS hA [] rfl
  have hZc := hZ.kept hS
  obtain ⟨lf, hc0⟩ := hCI.2.1
  refine vx_calli (vx_runV (As := [.int fi, .int px, .int bi]) (rest := [.int 0, .ref ob]) ⟨hx, hb, hml, hown, hT⟩ (xc_De_layerX l hlt D kA s.heap.size ad E RL Z g ml nd len wn cs fi px bi hCI hTD hTL hCB hTX hNZ hUQ hND) (cwV 3 hT (wT_V k7e_8 k7e_9 k7e_10 k7e_4 k7e_7) rfl rfl rfl (by decide +kernel) ⟨Nat.le_of_ble_eq_true rfl, Nat.le_of_ble_eq_true rfl⟩) (px_preVZ hK hPc hDc (hCI.1 0 (by decide)) hc0 rfl hFc hZc) rfl rfl hl.1 rfl (lv_room (Nat.le_of_ble_eq_true rfl)) xd_La_layer_7 ⟨Nat.le_of_ble_eq_true rfl, Nat.le_of_ble_eq_true rfl⟩) hS (fun q _ h => hFc q h) hFc (fun q _ h => hFc q h) (fun E9 ce q9 u t H1 locs ht hvm hpost hB hz1 hk1 hS hce hcv hcl => ?_) (fun r u t H1 locs ht hvm hpost hB hz1 hk1 hS => ?_)
  · obtain ⟨hE9, hP1, hD1⟩ := hB
    rw [ht] at hP1
    obtain ⟨hP, hD⟩ := va_joinP (X := [(ob, .inl (kA 3, 1, .inr (.inl fo)))]) (cx := []) (wr := [(ob, .inl (kA 3, 1, .inr (.inl fo)))]) (rx := []) hP hD [] [0] rfl rfl (by decide) (by decide) hk1 hFc hP1 hD1
    generalize H1 = H at hP hS hce ⊢
    have hl := lv_sub hl [1, 2, 3, 4] rfl
    have hl : lv_has ls 6 [(1, .int fi), (2, .int px), (3, .int bi), (4, .ref ob)] := hl
    have hP : va_P D xcl ((ob, .inl (kA 3, 1, .inr (.inl fo))) :: rp u.1 u.2.1 u.2.2) H := hP
    have hD : va_D A ((ob, .inl (kA 3, 1, .inr (.inl fo))) :: rp u.1 u.2.1 u.2.2) := hD
    rcases hE9 with ⟨rfl, hz9⟩ | ⟨rfl, hz9⟩ | ⟨rfl, hz9⟩
    · refine vx_catch (own := "LayerDeskLaw") (name := "java/lang/IllegalArgumentException") hown [] ⟨0, 12, 15, 13⟩ [⟨0, 12, 19, 21⟩, ⟨0, 12, 23, 15⟩] (by rw [hex]; rfl) (fun z hz => nomatch hz) rfl (by decide) (hT _ k7e_5) (va_Nw.use rfl hK.2.2.2.2.2.1) hce hcv hcl ?_
      refine lv_astore hx hb xd_La_layer_15 hl (Nat.le_of_ble_eq_true rfl) rfl (fun ls hl => ?_)
      have hl : lv_has ls 6 [(5, .ref q9), (1, .int fi), (2, .int px), (3, .int bi), (4, .ref ob)] := hl
      refine lv_iconst (v := 1) hx hb xd_La_layer_17 (by decide) ?_
      refine W.widen (k := 101) (n := 430) (Nat.le_of_ble_eq_true rfl) (Nat.le_of_ble_eq_true rfl) ?_
      exact W.iret (v := 1) hx hb hr (fun t ht hW => ⟨⟨1, ((u.1, u.2.1, u.2.2), fo), rfl, (YP_1 ⟨hpost.1, hpost.2⟩ hz9), by rw [ht]; exact hP, hD⟩, hS.F ht⟩) hS.2.2 xd_La_layer_18
    · refine vx_catch (own := "LayerDeskLaw") (name := "java/util/NoSuchElementException") hown [⟨0, 12, 15, 13⟩] ⟨0, 12, 19, 21⟩ [⟨0, 12, 23, 15⟩] (by rw [hex]; rfl) (fun z hz => by rw [List.mem_singleton] at hz; subst hz; exact Or.inr ⟨(by decide), "java/lang/IllegalArgumentException", hT _ k7e_5, hZ.2.2.2.2.2.1⟩) rfl (by decide) (hT _ k7e_11) (va_Nw.use rfl hK.2.2.2.2.2.2.2) hce hcv hcl ?_
      refine lv_astore hx hb xd_La_layer_19 hl (Nat.le_of_ble_eq_true rfl) rfl (fun ls hl => ?_)
      have hl : lv_has ls 6 [(5, .ref q9), (1, .int fi), (2, .int px), (3, .int bi), (4, .ref ob)] := hl
      refine lv_iconst (v := 2) hx hb xd_La_layer_21 (by decide) ?_
      refine W.widen (k := 101) (n := 430) (Nat.le_of_ble_eq_true rfl) (Nat.le_of_ble_eq_true rfl) ?_
      exact W.iret (v := 2) hx hb hr (fun t ht hW => ⟨⟨2, ((u.1, u.2.1, u.2.2), fo), rfl, (YP_2 ⟨hpost.1, hpost.2⟩ hz9), by rw [ht]; exact hP, hD⟩, hS.F ht⟩) hS.2.2 xd_La_layer_22
    · refine vx_catch (own := "LayerDeskLaw") (name := "java/lang/IllegalStateException") hown [⟨0, 12, 15, 13⟩, ⟨0, 12, 19, 21⟩] ⟨0, 12, 23, 15⟩ [] (by rw [hex]; rfl) (fun z hz => by rcases List.mem_cons.mp hz with hz | hz; subst hz; exact Or.inr ⟨(by decide), "java/lang/IllegalArgumentException", hT _ k7e_5, hZ.2.2.2.2.1⟩; rw [List.mem_singleton] at hz; subst hz; exact Or.inr ⟨(by decide), "java/util/NoSuchElementException", hT _ k7e_11, hZ.2.2.2.2.2.2⟩) rfl (by decide) (hT _ k7e_6) (va_Nw.use rfl hK.2.2.2.2.2.2.1) hce hcv hcl ?_
      refine lv_astore hx hb xd_La_layer_23 hl (Nat.le_of_ble_eq_true rfl) rfl (fun ls hl => ?_)
      have hl : lv_has ls 6 [(5, .ref q9), (1, .int fi), (2, .int px), (3, .int bi), (4, .ref ob)] := hl
      refine lv_iconst (v := 3) hx hb xd_La_layer_25 (by decide) ?_
      refine W.widen (k := 101) (n := 430) (Nat.le_of_ble_eq_true rfl) (Nat.le_of_ble_eq_true rfl) ?_
      exact W.iret (v := 3) hx hb hr (fun t ht hW => ⟨⟨3, ((u.1, u.2.1, u.2.2), fo), rfl, (YP_3 ⟨hpost.1, hpost.2⟩ hz9), by rw [ht]; exact hP, hD⟩, hS.F ht⟩) hS.2.2 xd_La_layer_26
  · obtain ⟨hP1, hD1⟩ := hB
    rw [ht] at hP1
    obtain ⟨hP, hD⟩ := va_joinP (X := [(ob, .inl (kA 3, 1, .inr (.inl fo)))]) (cx := []) (wr := [(ob, .inl (kA 3, 1, .inr (.inl fo)))]) (rx := []) hP hD [] [0] rfl rfl (by decide) (by decide) hk1 hFc hP1 hD1
    generalize H1 = H at hP hS ⊢
    have hl := lv_sub hl [1, 2, 3, 4] rfl
    have hl : lv_has ls 6 [(1, .int fi), (2, .int px), (3, .int bi), (4, .ref ob)] := hl
    have hP : va_P D xcl ((ob, .inl (kA 3, 1, .inr (.inl fo))) :: rp u.1 u.2.1 u.2.2) H := hP
    have hD : va_D A ((ob, .inl (kA 3, 1, .inr (.inl fo))) :: rp u.1 u.2.1 u.2.2) := hD
    refine lv_i2l (v := ((r : Int32).toInt64)) hx hb xd_La_layer_10 rfl ?_
    refine va_last hx hb hK.1 hP hD hS 0 3 rfl rfl (show ¬ _ by decide) xd_La_layer_11 (fun H locs hP hD hS => ?_)
    have hP : va_P D xcl ((ob, .inl (kA 3, 1, .inr (.inl (vp_updL fo (0 : Int32).toNatClampNeg ((r : Int32).toInt64))))) :: rp u.1 u.2.1 u.2.2) H := hP
    have hD : va_D A ((ob, .inl (kA 3, 1, .inr (.inl (vp_updL fo (0 : Int32).toNatClampNeg ((r : Int32).toInt64))))) :: rp u.1 u.2.1 u.2.2) := hD
    refine lv_goto (tgt := 27) hx hb xd_La_layer_12 (by decide) ?_
    refine lv_iconst (v := 0) hx hb xd_La_layer_27 (by decide) ?_
    refine W.widen (k := 101) (n := 430) (Nat.le_of_ble_eq_true rfl) (Nat.le_of_ble_eq_true rfl) ?_
    exact W.iret (v := 0) hx hb hr (fun t ht hW => ⟨⟨0, ((u.1, u.2.1, u.2.2), (vp_updL fo (0 : Int32).toNatClampNeg ((r : Int32).toInt64))), rfl, (by
        obtain ⟨⟨y1, y2, y3, y4⟩, L9, wn2, cs2, y5, y6, y7, y8, y9, y10, y11, y12, _⟩ := hpost
        exact Or.inr (Or.inr (Or.inr ⟨rfl, by rw [y1]; simp [vp_updL], y2, y3, y4, L9, wn2, cs2, y5, y6, y7, y8, y9, y10, y11, y12⟩))), by rw [ht]; exact hP, hD⟩, hS.F ht⟩) hS.2.2 xd_La_layer_28
set_option maxHeartbeats 4000000 in
set_option maxRecDepth 100000 in
theorem xc_La_loadX (l : Launch) (hlt : l.stackTraces = false) (D : va_G) (kA : Nat → ClassId) (sz : Nat) (ad : Nat → Nat → Nat) (E : Nat → Nat → va_E) (RL : List (Nat × Nat)) (Z : zT) (g : Nat → Nat → Int32) (ml : Nat) (nd : Nat) (len : Nat) (wn : Nat) (cs : Nat) (ob : Nat) (fo : Nat → Int64) (ix : Int32) (kx : Int32) (hCI : CI kA ad E RL ml nd len wn cs) (hTX : ∀ i, i < len → eA (E 0 2) i = g 0 i) : Met l xy_La_load (.codeWith xy_La_load xb_La_load 5 (some .int) [(0, 10, 13, 13), (0, 10, 17, 21)] :: wT) { frames := 7, cells := 1, slots := 6, locals := 115 } (va_Pc [.ref (ad 0 0), .int ix, .int kx, .ref ob] (xPreZ D kA sz ((ob, .inl (kA 3, 1, .inr (.inl fo))) :: rp ad E RL) Z)) (va_Qi (fun (r : Int32) (u : ((Nat → Nat → Nat) × (Nat → Nat → va_E) × List (Nat × Nat)) × (Nat → Int64)) => (∃ wn2, CI kA ad u.1.2.1 RL ml nd 0 wn2 cs) ∧ F134 E u.1.2.1 ∧ u.1.1 = ad ∧ u.1.2.2 = RL) (fun (u : ((Nat → Nat → Nat) × (Nat → Nat → va_E) × List (Nat × Nat)) × (Nat → Int64)) t => va_P D xcl ((ob, .inl (kA 3, 1, .inr (.inl u.2))) :: rp u.1.1 u.1.2.1 u.1.2.2) t.heap ∧ va_D (va_A ((ob, .inl (kA 3, 1, .inr (.inl fo))) :: rp ad E RL) sz) ((ob, .inl (kA 3, 1, .inr (.inl u.2))) :: rp u.1.1 u.1.2.1 u.1.2.2)) (va_A ((ob, .inl (kA 3, 1, .inr (.inl fo))) :: rp ad E RL) sz)) 1 6 (va_A ((ob, .inl (kA 3, 1, .inr (.inl fo))) :: rp ad E RL) sz) := by
  refine va_MetW (cc := xb_La_load) (maxL := 5) (ret := (some .int)) (by decide) rfl ?_
  intro p e s m args below meth c s₁ B hml hv
  obtain ⟨rfl, ⟨hsz, hP, hK, hD0⟩, hZ⟩ := hv
  have hx := B.exec
  have hb := B.bytes
  have hr := B.returns
  have hT := x_hT B.pre
  have hown : s.vm.findClass xR_La = some m.cls := findClass_of_methodNamed B.named
  have hlocks := B.notSynchronized
  subst hsz
  have hD := hD0.self (sz := s.heap.size)
  generalize hAe : va_A ((ob, .inl (kA 3, 1, .inr (.inl fo))) :: rp ad E RL) s.heap.size = A at hD hZ ⊢
  have hA : ∀ q : Nat, s.heap.size ≤ q → A q := fun q h => by rw [← hAe]; exact Or.inr h
  have hS : va_S A s.heap s.heap [] := va_S.rf
  have hl := lv_entry ([.ref (ad 0 0), .int ix, .int kx, .ref ob]) (n := 5) (Nat.le_of_ble_eq_true rfl)
  rw [lg_entry_eq]
  generalize (lg_sl ([.ref (ad 0 0), .int ix, .int kx, .ref ob]) ++ List.replicate (5 - (lg_sl ([.ref (ad 0 0), .int ix, .int kx, .ref ob])).length) Slot.unset).toArray = ls at hl ⊢
  have hl : lv_has ls 5 [(0, .ref (ad 0 0)), (1, .int ix), (2, .int kx), (3, .ref ob)] := hl
  have hP : va_P D xcl ((ob, .inl (kA 3, 1, .inr (.inl fo))) :: rp ad E RL) s.heap := hP
  have hex := vx_table (x := xy_La_load) B (atoms_spec (ws := .codeWith xy_La_load xb_La_load 5 (some .int) [(0, 10, 13, 13), (0, 10, 17, 21)] :: wT) B.pre _ List.mem_cons_self)
  refine lv_aload_n hx hb xd_La_load_0 rfl (lv_at hl 3 rfl) ?_
  refine lv_iconst (v := 0) hx hb xd_La_load_1 (by decide) ?_
  refine lv_aload_n hx hb xd_La_load_2 rfl (lv_at hl 0 rfl) ?_
  refine lv_iload_n hx hb xd_La_load_3 rfl (lv_at hl 1 rfl) ?_
  refine lv_iload_n hx hb xd_La_load_4 rfl (lv_at hl 2 rfl) ?_
  have hPc := xp_P (X := [(ob, .inl (kA 3, 1, .inr (.inl fo)))]) hP
  have hDc := xp_D (X := [(ob, .inl (kA 3, 1, .inr (.inl fo)))]) hD
  have hFc := va_freeP (X := [(ob, .inl (kA 3, 1, .inr (.inl fo)))]) (cx := []) hD hS hA [] rfl
  have hZc := hZ.kept hS
  obtain ⟨lf, hc0⟩ := hCI.2.1
  refine vx_calli (vx_runV (As := [.int ix, .int kx]) (rest := [.int 0, .ref ob]) ⟨hx, hb, hml, hown, hT⟩ (xc_De_loadK l hlt D kA s.heap.size ad E RL Z g ml nd len wn cs ix kx hCI hTX) (cwV 2 hT (wT_V k7e_13 k7e_14 k7e_15 k7e_4 k7e_12) rfl rfl rfl (by decide +kernel) ⟨Nat.le_of_ble_eq_true rfl, Nat.le_of_ble_eq_true rfl⟩) (px_preVZ hK hPc hDc (hCI.1 0 (by decide)) hc0 rfl hFc hZc) rfl rfl hl.1 rfl (lv_room (Nat.le_of_ble_eq_true rfl)) xd_La_load_5 ⟨Nat.le_of_ble_eq_true rfl, Nat.le_of_ble_eq_true rfl⟩) hS (fun q _ h => hFc q h) hFc (fun q _ h => hFc q h) (fun E9 ce q9 u t H1 locs ht hvm hpost hB hz1 hk1 hS hce hcv hcl => ?_) (fun r u t H1 locs ht hvm hpost hB hz1 hk1 hS => ?_)
  · obtain ⟨hE9, hP1, hD1⟩ := hB
    rw [ht] at hP1
    obtain ⟨hP, hD⟩ := va_joinP (X := [(ob, .inl (kA 3, 1, .inr (.inl fo)))]) (cx := []) (wr := [(ob, .inl (kA 3, 1, .inr (.inl fo)))]) (rx := []) hP hD [] [0] rfl rfl (by decide) (by decide) hk1 hFc hP1 hD1
    generalize H1 = H at hP hS hce ⊢
    have hl := lv_sub hl [1, 2, 3] rfl
    have hl : lv_has ls 5 [(1, .int ix), (2, .int kx), (3, .ref ob)] := hl
    have hP : va_P D xcl ((ob, .inl (kA 3, 1, .inr (.inl fo))) :: rp ad u RL) H := hP
    have hD : va_D A ((ob, .inl (kA 3, 1, .inr (.inl fo))) :: rp ad u RL) := hD
    rcases hE9 with rfl | rfl
    · refine vx_catch (own := "LayerDeskLaw") (name := "java/lang/IllegalArgumentException") hown [] ⟨0, 10, 13, 13⟩ [⟨0, 10, 17, 21⟩] (by rw [hex]; rfl) (fun z hz => nomatch hz) rfl (by decide) (hT _ k7e_5) (va_Nw.use rfl hK.2.2.2.2.2.1) hce hcv hcl ?_
      refine lv_astore hx hb xd_La_load_13 hl (Nat.le_of_ble_eq_true rfl) rfl (fun ls hl => ?_)
      have hl : lv_has ls 5 [(4, .ref q9), (1, .int ix), (2, .int kx), (3, .ref ob)] := hl
      refine lv_iconst (v := 1) hx hb xd_La_load_15 (by decide) ?_
      refine W.widen (k := 1) (n := 6) (Nat.le_of_ble_eq_true rfl) (Nat.le_of_ble_eq_true rfl) ?_
      exact W.iret (v := 1) hx hb hr (fun t ht hW => ⟨⟨1, ((ad, u, RL), fo), rfl, ⟨hpost.1, hpost.2, rfl, rfl⟩, by rw [ht]; exact hP, hD⟩, hS.F ht⟩) hS.2.2 xd_La_load_16
    · refine vx_catch (own := "LayerDeskLaw") (name := "java/util/NoSuchElementException") hown [⟨0, 10, 13, 13⟩] ⟨0, 10, 17, 21⟩ [] (by rw [hex]; rfl) (fun z hz => by rw [List.mem_singleton] at hz; subst hz; exact Or.inr ⟨(by decide), "java/lang/IllegalArgumentException", hT _ k7e_5, hZ.2.2.2.2.2.1⟩) rfl (by decide) (hT _ k7e_11) (va_Nw.use rfl hK.2.2.2.2.2.2.2) hce hcv hcl ?_
      refine lv_astore hx hb xd_La_load_17 hl (Nat.le_of_ble_eq_true rfl) rfl (fun ls hl => ?_)
      have hl : lv_has ls 5 [(4, .ref q9), (1, .int ix), (2, .int kx), (3, .ref ob)] := hl
      refine lv_iconst (v := 2) hx hb xd_La_load_19 (by decide) ?_
      refine W.widen (k := 1) (n := 6) (Nat.le_of_ble_eq_true rfl) (Nat.le_of_ble_eq_true rfl) ?_
      exact W.iret (v := 2) hx hb hr (fun t ht hW => ⟨⟨2, ((ad, u, RL), fo), rfl, ⟨hpost.1, hpost.2, rfl, rfl⟩, by rw [ht]; exact hP, hD⟩, hS.F ht⟩) hS.2.2 xd_La_load_20
  · obtain ⟨hP1, hD1⟩ := hB
    rw [ht] at hP1
    obtain ⟨hP, hD⟩ := va_joinP (X := [(ob, .inl (kA 3, 1, .inr (.inl fo)))]) (cx := []) (wr := [(ob, .inl (kA 3, 1, .inr (.inl fo)))]) (rx := []) hP hD [] [0] rfl rfl (by decide) (by decide) hk1 hFc hP1 hD1
    generalize H1 = H at hP hS ⊢
    have hl := lv_sub hl [1, 2, 3] rfl
    have hl : lv_has ls 5 [(1, .int ix), (2, .int kx), (3, .ref ob)] := hl
    have hP : va_P D xcl ((ob, .inl (kA 3, 1, .inr (.inl fo))) :: rp ad u RL) H := hP
    have hD : va_D A ((ob, .inl (kA 3, 1, .inr (.inl fo))) :: rp ad u RL) := hD
    refine lv_i2l (v := ((r : Int32).toInt64)) hx hb xd_La_load_8 rfl ?_
    refine va_last hx hb hK.1 hP hD hS 0 3 rfl rfl (show ¬ _ by decide) xd_La_load_9 (fun H locs hP hD hS => ?_)
    have hP : va_P D xcl ((ob, .inl (kA 3, 1, .inr (.inl (vp_updL fo (0 : Int32).toNatClampNeg ((r : Int32).toInt64))))) :: rp ad u RL) H := hP
    have hD : va_D A ((ob, .inl (kA 3, 1, .inr (.inl (vp_updL fo (0 : Int32).toNatClampNeg ((r : Int32).toInt64))))) :: rp ad u RL) := hD
    refine lv_goto (tgt := 21) hx hb xd_La_load_10 (by decide) ?_
    refine lv_iconst (v := 0) hx hb xd_La_load_21 (by decide) ?_
    refine W.widen (k := 1) (n := 6) (Nat.le_of_ble_eq_true rfl) (Nat.le_of_ble_eq_true rfl) ?_
    exact W.iret (v := 0) hx hb hr (fun t ht hW => ⟨⟨0, ((ad, u, RL), (vp_updL fo (0 : Int32).toNatClampNeg ((r : Int32).toInt64))), rfl, ⟨hpost.1, hpost.2, rfl, rfl⟩, by rw [ht]; exact hP, hD⟩, hS.F ht⟩) hS.2.2 xd_La_load_22
set_option maxHeartbeats 4000000 in
set_option maxRecDepth 100000 in
theorem xc_La_peekX (l : Launch) (hlt : l.stackTraces = false) (D : va_G) (kA : Nat → ClassId) (sz : Nat) (ad : Nat → Nat → Nat) (E : Nat → Nat → va_E) (RL : List (Nat × Nat)) (Z : zT) (g : Nat → Nat → Int32) (ml : Nat) (nd : Nat) (len : Nat) (wn : Nat) (cs : Nat) (ob : Nat) (fo : Nat → Int64) (ix : Int32) (kx : Int32) (tx : Int32) (dx : Int32) (hCI : CI kA ad E RL ml nd len wn cs) (hTX : ∀ i, i < len → eA (E 0 2) i = g 0 i) : Met l xy_La_peek (.codeWith xy_La_peek xb_La_peek 7 (some .int) [(0, 21, 24, 13), (0, 21, 28, 21)] :: wT) { frames := 7, cells := 1, slots := 6, locals := 109 } (va_Pc [.ref (ad 0 0), .int ix, .int kx, .int tx, .int dx, .ref ob] (xPreZ D kA sz ((ob, .inl (kA 3, 1, .inr (.inl fo))) :: rp ad E RL) Z)) (va_Qi (fun (r : Int32) (u : ((Nat → Nat → Nat) × (Nat → Nat → va_E) × List (Nat × Nat)) × (Nat → Int64)) => (∃ wn2, CI kA ad u.1.2.1 RL ml nd 0 wn2 cs) ∧ F134 E u.1.2.1 ∧ u.1.1 = ad ∧ u.1.2.2 = RL) (fun (u : ((Nat → Nat → Nat) × (Nat → Nat → va_E) × List (Nat × Nat)) × (Nat → Int64)) t => va_P D xcl ((ob, .inl (kA 3, 1, .inr (.inl u.2))) :: rp u.1.1 u.1.2.1 u.1.2.2) t.heap ∧ va_D (va_A ((ob, .inl (kA 3, 1, .inr (.inl fo))) :: rp ad E RL) sz) ((ob, .inl (kA 3, 1, .inr (.inl u.2))) :: rp u.1.1 u.1.2.1 u.1.2.2)) (va_A ((ob, .inl (kA 3, 1, .inr (.inl fo))) :: rp ad E RL) sz)) 1 6 (va_A ((ob, .inl (kA 3, 1, .inr (.inl fo))) :: rp ad E RL) sz) := by
  refine va_MetW (cc := xb_La_peek) (maxL := 7) (ret := (some .int)) (by decide) rfl ?_
  intro p e s m args below meth c s₁ B hml hv
  obtain ⟨rfl, ⟨hsz, hP, hK, hD0⟩, hZ⟩ := hv
  have hx := B.exec
  have hb := B.bytes
  have hr := B.returns
  have hT := x_hT B.pre
  have hown : s.vm.findClass xR_La = some m.cls := findClass_of_methodNamed B.named
  have hlocks := B.notSynchronized
  subst hsz
  have hD := hD0.self (sz := s.heap.size)
  generalize hAe : va_A ((ob, .inl (kA 3, 1, .inr (.inl fo))) :: rp ad E RL) s.heap.size = A at hD hZ ⊢
  have hA : ∀ q : Nat, s.heap.size ≤ q → A q := fun q h => by rw [← hAe]; exact Or.inr h
  have hS : va_S A s.heap s.heap [] := va_S.rf
  have hl := lv_entry ([.ref (ad 0 0), .int ix, .int kx, .int tx, .int dx, .ref ob]) (n := 7) (Nat.le_of_ble_eq_true rfl)
  rw [lg_entry_eq]
  generalize (lg_sl ([.ref (ad 0 0), .int ix, .int kx, .int tx, .int dx, .ref ob]) ++ List.replicate (7 - (lg_sl ([.ref (ad 0 0), .int ix, .int kx, .int tx, .int dx, .ref ob])).length) Slot.unset).toArray = ls at hl ⊢
  have hl : lv_has ls 7 [(0, .ref (ad 0 0)), (1, .int ix), (2, .int kx), (3, .int tx), (4, .int dx), (5, .ref ob)] := hl
  have hP : va_P D xcl ((ob, .inl (kA 3, 1, .inr (.inl fo))) :: rp ad E RL) s.heap := hP
  have hex := vx_table (x := xy_La_peek) B (atoms_spec (ws := .codeWith xy_La_peek xb_La_peek 7 (some .int) [(0, 21, 24, 13), (0, 21, 28, 21)] :: wT) B.pre _ List.mem_cons_self)
  refine lv_aload hx hb xd_La_peek_0 (lv_at hl 5 rfl) ?_
  refine lv_iconst (v := 0) hx hb xd_La_peek_2 (by decide) ?_
  refine lv_aload_n hx hb xd_La_peek_3 rfl (lv_at hl 0 rfl) ?_
  refine lv_iload_n hx hb xd_La_peek_4 rfl (lv_at hl 1 rfl) ?_
  refine lv_iload_n hx hb xd_La_peek_5 rfl (lv_at hl 2 rfl) ?_
  refine lv_iload_n hx hb xd_La_peek_6 rfl (lv_at hl 3 rfl) ?_
  refine lv_iload hx hb xd_La_peek_7 (lv_at hl 4 rfl) ?_
  have hPc := xp_P (X := [(ob, .inl (kA 3, 1, .inr (.inl fo)))]) hP
  have hDc := xp_D (X := [(ob, .inl (kA 3, 1, .inr (.inl fo)))]) hD
  have hFc := va_freeP (X := [(ob, .inl (kA 3, 1, .inr (.inl fo)))]) (cx := []) hD hS hA [] rfl
  have hZc := hZ.kept hS
  obtain ⟨lf, hc0⟩ := hCI.2.1
  refine vx_calli (vx_runV (As := [.int ix, .int kx, .int tx, .int dx]) (rest := [.int 0, .ref ob]) ⟨hx, hb, hml, hown, hT⟩ (xc_De_peekK l hlt D kA s.heap.size ad E RL Z g ml nd len wn cs ix kx tx dx hCI hTX) (cwV 4 hT (wT_V k7e_17 k7e_18 k7e_19 k7e_4 k7e_16) rfl rfl rfl (by decide +kernel) ⟨Nat.le_of_ble_eq_true rfl, Nat.le_of_ble_eq_true rfl⟩) (px_preVZ hK hPc hDc (hCI.1 0 (by decide)) hc0 rfl hFc hZc) rfl rfl hl.1 rfl (lv_room (Nat.le_of_ble_eq_true rfl)) xd_La_peek_9 ⟨Nat.le_of_ble_eq_true rfl, Nat.le_of_ble_eq_true rfl⟩) hS (fun q _ h => hFc q h) hFc (fun q _ h => hFc q h) (fun E9 ce q9 u t H1 locs ht hvm hpost hB hz1 hk1 hS hce hcv hcl => ?_) (fun r u t H1 locs ht hvm hpost hB hz1 hk1 hS => ?_)
  · obtain ⟨hE9, hP1, hD1⟩ := hB
    rw [ht] at hP1
    obtain ⟨hP, hD⟩ := va_joinP (X := [(ob, .inl (kA 3, 1, .inr (.inl fo)))]) (cx := []) (wr := [(ob, .inl (kA 3, 1, .inr (.inl fo)))]) (rx := []) hP hD [] [0] rfl rfl (by decide) (by decide) hk1 hFc hP1 hD1
    generalize H1 = H at hP hS hce ⊢
    have hl := lv_sub hl [1, 2, 3, 4, 5] rfl
    have hl : lv_has ls 7 [(1, .int ix), (2, .int kx), (3, .int tx), (4, .int dx), (5, .ref ob)] := hl
    have hP : va_P D xcl ((ob, .inl (kA 3, 1, .inr (.inl fo))) :: rp ad u RL) H := hP
    have hD : va_D A ((ob, .inl (kA 3, 1, .inr (.inl fo))) :: rp ad u RL) := hD
    rcases hE9 with rfl | rfl
    · refine vx_catch (own := "LayerDeskLaw") (name := "java/lang/IllegalArgumentException") hown [] ⟨0, 21, 24, 13⟩ [⟨0, 21, 28, 21⟩] (by rw [hex]; rfl) (fun z hz => nomatch hz) rfl (by decide) (hT _ k7e_5) (va_Nw.use rfl hK.2.2.2.2.2.1) hce hcv hcl ?_
      refine lv_astore hx hb xd_La_peek_24 hl (Nat.le_of_ble_eq_true rfl) rfl (fun ls hl => ?_)
      have hl : lv_has ls 7 [(6, .ref q9), (1, .int ix), (2, .int kx), (3, .int tx), (4, .int dx), (5, .ref ob)] := hl
      refine lv_iconst (v := 1) hx hb xd_La_peek_26 (by decide) ?_
      refine W.widen (k := 1) (n := 6) (Nat.le_of_ble_eq_true rfl) (Nat.le_of_ble_eq_true rfl) ?_
      exact W.iret (v := 1) hx hb hr (fun t ht hW => ⟨⟨1, ((ad, u, RL), fo), rfl, ⟨hpost.1, hpost.2, rfl, rfl⟩, by rw [ht]; exact hP, hD⟩, hS.F ht⟩) hS.2.2 xd_La_peek_27
    · refine vx_catch (own := "LayerDeskLaw") (name := "java/util/NoSuchElementException") hown [⟨0, 21, 24, 13⟩] ⟨0, 21, 28, 21⟩ [] (by rw [hex]; rfl) (fun z hz => by rw [List.mem_singleton] at hz; subst hz; exact Or.inr ⟨(by decide), "java/lang/IllegalArgumentException", hT _ k7e_5, hZ.2.2.2.2.2.1⟩) rfl (by decide) (hT _ k7e_11) (va_Nw.use rfl hK.2.2.2.2.2.2.2) hce hcv hcl ?_
      refine lv_astore hx hb xd_La_peek_28 hl (Nat.le_of_ble_eq_true rfl) rfl (fun ls hl => ?_)
      have hl : lv_has ls 7 [(6, .ref q9), (1, .int ix), (2, .int kx), (3, .int tx), (4, .int dx), (5, .ref ob)] := hl
      refine lv_iconst (v := 2) hx hb xd_La_peek_30 (by decide) ?_
      refine W.widen (k := 1) (n := 6) (Nat.le_of_ble_eq_true rfl) (Nat.le_of_ble_eq_true rfl) ?_
      exact W.iret (v := 2) hx hb hr (fun t ht hW => ⟨⟨2, ((ad, u, RL), fo), rfl, ⟨hpost.1, hpost.2, rfl, rfl⟩, by rw [ht]; exact hP, hD⟩, hS.F ht⟩) hS.2.2 xd_La_peek_31
  · obtain ⟨hP1, hD1⟩ := hB
    rw [ht] at hP1
    obtain ⟨hP, hD⟩ := va_joinP (X := [(ob, .inl (kA 3, 1, .inr (.inl fo)))]) (cx := []) (wr := [(ob, .inl (kA 3, 1, .inr (.inl fo)))]) (rx := []) hP hD [] [0] rfl rfl (by decide) (by decide) hk1 hFc hP1 hD1
    generalize H1 = H at hP hS ⊢
    have hl := lv_sub hl [1, 2, 3, 4, 5] rfl
    have hl : lv_has ls 7 [(1, .int ix), (2, .int kx), (3, .int tx), (4, .int dx), (5, .ref ob)] := hl
    have hP : va_P D xcl ((ob, .inl (kA 3, 1, .inr (.inl fo))) :: rp ad u RL) H := hP
    have hD : va_D A ((ob, .inl (kA 3, 1, .inr (.inl fo))) :: rp ad u RL) := hD
    refine lv_if_eq (tgt := 19) hx hb xd_La_peek_12 (by decide) (fun hc1 => ?_) (fun hc1 => ?_)
    · refine lv_lconst (v := 0) hx hb xd_La_peek_19 (by decide) ?_
      refine va_last hx hb hK.1 hP hD hS 0 3 rfl rfl (show ¬ _ by decide) xd_La_peek_20 (fun H locs hP hD hS => ?_)
      have hP : va_P D xcl ((ob, .inl (kA 3, 1, .inr (.inl (vp_updL fo (0 : Int32).toNatClampNeg 0)))) :: rp ad u RL) H := hP
      have hD : va_D A ((ob, .inl (kA 3, 1, .inr (.inl (vp_updL fo (0 : Int32).toNatClampNeg 0)))) :: rp ad u RL) := hD
      refine lv_goto (tgt := 32) hx hb xd_La_peek_21 (by decide) ?_
      refine lv_iconst (v := 0) hx hb xd_La_peek_32 (by decide) ?_
      refine W.widen (k := 1) (n := 6) (Nat.le_of_ble_eq_true rfl) (Nat.le_of_ble_eq_true rfl) ?_
      exact W.iret (v := 0) hx hb hr (fun t ht hW => ⟨⟨0, ((ad, u, RL), (vp_updL fo (0 : Int32).toNatClampNeg 0)), rfl, ⟨hpost.1, hpost.2, rfl, rfl⟩, by rw [ht]; exact hP, hD⟩, hS.F ht⟩) hS.2.2 xd_La_peek_33
    · refine lv_lconst (v := 1) hx hb xd_La_peek_15 (by decide) ?_
      refine lv_goto (tgt := 20) hx hb xd_La_peek_16 (by decide) ?_
      refine va_last hx hb hK.1 hP hD hS 0 3 rfl rfl (show ¬ _ by decide) xd_La_peek_20 (fun H locs hP hD hS => ?_)
      have hP : va_P D xcl ((ob, .inl (kA 3, 1, .inr (.inl (vp_updL fo (0 : Int32).toNatClampNeg 1)))) :: rp ad u RL) H := hP
      have hD : va_D A ((ob, .inl (kA 3, 1, .inr (.inl (vp_updL fo (0 : Int32).toNatClampNeg 1)))) :: rp ad u RL) := hD
      refine lv_goto (tgt := 32) hx hb xd_La_peek_21 (by decide) ?_
      refine lv_iconst (v := 0) hx hb xd_La_peek_32 (by decide) ?_
      refine W.widen (k := 1) (n := 6) (Nat.le_of_ble_eq_true rfl) (Nat.le_of_ble_eq_true rfl) ?_
      exact W.iret (v := 0) hx hb hr (fun t ht hW => ⟨⟨0, ((ad, u, RL), (vp_updL fo (0 : Int32).toNatClampNeg 1)), rfl, ⟨hpost.1, hpost.2, rfl, rfl⟩, by rw [ht]; exact hP, hD⟩, hS.F ht⟩) hS.2.2 xd_La_peek_33
set_option maxHeartbeats 4000000 in
set_option maxRecDepth 100000 in
theorem xc_La_providerX (l : Launch) (hlt : l.stackTraces = false) (D : va_G) (kA : Nat → ClassId) (sz : Nat) (ad : Nat → Nat → Nat) (E : Nat → Nat → va_E) (RL : List (Nat × Nat)) (Z : zT) (g : Nat → Nat → Int32) (ml : Nat) (nd : Nat) (len : Nat) (wn : Nat) (cs : Nat) (ob : Nat) (fo : Nat → Int64) (ix : Int32) (kx : Int32) (hCI : CI kA ad E RL ml nd len wn cs) (hTX : ∀ i, i < len → eA (E 0 2) i = g 0 i) : Met l xy_La_provider (.codeWith xy_La_provider xb_La_provider 5 (some .int) [(0, 10, 13, 13)] :: wT) { frames := 7, cells := 1, slots := 6, locals := 107 } (va_Pc [.ref (ad 0 0), .int ix, .int kx, .ref ob] (xPreZ D kA sz ((ob, .inl (kA 3, 1, .inr (.inl fo))) :: rp ad E RL) Z)) (va_Qi (fun (r : Int32) (u : ((Nat → Nat → Nat) × (Nat → Nat → va_E) × List (Nat × Nat)) × (Nat → Int64)) => (∃ wn2, CI kA ad u.1.2.1 RL ml nd 0 wn2 cs) ∧ F134 E u.1.2.1 ∧ u.1.1 = ad ∧ u.1.2.2 = RL) (fun (u : ((Nat → Nat → Nat) × (Nat → Nat → va_E) × List (Nat × Nat)) × (Nat → Int64)) t => va_P D xcl ((ob, .inl (kA 3, 1, .inr (.inl u.2))) :: rp u.1.1 u.1.2.1 u.1.2.2) t.heap ∧ va_D (va_A ((ob, .inl (kA 3, 1, .inr (.inl fo))) :: rp ad E RL) sz) ((ob, .inl (kA 3, 1, .inr (.inl u.2))) :: rp u.1.1 u.1.2.1 u.1.2.2)) (va_A ((ob, .inl (kA 3, 1, .inr (.inl fo))) :: rp ad E RL) sz)) 1 6 (va_A ((ob, .inl (kA 3, 1, .inr (.inl fo))) :: rp ad E RL) sz) := by
  refine va_MetW (cc := xb_La_provider) (maxL := 5) (ret := (some .int)) (by decide) rfl ?_
  intro p e s m args below meth c s₁ B hml hv
  obtain ⟨rfl, ⟨hsz, hP, hK, hD0⟩, hZ⟩ := hv
  have hx := B.exec
  have hb := B.bytes
  have hr := B.returns
  have hT := x_hT B.pre
  have hown : s.vm.findClass xR_La = some m.cls := findClass_of_methodNamed B.named
  have hlocks := B.notSynchronized
  subst hsz
  have hD := hD0.self (sz := s.heap.size)
  generalize hAe : va_A ((ob, .inl (kA 3, 1, .inr (.inl fo))) :: rp ad E RL) s.heap.size = A at hD hZ ⊢
  have hA : ∀ q : Nat, s.heap.size ≤ q → A q := fun q h => by rw [← hAe]; exact Or.inr h
  have hS : va_S A s.heap s.heap [] := va_S.rf
  have hl := lv_entry ([.ref (ad 0 0), .int ix, .int kx, .ref ob]) (n := 5) (Nat.le_of_ble_eq_true rfl)
  rw [lg_entry_eq]
  generalize (lg_sl ([.ref (ad 0 0), .int ix, .int kx, .ref ob]) ++ List.replicate (5 - (lg_sl ([.ref (ad 0 0), .int ix, .int kx, .ref ob])).length) Slot.unset).toArray = ls at hl ⊢
  have hl : lv_has ls 5 [(0, .ref (ad 0 0)), (1, .int ix), (2, .int kx), (3, .ref ob)] := hl
  have hP : va_P D xcl ((ob, .inl (kA 3, 1, .inr (.inl fo))) :: rp ad E RL) s.heap := hP
  have hex := vx_table (x := xy_La_provider) B (atoms_spec (ws := .codeWith xy_La_provider xb_La_provider 5 (some .int) [(0, 10, 13, 13)] :: wT) B.pre _ List.mem_cons_self)
  refine lv_aload_n hx hb xd_La_provider_0 rfl (lv_at hl 3 rfl) ?_
  refine lv_iconst (v := 0) hx hb xd_La_provider_1 (by decide) ?_
  refine lv_aload_n hx hb xd_La_provider_2 rfl (lv_at hl 0 rfl) ?_
  refine lv_iload_n hx hb xd_La_provider_3 rfl (lv_at hl 1 rfl) ?_
  refine lv_iload_n hx hb xd_La_provider_4 rfl (lv_at hl 2 rfl) ?_
  have hPc := xp_P (X := [(ob, .inl (kA 3, 1, .inr (.inl fo)))]) hP
  have hDc := xp_D (X := [(ob, .inl (kA 3, 1, .inr (.inl fo)))]) hD
  have hFc := va_freeP (X := [(ob, .inl (kA 3, 1, .inr (.inl fo)))]) (cx := []) hD hS hA [] rfl
  have hZc := hZ.kept hS
  obtain ⟨lf, hc0⟩ := hCI.2.1
  refine vx_calli (vx_runV (As := [.int ix, .int kx]) (rest := [.int 0, .ref ob]) ⟨hx, hb, hml, hown, hT⟩ (xc_De_providerK l hlt D kA s.heap.size ad E RL Z g ml nd len wn cs ix kx hCI hTX) (cwV 2 hT (wT_V k7e_21 k7e_22 k7e_23 k7e_4 k7e_20) rfl rfl rfl (by decide +kernel) ⟨Nat.le_of_ble_eq_true rfl, Nat.le_of_ble_eq_true rfl⟩) (px_preVZ hK hPc hDc (hCI.1 0 (by decide)) hc0 rfl hFc hZc) rfl rfl hl.1 rfl (lv_room (Nat.le_of_ble_eq_true rfl)) xd_La_provider_5 ⟨Nat.le_of_ble_eq_true rfl, Nat.le_of_ble_eq_true rfl⟩) hS (fun q _ h => hFc q h) hFc (fun q _ h => hFc q h) (fun E9 ce q9 u t H1 locs ht hvm hpost hB hz1 hk1 hS hce hcv hcl => ?_) (fun r u t H1 locs ht hvm hpost hB hz1 hk1 hS => ?_)
  · obtain ⟨hE9, hP1, hD1⟩ := hB
    rw [ht] at hP1
    obtain ⟨hP, hD⟩ := va_joinP (X := [(ob, .inl (kA 3, 1, .inr (.inl fo)))]) (cx := []) (wr := [(ob, .inl (kA 3, 1, .inr (.inl fo)))]) (rx := []) hP hD [] [0] rfl rfl (by decide) (by decide) hk1 hFc hP1 hD1
    generalize H1 = H at hP hS hce ⊢
    have hl := lv_sub hl [1, 2, 3] rfl
    have hl : lv_has ls 5 [(1, .int ix), (2, .int kx), (3, .ref ob)] := hl
    have hP : va_P D xcl ((ob, .inl (kA 3, 1, .inr (.inl fo))) :: rp ad u RL) H := hP
    have hD : va_D A ((ob, .inl (kA 3, 1, .inr (.inl fo))) :: rp ad u RL) := hD
    subst hE9
    · refine vx_catch (own := "LayerDeskLaw") (name := "java/lang/IllegalArgumentException") hown [] ⟨0, 10, 13, 13⟩ [] (by rw [hex]; rfl) (fun z hz => nomatch hz) rfl (by decide) (hT _ k7e_5) (va_Nw.use rfl hK.2.2.2.2.2.1) hce hcv hcl ?_
      refine lv_astore hx hb xd_La_provider_13 hl (Nat.le_of_ble_eq_true rfl) rfl (fun ls hl => ?_)
      have hl : lv_has ls 5 [(4, .ref q9), (1, .int ix), (2, .int kx), (3, .ref ob)] := hl
      refine lv_iconst (v := 1) hx hb xd_La_provider_15 (by decide) ?_
      refine W.widen (k := 1) (n := 6) (Nat.le_of_ble_eq_true rfl) (Nat.le_of_ble_eq_true rfl) ?_
      exact W.iret (v := 1) hx hb hr (fun t ht hW => ⟨⟨1, ((ad, u, RL), fo), rfl, ⟨hpost.1, hpost.2, rfl, rfl⟩, by rw [ht]; exact hP, hD⟩, hS.F ht⟩) hS.2.2 xd_La_provider_16
  · obtain ⟨hP1, hD1⟩ := hB
    rw [ht] at hP1
    obtain ⟨hP, hD⟩ := va_joinP (X := [(ob, .inl (kA 3, 1, .inr (.inl fo)))]) (cx := []) (wr := [(ob, .inl (kA 3, 1, .inr (.inl fo)))]) (rx := []) hP hD [] [0] rfl rfl (by decide) (by decide) hk1 hFc hP1 hD1
    generalize H1 = H at hP hS ⊢
    have hl := lv_sub hl [1, 2, 3] rfl
    have hl : lv_has ls 5 [(1, .int ix), (2, .int kx), (3, .ref ob)] := hl
    have hP : va_P D xcl ((ob, .inl (kA 3, 1, .inr (.inl fo))) :: rp ad u RL) H := hP
    have hD : va_D A ((ob, .inl (kA 3, 1, .inr (.inl fo))) :: rp ad u RL) := hD
    refine lv_i2l (v := ((r : Int32).toInt64)) hx hb xd_La_provider_8 rfl ?_
    refine va_last hx hb hK.1 hP hD hS 0 3 rfl rfl (show ¬ _ by decide) xd_La_provider_9 (fun H locs hP hD hS => ?_)
    have hP : va_P D xcl ((ob, .inl (kA 3, 1, .inr (.inl (vp_updL fo (0 : Int32).toNatClampNeg ((r : Int32).toInt64))))) :: rp ad u RL) H := hP
    have hD : va_D A ((ob, .inl (kA 3, 1, .inr (.inl (vp_updL fo (0 : Int32).toNatClampNeg ((r : Int32).toInt64))))) :: rp ad u RL) := hD
    refine lv_goto (tgt := 17) hx hb xd_La_provider_10 (by decide) ?_
    refine lv_iconst (v := 0) hx hb xd_La_provider_17 (by decide) ?_
    refine W.widen (k := 1) (n := 6) (Nat.le_of_ble_eq_true rfl) (Nat.le_of_ble_eq_true rfl) ?_
    exact W.iret (v := 0) hx hb hr (fun t ht hW => ⟨⟨0, ((ad, u, RL), (vp_updL fo (0 : Int32).toNatClampNeg ((r : Int32).toInt64))), rfl, ⟨hpost.1, hpost.2, rfl, rfl⟩, by rw [ht]; exact hP, hD⟩, hS.F ht⟩) hS.2.2 xd_La_provider_18
