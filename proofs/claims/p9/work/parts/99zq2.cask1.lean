theorem k7x_0 : (Cond.code xy_De_openLayer xb_De_openLayer 3 (some (.object "LayerDesk$Layer"))) ∈ wT := wT_t (List.mem_append_left _ (List.mem_of_getElem? (i := 137) rfl)) rfl
theorem k7x_1 : (Cond.methodLink "LayerDesk" 68 xy_De_openLayer) ∈ wT := wT_t (List.mem_append_left _ (List.mem_of_getElem? (i := 134) rfl)) rfl
theorem k7x_2 : (Cond.instanceMethod xy_De_openLayer) ∈ wT := wT_t (List.mem_append_left _ (List.mem_of_getElem? (i := 136) rfl)) rfl
theorem k7x_3 : (Cond.selects "LayerDesk" xy_De_openLayer xy_De_openLayer) ∈ wT := wT_s (q := (xy_De_openLayer, 6)) (by decide +kernel) rfl
theorem k7x_4 : (Cond.initialized "LayerDesk") ∈ wT := wT_t (List.mem_append_left _ (List.mem_of_getElem? (i := 1) rfl)) rfl
theorem k7x_5 : (Cond.fieldLink "LayerDesk" 128 "LayerDesk$Layer" "members" "[LLayerDesk$Member;") ∈ wT := wT_t (List.mem_append_right _ (List.mem_append_right _ (List.mem_append_left _ (List.mem_of_getElem? (i := 150) rfl)))) rfl
theorem k7x_6 : (Cond.code xy_De_memberAt xb_De_memberAt 4 (some (.object "LayerDesk$Member"))) ∈ wT := wT_t (List.mem_append_left _ (List.mem_of_getElem? (i := 161) rfl)) rfl
theorem k7x_7 : (Cond.methodLink "LayerDesk" 132 xy_De_memberAt) ∈ wT := wT_t (List.mem_append_left _ (List.mem_of_getElem? (i := 158) rfl)) rfl
theorem k7x_8 : (Cond.instanceMethod xy_De_memberAt) ∈ wT := wT_t (List.mem_append_left _ (List.mem_of_getElem? (i := 160) rfl)) rfl
theorem k7x_9 : (Cond.selects "LayerDesk" xy_De_memberAt xy_De_memberAt) ∈ wT := wT_s (q := (xy_De_memberAt, 6)) (by decide +kernel) rfl
theorem k7x_10 : (Cond.fieldLink "LayerDesk" 136 "LayerDesk$Member" "descriptor" "LLayerDesk$Descriptor;") ∈ wT := wT_t (List.mem_append_right _ (List.mem_append_right _ (List.mem_append_left _ (List.mem_of_getElem? (i := 185) rfl)))) rfl
theorem k7x_11 : (Cond.fieldLink "LayerDesk" 142 "LayerDesk$Descriptor" "number" "I") ∈ wT := wT_t (List.mem_append_right _ (List.mem_append_left _ (List.mem_of_getElem? (i := 50) rfl))) rfl
set_option maxHeartbeats 4000000 in
set_option maxRecDepth 100000 in
theorem xc_De_memberAtA (l : Launch) (D : va_G) (kA : Nat → ClassId) (sz : Nat) (ad : Nat → Nat → Nat) (E : Nat → Nat → va_E) (RL : List (Nat × Nat)) (g : Nat → Nat → Int32) (ml : Nat) (nd : Nat) (len : Nat) (wn : Nat) (cs : Nat) (ix : Int32) (kx : Int32) (hCI : CI kA ad E RL ml nd len wn cs) (hTL : TLas g ad E nd ml) : Met l xy_De_memberAt (.code xy_De_memberAt xb_De_memberAt 4 (some (.object "LayerDesk$Member")) :: wT) { frames := 1, cells := 0, slots := 0, locals := 22 } (va_Pc [.ref (ad 0 0), .int ix, .int kx] (xPre D kA sz (rp ad E RL))) (va_Qq (fun (r : Option Nat) (u : Unit) => (r = none ∧ ¬ ∃ la kn, moQ g ml ix kx la kn) ∨ ∃ x k, moQ g ml ix kx x k ∧ r = some (ad (20 + x) (10 + 10 * k)) ∧ MEI kA ad E RL nd x k) (fun (u : Unit) t => va_P D xcl (rp ad E RL) t.heap ∧ va_D (va_A (rp ad E RL) sz) (rp ad E RL)) (va_A (rp ad E RL) sz)) 0 0 (va_A (rp ad E RL) sz) := by
  refine Met.ofW (cc := xb_De_memberAt) (maxL := 4) (ret := (some (.object "LayerDesk$Member"))) (by decide) rfl ?_
  intro p e s m args below meth c s₁ B hml hv
  obtain ⟨rfl, hsz, hP, hK, hD0⟩ := hv
  have hx := B.exec
  have hb := B.bytes
  have hr := B.returns
  have hT := x_hT B.pre
  have hown : s.vm.findClass xR_De = some m.cls := findClass_of_methodNamed B.named
  have hlocks := B.notSynchronized
  subst hsz
  have hD := hD0.self (sz := s.heap.size)
  generalize hAe : va_A (rp ad E RL) s.heap.size = A at hD ⊢
  have hA : ∀ q : Nat, s.heap.size ≤ q → A q := fun q h => by rw [← hAe]; exact Or.inr h
  have hS : va_S A s.heap s.heap [] := va_S.rf
  have hl := lv_entry ([.ref (ad 0 0), .int ix, .int kx]) (n := 4) (Nat.le_of_ble_eq_true rfl)
  rw [lg_entry_eq]
  generalize (lg_sl ([.ref (ad 0 0), .int ix, .int kx]) ++ List.replicate (4 - (lg_sl ([.ref (ad 0 0), .int ix, .int kx])).length) Slot.unset).toArray = ls at hl ⊢
  have hl : lv_has ls 4 [(0, .ref (ad 0 0)), (1, .int ix), (2, .int kx)] := hl
  have hP : va_P D xcl (rp ad E RL) s.heap := hP
  obtain ⟨hmB, hDk, hLi, hSh, hCh, hLa, hDIs, hLIs⟩ := id hCI
  obtain ⟨fl_1, hml_1, q9_1, hla_1⟩ := id (hLa)
  have c_2 : E 0 9 = .inl (kA 5, 5, .inr (.inr (.inr (.inr fl_1)))) := q9_1
  have m_3 : (0, 9) ∈ RL := hmB 9 (by decide)
  obtain ⟨_, hnd12, hml5, _, _⟩ := CI_b hCI
  have hLKP : LKP g ml := LKP_C hCI hTL
  have hmcb : ∀ la, la < ml → mcv g la ≤ 12 := fun la hl9 => (hLKP.2 la hl9).1
  refine lv_aload_n hx hb xd_De_memberAt_0 rfl (lv_at hl 0 rfl) ?_
  refine lv_iload_n hx hb xd_De_memberAt_1 rfl (lv_at hl 1 rfl) ?_
  have hFc := px_free hD hS hA
  obtain ⟨lf_4, q_4⟩ := id (hDk)
  have c_5 : E 0 0 = .inr (0, [.ref (ad 0 1), .ref (ad 0 5), .ref (ad 0 7), .ref (ad 0 9), .int (nI ml), .int lf_4]) := q_4
  have m_6 : (0, 0) ∈ RL := hmB 0 (by decide)
  refine va_callq (va_runV (As := [.int ix]) (rest := []) ⟨hx, hb, hml, hown, hT⟩ (xc_De_openLayerX l D kA s.heap.size ad E RL g ml nd len wn cs ix (by first | assumption | omega) (by first | assumption | omega)) (cwV 1 hT (wT_V k7x_1 k7x_2 k7x_3 k7x_4 k7x_0) rfl rfl rfl (by decide +kernel) ⟨Nat.le_of_ble_eq_true rfl, Nat.le_of_ble_eq_true rfl⟩) (px_preV hK hP hD m_6 c_5 rfl) rfl rfl hl.1 rfl (lv_room (Nat.le_of_ble_eq_true rfl)) xd_De_memberAt_2 ⟨(Nat.le_of_ble_eq_true rfl), (Nat.le_of_ble_eq_true rfl)⟩) hS (fun q _ h => hFc q h) hFc (fun r7 u8 t H1 locs ht hvm hp9 hB hz1 hk1 hS => ?_)
  obtain ⟨hP1, hD1⟩ := hB
  rw [ht] at hP1
  have hD1 := hD1.weaken (fun _ _ _ h => hFc _ h)
  generalize H1 = H at hP1 hS ⊢
  have hP := hP1
  have hD := hD1
  have hP : va_P D xcl (rp ad E RL) H := hP
  have hD : va_D A (rp ad E RL) := hD
  rcases hp9 with ⟨rfl, z10⟩ | ⟨z11, z12, z13, z14, rfl⟩
  · refine W.eq (g2 := F0 m 5 ls [.null]) rfl ?_
    refine lv_astore_nN hx hb xd_De_memberAt_5 rfl hl (Nat.le_of_ble_eq_true rfl) rfl (fun ls hl => ?_)
    have hl : lv_has ls 4 [(3, .null), (0, .ref (ad 0 0)), (1, .int ix), (2, .int kx)] := hl
    refine lv_aload_nN hx hb xd_De_memberAt_6 rfl (lv_at hl 0 rfl) ?_
    refine lv_ifnullN (tgt := 23) hx hb xd_De_memberAt_7 (by decide) ?_
    refine lv_null hx hb xd_De_memberAt_23 ?_
    refine lv_goto (tgt := 33) hx hb xd_De_memberAt_24 (by decide) ?_
    exact W.aret (v := .null) hx hb hr (Or.inl ⟨_, rfl⟩) (Or.inl rfl) (fun t ht hW => ⟨⟨none, (), rfl, Or.inl ⟨rfl, fun ⟨la9, kn9, q⟩ => z10 ⟨la9, q.1, q.2.1, q.2.2.1⟩⟩, by rw [ht]; exact hP, hD⟩, hS.F ht⟩) hS.2.2 xd_De_memberAt_33
  · refine W.eq (g2 := F0 m 5 ls [.ref (ad (20 + z11) 0)]) rfl ?_
    refine lv_astore_n hx hb xd_De_memberAt_5 rfl hl (Nat.le_of_ble_eq_true rfl) rfl (fun ls hl => ?_)
    have hl : lv_has ls 4 [(3, .ref (ad (20 + z11) 0)), (0, .ref (ad 0 0)), (1, .int ix), (2, .int kx)] := hl
    refine lv_aload_n hx hb xd_De_memberAt_6 rfl (lv_at hl 0 rfl) ?_
    refine lv_ifnull hx hb xd_De_memberAt_7 ?_
    refine lv_iload_n hx hb xd_De_memberAt_10 rfl (lv_at hl 3 rfl) ?_
    refine lv_if_lt (tgt := 23) hx hb xd_De_memberAt_11 (by decide) (fun hc15 => ?_) (fun hc15 => ?_)
    · refine lv_null hx hb xd_De_memberAt_23 ?_
      refine lv_goto (tgt := 33) hx hb xd_De_memberAt_24 (by decide) ?_
      exact W.aret (v := .null) hx hb hr (Or.inl ⟨_, rfl⟩) (Or.inl rfl) (fun t ht hW => ⟨⟨none, (), rfl, Or.inl ⟨rfl, fun ⟨la9, kn9, q⟩ => absurd (show nI kn9 < 0 by rw [← q.2.2.2.1]; exact hc15) (nI_pos (by rw [xb_31]; have z1 := q.2.2.2.2; have z2 := hmcb la9 q.1; omega))⟩, by rw [ht]; exact hP, hD⟩, hS.F ht⟩) hS.2.2 xd_De_memberAt_33
    · obtain ⟨kn, hkn31, hkn⟩ := nI_of hc15
      rw [xb_31] at hkn31
      rw [hkn] at hl
      refine lv_iload_n hx hb xd_De_memberAt_14 rfl (lv_at hl 3 rfl) ?_
      refine lv_aload_n hx hb xd_De_memberAt_15 rfl (lv_at hl 0 rfl) ?_
      obtain ⟨m0_16, m1_16, pv_16, op_16, mk_16, fm_16, hmk_16, hpv_16, q0_16, q1_16, hk_16⟩ := id (hLIs z11 (by omega))
      have c_17 : E (20 + z11) 0 = .inr (5, [.int (nI z11), pv_16, .ref (ad (20 + z11) 1), .int op_16]) := q0_16
      have m_18 : (20 + z11, 0) ∈ RL := m0_16
      have c_19 : E (20 + z11) 1 = .inl (kA 6, mk_16, .inr (.inr (.inr (.inr fm_16)))) := q1_16
      have m_20 : (20 + z11, 1) ∈ RL := m1_16
      obtain ⟨top_16, ⟨lq_16, hlq_16, h19_16, hpv2_16⟩, h20_16, tmd_16⟩ := TLa_get c_17 c_19 (hTL z11 (by omega))
      have c_21 : E (20 + z11) 0 = .inr (5, [.int (nI z11), (lyv ad lq_16), .ref (ad (20 + z11) 1), .int op_16]) := by rw [← hpv2_16]; exact c_17
      have i20_16 : iN (g 20 z11) = mk_16 := by rw [h20_16, iN_nI (by omega)]
      refine px_get (D := D) (ci := 5) (v := .ref (ad (20 + z11) 1)) (C := xR_Ly) (T := xT_Ly) (N := 4) hx hb hT xi_Ly hown hK.1 hP m_18 c_21 rfl 2 (by decide) (hT _ k7x_5) (fun _ h9 => h9) rfl xd_De_memberAt_16 ?_
      refine px_alen hx hb hK.1 hP m_20 c_19 6 rfl xd_De_memberAt_19 ?_
      refine W.eq (g2 := F0 m 20 ls [.int (nI mk_16), .int (nI kn)]) rfl ?_
      refine xn_lt (a := kn) (b := mk_16) (tgt := 27) hx hb xd_De_memberAt_20 (by decide) (by omega) (by omega) (fun hc22 => ?_) (fun hc22 => ?_)
      · refine lv_aload_n hx hb xd_De_memberAt_27 rfl (lv_at hl 0 rfl) ?_
        refine px_get (D := D) (ci := 5) (v := .ref (ad (20 + z11) 1)) (C := xR_Ly) (T := xT_Ly) (N := 4) hx hb hT xi_Ly hown hK.1 hP m_18 c_21 rfl 2 (by decide) (hT _ k7x_5) (fun _ h9 => h9) rfl xd_De_memberAt_28 ?_
        refine lv_iload_n hx hb xd_De_memberAt_31 rfl (lv_at hl 3 rfl) ?_
        refine px_aald (i := kn) (x := (some (ad (20 + z11) (10 + 10 * kn)))) hx hb hK.1 hP m_20 c_19 6 rfl ((hk_16 kn (by omega)).1) (by omega) (by omega) xd_De_memberAt_32 ?_
        exact W.aret (v := .ref (ad (20 + z11) (10 + 10 * kn))) hx hb hr (Or.inl ⟨_, rfl⟩) (Or.inr ⟨_, rfl⟩) (fun t ht hW => ⟨⟨(some (ad (20 + z11) (10 + 10 * kn))), (), rfl, Or.inr ⟨z11, kn, ⟨z12, z13, z14, hkn, by unfold mcv; rw [i20_16]; omega⟩, rfl, (hk_16 kn (by omega)).2⟩, by rw [ht]; exact hP, hD⟩, hS.F ht⟩) hS.2.2 xd_De_memberAt_33
      · refine lv_null hx hb xd_De_memberAt_23 ?_
        refine lv_goto (tgt := 33) hx hb xd_De_memberAt_24 (by decide) ?_
        exact W.aret (v := .null) hx hb hr (Or.inl ⟨_, rfl⟩) (Or.inl rfl) (fun t ht hW => ⟨⟨none, (), rfl, Or.inl ⟨rfl, fun ⟨la9, kn9, q⟩ => by
        obtain ⟨q1, q2, q3, q4, q5⟩ := q
        have e1 := nI_inj9 (by omega) (by omega) (z13.symm.trans q2)
        have q6 := hmcb la9 q1
        have e2 := nI_inj9 (by omega) (by omega) (hkn.symm.trans q4)
        rw [← e1] at q5
        unfold mcv at q5
        rw [i20_16] at q5
        omega⟩, by rw [ht]; exact hP, hD⟩, hS.F ht⟩) hS.2.2 xd_De_memberAt_33
set_option maxHeartbeats 4000000 in
set_option maxRecDepth 100000 in
theorem xc_De_moduleA (l : Launch) (D : va_G) (kA : Nat → ClassId) (sz : Nat) (ad : Nat → Nat → Nat) (E : Nat → Nat → va_E) (RL : List (Nat × Nat)) (g : Nat → Nat → Int32) (ml : Nat) (nd : Nat) (len : Nat) (wn : Nat) (cs : Nat) (ix : Int32) (kx : Int32) (hCI : CI kA ad E RL ml nd len wn cs) (hTD : TDs g E nd) (hTL : TLas g ad E nd ml) : Met l xy_De_module (.code xy_De_module xb_De_module 4 (some .int) :: wT) { frames := 2, cells := 0, slots := 0, locals := 45 } (va_Pc [.ref (ad 0 0), .int ix, .int kx] (xPre D kA sz (rp ad E RL))) (va_Qi (fun (r : Int32) (u : Unit) => moA g ml ix kx r) (fun (u : Unit) t => va_P D xcl (rp ad E RL) t.heap ∧ va_D (va_A (rp ad E RL) sz) (rp ad E RL)) (va_A (rp ad E RL) sz)) 0 0 (va_A (rp ad E RL) sz) := by
  refine Met.ofW (cc := xb_De_module) (maxL := 4) (ret := (some .int)) (by decide) rfl ?_
  intro p e s m args below meth c s₁ B hml hv
  obtain ⟨rfl, hsz, hP, hK, hD0⟩ := hv
  have hx := B.exec
  have hb := B.bytes
  have hr := B.returns
  have hT := x_hT B.pre
  have hown : s.vm.findClass xR_De = some m.cls := findClass_of_methodNamed B.named
  have hlocks := B.notSynchronized
  subst hsz
  have hD := hD0.self (sz := s.heap.size)
  generalize hAe : va_A (rp ad E RL) s.heap.size = A at hD ⊢
  have hA : ∀ q : Nat, s.heap.size ≤ q → A q := fun q h => by rw [← hAe]; exact Or.inr h
  have hS : va_S A s.heap s.heap [] := va_S.rf
  have hl := lv_entry ([.ref (ad 0 0), .int ix, .int kx]) (n := 4) (Nat.le_of_ble_eq_true rfl)
  rw [lg_entry_eq]
  generalize (lg_sl ([.ref (ad 0 0), .int ix, .int kx]) ++ List.replicate (4 - (lg_sl ([.ref (ad 0 0), .int ix, .int kx])).length) Slot.unset).toArray = ls at hl ⊢
  have hl : lv_has ls 4 [(0, .ref (ad 0 0)), (1, .int ix), (2, .int kx)] := hl
  have hP : va_P D xcl (rp ad E RL) s.heap := hP
  obtain ⟨hmB, hDk, hLi, hSh, hCh, hLa, hDIs, hLIs⟩ := id hCI
  obtain ⟨fl_1, hml_1, q9_1, hla_1⟩ := id (hLa)
  have c_2 : E 0 9 = .inl (kA 5, 5, .inr (.inr (.inr (.inr fl_1)))) := q9_1
  have m_3 : (0, 9) ∈ RL := hmB 9 (by decide)
  obtain ⟨_, hnd12, hml5, _, _⟩ := CI_b hCI
  have hLKP : LKP g ml := LKP_C hCI hTL
  have hmcb : ∀ la, la < ml → mcv g la ≤ 12 := fun la hl9 => (hLKP.2 la hl9).1
  refine lv_aload_n hx hb xd_De_module_0 rfl (lv_at hl 0 rfl) ?_
  refine lv_iload_n hx hb xd_De_module_1 rfl (lv_at hl 1 rfl) ?_
  refine lv_iload_n hx hb xd_De_module_2 rfl (lv_at hl 2 rfl) ?_
  have hFc := px_free hD hS hA
  obtain ⟨lf_4, q_4⟩ := id (hDk)
  have c_5 : E 0 0 = .inr (0, [.ref (ad 0 1), .ref (ad 0 5), .ref (ad 0 7), .ref (ad 0 9), .int (nI ml), .int lf_4]) := q_4
  have m_6 : (0, 0) ∈ RL := hmB 0 (by decide)
  refine va_callq (va_runV (As := [.int ix, .int kx]) (rest := []) ⟨hx, hb, hml, hown, hT⟩ (xc_De_memberAtA l D kA s.heap.size ad E RL g ml nd len wn cs ix kx (by first | assumption | omega) (by first | assumption | omega)) (cwV 2 hT (wT_V k7x_7 k7x_8 k7x_9 k7x_4 k7x_6) rfl rfl rfl (by decide +kernel) ⟨Nat.le_of_ble_eq_true rfl, Nat.le_of_ble_eq_true rfl⟩) (px_preV hK hP hD m_6 c_5 rfl) rfl rfl hl.1 rfl (lv_room (Nat.le_of_ble_eq_true rfl)) xd_De_module_3 ⟨(Nat.le_of_ble_eq_true rfl), (Nat.le_of_ble_eq_true rfl)⟩) hS (fun q _ h => hFc q h) hFc (fun r7 u8 t H1 locs ht hvm hp9 hB hz1 hk1 hS => ?_)
  obtain ⟨hP1, hD1⟩ := hB
  rw [ht] at hP1
  have hD1 := hD1.weaken (fun _ _ _ h => hFc _ h)
  generalize H1 = H at hP1 hS ⊢
  have hP := hP1
  have hD := hD1
  have hP : va_P D xcl (rp ad E RL) H := hP
  have hD : va_D A (rp ad E RL) := hD
  rcases hp9 with ⟨rfl, z10⟩ | ⟨z11, z12, z13, rfl, z14⟩
  · refine W.eq (g2 := F0 m 6 ls [.null]) rfl ?_
    refine lv_astore_nN hx hb xd_De_module_6 rfl hl (Nat.le_of_ble_eq_true rfl) rfl (fun ls hl => ?_)
    have hl : lv_has ls 4 [(3, .null), (0, .ref (ad 0 0)), (1, .int ix), (2, .int kx)] := hl
    refine lv_aload_nN hx hb xd_De_module_7 rfl (lv_at hl 0 rfl) ?_
    refine lv_ifnonnullN hx hb xd_De_module_8 ?_
    refine lv_iconst (v := (-1)) hx hb xd_De_module_11 (by decide) ?_
    refine lv_goto (tgt := 22) hx hb xd_De_module_12 (by decide) ?_
    exact W.iret (v := (-1)) hx hb hr (fun t ht hW => ⟨⟨(-1), (), rfl, Or.inl ⟨rfl, z10⟩, by rw [ht]; exact hP, hD⟩, hS.F ht⟩) hS.2.2 xd_De_module_22
  · refine W.eq (g2 := F0 m 6 ls [.ref (ad (20 + z11) (10 + 10 * z12))]) rfl ?_
    have hlx_hkq : z11 < ml := z13.1
    obtain ⟨m0_15, m1_15, pv_15, op_15, mk_15, fm_15, hmk_15, hpv_15, q0_15, q1_15, hk_15⟩ := id (hLIs z11 (by omega))
    have c_16 : E (20 + z11) 0 = .inr (5, [.int (nI z11), pv_15, .ref (ad (20 + z11) 1), .int op_15]) := q0_15
    have m_17 : (20 + z11, 0) ∈ RL := m0_15
    have c_18 : E (20 + z11) 1 = .inl (kA 6, mk_15, .inr (.inr (.inr (.inr fm_15)))) := q1_15
    have m_19 : (20 + z11, 1) ∈ RL := m1_15
    obtain ⟨top_15, ⟨lq_15, hlq_15, h19_15, hpv2_15⟩, h20_15, tmd_15⟩ := TLa_get c_16 c_18 (hTL z11 (by omega))
    have c_20 : E (20 + z11) 0 = .inr (5, [.int (nI z11), (lyv ad lq_15), .ref (ad (20 + z11) 1), .int op_15]) := by rw [← hpv2_15]; exact c_16
    have i20_15 : iN (g 20 z11) = mk_15 := by rw [h20_15, iN_nI (by omega)]
    have hkq : z12 < mk_15 := by have q := (show z12 < iN (g 20 z11) from z13.2.2.2.2); rw [i20_15] at q; exact q
    obtain ⟨hm_21, d_21, rs_21, fr_21, g2_21, g3_21, g4_21, hd_21, hrs_21, q0_21, q1_21, q2_21, q3_21, q4_21, q5_21, q6_21, q7_21⟩ := id z14
    have c_22 : E (20 + z11) (10 + 10 * z12) = .inr (6, [.ref (ad (20 + z11) 0), .ref (ad (1 + d_21) 0), .ref (ad (20 + z11) (11 + 10 * z12)), .ref (ad (20 + z11) (12 + 10 * z12)), .ref (ad (20 + z11) (13 + 10 * z12)), .ref (ad (20 + z11) (14 + 10 * z12))]) := q0_21
    have m_23 : (20 + z11, 10 + 10 * z12) ∈ RL := hm_21 0 (by decide)
    have c_24 : E (20 + z11) (11 + 10 * z12) = .inl (kA 6, rs_21, .inr (.inr (.inr (.inr fr_21)))) := q1_21
    have m_25 : (20 + z11, 11 + 10 * z12) ∈ RL := hm_21 1 (by decide)
    have c_26 : E (20 + z11) (12 + 10 * z12) = .inr (10, [.ref (ad (20 + z11) (15 + 10 * z12))]) := q2_21
    have m_27 : (20 + z11, 12 + 10 * z12) ∈ RL := hm_21 2 (by decide)
    have c_28 : E (20 + z11) (13 + 10 * z12) = .inr (10, [.ref (ad (20 + z11) (16 + 10 * z12))]) := q3_21
    have m_29 : (20 + z11, 13 + 10 * z12) ∈ RL := hm_21 3 (by decide)
    have c_30 : E (20 + z11) (14 + 10 * z12) = .inr (10, [.ref (ad (20 + z11) (17 + 10 * z12))]) := q4_21
    have m_31 : (20 + z11, 14 + 10 * z12) ∈ RL := hm_21 4 (by decide)
    have c_32 : E (20 + z11) (15 + 10 * z12) = .inl (kA 0, 6, .inl g2_21) := q5_21
    have m_33 : (20 + z11, 15 + 10 * z12) ∈ RL := hm_21 5 (by decide)
    have c_34 : E (20 + z11) (16 + 10 * z12) = .inl (kA 0, 6, .inl g3_21) := q6_21
    have m_35 : (20 + z11, 16 + 10 * z12) ∈ RL := hm_21 6 (by decide)
    have c_36 : E (20 + z11) (17 + 10 * z12) = .inl (kA 0, 6, .inl g4_21) := q7_21
    have m_37 : (20 + z11, 17 + 10 * z12) ∈ RL := hm_21 7 (by decide)
    have hdm_21 : mdv g z11 z12 = d_21 := by
      obtain ⟨dz, hdz, h21z, hvz⟩ := tmd_15 z12 (by omega)
      rw [c_22] at hvz
      have ez := (rp_inj hD ((hDIs d_21 hd_21).1 0 (by omega)) ((hDIs dz hdz).1 0 (by omega)) (Value.ref.inj hvz)).1
      unfold mdv
      rw [h21z, iN_nI (by omega)]; omega
    obtain ⟨hm_38, fd_38, nm_38, sd_38, k0_38, k1_38, k2_38, k3_38, f0_38, f1_38, f2_38, f3_38, fe_38, fo_38, tr_38, op_38, hk0_38, hk1_38, hk2_38, hk3_38, q0_38, q1_38, q2_38, q3_38, q4_38, q5_38, q6_38, q7_38, q8_38, q9_38, q10_38, q11_38, q12_38, hg_38⟩ := id (hDIs d_21 (by omega))
    have c_39 : E (1 + d_21) 0 = .inr (7, [.int (nI d_21), .int fd_38, .int nm_38, .ref (ad (1 + d_21) 1), .ref (ad (1 + d_21) 9), .ref (ad (1 + d_21) 10), .ref (ad (1 + d_21) 2), .ref (ad (1 + d_21) 11), .ref (ad (1 + d_21) 12), .ref (ad (1 + d_21) 3), .ref (ad (1 + d_21) 4), .int sd_38]) := q0_38
    have m_40 : (1 + d_21, 0) ∈ RL := hm_38 0 (by decide)
    have c_41 : E (1 + d_21) 1 = .inr (8, [.ref (ad (1 + d_21) 5), .int (nI k0_38)]) := q1_38
    have m_42 : (1 + d_21, 1) ∈ RL := hm_38 1 (by decide)
    have c_43 : E (1 + d_21) 2 = .inr (8, [.ref (ad (1 + d_21) 6), .int (nI k1_38)]) := q2_38
    have m_44 : (1 + d_21, 2) ∈ RL := hm_38 2 (by decide)
    have c_45 : E (1 + d_21) 3 = .inr (8, [.ref (ad (1 + d_21) 7), .int (nI k2_38)]) := q3_38
    have m_46 : (1 + d_21, 3) ∈ RL := hm_38 3 (by decide)
    have c_47 : E (1 + d_21) 4 = .inr (8, [.ref (ad (1 + d_21) 8), .int (nI k3_38)]) := q4_38
    have m_48 : (1 + d_21, 4) ∈ RL := hm_38 4 (by decide)
    have c_49 : E (1 + d_21) 5 = .inl (kA 0, 6, .inl f0_38) := q5_38
    have m_50 : (1 + d_21, 5) ∈ RL := hm_38 5 (by decide)
    have c_51 : E (1 + d_21) 6 = .inl (kA 0, 5, .inl f1_38) := q6_38
    have m_52 : (1 + d_21, 6) ∈ RL := hm_38 6 (by decide)
    have c_53 : E (1 + d_21) 7 = .inl (kA 0, 3, .inl f2_38) := q7_38
    have m_54 : (1 + d_21, 7) ∈ RL := hm_38 7 (by decide)
    have c_55 : E (1 + d_21) 8 = .inl (kA 0, 3, .inl f3_38) := q8_38
    have m_56 : (1 + d_21, 8) ∈ RL := hm_38 8 (by decide)
    have c_57 : E (1 + d_21) 9 = .inl (kA 8, 6, .inr (.inr (.inr (.inr fe_38)))) := q9_38
    have m_58 : (1 + d_21, 9) ∈ RL := hm_38 9 (by decide)
    have c_59 : E (1 + d_21) 10 = .inl (kA 8, 6, .inr (.inr (.inr (.inr fo_38)))) := q10_38
    have m_60 : (1 + d_21, 10) ∈ RL := hm_38 10 (by decide)
    have c_61 : E (1 + d_21) 11 = .inl (kA 2, 5, .inl tr_38) := q11_38
    have m_62 : (1 + d_21, 11) ∈ RL := hm_38 11 (by decide)
    have c_63 : E (1 + d_21) 12 = .inl (kA 2, 5, .inl op_38) := q12_38
    have m_64 : (1 + d_21, 12) ∈ RL := hm_38 12 (by decide)
    have hg_38 : ∀ w9, w9 < k0_38 → fe_38 w9 = some (ad (1 + d_21) (20 + 3 * w9)) ∧ fo_38 w9 = some (ad (1 + d_21) (38 + 3 * w9)) ∧ GI kA (ad (1 + d_21)) (E (1 + d_21)) (fun o => (1 + d_21, o) ∈ RL) (20 + 3 * w9) (21 + 3 * w9) (22 + 3 * w9) ∧ GI kA (ad (1 + d_21)) (E (1 + d_21)) (fun o => (1 + d_21, o) ∈ RL) (38 + 3 * w9) (39 + 3 * w9) (40 + 3 * w9) := hg_38
    obtain ⟨hTT_38, tgr_38⟩ := TD_get hk0_38 hk1_38 hk2_38 hk3_38 c_39 c_41 c_43 c_45 c_47 c_49 c_51 c_53 c_55 c_61 c_63 (hTD d_21 (by omega))
    obtain ⟨tfd_38, tnm_38, tsd_38, tk0_38, tf0_38, tk1_38, tf1_38, tk2_38, tk3_38⟩ := id hTT_38
    have ik0_38 : iN (g 5 d_21) = k0_38 := by rw [← tk0_38, iN_nI (by omega)]
    have ik1_38 : iN (g 12 d_21) = k1_38 := by rw [← tk1_38, iN_nI (by omega)]
    refine lv_astore_n hx hb xd_De_module_6 rfl hl (Nat.le_of_ble_eq_true rfl) rfl (fun ls hl => ?_)
    have hl : lv_has ls 4 [(3, .ref (ad (20 + z11) (10 + 10 * z12))), (0, .ref (ad 0 0)), (1, .int ix), (2, .int kx)] := hl
    refine lv_aload_n hx hb xd_De_module_7 rfl (lv_at hl 0 rfl) ?_
    refine lv_ifnonnull (tgt := 15) hx hb xd_De_module_8 (by decide) ?_
    refine lv_aload_n hx hb xd_De_module_15 rfl (lv_at hl 0 rfl) ?_
    refine px_get (D := D) (ci := 6) (v := .ref (ad (1 + d_21) 0)) (C := xR_Me) (T := xT_Me) (N := 6) hx hb hT xi_Me hown hK.1 hP m_23 c_22 rfl 1 (by decide) (hT _ k7x_10) (fun _ h9 => h9) rfl xd_De_module_16 ?_
    refine px_get (D := D) (ci := 7) (v := .int (nI d_21)) (C := xR_Ds) (T := xT_Ds) (N := 12) hx hb hT xi_Ds hown hK.1 hP m_40 c_39 rfl 0 (by decide) (hT _ k7x_11) (fun _ h9 => h9) rfl xd_De_module_19 ?_
    exact W.iret (v := (nI d_21)) hx hb hr (fun t ht hW => ⟨⟨(nI d_21), (), rfl, Or.inr ⟨z11, z12, z13, by rw [hdm_21], by rw [hdm_21]; omega⟩, by rw [ht]; exact hP, hD⟩, hS.F ht⟩) hS.2.2 xd_De_module_22
theorem k7e_0 : (Cond.code xy_De_line xb_De_line 2 (some .int)) ∈ wT := wT_t (List.mem_append_left _ (List.mem_of_getElem? (i := 186) rfl)) rfl
theorem k7e_1 : (Cond.methodLink "LayerDeskLaw" 7 xy_De_line) ∈ wT := wT_t (List.mem_append_left _ (List.mem_of_getElem? (i := 183) rfl)) rfl
theorem k7e_2 : (Cond.instanceMethod xy_De_line) ∈ wT := wT_t (List.mem_append_left _ (List.mem_of_getElem? (i := 184) rfl)) rfl
theorem k7e_3 : (Cond.selects "LayerDesk" xy_De_line xy_De_line) ∈ wT := wT_t (List.mem_append_left _ (List.mem_of_getElem? (i := 185) rfl)) rfl
theorem k7e_4 : (Cond.initialized "LayerDesk") ∈ wT := wT_t (List.mem_append_left _ (List.mem_of_getElem? (i := 1) rfl)) rfl
theorem k7e_5 : (Cond.classLink "LayerDeskLaw" 13 "java/lang/IllegalArgumentException") ∈ wT := wT_t (List.mem_append_left _ (List.mem_of_getElem? (i := 181) rfl)) rfl
theorem k7e_6 : (Cond.classLink "LayerDeskLaw" 15 "java/lang/IllegalStateException") ∈ wT := wT_t (List.mem_append_left _ (List.mem_of_getElem? (i := 182) rfl)) rfl
theorem k7e_7 : (Cond.code xy_De_layer xb_De_layer 7 (some .int)) ∈ wT := wT_t (List.mem_append_right _ (List.mem_append_right _ (List.mem_append_left _ (List.mem_of_getElem? (i := 55) rfl)))) rfl
theorem k7e_8 : (Cond.methodLink "LayerDeskLaw" 17 xy_De_layer) ∈ wT := wT_t (List.mem_append_right _ (List.mem_append_right _ (List.mem_append_left _ (List.mem_of_getElem? (i := 52) rfl)))) rfl
theorem k7e_9 : (Cond.instanceMethod xy_De_layer) ∈ wT := wT_t (List.mem_append_right _ (List.mem_append_right _ (List.mem_append_left _ (List.mem_of_getElem? (i := 53) rfl)))) rfl
theorem k7e_10 : (Cond.selects "LayerDesk" xy_De_layer xy_De_layer) ∈ wT := wT_t (List.mem_append_right _ (List.mem_append_right _ (List.mem_append_left _ (List.mem_of_getElem? (i := 54) rfl)))) rfl
theorem k7e_11 : (Cond.classLink "LayerDeskLaw" 21 "java/util/NoSuchElementException") ∈ wT := wT_t (List.mem_append_right _ (List.mem_append_right _ (List.mem_append_left _ (List.mem_of_getElem? (i := 51) rfl)))) rfl
theorem k7e_12 : (Cond.code xy_De_load xb_De_load 6 (some .int)) ∈ wT := wT_t (List.mem_append_right _ (List.mem_append_right _ (List.mem_append_right _ (List.mem_append_left _ (List.mem_of_getElem? (i := 38) rfl))))) rfl
theorem k7e_13 : (Cond.methodLink "LayerDeskLaw" 23 xy_De_load) ∈ wT := wT_t (List.mem_append_right _ (List.mem_append_right _ (List.mem_append_right _ (List.mem_append_left _ (List.mem_of_getElem? (i := 35) rfl))))) rfl
theorem k7e_14 : (Cond.instanceMethod xy_De_load) ∈ wT := wT_t (List.mem_append_right _ (List.mem_append_right _ (List.mem_append_right _ (List.mem_append_left _ (List.mem_of_getElem? (i := 36) rfl))))) rfl
theorem k7e_15 : (Cond.selects "LayerDesk" xy_De_load xy_De_load) ∈ wT := wT_t (List.mem_append_right _ (List.mem_append_right _ (List.mem_append_right _ (List.mem_append_left _ (List.mem_of_getElem? (i := 37) rfl))))) rfl
theorem k7e_16 : (Cond.code xy_De_peek xb_De_peek 8 (some .boolean)) ∈ wT := wT_t (List.mem_append_right _ (List.mem_append_right _ (List.mem_append_right _ (List.mem_append_left _ (List.mem_of_getElem? (i := 59) rfl))))) rfl
theorem k7e_17 : (Cond.methodLink "LayerDeskLaw" 27 xy_De_peek) ∈ wT := wT_t (List.mem_append_right _ (List.mem_append_right _ (List.mem_append_right _ (List.mem_append_left _ (List.mem_of_getElem? (i := 56) rfl))))) rfl
theorem k7e_18 : (Cond.instanceMethod xy_De_peek) ∈ wT := wT_t (List.mem_append_right _ (List.mem_append_right _ (List.mem_append_right _ (List.mem_append_left _ (List.mem_of_getElem? (i := 57) rfl))))) rfl
theorem k7e_19 : (Cond.selects "LayerDesk" xy_De_peek xy_De_peek) ∈ wT := wT_t (List.mem_append_right _ (List.mem_append_right _ (List.mem_append_right _ (List.mem_append_left _ (List.mem_of_getElem? (i := 58) rfl))))) rfl
theorem k7e_20 : (Cond.code xy_De_provider xb_De_provider 6 (some .int)) ∈ wT := wT_t (List.mem_append_right _ (List.mem_append_right _ (List.mem_append_right _ (List.mem_append_left _ (List.mem_of_getElem? (i := 71) rfl))))) rfl
theorem k7e_21 : (Cond.methodLink "LayerDeskLaw" 31 xy_De_provider) ∈ wT := wT_t (List.mem_append_right _ (List.mem_append_right _ (List.mem_append_right _ (List.mem_append_left _ (List.mem_of_getElem? (i := 68) rfl))))) rfl
theorem k7e_22 : (Cond.instanceMethod xy_De_provider) ∈ wT := wT_t (List.mem_append_right _ (List.mem_append_right _ (List.mem_append_right _ (List.mem_append_left _ (List.mem_of_getElem? (i := 69) rfl))))) rfl
theorem k7e_23 : (Cond.selects "LayerDesk" xy_De_provider xy_De_provider) ∈ wT := wT_t (List.mem_append_right _ (List.mem_append_right _ (List.mem_append_right _ (List.mem_append_left _ (List.mem_of_getElem? (i := 70) rfl))))) rfl
set_option maxHeartbeats 4000000 in
set_option maxRecDepth 100000 in
theorem xc_La_lineX (l : Launch) (hlt : l.stackTraces = false) (D : va_G) (kA : Nat → ClassId) (sz : Nat) (ad : Nat → Nat → Nat) (E : Nat → Nat → va_E) (RL : List (Nat × Nat)) (Z : zT) (g : Nat → Nat → Int32) (ml : Nat) (nd : Nat) (len : Nat) (wn : Nat) (cs : Nat) (ob : Nat) (fo : Nat → Int64) (hCI : CI kA ad E RL ml nd len wn cs) (hTD : TDs g E nd) (hZI : ZI g nd) (hTX : ∀ i, i < len → eA (E 0 2) i = g 0 i) : Met l xy_La_line (.codeWith xy_La_line xb_La_line 3 (some .int) [(0, 8, 11, 13), (0, 8, 14, 15)] :: wT) { frames := 8, cells := 14, slots := 72, locals := 176 } (va_Pc [.ref (ad 0 0), .ref ob] (xPreZ D kA sz ((ob, .inl (kA 3, 1, .inr (.inl fo))) :: rp ad E RL) Z)) (va_Qi (fun (r : Int32) (u : ((Nat → Nat → Nat) × (Nat → Nat → va_E) × List (Nat × Nat)) × (Nat → Int64)) => (∃ wn2, CI kA u.1.1 u.1.2.1 u.1.2.2 ml (lnF (g 0) (w_all (g 0) len) nd g).1 0 wn2 cs) ∧ TDs (lnF (g 0) (w_all (g 0) len) nd g).2 u.1.2.1 (lnF (g 0) (w_all (g 0) len) nd g).1 ∧ u.1.1 0 0 = ad 0 0 ∧ FRL ml nd ad u.1.1 E u.1.2.1) (fun (u : ((Nat → Nat → Nat) × (Nat → Nat → va_E) × List (Nat × Nat)) × (Nat → Int64)) t => va_P D xcl ((ob, .inl (kA 3, 1, .inr (.inl u.2))) :: rp u.1.1 u.1.2.1 u.1.2.2) t.heap ∧ va_D (va_A ((ob, .inl (kA 3, 1, .inr (.inl fo))) :: rp ad E RL) sz) ((ob, .inl (kA 3, 1, .inr (.inl u.2))) :: rp u.1.1 u.1.2.1 u.1.2.2)) (va_A ((ob, .inl (kA 3, 1, .inr (.inl fo))) :: rp ad E RL) sz)) 14 72 (va_A ((ob, .inl (kA 3, 1, .inr (.inl fo))) :: rp ad E RL) sz) := by
  refine va_MetW (cc := xb_La_line) (maxL := 3) (ret := (some .int)) (by decide) rfl ?_
  intro p e s m args below meth c s₁ B hml hv
  obtain ⟨rfl, ⟨hsz, hP, hK, hD0⟩, hZ⟩ := hv
  have hx := B.exec
  have hb := B.bytes
  have hr := B.returns
  have hT := x_hT B.pre
  have hown : s.vm.findClass xR_La = some m.cls := findClass_of_methodNamed B.named
  have hlocks := B.notSynchronized
  subst hsz
  have hD := hD0.self (sz := s.heap.size)
  generalize hAe : va_A ((ob, .inl (kA 3, 1, .inr (.inl fo))) :: rp ad E RL) s.heap.size = A at hD hZ ⊢
  have hA : ∀ q : Nat, s.heap.size ≤ q → A q := fun q h => by rw [← hAe]; exact Or.inr h
  have hS : va_S A s.heap s.heap [] := va_S.rf
  have hl := lv_entry ([.ref (ad 0 0), .ref ob]) (n := 3) (Nat.le_of_ble_eq_true rfl)
  rw [lg_entry_eq]
  generalize (lg_sl ([.ref (ad 0 0), .ref ob]) ++ List.replicate (3 - (lg_sl ([.ref (ad 0 0), .ref ob])).length) Slot.unset).toArray = ls at hl ⊢
  have hl : lv_has ls 3 [(0, .ref (ad 0 0)), (1, .ref ob)] := hl
  have hP : va_P D xcl ((ob, .inl (kA 3, 1, .inr (.inl fo))) :: rp ad E RL) s.heap := hP
  have hex := vx_table (x := xy_La_line) B (atoms_spec (ws := .codeWith xy_La_line xb_La_line 3 (some .int) [(0, 8, 11, 13), (0, 8, 14, 15)] :: wT) B.pre _ List.mem_cons_self)
  refine lv_aload_n hx hb xd_La_line_0 rfl (lv_at hl 1 rfl) ?_
  refine lv_iconst (v := 0) hx hb xd_La_line_1 (by decide) ?_
  refine lv_aload_n hx hb xd_La_line_2 rfl (lv_at hl 0 rfl) ?_
  have hPc := xp_P (X := [(ob, .inl (kA 3, 1, .inr (.inl fo)))]) hP
  have hDc := xp_D (X := [(ob, .inl (kA 3, 1, .inr (.inl fo)))]) hD
  have hFc := va_freeP (X := [(ob, .inl (kA 3, 1, .inr (.inl fo)))]) (cx := []) hD hS hA [] rfl
  have hZc := hZ.kept hS
  obtain ⟨lf, hc0⟩ := hCI.2.1
  refine vx_calli (vx_runV (As := []) (rest := [.int 0, .ref ob]) ⟨hx, hb, hml, hown, hT⟩ (xc_De_lineX l hlt D kA s.heap.size ad E RL Z g ml nd len wn cs hCI hTD hZI hTX) (cwV 0 hT (wT_V k7e_1 k7e_2 k7e_3 k7e_4 k7e_0) rfl rfl rfl (by decide +kernel) ⟨Nat.le_of_ble_eq_true rfl, Nat.le_of_ble_eq_true rfl⟩) (px_preVZ hK hPc hDc (hCI.1 0 (by decide)) hc0 rfl hFc hZc) rfl rfl hl.1 rfl (lv_room (Nat.le_of_ble_eq_true rfl)) xd_La_line_3 ⟨Nat.le_of_ble_eq_true rfl, Nat.le_of_ble_eq_true rfl⟩) hS (fun q _ h => hFc q h) hFc (fun q _ h => hFc q h) (fun E9 ce q9 u t H1 locs ht hvm hpost hB hz1 hk1 hS hce hcv hcl => ?_) (fun r u t H1 locs ht hvm hpost hB hz1 hk1 hS => ?_)
  · obtain ⟨hE9, hP1, hD1⟩ := hB
    rw [ht] at hP1
    obtain ⟨hP, hD⟩ := va_joinP (X := [(ob, .inl (kA 3, 1, .inr (.inl fo)))]) (cx := []) (wr := [(ob, .inl (kA 3, 1, .inr (.inl fo)))]) (rx := []) hP hD [] [0] rfl rfl (by decide) (by decide) hk1 hFc hP1 hD1
    generalize H1 = H at hP hS hce ⊢
    have hl := lv_sub hl [1] rfl
    have hl : lv_has ls 3 [(1, .ref ob)] := hl
    have hP : va_P D xcl ((ob, .inl (kA 3, 1, .inr (.inl fo))) :: rp u.1 u.2.1 u.2.2) H := hP
    have hD : va_D A ((ob, .inl (kA 3, 1, .inr (.inl fo))) :: rp u.1 u.2.1 u.2.2) := hD
    rcases hE9 with rfl | rfl
    · refine vx_catch (own := "LayerDeskLaw") (name := "java/lang/IllegalArgumentException") hown [] ⟨0, 8, 11, 13⟩ [⟨0, 8, 14, 15⟩] (by rw [hex]; rfl) (fun z hz => nomatch hz) rfl (by decide) (hT _ k7e_5) (va_Nw.use rfl hK.2.2.2.2.2.1) hce hcv hcl ?_
      refine lv_astore_n hx hb xd_La_line_11 rfl hl (Nat.le_of_ble_eq_true rfl) rfl (fun ls hl => ?_)
      have hl : lv_has ls 3 [(2, .ref q9), (1, .ref ob)] := hl
      refine lv_iconst (v := 1) hx hb xd_La_line_12 (by decide) ?_
      refine W.widen (k := 14) (n := 72) (Nat.le_of_ble_eq_true rfl) (Nat.le_of_ble_eq_true rfl) ?_
      exact W.iret (v := 1) hx hb hr (fun t ht hW => ⟨⟨1, ((u.1, u.2.1, u.2.2), fo), rfl, hpost, by rw [ht]; exact hP, hD⟩, hS.F ht⟩) hS.2.2 xd_La_line_13
    · refine vx_catch (own := "LayerDeskLaw") (name := "java/lang/IllegalStateException") hown [⟨0, 8, 11, 13⟩] ⟨0, 8, 14, 15⟩ [] (by rw [hex]; rfl) (fun z hz => by rw [List.mem_singleton] at hz; subst hz; exact Or.inr ⟨(by decide), "java/lang/IllegalArgumentException", hT _ k7e_5, hZ.2.2.2.2.1⟩) rfl (by decide) (hT _ k7e_6) (va_Nw.use rfl hK.2.2.2.2.2.2.1) hce hcv hcl ?_
      refine lv_astore_n hx hb xd_La_line_14 rfl hl (Nat.le_of_ble_eq_true rfl) rfl (fun ls hl => ?_)
      have hl : lv_has ls 3 [(2, .ref q9), (1, .ref ob)] := hl
      refine lv_iconst (v := 2) hx hb xd_La_line_15 (by decide) ?_
      refine W.widen (k := 14) (n := 72) (Nat.le_of_ble_eq_true rfl) (Nat.le_of_ble_eq_true rfl) ?_
      exact W.iret (v := 2) hx hb hr (fun t ht hW => ⟨⟨2, ((u.1, u.2.1, u.2.2), fo), rfl, hpost, by rw [ht]; exact hP, hD⟩, hS.F ht⟩) hS.2.2 xd_La_line_16
  · obtain ⟨hP1, hD1⟩ := hB
    rw [ht] at hP1
    obtain ⟨hP, hD⟩ := va_joinP (X := [(ob, .inl (kA 3, 1, .inr (.inl fo)))]) (cx := []) (wr := [(ob, .inl (kA 3, 1, .inr (.inl fo)))]) (rx := []) hP hD [] [0] rfl rfl (by decide) (by decide) hk1 hFc hP1 hD1
    generalize H1 = H at hP hS ⊢
    have hl := lv_sub hl [1] rfl
    have hl : lv_has ls 3 [(1, .ref ob)] := hl
    have hP : va_P D xcl ((ob, .inl (kA 3, 1, .inr (.inl fo))) :: rp u.1 u.2.1 u.2.2) H := hP
    have hD : va_D A ((ob, .inl (kA 3, 1, .inr (.inl fo))) :: rp u.1 u.2.1 u.2.2) := hD
    refine lv_i2l (v := ((r : Int32).toInt64)) hx hb xd_La_line_6 rfl ?_
    refine va_last hx hb hK.1 hP hD hS 0 3 rfl rfl (show ¬ _ by decide) xd_La_line_7 (fun H locs hP hD hS => ?_)
    have hP : va_P D xcl ((ob, .inl (kA 3, 1, .inr (.inl (vp_updL fo (0 : Int32).toNatClampNeg ((r : Int32).toInt64))))) :: rp u.1 u.2.1 u.2.2) H := hP
    have hD : va_D A ((ob, .inl (kA 3, 1, .inr (.inl (vp_updL fo (0 : Int32).toNatClampNeg ((r : Int32).toInt64))))) :: rp u.1 u.2.1 u.2.2) := hD
    refine lv_goto (tgt := 17) hx hb xd_La_line_8 (by decide) ?_
    refine lv_iconst (v := 0) hx hb xd_La_line_17 (by decide) ?_
    refine W.widen (k := 14) (n := 72) (Nat.le_of_ble_eq_true rfl) (Nat.le_of_ble_eq_true rfl) ?_
    exact W.iret (v := 0) hx hb hr (fun t ht hW => ⟨⟨0, ((u.1, u.2.1, u.2.2), (vp_updL fo (0 : Int32).toNatClampNeg ((r : Int32).toInt64))), rfl, hpost, by rw [ht]; exact hP, hD⟩, hS.F ht⟩) hS.2.2 xd_La_line_18
set_option maxHeartbeats 4000000 in
set_option maxRecDepth 100000 in
theorem xc_La_layerX (l : Launch) (hlt : l.stackTraces = false) (D : va_G) (kA : Nat → ClassId) (sz : Nat) (ad : Nat → Nat → Nat) (E : Nat → Nat → va_E) (RL : List (Nat × Nat)) (Z : zT) (g : Nat → Nat → Int32) (ml : Nat) (nd : Nat) (len : Nat) (wn : Nat) (cs : Nat) (ob : Nat) (fo : Nat → Int64) (fi : Int32) (px : Int32) (bi : Int32) (hCI : CI kA ad E RL ml nd len wn cs) (hTD : TDs g E nd) (hTL : TLas g ad E nd ml) (hCB : CBs g E ml) (hTX : ∀ i, i < len → eA (E 0 2) i = g 0 i) (hNZ : NZ g nd) (hUQ : ∀ d, d < nd → UQ1 g d) (hND : NDq g ml) : Met l xy_La_layer (.codeWith xy_La_layer xb_La_layer 6 (some .int) [(0, 12, 15, 13), (0, 12, 19, 21), (0, 12, 23, 15)] :: wT) { frames := 24, cells := 101, slots := 430, locals := 1310 } (va_Pc [.ref (ad 0 0), .int fi, .int px, .int bi, .ref ob] (xPreZ D kA sz ((ob, .inl (kA 3, 1, .inr (.inl fo))) :: rp ad E RL) Z)) (va_Qi (fun (r : Int32) (u : ((Nat → Nat → Nat) × (Nat → Nat → va_E) × List (Nat × Nat)) × (Nat → Int64)) => YP kA g ad E ml nd len fi px bi r u.1.1 u.1.2.1 u.1.2.2 (u.2 0)) (fun (u : ((Nat → Nat → Nat) × (Nat → Nat → va_E) × List (Nat × Nat)) × (Nat → Int64)) t => va_P D xcl ((ob, .inl (kA 3, 1, .inr (.inl u.2))) :: rp u.1.1 u.1.2.1 u.1.2.2) t.heap ∧ va_D (va_A ((ob, .inl (kA 3, 1, .inr (.inl fo))) :: rp ad E RL) sz) ((ob, .inl (kA 3, 1, .inr (.inl u.2))) :: rp u.1.1 u.1.2.1 u.1.2.2)) (va_A ((ob, .inl (kA 3, 1, .inr (.inl fo))) :: rp ad E RL) sz)) 101 430 (va_A ((ob, .inl (kA 3, 1, .inr (.inl fo))) :: rp ad E RL) sz) := by
  refine va_MetW (cc := xb_La_layer) (maxL := 6) (ret := (some .int)) (by decide) rfl ?_
  intro p e s m args below meth c s₁ B hml hv
  obtain ⟨rfl, ⟨hsz, hP, hK, hD0⟩, hZ⟩ := hv
  have hx := B.exec
  have hb := B.bytes
  have hr := B.returns
  have hT := x_hT B.pre
  have hown : s.vm.findClass xR_La = some m.cls := findClass_of_methodNamed B.named
  have hlocks := B.notSynchronized
  subst hsz
  have hD := hD0.self (sz := s.heap.size)
  generalize hAe : va_A ((ob, .inl (kA 3, 1, .inr (.inl fo))) :: rp ad E RL) s.heap.size = A at hD hZ ⊢
  have hA : ∀ q : Nat, s.heap.size ≤ q → A q := fun q h => by rw [← hAe]; exact Or.inr h
  have hS : va_S A s.heap s.heap [] := va_S.rf
  have hl := lv_entry ([.ref (ad 0 0), .int fi, .int px, .int bi, .ref ob]) (n := 6) (Nat.le_of_ble_eq_true rfl)
  rw [lg_entry_eq]
  generalize (lg_sl ([.ref (ad 0 0), .int fi, .int px, .int bi, .ref ob]) ++ List.replicate (6 - (lg_sl ([.ref (ad 0 0), .int fi, .int px, .int bi, .ref ob])).length) Slot.unset).toArray = ls at hl ⊢
  have hl : lv_has ls 6 [(0, .ref (ad 0 0)), (1, .int fi), (2, .int px), (3, .int bi), (4, .ref ob)] := hl
  have hP : va_P D xcl ((ob, .inl (kA 3, 1, .inr (.inl fo))) :: rp ad E RL) s.heap := hP
  have hex := vx_table (x := xy_La_layer) B (atoms_spec (ws := .codeWith xy_La_layer xb_La_layer 6 (some .int) [(0, 12, 15, 13), (0, 12, 19, 21), (0, 12, 23, 15)] :: wT) B.pre _ List.mem_cons_self)
  refine lv_aload hx hb xd_La_layer_0 (lv_at hl 4 rfl) ?_
  refine lv_iconst (v := 0) hx hb xd_La_layer_2 (by decide) ?_
  refine lv_aload_n hx hb xd_La_layer_3 rfl (lv_at hl 0 rfl) ?_
  refine lv_iload_n hx hb xd_La_layer_4 rfl (lv_at hl 1 rfl) ?_
  refine lv_iload_n hx hb xd_La_layer_5 rfl (lv_at hl 2 rfl) ?_
  refine lv_iload_n hx hb xd_La_layer_6 rfl (lv_at hl 3 rfl) ?_
  have hPc := xp_P (X := [(ob, .inl (kA 3, 1, .inr (.inl fo)))]) hP
  have hDc := xp_D (X := [(ob, .inl (kA 3, 1, .inr (.inl fo)))]) hD
  have hFc := va_freeP (X := [(ob, .inl (kA 3, 1, .inr (.inl fo)))]) (cx := []) hD hS hA [] rfl
  have hZc := hZ.kept hS
  obtain ⟨lf, hc0⟩ := hCI.2.1
  refine vx_calli (vx_runV (As := [.int fi, .int px, .int bi]) (rest := [.int 0, .ref ob]) ⟨hx, hb, hml, hown, hT⟩ (xc_De_layerX l hlt D kA s.heap.size ad E RL Z g ml nd len wn cs fi px bi hCI hTD hTL hCB hTX hNZ hUQ hND) (cwV 3 hT (wT_V k7e_8 k7e_9 k7e_10 k7e_4 k7e_7) rfl rfl rfl (by decide +kernel) ⟨Nat.le_of_ble_eq_true rfl, Nat.le_of_ble_eq_true rfl⟩) (px_preVZ hK hPc hDc (hCI.1 0 (by decide)) hc0 rfl hFc hZc) rfl rfl hl.1 rfl (lv_room (Nat.le_of_ble_eq_true rfl)) xd_La_layer_7 ⟨Nat.le_of_ble_eq_true rfl, Nat.le_of_ble_eq_true rfl⟩) hS (fun q _ h => hFc q h) hFc (fun q _ h => hFc q h) (fun E9 ce q9 u t H1 locs ht hvm hpost hB hz1 hk1 hS hce hcv hcl => ?_) (fun r u t H1 locs ht hvm hpost hB hz1 hk1 hS => ?_)
  · obtain ⟨hE9, hP1, hD1⟩ := hB
    rw [ht] at hP1
    obtain ⟨hP, hD⟩ := va_joinP (X := [(ob, .inl (kA 3, 1, .inr (.inl fo)))]) (cx := []) (wr := [(ob, .inl (kA 3, 1, .inr (.inl fo)))]) (rx := []) hP hD [] [0] rfl rfl (by decide) (by decide) hk1 hFc hP1 hD1
    generalize H1 = H at hP hS hce ⊢
    have hl := lv_sub hl [1, 2, 3, 4] rfl
    have hl : lv_has ls 6 [(1, .int fi), (2, .int px), (3, .int bi), (4, .ref ob)] := hl
    have hP : va_P D xcl ((ob, .inl (kA 3, 1, .inr (.inl fo))) :: rp u.1 u.2.1 u.2.2) H := hP
    have hD : va_D A ((ob, .inl (kA 3, 1, .inr (.inl fo))) :: rp u.1 u.2.1 u.2.2) := hD
    rcases hE9 with ⟨rfl, hz9⟩ | ⟨rfl, hz9⟩ | ⟨rfl, hz9⟩
    · refine vx_catch (own := "LayerDeskLaw") (name := "java/lang/IllegalArgumentException") hown [] ⟨0, 12, 15, 13⟩ [⟨0, 12, 19, 21⟩, ⟨0, 12, 23, 15⟩] (by rw [hex]; rfl) (fun z hz => nomatch hz) rfl (by decide) (hT _ k7e_5) (va_Nw.use rfl hK.2.2.2.2.2.1) hce hcv hcl ?_
      refine lv_astore hx hb xd_La_layer_15 hl (Nat.le_of_ble_eq_true rfl) rfl (fun ls hl => ?_)
      have hl : lv_has ls 6 [(5, .ref q9), (1, .int fi), (2, .int px), (3, .int bi), (4, .ref ob)] := hl
      refine lv_iconst (v := 1) hx hb xd_La_layer_17 (by decide) ?_
      refine W.widen (k := 101) (n := 430) (Nat.le_of_ble_eq_true rfl) (Nat.le_of_ble_eq_true rfl) ?_
      exact W.iret (v := 1) hx hb hr (fun t ht hW => ⟨⟨1, ((u.1, u.2.1, u.2.2), fo), rfl, (YP_1 ⟨hpost.1, hpost.2⟩ hz9), by rw [ht]; exact hP, hD⟩, hS.F ht⟩) hS.2.2 xd_La_layer_18
    · refine vx_catch (own := "LayerDeskLaw") (name := "java/util/NoSuchElementException") hown [⟨0, 12, 15, 13⟩] ⟨0, 12, 19, 21⟩ [⟨0, 12, 23, 15⟩] (by rw [hex]; rfl) (fun z hz => by rw [List.mem_singleton] at hz; subst hz; exact Or.inr ⟨(by decide), "java/lang/IllegalArgumentException", hT _ k7e_5, hZ.2.2.2.2.2.1⟩) rfl (by decide) (hT _ k7e_11) (va_Nw.use rfl hK.2.2.2.2.2.2.2) hce hcv hcl ?_
      refine lv_astore hx hb xd_La_layer_19 hl (Nat.le_of_ble_eq_true rfl) rfl (fun ls hl => ?_)
      have hl : lv_has ls 6 [(5, .ref q9), (1, .int fi), (2, .int px), (3, .int bi), (4, .ref ob)] := hl
      refine lv_iconst (v := 2) hx hb xd_La_layer_21 (by decide) ?_
      refine W.widen (k := 101) (n := 430) (Nat.le_of_ble_eq_true rfl) (Nat.le_of_ble_eq_true rfl) ?_
      exact W.iret (v := 2) hx hb hr (fun t ht hW => ⟨⟨2, ((u.1, u.2.1, u.2.2), fo), rfl, (YP_2 ⟨hpost.1, hpost.2⟩ hz9), by rw [ht]; exact hP, hD⟩, hS.F ht⟩) hS.2.2 xd_La_layer_22
    · refine vx_catch (own := "LayerDeskLaw") (name := "java/lang/IllegalStateException") hown [⟨0, 12, 15, 13⟩, ⟨0, 12, 19, 21⟩] ⟨0, 12, 23, 15⟩ [] (by rw [hex]; rfl) (fun z hz => by rcases List.mem_cons.mp hz with hz | hz; subst hz; exact Or.inr ⟨(by decide), "java/lang/IllegalArgumentException", hT _ k7e_5, hZ.2.2.2.2.1⟩; rw [List.mem_singleton] at hz; subst hz; exact Or.inr ⟨(by decide), "java/util/NoSuchElementException", hT _ k7e_11, hZ.2.2.2.2.2.2⟩) rfl (by decide) (hT _ k7e_6) (va_Nw.use rfl hK.2.2.2.2.2.2.1) hce hcv hcl ?_
      refine lv_astore hx hb xd_La_layer_23 hl (Nat.le_of_ble_eq_true rfl) rfl (fun ls hl => ?_)
      have hl : lv_has ls 6 [(5, .ref q9), (1, .int fi), (2, .int px), (3, .int bi), (4, .ref ob)] := hl
      refine lv_iconst (v := 3) hx hb xd_La_layer_25 (by decide) ?_
      refine W.widen (k := 101) (n := 430) (Nat.le_of_ble_eq_true rfl) (Nat.le_of_ble_eq_true rfl) ?_
      exact W.iret (v := 3) hx hb hr (fun t ht hW => ⟨⟨3, ((u.1, u.2.1, u.2.2), fo), rfl, (YP_3 ⟨hpost.1, hpost.2⟩ hz9), by rw [ht]; exact hP, hD⟩, hS.F ht⟩) hS.2.2 xd_La_layer_26
  · obtain ⟨hP1, hD1⟩ := hB
    rw [ht] at hP1
    obtain ⟨hP, hD⟩ := va_joinP (X := [(ob, .inl (kA 3, 1, .inr (.inl fo)))]) (cx := []) (wr := [(ob, .inl (kA 3, 1, .inr (.inl fo)))]) (rx := []) hP hD [] [0] rfl rfl (by decide) (by decide) hk1 hFc hP1 hD1
    generalize H1 = H at hP hS ⊢
    have hl := lv_sub hl [1, 2, 3, 4] rfl
    have hl : lv_has ls 6 [(1, .int fi), (2, .int px), (3, .int bi), (4, .ref ob)] := hl
    have hP : va_P D xcl ((ob, .inl (kA 3, 1, .inr (.inl fo))) :: rp u.1 u.2.1 u.2.2) H := hP
    have hD : va_D A ((ob, .inl (kA 3, 1, .inr (.inl fo))) :: rp u.1 u.2.1 u.2.2) := hD
    refine lv_i2l (v := ((r : Int32).toInt64)) hx hb xd_La_layer_10 rfl ?_
    refine va_last hx hb hK.1 hP hD hS 0 3 rfl rfl (show ¬ _ by decide) xd_La_layer_11 (fun H locs hP hD hS => ?_)
    have hP : va_P D xcl ((ob, .inl (kA 3, 1, .inr (.inl (vp_updL fo (0 : Int32).toNatClampNeg ((r : Int32).toInt64))))) :: rp u.1 u.2.1 u.2.2) H := hP
    have hD : va_D A ((ob, .inl (kA 3, 1, .inr (.inl (vp_updL fo (0 : Int32).toNatClampNeg ((r : Int32).toInt64))))) :: rp u.1 u.2.1 u.2.2) := hD
    refine lv_goto (tgt := 27) hx hb xd_La_layer_12 (by decide) ?_
    refine lv_iconst (v := 0) hx hb xd_La_layer_27 (by decide) ?_
    refine W.widen (k := 101) (n := 430) (Nat.le_of_ble_eq_true rfl) (Nat.le_of_ble_eq_true rfl) ?_
    exact W.iret (v := 0) hx hb hr (fun t ht hW => ⟨⟨0, ((u.1, u.2.1, u.2.2), (vp_updL fo (0 : Int32).toNatClampNeg ((r : Int32).toInt64))), rfl, (by
        obtain ⟨⟨y1, y2, y3, y4⟩, L9, wn2, cs2, y5, y6, y7, y8, y9, y10, y11, y12, _⟩ := hpost
        exact Or.inr (Or.inr (Or.inr ⟨rfl, by rw [y1]; simp [vp_updL], y2, y3, y4, L9, wn2, cs2, y5, y6, y7, y8, y9, y10, y11, y12⟩))), by rw [ht]; exact hP, hD⟩, hS.F ht⟩) hS.2.2 xd_La_layer_28
set_option maxHeartbeats 4000000 in
set_option maxRecDepth 100000 in
theorem xc_La_loadX (l : Launch) (hlt : l.stackTraces = false) (D : va_G) (kA : Nat → ClassId) (sz : Nat) (ad : Nat → Nat → Nat) (E : Nat → Nat → va_E) (RL : List (Nat × Nat)) (Z : zT) (g : Nat → Nat → Int32) (ml : Nat) (nd : Nat) (len : Nat) (wn : Nat) (cs : Nat) (ob : Nat) (fo : Nat → Int64) (ix : Int32) (kx : Int32) (hCI : CI kA ad E RL ml nd len wn cs) (hTX : ∀ i, i < len → eA (E 0 2) i = g 0 i) : Met l xy_La_load (.codeWith xy_La_load xb_La_load 5 (some .int) [(0, 10, 13, 13), (0, 10, 17, 21)] :: wT) { frames := 7, cells := 1, slots := 6, locals := 115 } (va_Pc [.ref (ad 0 0), .int ix, .int kx, .ref ob] (xPreZ D kA sz ((ob, .inl (kA 3, 1, .inr (.inl fo))) :: rp ad E RL) Z)) (va_Qi (fun (r : Int32) (u : ((Nat → Nat → Nat) × (Nat → Nat → va_E) × List (Nat × Nat)) × (Nat → Int64)) => (∃ wn2, CI kA ad u.1.2.1 RL ml nd 0 wn2 cs) ∧ F134 E u.1.2.1 ∧ u.1.1 = ad ∧ u.1.2.2 = RL) (fun (u : ((Nat → Nat → Nat) × (Nat → Nat → va_E) × List (Nat × Nat)) × (Nat → Int64)) t => va_P D xcl ((ob, .inl (kA 3, 1, .inr (.inl u.2))) :: rp u.1.1 u.1.2.1 u.1.2.2) t.heap ∧ va_D (va_A ((ob, .inl (kA 3, 1, .inr (.inl fo))) :: rp ad E RL) sz) ((ob, .inl (kA 3, 1, .inr (.inl u.2))) :: rp u.1.1 u.1.2.1 u.1.2.2)) (va_A ((ob, .inl (kA 3, 1, .inr (.inl fo))) :: rp ad E RL) sz)) 1 6 (va_A ((ob, .inl (kA 3, 1, .inr (.inl fo))) :: rp ad E RL) sz) := by
  refine va_MetW (cc := xb_La_load) (maxL := 5) (ret := (some .int)) (by decide) rfl ?_
  intro p e s m args below meth c s₁ B hml hv
  obtain ⟨rfl, ⟨hsz, hP, hK, hD0⟩, hZ⟩ := hv
  have hx := B.exec
  have hb := B.bytes
  have hr := B.returns
  have hT := x_hT B.pre
  have hown : s.vm.findClass xR_La = some m.cls := findClass_of_methodNamed B.named
  have hlocks := B.notSynchronized
  subst hsz
  have hD := hD0.self (sz := s.heap.size)
  generalize hAe : va_A ((ob, .inl (kA 3, 1, .inr (.inl fo))) :: rp ad E RL) s.heap.size = A at hD hZ ⊢
  have hA : ∀ q : Nat, s.heap.size ≤ q → A q := fun q h => by rw [← hAe]; exact Or.inr h
  have hS : va_S A s.heap s.heap [] := va_S.rf
  have hl := lv_entry ([.ref (ad 0 0), .int ix, .int kx, .ref ob]) (n := 5) (Nat.le_of_ble_eq_true rfl)
  rw [lg_entry_eq]
  generalize (lg_sl ([.ref (ad 0 0), .int ix, .int kx, .ref ob]) ++ List.replicate (5 - (lg_sl ([.ref (ad 0 0), .int ix, .int kx, .ref ob])).length) Slot.unset).toArray = ls at hl ⊢
  have hl : lv_has ls 5 [(0, .ref (ad 0 0)), (1, .int ix), (2, .int kx), (3, .ref ob)] := hl
  have hP : va_P D xcl ((ob, .inl (kA 3, 1, .inr (.inl fo))) :: rp ad E RL) s.heap := hP
  have hex := vx_table (x := xy_La_load) B (atoms_spec (ws := .codeWith xy_La_load xb_La_load 5 (some .int) [(0, 10, 13, 13), (0, 10, 17, 21)] :: wT) B.pre _ List.mem_cons_self)
  refine lv_aload_n hx hb xd_La_load_0 rfl (lv_at hl 3 rfl) ?_
  refine lv_iconst (v := 0) hx hb xd_La_load_1 (by decide) ?_
  refine lv_aload_n hx hb xd_La_load_2 rfl (lv_at hl 0 rfl) ?_
  refine lv_iload_n hx hb xd_La_load_3 rfl (lv_at hl 1 rfl) ?_
  refine lv_iload_n hx hb xd_La_load_4 rfl (lv_at hl 2 rfl) ?_
  have hPc := xp_P (X := [(ob, .inl (kA 3, 1, .inr (.inl fo)))]) hP
  have hDc := xp_D (X := [(ob, .inl (kA 3, 1, .inr (.inl fo)))]) hD
  have hFc := va_freeP (X := [(ob, .inl (kA 3, 1, .inr (.inl fo)))]) (cx := []) hD hS hA [] rfl
  have hZc := hZ.kept hS
  obtain ⟨lf, hc0⟩ := hCI.2.1
  refine vx_calli (vx_runV (As := [.int ix, .int kx]) (rest := [.int 0, .ref ob]) ⟨hx, hb, hml, hown, hT⟩ (xc_De_loadK l hlt D kA s.heap.size ad E RL Z g ml nd len wn cs ix kx hCI hTX) (cwV 2 hT (wT_V k7e_13 k7e_14 k7e_15 k7e_4 k7e_12) rfl rfl rfl (by decide +kernel) ⟨Nat.le_of_ble_eq_true rfl, Nat.le_of_ble_eq_true rfl⟩) (px_preVZ hK hPc hDc (hCI.1 0 (by decide)) hc0 rfl hFc hZc) rfl rfl hl.1 rfl (lv_room (Nat.le_of_ble_eq_true rfl)) xd_La_load_5 ⟨Nat.le_of_ble_eq_true rfl, Nat.le_of_ble_eq_true rfl⟩) hS (fun q _ h => hFc q h) hFc (fun q _ h => hFc q h) (fun E9 ce q9 u t H1 locs ht hvm hpost hB hz1 hk1 hS hce hcv hcl => ?_) (fun r u t H1 locs ht hvm hpost hB hz1 hk1 hS => ?_)
  · obtain ⟨hE9, hP1, hD1⟩ := hB
    rw [ht] at hP1
    obtain ⟨hP, hD⟩ := va_joinP (X := [(ob, .inl (kA 3, 1, .inr (.inl fo)))]) (cx := []) (wr := [(ob, .inl (kA 3, 1, .inr (.inl fo)))]) (rx := []) hP hD [] [0] rfl rfl (by decide) (by decide) hk1 hFc hP1 hD1
    generalize H1 = H at hP hS hce ⊢
    have hl := lv_sub hl [1, 2, 3] rfl
    have hl : lv_has ls 5 [(1, .int ix), (2, .int kx), (3, .ref ob)] := hl
    have hP : va_P D xcl ((ob, .inl (kA 3, 1, .inr (.inl fo))) :: rp ad u RL) H := hP
    have hD : va_D A ((ob, .inl (kA 3, 1, .inr (.inl fo))) :: rp ad u RL) := hD
    rcases hE9 with rfl | rfl
    · refine vx_catch (own := "LayerDeskLaw") (name := "java/lang/IllegalArgumentException") hown [] ⟨0, 10, 13, 13⟩ [⟨0, 10, 17, 21⟩] (by rw [hex]; rfl) (fun z hz => nomatch hz) rfl (by decide) (hT _ k7e_5) (va_Nw.use rfl hK.2.2.2.2.2.1) hce hcv hcl ?_
      refine lv_astore hx hb xd_La_load_13 hl (Nat.le_of_ble_eq_true rfl) rfl (fun ls hl => ?_)
      have hl : lv_has ls 5 [(4, .ref q9), (1, .int ix), (2, .int kx), (3, .ref ob)] := hl
      refine lv_iconst (v := 1) hx hb xd_La_load_15 (by decide) ?_
      refine W.widen (k := 1) (n := 6) (Nat.le_of_ble_eq_true rfl) (Nat.le_of_ble_eq_true rfl) ?_
      exact W.iret (v := 1) hx hb hr (fun t ht hW => ⟨⟨1, ((ad, u, RL), fo), rfl, ⟨hpost.1, hpost.2, rfl, rfl⟩, by rw [ht]; exact hP, hD⟩, hS.F ht⟩) hS.2.2 xd_La_load_16
    · refine vx_catch (own := "LayerDeskLaw") (name := "java/util/NoSuchElementException") hown [⟨0, 10, 13, 13⟩] ⟨0, 10, 17, 21⟩ [] (by rw [hex]; rfl) (fun z hz => by rw [List.mem_singleton] at hz; subst hz; exact Or.inr ⟨(by decide), "java/lang/IllegalArgumentException", hT _ k7e_5, hZ.2.2.2.2.2.1⟩) rfl (by decide) (hT _ k7e_11) (va_Nw.use rfl hK.2.2.2.2.2.2.2) hce hcv hcl ?_
      refine lv_astore hx hb xd_La_load_17 hl (Nat.le_of_ble_eq_true rfl) rfl (fun ls hl => ?_)
      have hl : lv_has ls 5 [(4, .ref q9), (1, .int ix), (2, .int kx), (3, .ref ob)] := hl
      refine lv_iconst (v := 2) hx hb xd_La_load_19 (by decide) ?_
      refine W.widen (k := 1) (n := 6) (Nat.le_of_ble_eq_true rfl) (Nat.le_of_ble_eq_true rfl) ?_
      exact W.iret (v := 2) hx hb hr (fun t ht hW => ⟨⟨2, ((ad, u, RL), fo), rfl, ⟨hpost.1, hpost.2, rfl, rfl⟩, by rw [ht]; exact hP, hD⟩, hS.F ht⟩) hS.2.2 xd_La_load_20
  · obtain ⟨hP1, hD1⟩ := hB
    rw [ht] at hP1
    obtain ⟨hP, hD⟩ := va_joinP (X := [(ob, .inl (kA 3, 1, .inr (.inl fo)))]) (cx := []) (wr := [(ob, .inl (kA 3, 1, .inr (.inl fo)))]) (rx := []) hP hD [] [0] rfl rfl (by decide) (by decide) hk1 hFc hP1 hD1
    generalize H1 = H at hP hS ⊢
    have hl := lv_sub hl [1, 2, 3] rfl
    have hl : lv_has ls 5 [(1, .int ix), (2, .int kx), (3, .ref ob)] := hl
    have hP : va_P D xcl ((ob, .inl (kA 3, 1, .inr (.inl fo))) :: rp ad u RL) H := hP
    have hD : va_D A ((ob, .inl (kA 3, 1, .inr (.inl fo))) :: rp ad u RL) := hD
    refine lv_i2l (v := ((r : Int32).toInt64)) hx hb xd_La_load_8 rfl ?_
    refine va_last hx hb hK.1 hP hD hS 0 3 rfl rfl (show ¬ _ by decide) xd_La_load_9 (fun H locs hP hD hS => ?_)
    have hP : va_P D xcl ((ob, .inl (kA 3, 1, .inr (.inl (vp_updL fo (0 : Int32).toNatClampNeg ((r : Int32).toInt64))))) :: rp ad u RL) H := hP
    have hD : va_D A ((ob, .inl (kA 3, 1, .inr (.inl (vp_updL fo (0 : Int32).toNatClampNeg ((r : Int32).toInt64))))) :: rp ad u RL) := hD
    refine lv_goto (tgt := 21) hx hb xd_La_load_10 (by decide) ?_
    refine lv_iconst (v := 0) hx hb xd_La_load_21 (by decide) ?_
    refine W.widen (k := 1) (n := 6) (Nat.le_of_ble_eq_true rfl) (Nat.le_of_ble_eq_true rfl) ?_
    exact W.iret (v := 0) hx hb hr (fun t ht hW => ⟨⟨0, ((ad, u, RL), (vp_updL fo (0 : Int32).toNatClampNeg ((r : Int32).toInt64))), rfl, ⟨hpost.1, hpost.2, rfl, rfl⟩, by rw [ht]; exact hP, hD⟩, hS.F ht⟩) hS.2.2 xd_La_load_22
set_option maxHeartbeats 4000000 in
set_option maxRecDepth 100000 in
theorem xc_La_peekX (l : Launch) (hlt : l.stackTraces = false) (D : va_G) (kA : Nat → ClassId) (sz : Nat) (ad : Nat → Nat → Nat) (E : Nat → Nat → va_E) (RL : List (Nat × Nat)) (Z : zT) (g : Nat → Nat → Int32) (ml : Nat) (nd : Nat) (len : Nat) (wn : Nat) (cs : Nat) (ob : Nat) (fo : Nat → Int64) (ix : Int32) (kx : Int32) (tx : Int32) (dx : Int32) (hCI : CI kA ad E RL ml nd len wn cs) (hTX : ∀ i, i < len → eA (E 0 2) i = g 0 i) : Met l xy_La_peek (.codeWith xy_La_peek xb_La_peek 7 (some .int) [(0, 21, 24, 13), (0, 21, 28, 21)] :: wT) { frames := 7, cells := 1, slots := 6, locals := 109 } (va_Pc [.ref (ad 0 0), .int ix, .int kx, .int tx, .int dx, .ref ob] (xPreZ D kA sz ((ob, .inl (kA 3, 1, .inr (.inl fo))) :: rp ad E RL) Z)) (va_Qi (fun (r : Int32) (u : ((Nat → Nat → Nat) × (Nat → Nat → va_E) × List (Nat × Nat)) × (Nat → Int64)) => (∃ wn2, CI kA ad u.1.2.1 RL ml nd 0 wn2 cs) ∧ F134 E u.1.2.1 ∧ u.1.1 = ad ∧ u.1.2.2 = RL) (fun (u : ((Nat → Nat → Nat) × (Nat → Nat → va_E) × List (Nat × Nat)) × (Nat → Int64)) t => va_P D xcl ((ob, .inl (kA 3, 1, .inr (.inl u.2))) :: rp u.1.1 u.1.2.1 u.1.2.2) t.heap ∧ va_D (va_A ((ob, .inl (kA 3, 1, .inr (.inl fo))) :: rp ad E RL) sz) ((ob, .inl (kA 3, 1, .inr (.inl u.2))) :: rp u.1.1 u.1.2.1 u.1.2.2)) (va_A ((ob, .inl (kA 3, 1, .inr (.inl fo))) :: rp ad E RL) sz)) 1 6 (va_A ((ob, .inl (kA 3, 1, .inr (.inl fo))) :: rp ad E RL) sz) := by
  refine va_MetW (cc := xb_La_peek) (maxL := 7) (ret := (some .int)) (by decide) rfl ?_
  intro p e s m args below meth c s₁ B hml hv
  obtain ⟨rfl, ⟨hsz, hP, hK, hD0⟩, hZ⟩ := hv
  have hx := B.exec
  have hb := B.bytes
  have hr := B.returns
  have hT := x_hT B.pre
  have hown : s.vm.findClass xR_La = some m.cls := findClass_of_methodNamed B.named
  have hlocks := B.notSynchronized
  subst hsz
  have hD := hD0.self (sz := s.heap.size)
  generalize hAe : va_A ((ob, .inl (kA 3, 1, .inr (.inl fo))) :: rp ad E RL) s.heap.size = A at hD hZ ⊢
  have hA : ∀ q : Nat, s.heap.size ≤ q → A q := fun q h => by rw [← hAe]; exact Or.inr h
  have hS : va_S A s.heap s.heap [] := va_S.rf
  have hl := lv_entry ([.ref (ad 0 0), .int ix, .int kx, .int tx, .int dx, .ref ob]) (n := 7) (Nat.le_of_ble_eq_true rfl)
  rw [lg_entry_eq]
  generalize (lg_sl ([.ref (ad 0 0), .int ix, .int kx, .int tx, .int dx, .ref ob]) ++ List.replicate (7 - (lg_sl ([.ref (ad 0 0), .int ix, .int kx, .int tx, .int dx, .ref ob])).length) Slot.unset).toArray = ls at hl ⊢
  have hl : lv_has ls 7 [(0, .ref (ad 0 0)), (1, .int ix), (2, .int kx), (3, .int tx), (4, .int dx), (5, .ref ob)] := hl
  have hP : va_P D xcl ((ob, .inl (kA 3, 1, .inr (.inl fo))) :: rp ad E RL) s.heap := hP
  have hex := vx_table (x := xy_La_peek) B (atoms_spec (ws := .codeWith xy_La_peek xb_La_peek 7 (some .int) [(0, 21, 24, 13), (0, 21, 28, 21)] :: wT) B.pre _ List.mem_cons_self)
  refine lv_aload hx hb xd_La_peek_0 (lv_at hl 5 rfl) ?_
  refine lv_iconst (v := 0) hx hb xd_La_peek_2 (by decide) ?_
  refine lv_aload_n hx hb xd_La_peek_3 rfl (lv_at hl 0 rfl) ?_
  refine lv_iload_n hx hb xd_La_peek_4 rfl (lv_at hl 1 rfl) ?_
  refine lv_iload_n hx hb xd_La_peek_5 rfl (lv_at hl 2 rfl) ?_
  refine lv_iload_n hx hb xd_La_peek_6 rfl (lv_at hl 3 rfl) ?_
  refine lv_iload hx hb xd_La_peek_7 (lv_at hl 4 rfl) ?_
  have hPc := xp_P (X := [(ob, .inl (kA 3, 1, .inr (.inl fo)))]) hP
  have hDc := xp_D (X := [(ob, .inl (kA 3, 1, .inr (.inl fo)))]) hD
  have hFc := va_freeP (X := [(ob, .inl (kA 3, 1, .inr (.inl fo)))]) (cx := []) hD hS hA [] rfl
  have hZc := hZ.kept hS
  obtain ⟨lf, hc0⟩ := hCI.2.1
  refine vx_calli (vx_runV (As := [.int ix, .int kx, .int tx, .int dx]) (rest := [.int 0, .ref ob]) ⟨hx, hb, hml, hown, hT⟩ (xc_De_peekK l hlt D kA s.heap.size ad E RL Z g ml nd len wn cs ix kx tx dx hCI hTX) (cwV 4 hT (wT_V k7e_17 k7e_18 k7e_19 k7e_4 k7e_16) rfl rfl rfl (by decide +kernel) ⟨Nat.le_of_ble_eq_true rfl, Nat.le_of_ble_eq_true rfl⟩) (px_preVZ hK hPc hDc (hCI.1 0 (by decide)) hc0 rfl hFc hZc) rfl rfl hl.1 rfl (lv_room (Nat.le_of_ble_eq_true rfl)) xd_La_peek_9 ⟨Nat.le_of_ble_eq_true rfl, Nat.le_of_ble_eq_true rfl⟩) hS (fun q _ h => hFc q h) hFc (fun q _ h => hFc q h) (fun E9 ce q9 u t H1 locs ht hvm hpost hB hz1 hk1 hS hce hcv hcl => ?_) (fun r u t H1 locs ht hvm hpost hB hz1 hk1 hS => ?_)
  · obtain ⟨hE9, hP1, hD1⟩ := hB
    rw [ht] at hP1
    obtain ⟨hP, hD⟩ := va_joinP (X := [(ob, .inl (kA 3, 1, .inr (.inl fo)))]) (cx := []) (wr := [(ob, .inl (kA 3, 1, .inr (.inl fo)))]) (rx := []) hP hD [] [0] rfl rfl (by decide) (by decide) hk1 hFc hP1 hD1
    generalize H1 = H at hP hS hce ⊢
    have hl := lv_sub hl [1, 2, 3, 4, 5] rfl
    have hl : lv_has ls 7 [(1, .int ix), (2, .int kx), (3, .int tx), (4, .int dx), (5, .ref ob)] := hl
    have hP : va_P D xcl ((ob, .inl (kA 3, 1, .inr (.inl fo))) :: rp ad u RL) H := hP
    have hD : va_D A ((ob, .inl (kA 3, 1, .inr (.inl fo))) :: rp ad u RL) := hD
    rcases hE9 with rfl | rfl
    · refine vx_catch (own := "LayerDeskLaw") (name := "java/lang/IllegalArgumentException") hown [] ⟨0, 21, 24, 13⟩ [⟨0, 21, 28, 21⟩] (by rw [hex]; rfl) (fun z hz => nomatch hz) rfl (by decide) (hT _ k7e_5) (va_Nw.use rfl hK.2.2.2.2.2.1) hce hcv hcl ?_
      refine lv_astore hx hb xd_La_peek_24 hl (Nat.le_of_ble_eq_true rfl) rfl (fun ls hl => ?_)
      have hl : lv_has ls 7 [(6, .ref q9), (1, .int ix), (2, .int kx), (3, .int tx), (4, .int dx), (5, .ref ob)] := hl
      refine lv_iconst (v := 1) hx hb xd_La_peek_26 (by decide) ?_
      refine W.widen (k := 1) (n := 6) (Nat.le_of_ble_eq_true rfl) (Nat.le_of_ble_eq_true rfl) ?_
      exact W.iret (v := 1) hx hb hr (fun t ht hW => ⟨⟨1, ((ad, u, RL), fo), rfl, ⟨hpost.1, hpost.2, rfl, rfl⟩, by rw [ht]; exact hP, hD⟩, hS.F ht⟩) hS.2.2 xd_La_peek_27
    · refine vx_catch (own := "LayerDeskLaw") (name := "java/util/NoSuchElementException") hown [⟨0, 21, 24, 13⟩] ⟨0, 21, 28, 21⟩ [] (by rw [hex]; rfl) (fun z hz => by rw [List.mem_singleton] at hz; subst hz; exact Or.inr ⟨(by decide), "java/lang/IllegalArgumentException", hT _ k7e_5, hZ.2.2.2.2.2.1⟩) rfl (by decide) (hT _ k7e_11) (va_Nw.use rfl hK.2.2.2.2.2.2.2) hce hcv hcl ?_
      refine lv_astore hx hb xd_La_peek_28 hl (Nat.le_of_ble_eq_true rfl) rfl (fun ls hl => ?_)
      have hl : lv_has ls 7 [(6, .ref q9), (1, .int ix), (2, .int kx), (3, .int tx), (4, .int dx), (5, .ref ob)] := hl
      refine lv_iconst (v := 2) hx hb xd_La_peek_30 (by decide) ?_
      refine W.widen (k := 1) (n := 6) (Nat.le_of_ble_eq_true rfl) (Nat.le_of_ble_eq_true rfl) ?_
      exact W.iret (v := 2) hx hb hr (fun t ht hW => ⟨⟨2, ((ad, u, RL), fo), rfl, ⟨hpost.1, hpost.2, rfl, rfl⟩, by rw [ht]; exact hP, hD⟩, hS.F ht⟩) hS.2.2 xd_La_peek_31
  · obtain ⟨hP1, hD1⟩ := hB
    rw [ht] at hP1
    obtain ⟨hP, hD⟩ := va_joinP (X := [(ob, .inl (kA 3, 1, .inr (.inl fo)))]) (cx := []) (wr := [(ob, .inl (kA 3, 1, .inr (.inl fo)))]) (rx := []) hP hD [] [0] rfl rfl (by decide) (by decide) hk1 hFc hP1 hD1
    generalize H1 = H at hP hS ⊢
    have hl := lv_sub hl [1, 2, 3, 4, 5] rfl
    have hl : lv_has ls 7 [(1, .int ix), (2, .int kx), (3, .int tx), (4, .int dx), (5, .ref ob)] := hl
    have hP : va_P D xcl ((ob, .inl (kA 3, 1, .inr (.inl fo))) :: rp ad u RL) H := hP
    have hD : va_D A ((ob, .inl (kA 3, 1, .inr (.inl fo))) :: rp ad u RL) := hD
    refine lv_if_eq (tgt := 19) hx hb xd_La_peek_12 (by decide) (fun hc1 => ?_) (fun hc1 => ?_)
    · refine lv_lconst (v := 0) hx hb xd_La_peek_19 (by decide) ?_
      refine va_last hx hb hK.1 hP hD hS 0 3 rfl rfl (show ¬ _ by decide) xd_La_peek_20 (fun H locs hP hD hS => ?_)
      have hP : va_P D xcl ((ob, .inl (kA 3, 1, .inr (.inl (vp_updL fo (0 : Int32).toNatClampNeg 0)))) :: rp ad u RL) H := hP
      have hD : va_D A ((ob, .inl (kA 3, 1, .inr (.inl (vp_updL fo (0 : Int32).toNatClampNeg 0)))) :: rp ad u RL) := hD
      refine lv_goto (tgt := 32) hx hb xd_La_peek_21 (by decide) ?_
      refine lv_iconst (v := 0) hx hb xd_La_peek_32 (by decide) ?_
      refine W.widen (k := 1) (n := 6) (Nat.le_of_ble_eq_true rfl) (Nat.le_of_ble_eq_true rfl) ?_
      exact W.iret (v := 0) hx hb hr (fun t ht hW => ⟨⟨0, ((ad, u, RL), (vp_updL fo (0 : Int32).toNatClampNeg 0)), rfl, ⟨hpost.1, hpost.2, rfl, rfl⟩, by rw [ht]; exact hP, hD⟩, hS.F ht⟩) hS.2.2 xd_La_peek_33
    · refine lv_lconst (v := 1) hx hb xd_La_peek_15 (by decide) ?_
      refine lv_goto (tgt := 20) hx hb xd_La_peek_16 (by decide) ?_
      refine va_last hx hb hK.1 hP hD hS 0 3 rfl rfl (show ¬ _ by decide) xd_La_peek_20 (fun H locs hP hD hS => ?_)
      have hP : va_P D xcl ((ob, .inl (kA 3, 1, .inr (.inl (vp_updL fo (0 : Int32).toNatClampNeg 1)))) :: rp ad u RL) H := hP
      have hD : va_D A ((ob, .inl (kA 3, 1, .inr (.inl (vp_updL fo (0 : Int32).toNatClampNeg 1)))) :: rp ad u RL) := hD
      refine lv_goto (tgt := 32) hx hb xd_La_peek_21 (by decide) ?_
      refine lv_iconst (v := 0) hx hb xd_La_peek_32 (by decide) ?_
      refine W.widen (k := 1) (n := 6) (Nat.le_of_ble_eq_true rfl) (Nat.le_of_ble_eq_true rfl) ?_
      exact W.iret (v := 0) hx hb hr (fun t ht hW => ⟨⟨0, ((ad, u, RL), (vp_updL fo (0 : Int32).toNatClampNeg 1)), rfl, ⟨hpost.1, hpost.2, rfl, rfl⟩, by rw [ht]; exact hP, hD⟩, hS.F ht⟩) hS.2.2 xd_La_peek_33
set_option maxHeartbeats 4000000 in
set_option maxRecDepth 100000 in
theorem xc_La_providerX (l : Launch) (hlt : l.stackTraces = false) (D : va_G) (kA : Nat → ClassId) (sz : Nat) (ad : Nat → Nat → Nat) (E : Nat → Nat → va_E) (RL : List (Nat × Nat)) (Z : zT) (g : Nat → Nat → Int32) (ml : Nat) (nd : Nat) (len : Nat) (wn : Nat) (cs : Nat) (ob : Nat) (fo : Nat → Int64) (ix : Int32) (kx : Int32) (hCI : CI kA ad E RL ml nd len wn cs) (hTX : ∀ i, i < len → eA (E 0 2) i = g 0 i) : Met l xy_La_provider (.codeWith xy_La_provider xb_La_provider 5 (some .int) [(0, 10, 13, 13)] :: wT) { frames := 7, cells := 1, slots := 6, locals := 107 } (va_Pc [.ref (ad 0 0), .int ix, .int kx, .ref ob] (xPreZ D kA sz ((ob, .inl (kA 3, 1, .inr (.inl fo))) :: rp ad E RL) Z)) (va_Qi (fun (r : Int32) (u : ((Nat → Nat → Nat) × (Nat → Nat → va_E) × List (Nat × Nat)) × (Nat → Int64)) => (∃ wn2, CI kA ad u.1.2.1 RL ml nd 0 wn2 cs) ∧ F134 E u.1.2.1 ∧ u.1.1 = ad ∧ u.1.2.2 = RL) (fun (u : ((Nat → Nat → Nat) × (Nat → Nat → va_E) × List (Nat × Nat)) × (Nat → Int64)) t => va_P D xcl ((ob, .inl (kA 3, 1, .inr (.inl u.2))) :: rp u.1.1 u.1.2.1 u.1.2.2) t.heap ∧ va_D (va_A ((ob, .inl (kA 3, 1, .inr (.inl fo))) :: rp ad E RL) sz) ((ob, .inl (kA 3, 1, .inr (.inl u.2))) :: rp u.1.1 u.1.2.1 u.1.2.2)) (va_A ((ob, .inl (kA 3, 1, .inr (.inl fo))) :: rp ad E RL) sz)) 1 6 (va_A ((ob, .inl (kA 3, 1, .inr (.inl fo))) :: rp ad E RL) sz) := by
  refine va_MetW (cc := xb_La_provider) (maxL := 5) (ret := (some .int)) (by decide) rfl ?_
  intro p e s m args below meth c s₁ B hml hv
  obtain ⟨rfl, ⟨hsz, hP, hK, hD0⟩, hZ⟩ := hv
  have hx := B.exec
  have hb := B.bytes
  have hr := B.returns
  have hT := x_hT B.pre
  have hown : s.vm.findClass xR_La = some m.cls := findClass_of_methodNamed B.named
  have hlocks := B.notSynchronized
  subst hsz
  have hD := hD0.self (sz := s.heap.size)
  generalize hAe : va_A ((ob, .inl (kA 3, 1, .inr (.inl fo))) :: rp ad E RL) s.heap.size = A at hD hZ ⊢
  have hA : ∀ q : Nat, s.heap.size ≤ q → A q := fun q h => by rw [← hAe]; exact Or.inr h
  have hS : va_S A s.heap s.heap [] := va_S.rf
  have hl := lv_entry ([.ref (ad 0 0), .int ix, .int kx, .ref ob]) (n := 5) (Nat.le_of_ble_eq_true rfl)
  rw [lg_entry_eq]
  generalize (lg_sl ([.ref (ad 0 0), .int ix, .int kx, .ref ob]) ++ List.replicate (5 - (lg_sl ([.ref (ad 0 0), .int ix, .int kx, .ref ob])).length) Slot.unset).toArray = ls at hl ⊢
  have hl : lv_has ls 5 [(0, .ref (ad 0 0)), (1, .int ix), (2, .int kx), (3, .ref ob)] := hl
  have hP : va_P D xcl ((ob, .inl (kA 3, 1, .inr (.inl fo))) :: rp ad E RL) s.heap := hP
  have hex := vx_table (x := xy_La_provider) B (atoms_spec (ws := .codeWith xy_La_provider xb_La_provider 5 (some .int) [(0, 10, 13, 13)] :: wT) B.pre _ List.mem_cons_self)
  refine lv_aload_n hx hb xd_La_provider_0 rfl (lv_at hl 3 rfl) ?_
  refine lv_iconst (v := 0) hx hb xd_La_provider_1 (by decide) ?_
  refine lv_aload_n hx hb xd_La_provider_2 rfl (lv_at hl 0 rfl) ?_
  refine lv_iload_n hx hb xd_La_provider_3 rfl (lv_at hl 1 rfl) ?_
  refine lv_iload_n hx hb xd_La_provider_4 rfl (lv_at hl 2 rfl) ?_
  have hPc := xp_P (X := [(ob, .inl (kA 3, 1, .inr (.inl fo)))]) hP
  have hDc := xp_D (X := [(ob, .inl (kA 3, 1, .inr (.inl fo)))]) hD
  have hFc := va_freeP (X := [(ob, .inl (kA 3, 1, .inr (.inl fo)))]) (cx := []) hD hS hA [] rfl
  have hZc := hZ.kept hS
  obtain ⟨lf, hc0⟩ := hCI.2.1
  refine vx_calli (vx_runV (As := [.int ix, .int kx]) (rest := [.int 0, .ref ob]) ⟨hx, hb, hml, hown, hT⟩ (xc_De_providerK l hlt D kA s.heap.size ad E RL Z g ml nd len wn cs ix kx hCI hTX) (cwV 2 hT (wT_V k7e_21 k7e_22 k7e_23 k7e_4 k7e_20) rfl rfl rfl (by decide +kernel) ⟨Nat.le_of_ble_eq_true rfl, Nat.le_of_ble_eq_true rfl⟩) (px_preVZ hK hPc hDc (hCI.1 0 (by decide)) hc0 rfl hFc hZc) rfl rfl hl.1 rfl (lv_room (Nat.le_of_ble_eq_true rfl)) xd_La_provider_5 ⟨Nat.le_of_ble_eq_true rfl, Nat.le_of_ble_eq_true rfl⟩) hS (fun q _ h => hFc q h) hFc (fun q _ h => hFc q h) (fun E9 ce q9 u t H1 locs ht hvm hpost hB hz1 hk1 hS hce hcv hcl => ?_) (fun r u t H1 locs ht hvm hpost hB hz1 hk1 hS => ?_)
  · obtain ⟨hE9, hP1, hD1⟩ := hB
    rw [ht] at hP1
    obtain ⟨hP, hD⟩ := va_joinP (X := [(ob, .inl (kA 3, 1, .inr (.inl fo)))]) (cx := []) (wr := [(ob, .inl (kA 3, 1, .inr (.inl fo)))]) (rx := []) hP hD [] [0] rfl rfl (by decide) (by decide) hk1 hFc hP1 hD1
    generalize H1 = H at hP hS hce ⊢
    have hl := lv_sub hl [1, 2, 3] rfl
    have hl : lv_has ls 5 [(1, .int ix), (2, .int kx), (3, .ref ob)] := hl
    have hP : va_P D xcl ((ob, .inl (kA 3, 1, .inr (.inl fo))) :: rp ad u RL) H := hP
    have hD : va_D A ((ob, .inl (kA 3, 1, .inr (.inl fo))) :: rp ad u RL) := hD
    subst hE9
    · refine vx_catch (own := "LayerDeskLaw") (name := "java/lang/IllegalArgumentException") hown [] ⟨0, 10, 13, 13⟩ [] (by rw [hex]; rfl) (fun z hz => nomatch hz) rfl (by decide) (hT _ k7e_5) (va_Nw.use rfl hK.2.2.2.2.2.1) hce hcv hcl ?_
      refine lv_astore hx hb xd_La_provider_13 hl (Nat.le_of_ble_eq_true rfl) rfl (fun ls hl => ?_)
      have hl : lv_has ls 5 [(4, .ref q9), (1, .int ix), (2, .int kx), (3, .ref ob)] := hl
      refine lv_iconst (v := 1) hx hb xd_La_provider_15 (by decide) ?_
      refine W.widen (k := 1) (n := 6) (Nat.le_of_ble_eq_true rfl) (Nat.le_of_ble_eq_true rfl) ?_
      exact W.iret (v := 1) hx hb hr (fun t ht hW => ⟨⟨1, ((ad, u, RL), fo), rfl, ⟨hpost.1, hpost.2, rfl, rfl⟩, by rw [ht]; exact hP, hD⟩, hS.F ht⟩) hS.2.2 xd_La_provider_16
  · obtain ⟨hP1, hD1⟩ := hB
    rw [ht] at hP1
    obtain ⟨hP, hD⟩ := va_joinP (X := [(ob, .inl (kA 3, 1, .inr (.inl fo)))]) (cx := []) (wr := [(ob, .inl (kA 3, 1, .inr (.inl fo)))]) (rx := []) hP hD [] [0] rfl rfl (by decide) (by decide) hk1 hFc hP1 hD1
    generalize H1 = H at hP hS ⊢
    have hl := lv_sub hl [1, 2, 3] rfl
    have hl : lv_has ls 5 [(1, .int ix), (2, .int kx), (3, .ref ob)] := hl
    have hP : va_P D xcl ((ob, .inl (kA 3, 1, .inr (.inl fo))) :: rp ad u RL) H := hP
    have hD : va_D A ((ob, .inl (kA 3, 1, .inr (.inl fo))) :: rp ad u RL) := hD
    refine lv_i2l (v := ((r : Int32).toInt64)) hx hb xd_La_provider_8 rfl ?_
    refine va_last hx hb hK.1 hP hD hS 0 3 rfl rfl (show ¬ _ by decide) xd_La_provider_9 (fun H locs hP hD hS => ?_)
    have hP : va_P D xcl ((ob, .inl (kA 3, 1, .inr (.inl (vp_updL fo (0 : Int32).toNatClampNeg ((r : Int32).toInt64))))) :: rp ad u RL) H := hP
    have hD : va_D A ((ob, .inl (kA 3, 1, .inr (.inl (vp_updL fo (0 : Int32).toNatClampNeg ((r : Int32).toInt64))))) :: rp ad u RL) := hD
    refine lv_goto (tgt := 17) hx hb xd_La_provider_10 (by decide) ?_
    refine lv_iconst (v := 0) hx hb xd_La_provider_17 (by decide) ?_
    refine W.widen (k := 1) (n := 6) (Nat.le_of_ble_eq_true rfl) (Nat.le_of_ble_eq_true rfl) ?_
    exact W.iret (v := 0) hx hb hr (fun t ht hW => ⟨⟨0, ((ad, u, RL), (vp_updL fo (0 : Int32).toNatClampNeg ((r : Int32).toInt64))), rfl, ⟨hpost.1, hpost.2, rfl, rfl⟩, by rw [ht]; exact hP, hD⟩, hS.F ht⟩) hS.2.2 xd_La_provider_18
