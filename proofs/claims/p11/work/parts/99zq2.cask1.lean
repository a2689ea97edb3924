theorem k7x_0 : (Cond.code xy_De_openLayer xb_De_openLayer 3 (some (.object "LayerDesk$Layer"))) ∈ wT := wT_t (List.mem_append_left _ (List.mem_of_getElem? (i := 137) rfl)) rfl
theorem k7x_1 : (Cond.methodLink "LayerDesk" 68 xy_De_openLayer) ∈ wT := wT_t (List.mem_append_left _ (List.mem_of_getElem? (i := 134) rfl)) rfl
theorem k7x_2 : (Cond.instanceMethod xy_De_openLayer) ∈ wT := wT_t (List.mem_append_left _ (List.mem_of_getElem? (i := 136) rfl)) rfl
theorem k7x_3 : (Cond.selects "LayerDesk" xy_De_openLayer xy_De_openLayer) ∈ wT := wT_s (q := (xy_De_openLayer, 6)) (by decide +kernel) rfl
theorem k7x_4 : (Cond.initialized "LayerDesk") ∈ wT := wT_t (List.mem_append_left _ (List.mem_of_getElem? (i := 1) rfl)) rfl
theorem k7x_5 : (Cond.fieldLink "LayerDesk" 128 "LayerDesk$Layer" "members" "[LLayerDesk$Member;") ∈ wT := wT_t (List.mem_append_right _ (List.mem_append_right _ (List.mem_append_left _ (List.mem_of_getElem? (i := 150) rfl)))) rfl
theorem k7x_6 : (Cond.fieldLink "LayerDesk$Member" 24 "LayerDesk$Member" "home" "LLayerDesk$Layer;") ∈ wT := wT_t (List.mem_append_right _ (List.mem_append_right _ (List.mem_append_left _ (List.mem_of_getElem? (i := 179) rfl)))) rfl
theorem k7x_7 : (Cond.fieldLink "LayerDesk$Member" 102 "LayerDesk$Layer" "number" "I") ∈ wT := wT_t (List.mem_append_right _ (List.mem_append_right _ (List.mem_append_left _ (List.mem_of_getElem? (i := 142) rfl)))) rfl
theorem k7x_8 : (Cond.fieldLink "LayerDesk$Member" 28 "LayerDesk$Member" "descriptor" "LLayerDesk$Descriptor;") ∈ wT := wT_t (List.mem_append_right _ (List.mem_append_right _ (List.mem_append_left _ (List.mem_of_getElem? (i := 181) rfl)))) rfl
theorem k7x_9 : (Cond.fieldLink "LayerDesk$Member" 105 "LayerDesk$Descriptor" "number" "I") ∈ wT := wT_t (List.mem_append_right _ (List.mem_append_left _ (List.mem_of_getElem? (i := 49) rfl))) rfl
theorem k7x_10 : (Cond.fieldLink "LayerDesk" 10 "LayerDesk" "written" "LLayerDesk$Line;") ∈ wT := wT_t (List.mem_append_left _ (List.mem_of_getElem? (i := 99) rfl)) rfl
theorem k7x_11 : (Cond.code xy_Li_takeName xb_Li_takeName 1 (some .int)) ∈ wT := wT_t (List.mem_append_right _ (List.mem_append_right _ (List.mem_append_right _ (List.mem_append_left _ (List.mem_of_getElem? (i := 42) rfl))))) rfl
theorem k7x_12 : (Cond.methodLink "LayerDesk" 158 xy_Li_takeName) ∈ wT := wT_t (List.mem_append_right _ (List.mem_append_right _ (List.mem_append_right _ (List.mem_append_left _ (List.mem_of_getElem? (i := 39) rfl))))) rfl
theorem k7x_13 : (Cond.instanceMethod xy_Li_takeName) ∈ wT := wT_t (List.mem_append_right _ (List.mem_append_right _ (List.mem_append_right _ (List.mem_append_left _ (List.mem_of_getElem? (i := 40) rfl))))) rfl
theorem k7x_14 : (Cond.selects "LayerDesk$Line" xy_Li_takeName xy_Li_takeName) ∈ wT := wT_t (List.mem_append_right _ (List.mem_append_right _ (List.mem_append_right _ (List.mem_append_left _ (List.mem_of_getElem? (i := 41) rfl))))) rfl
theorem k7x_15 : (Cond.initialized "LayerDesk$Line") ∈ wT := wT_t (List.mem_append_left _ (List.mem_of_getElem? (i := 2) rfl)) rfl
theorem k7x_16 : (Cond.code xy_De_memberAt xb_De_memberAt 4 (some (.object "LayerDesk$Member"))) ∈ wT := wT_t (List.mem_append_left _ (List.mem_of_getElem? (i := 161) rfl)) rfl
theorem k7x_17 : (Cond.methodLink "LayerDesk" 132 xy_De_memberAt) ∈ wT := wT_t (List.mem_append_left _ (List.mem_of_getElem? (i := 158) rfl)) rfl
theorem k7x_18 : (Cond.instanceMethod xy_De_memberAt) ∈ wT := wT_t (List.mem_append_left _ (List.mem_of_getElem? (i := 160) rfl)) rfl
theorem k7x_19 : (Cond.selects "LayerDesk" xy_De_memberAt xy_De_memberAt) ∈ wT := wT_s (q := (xy_De_memberAt, 6)) (by decide +kernel) rfl
theorem k7x_20 : (Cond.classLink "LayerDesk" 56 "java/lang/IllegalArgumentException") ∈ wT := wT_t (List.mem_append_right _ (List.mem_append_left _ (List.mem_of_getElem? (i := 205) rfl))) rfl
theorem k7x_21 : (Cond.initialized "java/lang/IllegalArgumentException") ∈ wT := wT_t (List.mem_append_left _ (List.mem_of_getElem? (i := 16) rfl)) rfl
theorem k7x_22 : (Cond.fieldLink "LayerDesk" 136 "LayerDesk$Member" "descriptor" "LLayerDesk$Descriptor;") ∈ wT := wT_t (List.mem_append_right _ (List.mem_append_right _ (List.mem_append_left _ (List.mem_of_getElem? (i := 185) rfl)))) rfl
theorem k7x_23 : (Cond.fieldLink "LayerDesk" 163 "LayerDesk$Descriptor" "packages" "LLayerDesk$Names;") ∈ wT := wT_t (List.mem_append_right _ (List.mem_append_left _ (List.mem_of_getElem? (i := 63) rfl))) rfl
theorem k7x_24 : (Cond.code xy_Na_holds xb_Na_holds 2 (some .boolean)) ∈ wT := wT_t (List.mem_append_right _ (List.mem_append_left _ (List.mem_of_getElem? (i := 123) rfl))) rfl
theorem k7x_25 : (Cond.methodLink "LayerDesk" 167 xy_Na_holds) ∈ wT := wT_t (List.mem_append_right _ (List.mem_append_right _ (List.mem_append_right _ (List.mem_append_left _ (List.mem_of_getElem? (i := 46) rfl))))) rfl
theorem k7x_26 : (Cond.instanceMethod xy_Na_holds) ∈ wT := wT_t (List.mem_append_right _ (List.mem_append_left _ (List.mem_of_getElem? (i := 121) rfl))) rfl
theorem k7x_27 : (Cond.selects "LayerDesk$Names" xy_Na_holds xy_Na_holds) ∈ wT := wT_t (List.mem_append_right _ (List.mem_append_left _ (List.mem_of_getElem? (i := 122) rfl))) rfl
theorem k7x_28 : (Cond.initialized "LayerDesk$Names") ∈ wT := wT_t (List.mem_append_left _ (List.mem_of_getElem? (i := 11) rfl)) rfl
theorem k7x_29 : (Cond.code xy_Me_code xb_Me_code 1 (some .int)) ∈ wT := wT_t (List.mem_append_right _ (List.mem_append_right _ (List.mem_append_right _ (List.mem_append_left _ (List.mem_of_getElem? (i := 52) rfl))))) rfl
theorem k7x_30 : (Cond.methodLink "LayerDesk" 178 xy_Me_code) ∈ wT := wT_t (List.mem_append_right _ (List.mem_append_right _ (List.mem_append_right _ (List.mem_append_left _ (List.mem_of_getElem? (i := 49) rfl))))) rfl
theorem k7x_31 : (Cond.instanceMethod xy_Me_code) ∈ wT := wT_t (List.mem_append_right _ (List.mem_append_right _ (List.mem_append_right _ (List.mem_append_left _ (List.mem_of_getElem? (i := 50) rfl))))) rfl
theorem k7x_32 : (Cond.selects "LayerDesk$Member" xy_Me_code xy_Me_code) ∈ wT := wT_t (List.mem_append_right _ (List.mem_append_right _ (List.mem_append_right _ (List.mem_append_left _ (List.mem_of_getElem? (i := 51) rfl))))) rfl
theorem k7x_33 : (Cond.initialized "LayerDesk$Member") ∈ wT := wT_t (List.mem_append_left _ (List.mem_of_getElem? (i := 20) rfl)) rfl
theorem k7x_34 : (Cond.code xy_Me_sourceOf xb_Me_sourceOf 5 (some (.object "LayerDesk$Member"))) ∈ wT := wT_t (List.mem_append_right _ (List.mem_append_right _ (List.mem_append_right _ (List.mem_append_left _ (List.mem_of_getElem? (i := 26) rfl))))) rfl
theorem k7x_35 : (Cond.methodLink "LayerDesk" 172 xy_Me_sourceOf) ∈ wT := wT_t (List.mem_append_right _ (List.mem_append_right _ (List.mem_append_right _ (List.mem_append_left _ (List.mem_of_getElem? (i := 47) rfl))))) rfl
theorem k7x_36 : (Cond.instanceMethod xy_Me_sourceOf) ∈ wT := wT_t (List.mem_append_right _ (List.mem_append_right _ (List.mem_append_right _ (List.mem_append_left _ (List.mem_of_getElem? (i := 24) rfl))))) rfl
theorem k7x_37 : (Cond.selects "LayerDesk$Member" xy_Me_sourceOf xy_Me_sourceOf) ∈ wT := wT_t (List.mem_append_right _ (List.mem_append_right _ (List.mem_append_right _ (List.mem_append_left _ (List.mem_of_getElem? (i := 25) rfl))))) rfl
theorem k7x_38 : (Cond.classLink "LayerDesk" 89 "java/util/NoSuchElementException") ∈ wT := wT_t (List.mem_append_right _ (List.mem_append_right _ (List.mem_append_left _ (List.mem_of_getElem? (i := 94) rfl)))) rfl
theorem k7x_39 : (Cond.initialized "java/util/NoSuchElementException") ∈ wT := wT_t (List.mem_append_left _ (List.mem_of_getElem? (i := 18) rfl)) rfl
set_option maxHeartbeats 4000000 in
set_option maxRecDepth 100000 in
theorem xc_De_memberAtA (l : Launch) (D : va_G) (kA : Nat → ClassId) (sz : Nat) (ad : Nat → Nat → Nat) (E : Nat → Nat → va_E) (RL : List (Nat × Nat)) (g : Nat → Nat → Int32) (ml : Nat) (nd : Nat) (len : Nat) (wn : Nat) (cs : Nat) (ix : Int32) (kx : Int32) (hCI : CI kA ad E RL ml nd len wn cs) (hTL : TLas g ad E nd ml) : Met l xy_De_memberAt (.code xy_De_memberAt xb_De_memberAt 4 (some (.object "LayerDesk$Member")) :: wT) { frames := 1, cells := 0, slots := 0, locals := 22 } (va_Pc [.ref (ad 0 0), .int ix, .int kx] (xPre D kA sz (rp ad E RL))) (va_Qq (fun (r : Option Nat) (u : Unit) => (r = none ∧ ¬ ∃ la kn, moQ g ml ix kx la kn) ∨ ∃ x k, moQ g ml ix kx x k ∧ r = some (ad (20 + x) (10 + 10 * k)) ∧ MEI kA ad E RL nd x k) (fun (u : Unit) t => va_P D xcl (rp ad E RL) t.heap ∧ va_D (va_A (rp ad E RL) sz) (rp ad E RL)) (va_A (rp ad E RL) sz)) 0 0 (va_A (rp ad E RL) sz) := by
  refine Met.ofW (cc := xb_De_memberAt) (maxL := 4) (ret := (some (.object "LayerDesk$Member"))) (by decide) rfl ?_
  intro p e s m args below meth c s₁ B hml hv
  obtain ⟨rfl, hsz, hP, hK, hD0⟩ := hv
  have hx := B.exec
  have hb := B.bytes
  have hr := B.returns
  have hT := x_hT B.pre
  have hown : s.vm.findClass xR_De = some m.cls := findClass_of_methodNamed B.named
  have hlocks := B.notSynchronized
  subst hsz
  have hD := hD0.self (sz := s.heap.size)
  generalize hAe : va_A (rp ad E RL) s.heap.size = A at hD ⊢
  have hA : ∀ q : Nat, s.heap.size ≤ q → A q := fun q h => by rw [← hAe]; exact Or.inr h
  have hS : va_S A s.heap s.heap [] := va_S.rf
  have hl := lv_entry ([.ref (ad 0 0), .int ix, .int kx]) (n := 4) (Nat.le_of_ble_eq_true rfl)
  rw [lg_entry_eq]
  generalize (lg_sl ([.ref (ad 0 0), .int ix, .int kx]) ++ List.replicate (4 - (lg_sl ([.ref (ad 0 0), .int ix, .int kx])).length) Slot.unset).toArray = ls at hl ⊢
  have hl : lv_has ls 4 [(0, .ref (ad 0 0)), (1, .int ix), (2, .int kx)] := hl
  have hP : va_P D xcl (rp ad E RL) s.heap := hP
  obtain ⟨hmB, hDk, hLi, hSh, hCh, hLa, hDIs, hLIs⟩ := id hCI
  obtain ⟨fl_1, hml_1, q9_1, hla_1⟩ := id (hLa)
  have c_2 : E 0 9 = .inl (kA 5, 5, .inr (.inr (.inr (.inr fl_1)))) := q9_1
  have m_3 : (0, 9) ∈ RL := hmB 9 (by decide)
  obtain ⟨_, hnd12, hml5, _, _⟩ := CI_b hCI
  have hLKP : LKP g ml := LKP_C hCI hTL
  have hmcb : ∀ la, la < ml → mcv g la ≤ 12 := fun la hl9 => (hLKP.2 la hl9).1
  refine lv_aload_n hx hb xd_De_memberAt_0 rfl (lv_at hl 0 rfl) ?_
  refine lv_iload_n hx hb xd_De_memberAt_1 rfl (lv_at hl 1 rfl) ?_
  have hFc := px_free hD hS hA
  obtain ⟨lf_4, q_4⟩ := id (hDk)
  have c_5 : E 0 0 = .inr (0, [.ref (ad 0 1), .ref (ad 0 5), .ref (ad 0 7), .ref (ad 0 9), .int (nI ml), .int lf_4]) := q_4
  have m_6 : (0, 0) ∈ RL := hmB 0 (by decide)
  refine va_callq (va_runV (As := [.int ix]) (rest := []) ⟨hx, hb, hml, hown, hT⟩ (xc_De_openLayerX l D kA s.heap.size ad E RL g ml nd len wn cs ix (by first | assumption | omega) (by first | assumption | omega)) (cwV 1 hT (wT_V k7x_1 k7x_2 k7x_3 k7x_4 k7x_0) rfl rfl rfl (by decide +kernel) ⟨Nat.le_of_ble_eq_true rfl, Nat.le_of_ble_eq_true rfl⟩) (px_preV hK hP hD m_6 c_5 rfl) rfl rfl hl.1 rfl (lv_room (Nat.le_of_ble_eq_true rfl)) xd_De_memberAt_2 ⟨(Nat.le_of_ble_eq_true rfl), (Nat.le_of_ble_eq_true rfl)⟩) hS (fun q _ h => hFc q h) hFc (fun r7 u8 t H1 locs ht hvm hp9 hB hz1 hk1 hS => ?_)
  obtain ⟨hP1, hD1⟩ := hB
  rw [ht] at hP1
  have hD1 := hD1.weaken (fun _ _ _ h => hFc _ h)
  generalize H1 = H at hP1 hS ⊢
  have hP := hP1
  have hD := hD1
  have hP : va_P D xcl (rp ad E RL) H := hP
  have hD : va_D A (rp ad E RL) := hD
  rcases hp9 with ⟨rfl, z10⟩ | ⟨z11, z12, z13, z14, rfl⟩
  · refine W.eq (g2 := F0 m 5 ls [.null]) rfl ?_
    refine lv_astore_nN hx hb xd_De_memberAt_5 rfl hl (Nat.le_of_ble_eq_true rfl) rfl (fun ls hl => ?_)
    have hl : lv_has ls 4 [(3, .null), (0, .ref (ad 0 0)), (1, .int ix), (2, .int kx)] := hl
    refine lv_aload_nN hx hb xd_De_memberAt_6 rfl (lv_at hl 0 rfl) ?_
    refine lv_ifnullN (tgt := 23) hx hb xd_De_memberAt_7 (by decide) ?_
    refine lv_null hx hb xd_De_memberAt_23 ?_
    refine lv_goto (tgt := 33) hx hb xd_De_memberAt_24 (by decide) ?_
    exact W.aret (v := .null) hx hb hr (Or.inl ⟨_, rfl⟩) (Or.inl rfl) (fun t ht hW => ⟨⟨none, (), rfl, Or.inl ⟨rfl, fun ⟨la9, kn9, q⟩ => z10 ⟨la9, q.1, q.2.1, q.2.2.1⟩⟩, by rw [ht]; exact hP, hD⟩, hS.F ht⟩) hS.2.2 xd_De_memberAt_33
  · refine W.eq (g2 := F0 m 5 ls [.ref (ad (20 + z11) 0)]) rfl ?_
    refine lv_astore_n hx hb xd_De_memberAt_5 rfl hl (Nat.le_of_ble_eq_true rfl) rfl (fun ls hl => ?_)
    have hl : lv_has ls 4 [(3, .ref (ad (20 + z11) 0)), (0, .ref (ad 0 0)), (1, .int ix), (2, .int kx)] := hl
    refine lv_aload_n hx hb xd_De_memberAt_6 rfl (lv_at hl 0 rfl) ?_
    refine lv_ifnull hx hb xd_De_memberAt_7 ?_
    refine lv_iload_n hx hb xd_De_memberAt_10 rfl (lv_at hl 3 rfl) ?_
    refine lv_if_lt (tgt := 23) hx hb xd_De_memberAt_11 (by decide) (fun hc15 => ?_) (fun hc15 => ?_)
    · refine lv_null hx hb xd_De_memberAt_23 ?_
      refine lv_goto (tgt := 33) hx hb xd_De_memberAt_24 (by decide) ?_
      exact W.aret (v := .null) hx hb hr (Or.inl ⟨_, rfl⟩) (Or.inl rfl) (fun t ht hW => ⟨⟨none, (), rfl, Or.inl ⟨rfl, fun ⟨la9, kn9, q⟩ => absurd (show nI kn9 < 0 by rw [← q.2.2.2.1]; exact hc15) (nI_pos (by rw [xb_31]; have z1 := q.2.2.2.2; have z2 := hmcb la9 q.1; omega))⟩, by rw [ht]; exact hP, hD⟩, hS.F ht⟩) hS.2.2 xd_De_memberAt_33
    · obtain ⟨kn, hkn31, hkn⟩ := nI_of hc15
      rw [xb_31] at hkn31
      rw [hkn] at hl
      refine lv_iload_n hx hb xd_De_memberAt_14 rfl (lv_at hl 3 rfl) ?_
      refine lv_aload_n hx hb xd_De_memberAt_15 rfl (lv_at hl 0 rfl) ?_
      obtain ⟨m0_16, m1_16, pv_16, op_16, mk_16, fm_16, hmk_16, hpv_16, q0_16, q1_16, hk_16⟩ := id (hLIs z11 (by omega))
      have c_17 : E (20 + z11) 0 = .inr (5, [.int (nI z11), pv_16, .ref (ad (20 + z11) 1), .int op_16]) := q0_16
      have m_18 : (20 + z11, 0) ∈ RL := m0_16
      have c_19 : E (20 + z11) 1 = .inl (kA 6, mk_16, .inr (.inr (.inr (.inr fm_16)))) := q1_16
      have m_20 : (20 + z11, 1) ∈ RL := m1_16
      obtain ⟨top_16, ⟨lq_16, hlq_16, h19_16, hpv2_16⟩, h20_16, tmd_16⟩ := TLa_get c_17 c_19 (hTL z11 (by omega))
      have c_21 : E (20 + z11) 0 = .inr (5, [.int (nI z11), (lyv ad lq_16), .ref (ad (20 + z11) 1), .int op_16]) := by rw [← hpv2_16]; exact c_17
      have i20_16 : iN (g 20 z11) = mk_16 := by rw [h20_16, iN_nI (by omega)]
      refine px_get (D := D) (ci := 5) (v := .ref (ad (20 + z11) 1)) (C := xR_Ly) (T := xT_Ly) (N := 4) hx hb hT xi_Ly hown hK.1 hP m_18 c_21 rfl 2 (by decide) (hT _ k7x_5) (fun _ h9 => h9) rfl xd_De_memberAt_16 ?_
      refine px_alen hx hb hK.1 hP m_20 c_19 6 rfl xd_De_memberAt_19 ?_
      refine W.eq (g2 := F0 m 20 ls [.int (nI mk_16), .int (nI kn)]) rfl ?_
      refine xn_lt (a := kn) (b := mk_16) (tgt := 27) hx hb xd_De_memberAt_20 (by decide) (by omega) (by omega) (fun hc22 => ?_) (fun hc22 => ?_)
      · refine lv_aload_n hx hb xd_De_memberAt_27 rfl (lv_at hl 0 rfl) ?_
        refine px_get (D := D) (ci := 5) (v := .ref (ad (20 + z11) 1)) (C := xR_Ly) (T := xT_Ly) (N := 4) hx hb hT xi_Ly hown hK.1 hP m_18 c_21 rfl 2 (by decide) (hT _ k7x_5) (fun _ h9 => h9) rfl xd_De_memberAt_28 ?_
        refine lv_iload_n hx hb xd_De_memberAt_31 rfl (lv_at hl 3 rfl) ?_
        refine px_aald (i := kn) (x := (some (ad (20 + z11) (10 + 10 * kn)))) hx hb hK.1 hP m_20 c_19 6 rfl ((hk_16 kn (by omega)).1) (by omega) (by omega) xd_De_memberAt_32 ?_
        exact W.aret (v := .ref (ad (20 + z11) (10 + 10 * kn))) hx hb hr (Or.inl ⟨_, rfl⟩) (Or.inr ⟨_, rfl⟩) (fun t ht hW => ⟨⟨(some (ad (20 + z11) (10 + 10 * kn))), (), rfl, Or.inr ⟨z11, kn, ⟨z12, z13, z14, hkn, by unfold mcv; rw [i20_16]; omega⟩, rfl, (hk_16 kn (by omega)).2⟩, by rw [ht]; exact hP, hD⟩, hS.F ht⟩) hS.2.2 xd_De_memberAt_33
      · refine lv_null hx hb xd_De_memberAt_23 ?_
        refine lv_goto (tgt := 33) hx hb xd_De_memberAt_24 (by decide) ?_
        exact W.aret (v := .null) hx hb hr (Or.inl ⟨_, rfl⟩) (Or.inl rfl) (fun t ht hW => ⟨⟨none, (), rfl, Or.inl ⟨rfl, fun ⟨la9, kn9, q⟩ => by
        obtain ⟨q1, q2, q3, q4, q5⟩ := q
        have e1 := nI_inj9 (by omega) (by omega) (z13.symm.trans q2)
        have q6 := hmcb la9 q1
        have e2 := nI_inj9 (by omega) (by omega) (hkn.symm.trans q4)
        rw [← e1] at q5
        unfold mcv at q5
        rw [i20_16] at q5
        omega⟩, by rw [ht]; exact hP, hD⟩, hS.F ht⟩) hS.2.2 xd_De_memberAt_33
set_option maxHeartbeats 4000000 in
set_option maxRecDepth 100000 in
theorem xc_Me_codeA (l : Launch) (D : va_G) (kA : Nat → ClassId) (sz : Nat) (ad : Nat → Nat → Nat) (E : Nat → Nat → va_E) (RL : List (Nat × Nat)) (g : Nat → Nat → Int32) (nd : Nat) (nL : Nat) (n : Nat) (k : Nat) (hDIs : DIs kA ad E RL nd) (hLIs : LIs kA ad E RL nd nL) (hnL : nL ≤ 6) (hn : n < nL) (hTD : TDs g E nd) (hTL : TLas g ad E nd nL) (hnd12 : nd ≤ 12) (hME : MEI kA ad E RL nd n k) (hkm : k < iN (g 20 n)) : Met l xy_Me_code (.code xy_Me_code xb_Me_code 1 (some .int) :: wT) { frames := 0, cells := 0, slots := 0, locals := 0 } (va_Pc [.ref (ad (20 + n) (10 + 10 * k))] (xPre D kA sz (rp ad E RL))) (va_Qi (fun (r : Int32) (u : Unit) => r = nI (16 * n + mdv g n k)) (fun (u : Unit) t => va_P D xcl (rp ad E RL) t.heap ∧ va_D (va_A (rp ad E RL) sz) (rp ad E RL)) (va_A (rp ad E RL) sz)) 0 0 (va_A (rp ad E RL) sz) := by
  refine Met.ofW (cc := xb_Me_code) (maxL := 1) (ret := (some .int)) (by decide) rfl ?_
  intro p e s m args below meth c s₁ B hml hv
  obtain ⟨rfl, hsz, hP, hK, hD0⟩ := hv
  have hx := B.exec
  have hb := B.bytes
  have hr := B.returns
  have hT := x_hT B.pre
  have hown : s.vm.findClass xR_Me = some m.cls := findClass_of_methodNamed B.named
  have hlocks := B.notSynchronized
  subst hsz
  have hD := hD0.self (sz := s.heap.size)
  generalize hAe : va_A (rp ad E RL) s.heap.size = A at hD ⊢
  have hA : ∀ q : Nat, s.heap.size ≤ q → A q := fun q h => by rw [← hAe]; exact Or.inr h
  have hS : va_S A s.heap s.heap [] := va_S.rf
  have hl := lv_entry ([.ref (ad (20 + n) (10 + 10 * k))]) (n := 1) (Nat.le_of_ble_eq_true rfl)
  rw [lg_entry_eq]
  generalize (lg_sl ([.ref (ad (20 + n) (10 + 10 * k))]) ++ List.replicate (1 - (lg_sl ([.ref (ad (20 + n) (10 + 10 * k))])).length) Slot.unset).toArray = ls at hl ⊢
  have hl : lv_has ls 1 [(0, .ref (ad (20 + n) (10 + 10 * k)))] := hl
  have hP : va_P D xcl (rp ad E RL) s.heap := hP
  obtain ⟨m0_1, m1_1, pv_1, op_1, mk_1, fm_1, hmk_1, hpv_1, q0_1, q1_1, hk_1⟩ := id (hLIs n (by omega))
  have c_2 : E (20 + n) 0 = .inr (5, [.int (nI n), pv_1, .ref (ad (20 + n) 1), .int op_1]) := q0_1
  have m_3 : (20 + n, 0) ∈ RL := m0_1
  have c_4 : E (20 + n) 1 = .inl (kA 6, mk_1, .inr (.inr (.inr (.inr fm_1)))) := q1_1
  have m_5 : (20 + n, 1) ∈ RL := m1_1
  obtain ⟨top_1, ⟨lq_1, hlq_1, h19_1, hpv2_1⟩, h20_1, tmd_1⟩ := TLa_get c_2 c_4 (hTL n (by omega))
  have c_6 : E (20 + n) 0 = .inr (5, [.int (nI n), (lyv ad lq_1), .ref (ad (20 + n) 1), .int op_1]) := by rw [← hpv2_1]; exact c_2
  have i20_1 : iN (g 20 n) = mk_1 := by rw [h20_1, iN_nI (by omega)]
  have hkq : k < mk_1 := by have q := hkm; rw [i20_1] at q; exact q
  obtain ⟨hm_7, d_7, rs_7, fr_7, g2_7, g3_7, g4_7, hd_7, hrs_7, q0_7, q1_7, q2_7, q3_7, q4_7, q5_7, q6_7, q7_7⟩ := id hME
  have c_8 : E (20 + n) (10 + 10 * k) = .inr (6, [.ref (ad (20 + n) 0), .ref (ad (1 + d_7) 0), .ref (ad (20 + n) (11 + 10 * k)), .ref (ad (20 + n) (12 + 10 * k)), .ref (ad (20 + n) (13 + 10 * k)), .ref (ad (20 + n) (14 + 10 * k))]) := q0_7
  have m_9 : (20 + n, 10 + 10 * k) ∈ RL := hm_7 0 (by decide)
  have c_10 : E (20 + n) (11 + 10 * k) = .inl (kA 6, rs_7, .inr (.inr (.inr (.inr fr_7)))) := q1_7
  have m_11 : (20 + n, 11 + 10 * k) ∈ RL := hm_7 1 (by decide)
  have c_12 : E (20 + n) (12 + 10 * k) = .inr (10, [.ref (ad (20 + n) (15 + 10 * k))]) := q2_7
  have m_13 : (20 + n, 12 + 10 * k) ∈ RL := hm_7 2 (by decide)
  have c_14 : E (20 + n) (13 + 10 * k) = .inr (10, [.ref (ad (20 + n) (16 + 10 * k))]) := q3_7
  have m_15 : (20 + n, 13 + 10 * k) ∈ RL := hm_7 3 (by decide)
  have c_16 : E (20 + n) (14 + 10 * k) = .inr (10, [.ref (ad (20 + n) (17 + 10 * k))]) := q4_7
  have m_17 : (20 + n, 14 + 10 * k) ∈ RL := hm_7 4 (by decide)
  have c_18 : E (20 + n) (15 + 10 * k) = .inl (kA 0, 6, .inl g2_7) := q5_7
  have m_19 : (20 + n, 15 + 10 * k) ∈ RL := hm_7 5 (by decide)
  have c_20 : E (20 + n) (16 + 10 * k) = .inl (kA 0, 6, .inl g3_7) := q6_7
  have m_21 : (20 + n, 16 + 10 * k) ∈ RL := hm_7 6 (by decide)
  have c_22 : E (20 + n) (17 + 10 * k) = .inl (kA 0, 6, .inl g4_7) := q7_7
  have m_23 : (20 + n, 17 + 10 * k) ∈ RL := hm_7 7 (by decide)
  have hdm_7 : mdv g n k = d_7 := by
    obtain ⟨dz, hdz, h21z, hvz⟩ := tmd_1 k (by omega)
    rw [c_8] at hvz
    have ez := (rp_inj hD ((hDIs d_7 hd_7).1 0 (by omega)) ((hDIs dz hdz).1 0 (by omega)) (Value.ref.inj hvz)).1
    unfold mdv
    rw [h21z, iN_nI (by omega)]; omega
  obtain ⟨hm_24, fd_24, nm_24, sd_24, k0_24, k1_24, k2_24, k3_24, f0_24, f1_24, f2_24, f3_24, fe_24, fo_24, tr_24, op_24, hk0_24, hk1_24, hk2_24, hk3_24, q0_24, q1_24, q2_24, q3_24, q4_24, q5_24, q6_24, q7_24, q8_24, q9_24, q10_24, q11_24, q12_24, hg_24⟩ := id (hDIs d_7 (by omega))
  have c_25 : E (1 + d_7) 0 = .inr (7, [.int (nI d_7), .int fd_24, .int nm_24, .ref (ad (1 + d_7) 1), .ref (ad (1 + d_7) 9), .ref (ad (1 + d_7) 10), .ref (ad (1 + d_7) 2), .ref (ad (1 + d_7) 11), .ref (ad (1 + d_7) 12), .ref (ad (1 + d_7) 3), .ref (ad (1 + d_7) 4), .int sd_24]) := q0_24
  have m_26 : (1 + d_7, 0) ∈ RL := hm_24 0 (by decide)
  have c_27 : E (1 + d_7) 1 = .inr (8, [.ref (ad (1 + d_7) 5), .int (nI k0_24)]) := q1_24
  have m_28 : (1 + d_7, 1) ∈ RL := hm_24 1 (by decide)
  have c_29 : E (1 + d_7) 2 = .inr (8, [.ref (ad (1 + d_7) 6), .int (nI k1_24)]) := q2_24
  have m_30 : (1 + d_7, 2) ∈ RL := hm_24 2 (by decide)
  have c_31 : E (1 + d_7) 3 = .inr (8, [.ref (ad (1 + d_7) 7), .int (nI k2_24)]) := q3_24
  have m_32 : (1 + d_7, 3) ∈ RL := hm_24 3 (by decide)
  have c_33 : E (1 + d_7) 4 = .inr (8, [.ref (ad (1 + d_7) 8), .int (nI k3_24)]) := q4_24
  have m_34 : (1 + d_7, 4) ∈ RL := hm_24 4 (by decide)
  have c_35 : E (1 + d_7) 5 = .inl (kA 0, 6, .inl f0_24) := q5_24
  have m_36 : (1 + d_7, 5) ∈ RL := hm_24 5 (by decide)
  have c_37 : E (1 + d_7) 6 = .inl (kA 0, 5, .inl f1_24) := q6_24
  have m_38 : (1 + d_7, 6) ∈ RL := hm_24 6 (by decide)
  have c_39 : E (1 + d_7) 7 = .inl (kA 0, 3, .inl f2_24) := q7_24
  have m_40 : (1 + d_7, 7) ∈ RL := hm_24 7 (by decide)
  have c_41 : E (1 + d_7) 8 = .inl (kA 0, 3, .inl f3_24) := q8_24
  have m_42 : (1 + d_7, 8) ∈ RL := hm_24 8 (by decide)
  have c_43 : E (1 + d_7) 9 = .inl (kA 8, 6, .inr (.inr (.inr (.inr fe_24)))) := q9_24
  have m_44 : (1 + d_7, 9) ∈ RL := hm_24 9 (by decide)
  have c_45 : E (1 + d_7) 10 = .inl (kA 8, 6, .inr (.inr (.inr (.inr fo_24)))) := q10_24
  have m_46 : (1 + d_7, 10) ∈ RL := hm_24 10 (by decide)
  have c_47 : E (1 + d_7) 11 = .inl (kA 2, 5, .inl tr_24) := q11_24
  have m_48 : (1 + d_7, 11) ∈ RL := hm_24 11 (by decide)
  have c_49 : E (1 + d_7) 12 = .inl (kA 2, 5, .inl op_24) := q12_24
  have m_50 : (1 + d_7, 12) ∈ RL := hm_24 12 (by decide)
  have hg_24 : ∀ w9, w9 < k0_24 → fe_24 w9 = some (ad (1 + d_7) (20 + 3 * w9)) ∧ fo_24 w9 = some (ad (1 + d_7) (38 + 3 * w9)) ∧ GI kA (ad (1 + d_7)) (E (1 + d_7)) (fun o => (1 + d_7, o) ∈ RL) (20 + 3 * w9) (21 + 3 * w9) (22 + 3 * w9) ∧ GI kA (ad (1 + d_7)) (E (1 + d_7)) (fun o => (1 + d_7, o) ∈ RL) (38 + 3 * w9) (39 + 3 * w9) (40 + 3 * w9) := hg_24
  obtain ⟨hTT_24, tgr_24⟩ := TD_get hk0_24 hk1_24 hk2_24 hk3_24 c_25 c_27 c_29 c_31 c_33 c_35 c_37 c_39 c_41 c_47 c_49 (hTD d_7 (by omega))
  obtain ⟨tfd_24, tnm_24, tsd_24, tk0_24, tf0_24, tk1_24, tf1_24, tk2_24, tk3_24⟩ := id hTT_24
  have ik0_24 : iN (g 5 d_7) = k0_24 := by rw [← tk0_24, iN_nI (by omega)]
  have ik1_24 : iN (g 12 d_7) = k1_24 := by rw [← tk1_24, iN_nI (by omega)]
  refine lv_bipush (v := 16) hx hb xd_Me_code_0 (by decide) ?_
  refine lv_aload_n hx hb xd_Me_code_2 rfl (lv_at hl 0 rfl) ?_
  refine px_get (D := D) (ci := 6) (v := .ref (ad (20 + n) 0)) (C := xR_Me) (T := xT_Me) (N := 6) hx hb hT xi_Me hown hK.1 hP m_9 c_8 rfl 0 (by decide) (hT _ k7x_6) (fun _ h9 => h9) rfl xd_Me_code_3 ?_
  refine px_get (D := D) (ci := 5) (v := .int (nI n)) (C := xR_Ly) (T := xT_Ly) (N := 4) hx hb hT xi_Ly hown hK.1 hP m_3 c_6 rfl 0 (by decide) (hT _ k7x_7) (fun _ h9 => h9) rfl xd_Me_code_6 ?_
  refine lv_imul hx hb xd_Me_code_9 ?_
  refine xn_top (y := nI (16 * n)) (pk_mul 16 n) ?_
  refine lv_aload_n hx hb xd_Me_code_10 rfl (lv_at hl 0 rfl) ?_
  refine px_get (D := D) (ci := 6) (v := .ref (ad (1 + d_7) 0)) (C := xR_Me) (T := xT_Me) (N := 6) hx hb hT xi_Me hown hK.1 hP m_9 c_8 rfl 1 (by decide) (hT _ k7x_8) (fun _ h9 => h9) rfl xd_Me_code_11 ?_
  refine px_get (D := D) (ci := 7) (v := .int (nI d_7)) (C := xR_Ds) (T := xT_Ds) (N := 12) hx hb hT xi_Ds hown hK.1 hP m_26 c_25 rfl 0 (by decide) (hT _ k7x_9) (fun _ h9 => h9) rfl xd_Me_code_14 ?_
  refine lv_iadd hx hb xd_Me_code_17 ?_
  refine xn_top (y := nI ((16 * n) + d_7)) (nI_add (16 * n) d_7) ?_
  exact W.iret (v := (nI ((16 * n) + d_7))) hx hb hr (fun t ht hW => ⟨⟨(nI ((16 * n) + d_7)), (), rfl, (by rw [hdm_7]), by rw [ht]; exact hP, hD⟩, hS.F ht⟩) hS.2.2 xd_Me_code_18
set_option maxHeartbeats 4000000 in
set_option maxRecDepth 100000 in
theorem xc_De_loadA (l : Launch) (hlt : l.stackTraces = false) (D : va_G) (kA : Nat → ClassId) (sz : Nat) (ad : Nat → Nat → Nat) (E : Nat → Nat → va_E) (RL : List (Nat × Nat)) (Z : zT) (g : Nat → Nat → Int32) (ml : Nat) (nd : Nat) (len : Nat) (wn : Nat) (cs : Nat) (ix : Int32) (kx : Int32) (hCI : CI kA ad E RL ml nd len wn cs) (hXT : XT g ad E nd ml len) : vx_Met l xy_De_load (.code xy_De_load xb_De_load 6 (some .int) :: wT) { frames := 6, cells := 1, slots := 6, locals := 90 } (va_Pc [.ref (ad 0 0), .int ix, .int kx] (xPreZ D kA sz (rp ad E RL) Z)) (va_Qi (fun (r : Int32) (u : Nat → Nat → va_E) => ((∃ wn2, CI kA ad u RL ml nd 0 wn2 cs) ∧ F134 E u) ∧ ldA g ml (n1 (g 0) (w_all (g 0) len)) ix kx 0 r) (fun (u : Nat → Nat → va_E) t => va_P D xcl (rp ad u RL) t.heap ∧ va_D (va_A (rp ad E RL) sz) (rp ad u RL)) (va_A (rp ad E RL) sz)) (vx_X (fun (u : Nat → Nat → va_E) => ((∃ wn2, CI kA ad u RL ml nd 0 wn2 cs) ∧ F134 E u)) (fun E9 u t => ((E9 = "java/lang/IllegalArgumentException" ∧ ((n1 (g 0) (w_all (g 0) len)) = 0 ∨ ¬ ∃ la kn, moQ g ml ix kx la kn)) ∨ (E9 = "java/util/NoSuchElementException" ∧ (¬ (n1 (g 0) (w_all (g 0) len)) = 0 ∧ ∃ la kn, moQ g ml ix kx la kn ∧ (¬ ∃ i, pI g (mdv g la kn) (n1 (g 0) (w_all (g 0) len)) = some i) ∧ ¬ ∃ m, srQ g la (mdv g la kn) (n1 (g 0) (w_all (g 0) len)) m))) ∧ va_P D xcl (rp ad u RL) t.heap ∧ va_D (va_A (rp ad E RL) sz) (rp ad u RL)) (va_A (rp ad E RL) sz)) 1 6 (va_A (rp ad E RL) sz) := by
  refine vx_ofW (cc := xb_De_load) (maxL := 6) (ret := (some .int)) (by decide) rfl ?_
  intro p e s m args below meth c s₁ B hml htab hv
  obtain ⟨rfl, ⟨hsz, hP, hK, hD0⟩, hZ⟩ := hv
  have hx := B.exec
  have hb := B.bytes
  have hr := B.returns
  have hT := x_hT B.pre
  have hown : s.vm.findClass xR_De = some m.cls := findClass_of_methodNamed B.named
  have hlocks := B.notSynchronized
  subst hsz
  have hD := hD0.self (sz := s.heap.size)
  generalize hAe : va_A (rp ad E RL) s.heap.size = A at hD hZ ⊢
  have hA : ∀ q : Nat, s.heap.size ≤ q → A q := fun q h => by rw [← hAe]; exact Or.inr h
  have hS : va_S A s.heap s.heap [] := va_S.rf
  have hl := lv_entry ([.ref (ad 0 0), .int ix, .int kx]) (n := 6) (Nat.le_of_ble_eq_true rfl)
  rw [lg_entry_eq]
  generalize (lg_sl ([.ref (ad 0 0), .int ix, .int kx]) ++ List.replicate (6 - (lg_sl ([.ref (ad 0 0), .int ix, .int kx])).length) Slot.unset).toArray = ls at hl ⊢
  have hl : lv_has ls 6 [(0, .ref (ad 0 0)), (1, .int ix), (2, .int kx)] := hl
  have hP : va_P D xcl (rp ad E RL) s.heap := hP
  obtain ⟨hmB, hDk, hLi, hSh, hCh, hLa, hDIs, hLIs⟩ := id hCI
  obtain ⟨lf_1, q_1⟩ := id (hDk)
  have c_2 : E 0 0 = .inr (0, [.ref (ad 0 1), .ref (ad 0 5), .ref (ad 0 7), .ref (ad 0 9), .int (nI ml), .int lf_1]) := q_1
  have m_3 : (0, 0) ∈ RL := hmB 0 (by decide)
  refine lv_aload_n hx hb xd_De_load_0 rfl (lv_at hl 0 rfl) ?_
  refine px_get (D := D) (ci := 0) (v := .ref (ad 0 1)) (C := xR_De) (T := xT_De) (N := 6) hx hb hT xi_De hown hK.1 hP m_3 c_2 rfl 0 (by decide) (hT _ k7x_10) (fun _ h9 => h9) rfl xd_De_load_1 ?_
  have hFc := px_free hD hS hA
  obtain ⟨tx_4, fb_4, fe_4, hl1_4, hw2_4, q1_4, q2_4, q3_4, q4_4, hws_4⟩ := id (hLi)
  have c_5 : E 0 1 = .inr (1, [.ref (ad 0 2), .ref (ad 0 3), .ref (ad 0 4), .int (nI len), .int (nI wn)]) := q1_4
  have m_6 : (0, 1) ∈ RL := hmB 1 (by decide)
  have c_7 : E 0 2 = .inl (kA 1, 40, .inl tx_4) := q2_4
  have m_8 : (0, 2) ∈ RL := hmB 2 (by decide)
  have c_9 : E 0 3 = .inl (kA 0, 20, .inl fb_4) := q3_4
  have m_10 : (0, 3) ∈ RL := hmB 3 (by decide)
  have c_11 : E 0 4 = .inl (kA 0, 20, .inl fe_4) := q4_4
  have m_12 : (0, 4) ∈ RL := hmB 4 (by decide)
  refine va_calli (va_runV (As := []) (rest := []) ⟨hx, hb, hml, hown, hT⟩ (xc_Li_takeNameX l D kA s.heap.size ad E RL g ml nd len wn cs (by first | assumption | omega) hXT.1) (cwV 0 hT (wT_V k7x_12 k7x_13 k7x_14 k7x_15 k7x_11) rfl rfl rfl (by decide +kernel) ⟨Nat.le_of_ble_eq_true rfl, Nat.le_of_ble_eq_true rfl⟩) (px_preV hK hP hD m_6 c_5 rfl) rfl rfl hl.1 rfl (lv_room (Nat.le_of_ble_eq_true rfl)) xd_De_load_4 ⟨(Nat.le_of_ble_eq_true rfl), (Nat.le_of_ble_eq_true rfl)⟩) hS (fun q _ h => hFc q h) hFc (fun r13 u14 t H1 locs ht hvm hp15 hB hz1 hk1 hS => ?_)
  obtain ⟨hP1, hD1⟩ := hB
  rw [ht] at hP1
  have hD1 := hD1.weaken (fun _ _ _ h => hFc _ h)
  generalize H1 = H at hP1 hS ⊢
  have hP := hP1
  have hD := hD1
  obtain ⟨E16, rfl⟩ : ∃ z, z = u14 := ⟨_, rfl⟩
  have hP : va_P D xcl (rp ad E16 RL) H := hP
  have hD : va_D A (rp ad E16 RL) := hD
  obtain ⟨⟨wn17, hCI⟩, hF1, hnm⟩ := hp15
  have hCI : CI kA ad E16 RL ml nd 0 wn17 cs := hCI
  have hnm : r13 = (n1 (g 0) (w_all (g 0) len)) := hnm
  obtain ⟨hmB, hDk, hLi, hSh, hCh, hLa, hDIs, hLIs⟩ := id hCI
  obtain ⟨lf_18, q_18⟩ := id (hDk)
  have c_19 : E16 0 0 = .inr (0, [.ref (ad 0 1), .ref (ad 0 5), .ref (ad 0 7), .ref (ad 0 9), .int (nI ml), .int lf_18]) := q_18
  have m_20 : (0, 0) ∈ RL := hmB 0 (by decide)
  obtain ⟨fl_21, hml_21, q9_21, hla_21⟩ := id (hLa)
  have c_22 : E16 0 9 = .inl (kA 5, 5, .inr (.inr (.inr (.inr fl_21)))) := q9_21
  have m_23 : (0, 9) ∈ RL := hmB 9 (by decide)
  have hXT1 : XT g ad E16 nd ml 0 := f1_join hF1 hXT
  have hTD1 := hXT1.2.1
  have hTL1 := hXT1.2.2.1
  have hRB1 := hXT1.2.2.2.2.1
  have hNZ1 := hXT1.2.2.2.2.2.2.1
  obtain ⟨_, hnd12, hml5, _, _⟩ := CI_b hCI
  have hLKP : LKP g ml := LKP_C hCI hTL1
  have hmcb : ∀ la, la < ml → mcv g la ≤ 12 := fun la hl9 => (hLKP.2 la hl9).1
  refine lv_istore_n hx hb xd_De_load_7 rfl hl (Nat.le_of_ble_eq_true rfl) rfl (fun ls hl => ?_)
  have hl : lv_has ls 6 [(3, .int r13), (0, .ref (ad 0 0)), (1, .int ix), (2, .int kx)] := hl
  refine lv_aload_n hx hb xd_De_load_8 rfl (lv_at hl 1 rfl) ?_
  refine lv_iload_n hx hb xd_De_load_9 rfl (lv_at hl 2 rfl) ?_
  refine lv_iload_n hx hb xd_De_load_10 rfl (lv_at hl 3 rfl) ?_
  have hFc := px_free hD hS hA
  refine va_callq (va_runV (As := [.int ix, .int kx]) (rest := []) ⟨hx, hb, hml, hown, hT⟩ (xc_De_memberAtA l D kA H.size ad E16 RL g ml nd 0 wn17 cs ix kx (by first | assumption | omega) hTL1) (cwV 2 hT (wT_V k7x_17 k7x_18 k7x_19 k7x_4 k7x_16) rfl rfl rfl (by decide +kernel) ⟨Nat.le_of_ble_eq_true rfl, Nat.le_of_ble_eq_true rfl⟩) (px_preV hK hP hD m_20 c_19 rfl) rfl rfl hl.1 rfl (lv_room (Nat.le_of_ble_eq_true rfl)) xd_De_load_11 ⟨(Nat.le_of_ble_eq_true rfl), (Nat.le_of_ble_eq_true rfl)⟩) hS (fun q _ h => hFc q h) hFc (fun r24 u25 t H1 locs ht hvm hp26 hB hz1 hk1 hS => ?_)
  obtain ⟨hP1, hD1⟩ := hB
  rw [ht] at hP1
  have hD1 := hD1.weaken (fun _ _ _ h => hFc _ h)
  generalize H1 = H at hP1 hS ⊢
  have hP := hP1
  have hD := hD1
  have hP : va_P D xcl (rp ad E16 RL) H := hP
  have hD : va_D A (rp ad E16 RL) := hD
  rcases hp26 with ⟨rfl, z27⟩ | ⟨z28, z29, z30, rfl, z31⟩
  · refine W.eq (g2 := F0 m 14 ls [.null]) rfl ?_
    refine lv_astoreN hx hb xd_De_load_14 hl (Nat.le_of_ble_eq_true rfl) rfl (fun ls hl => ?_)
    have hl : lv_has ls 6 [(4, .null), (3, .int r13), (0, .ref (ad 0 0)), (1, .int ix), (2, .int kx)] := hl
    refine lv_aloadN hx hb xd_De_load_16 (lv_at hl 0 rfl) ?_
    refine lv_ifnullN (tgt := 25) hx hb xd_De_load_18 (by decide) ?_
    exact y_throwA (ik := 56) (is := 161) (wf := fun (u : Nat → Nat → va_E) => rp ad u RL) E16 (⟨⟨wn17, hCI⟩, hF1⟩) (Or.inl ⟨rfl, (Or.inr z27)⟩) hx hb hlt hown hT hK k7x_20 k7x_21 hZ.2.2.2.1.2.2.2.2.2.2.2.2.2.2.2.2.2.2.2.2.2.1 hZ.1 hS hP hD (hl.1.trans hml.symm) xd_De_load_25 xd_De_load_28 xd_De_load_29 xd_De_load_31 xd_De_load_34 htab (Nat.le_of_ble_eq_true rfl) (Nat.le_of_ble_eq_true rfl) (Nat.le_of_ble_eq_true rfl) (Nat.le_of_ble_eq_true rfl) hlocks (Nat.le_of_ble_eq_true rfl) (Nat.le_of_ble_eq_true rfl)
  · refine W.eq (g2 := F0 m 14 ls [.ref (ad (20 + z28) (10 + 10 * z29))]) rfl ?_
    have hlx_hkq : z28 < ml := z30.1
    obtain ⟨m0_32, m1_32, pv_32, op_32, mk_32, fm_32, hmk_32, hpv_32, q0_32, q1_32, hk_32⟩ := id (hLIs z28 (by omega))
    have c_33 : E16 (20 + z28) 0 = .inr (5, [.int (nI z28), pv_32, .ref (ad (20 + z28) 1), .int op_32]) := q0_32
    have m_34 : (20 + z28, 0) ∈ RL := m0_32
    have c_35 : E16 (20 + z28) 1 = .inl (kA 6, mk_32, .inr (.inr (.inr (.inr fm_32)))) := q1_32
    have m_36 : (20 + z28, 1) ∈ RL := m1_32
    obtain ⟨top_32, ⟨lq_32, hlq_32, h19_32, hpv2_32⟩, h20_32, tmd_32⟩ := TLa_get c_33 c_35 (hTL1 z28 (by omega))
    have c_37 : E16 (20 + z28) 0 = .inr (5, [.int (nI z28), (lyv ad lq_32), .ref (ad (20 + z28) 1), .int op_32]) := by rw [← hpv2_32]; exact c_33
    have i20_32 : iN (g 20 z28) = mk_32 := by rw [h20_32, iN_nI (by omega)]
    have hkq : z29 < mk_32 := by have q := (show z29 < iN (g 20 z28) from z30.2.2.2.2); rw [i20_32] at q; exact q
    obtain ⟨hm_38, d_38, rs_38, fr_38, g2_38, g3_38, g4_38, hd_38, hrs_38, q0_38, q1_38, q2_38, q3_38, q4_38, q5_38, q6_38, q7_38⟩ := id z31
    have c_39 : E16 (20 + z28) (10 + 10 * z29) = .inr (6, [.ref (ad (20 + z28) 0), .ref (ad (1 + d_38) 0), .ref (ad (20 + z28) (11 + 10 * z29)), .ref (ad (20 + z28) (12 + 10 * z29)), .ref (ad (20 + z28) (13 + 10 * z29)), .ref (ad (20 + z28) (14 + 10 * z29))]) := q0_38
    have m_40 : (20 + z28, 10 + 10 * z29) ∈ RL := hm_38 0 (by decide)
    have c_41 : E16 (20 + z28) (11 + 10 * z29) = .inl (kA 6, rs_38, .inr (.inr (.inr (.inr fr_38)))) := q1_38
    have m_42 : (20 + z28, 11 + 10 * z29) ∈ RL := hm_38 1 (by decide)
    have c_43 : E16 (20 + z28) (12 + 10 * z29) = .inr (10, [.ref (ad (20 + z28) (15 + 10 * z29))]) := q2_38
    have m_44 : (20 + z28, 12 + 10 * z29) ∈ RL := hm_38 2 (by decide)
    have c_45 : E16 (20 + z28) (13 + 10 * z29) = .inr (10, [.ref (ad (20 + z28) (16 + 10 * z29))]) := q3_38
    have m_46 : (20 + z28, 13 + 10 * z29) ∈ RL := hm_38 3 (by decide)
    have c_47 : E16 (20 + z28) (14 + 10 * z29) = .inr (10, [.ref (ad (20 + z28) (17 + 10 * z29))]) := q4_38
    have m_48 : (20 + z28, 14 + 10 * z29) ∈ RL := hm_38 4 (by decide)
    have c_49 : E16 (20 + z28) (15 + 10 * z29) = .inl (kA 0, 6, .inl g2_38) := q5_38
    have m_50 : (20 + z28, 15 + 10 * z29) ∈ RL := hm_38 5 (by decide)
    have c_51 : E16 (20 + z28) (16 + 10 * z29) = .inl (kA 0, 6, .inl g3_38) := q6_38
    have m_52 : (20 + z28, 16 + 10 * z29) ∈ RL := hm_38 6 (by decide)
    have c_53 : E16 (20 + z28) (17 + 10 * z29) = .inl (kA 0, 6, .inl g4_38) := q7_38
    have m_54 : (20 + z28, 17 + 10 * z29) ∈ RL := hm_38 7 (by decide)
    have hdm_38 : mdv g z28 z29 = d_38 := by
      obtain ⟨dz, hdz, h21z, hvz⟩ := tmd_32 z29 (by omega)
      rw [c_39] at hvz
      have ez := (rp_inj hD ((hDIs d_38 hd_38).1 0 (by omega)) ((hDIs dz hdz).1 0 (by omega)) (Value.ref.inj hvz)).1
      unfold mdv
      rw [h21z, iN_nI (by omega)]; omega
    obtain ⟨hm_55, fd_55, nm_55, sd_55, k0_55, k1_55, k2_55, k3_55, f0_55, f1_55, f2_55, f3_55, fe_55, fo_55, tr_55, op_55, hk0_55, hk1_55, hk2_55, hk3_55, q0_55, q1_55, q2_55, q3_55, q4_55, q5_55, q6_55, q7_55, q8_55, q9_55, q10_55, q11_55, q12_55, hg_55⟩ := id (hDIs d_38 (by omega))
    have c_56 : E16 (1 + d_38) 0 = .inr (7, [.int (nI d_38), .int fd_55, .int nm_55, .ref (ad (1 + d_38) 1), .ref (ad (1 + d_38) 9), .ref (ad (1 + d_38) 10), .ref (ad (1 + d_38) 2), .ref (ad (1 + d_38) 11), .ref (ad (1 + d_38) 12), .ref (ad (1 + d_38) 3), .ref (ad (1 + d_38) 4), .int sd_55]) := q0_55
    have m_57 : (1 + d_38, 0) ∈ RL := hm_55 0 (by decide)
    have c_58 : E16 (1 + d_38) 1 = .inr (8, [.ref (ad (1 + d_38) 5), .int (nI k0_55)]) := q1_55
    have m_59 : (1 + d_38, 1) ∈ RL := hm_55 1 (by decide)
    have c_60 : E16 (1 + d_38) 2 = .inr (8, [.ref (ad (1 + d_38) 6), .int (nI k1_55)]) := q2_55
    have m_61 : (1 + d_38, 2) ∈ RL := hm_55 2 (by decide)
    have c_62 : E16 (1 + d_38) 3 = .inr (8, [.ref (ad (1 + d_38) 7), .int (nI k2_55)]) := q3_55
    have m_63 : (1 + d_38, 3) ∈ RL := hm_55 3 (by decide)
    have c_64 : E16 (1 + d_38) 4 = .inr (8, [.ref (ad (1 + d_38) 8), .int (nI k3_55)]) := q4_55
    have m_65 : (1 + d_38, 4) ∈ RL := hm_55 4 (by decide)
    have c_66 : E16 (1 + d_38) 5 = .inl (kA 0, 6, .inl f0_55) := q5_55
    have m_67 : (1 + d_38, 5) ∈ RL := hm_55 5 (by decide)
    have c_68 : E16 (1 + d_38) 6 = .inl (kA 0, 5, .inl f1_55) := q6_55
    have m_69 : (1 + d_38, 6) ∈ RL := hm_55 6 (by decide)
    have c_70 : E16 (1 + d_38) 7 = .inl (kA 0, 3, .inl f2_55) := q7_55
    have m_71 : (1 + d_38, 7) ∈ RL := hm_55 7 (by decide)
    have c_72 : E16 (1 + d_38) 8 = .inl (kA 0, 3, .inl f3_55) := q8_55
    have m_73 : (1 + d_38, 8) ∈ RL := hm_55 8 (by decide)
    have c_74 : E16 (1 + d_38) 9 = .inl (kA 8, 6, .inr (.inr (.inr (.inr fe_55)))) := q9_55
    have m_75 : (1 + d_38, 9) ∈ RL := hm_55 9 (by decide)
    have c_76 : E16 (1 + d_38) 10 = .inl (kA 8, 6, .inr (.inr (.inr (.inr fo_55)))) := q10_55
    have m_77 : (1 + d_38, 10) ∈ RL := hm_55 10 (by decide)
    have c_78 : E16 (1 + d_38) 11 = .inl (kA 2, 5, .inl tr_55) := q11_55
    have m_79 : (1 + d_38, 11) ∈ RL := hm_55 11 (by decide)
    have c_80 : E16 (1 + d_38) 12 = .inl (kA 2, 5, .inl op_55) := q12_55
    have m_81 : (1 + d_38, 12) ∈ RL := hm_55 12 (by decide)
    have hg_55 : ∀ w9, w9 < k0_55 → fe_55 w9 = some (ad (1 + d_38) (20 + 3 * w9)) ∧ fo_55 w9 = some (ad (1 + d_38) (38 + 3 * w9)) ∧ GI kA (ad (1 + d_38)) (E16 (1 + d_38)) (fun o => (1 + d_38, o) ∈ RL) (20 + 3 * w9) (21 + 3 * w9) (22 + 3 * w9) ∧ GI kA (ad (1 + d_38)) (E16 (1 + d_38)) (fun o => (1 + d_38, o) ∈ RL) (38 + 3 * w9) (39 + 3 * w9) (40 + 3 * w9) := hg_55
    obtain ⟨hTT_55, tgr_55⟩ := TD_get hk0_55 hk1_55 hk2_55 hk3_55 c_56 c_58 c_60 c_62 c_64 c_66 c_68 c_70 c_72 c_78 c_80 (hTD1 d_38 (by omega))
    obtain ⟨tfd_55, tnm_55, tsd_55, tk0_55, tf0_55, tk1_55, tf1_55, tk2_55, tk3_55⟩ := id hTT_55
    have ik0_55 : iN (g 5 d_38) = k0_55 := by rw [← tk0_55, iN_nI (by omega)]
    have ik1_55 : iN (g 12 d_38) = k1_55 := by rw [← tk1_55, iN_nI (by omega)]
    refine lv_astore hx hb xd_De_load_14 hl (Nat.le_of_ble_eq_true rfl) rfl (fun ls hl => ?_)
    have hl : lv_has ls 6 [(4, .ref (ad (20 + z28) (10 + 10 * z29))), (3, .int r13), (0, .ref (ad 0 0)), (1, .int ix), (2, .int kx)] := hl
    refine lv_aload hx hb xd_De_load_16 (lv_at hl 0 rfl) ?_
    refine lv_ifnull hx hb xd_De_load_18 ?_
    refine lv_iload_n hx hb xd_De_load_21 rfl (lv_at hl 1 rfl) ?_
    refine lv_if_ne (tgt := 35) hx hb xd_De_load_22 (by decide) (fun hc82 => ?_) (fun hc82 => ?_)
    · refine lv_aload hx hb xd_De_load_35 (lv_at hl 0 rfl) ?_
      refine px_get (D := D) (ci := 6) (v := .ref (ad (1 + d_38) 0)) (C := xR_Me) (T := xT_Me) (N := 6) hx hb hT xi_Me hown hK.1 hP m_40 c_39 rfl 1 (by decide) (hT _ k7x_22) (fun _ h9 => h9) rfl xd_De_load_37 ?_
      refine px_get (D := D) (ci := 7) (v := .ref (ad (1 + d_38) 1)) (C := xR_Ds) (T := xT_Ds) (N := 12) hx hb hT xi_Ds hown hK.1 hP m_57 c_56 rfl 3 (by decide) (hT _ k7x_23) (fun _ h9 => h9) rfl xd_De_load_40 ?_
      refine lv_iload_n hx hb xd_De_load_43 rfl (lv_at hl 1 rfl) ?_
      have hFc := px_free hD hS hA
      refine va_calli (va_runV (As := [.int r13]) (rest := []) ⟨hx, hb, hml, hown, hT⟩ (xc_Na_holds l D kA H.size ad E16 RL (1 + d_38) 1 5 6 k0_55 f0_55 r13 m_59 c_58 m_67 c_66 (by first | assumption | omega) (by first | assumption | omega)) (cwV 1 hT (wT_V k7x_25 k7x_26 k7x_27 k7x_28 k7x_24) rfl rfl rfl (by decide +kernel) ⟨Nat.le_of_ble_eq_true rfl, Nat.le_of_ble_eq_true rfl⟩) (px_preV hK hP hD m_59 c_58 rfl) rfl rfl hl.1 rfl (lv_room (Nat.le_of_ble_eq_true rfl)) xd_De_load_44 ⟨(Nat.le_of_ble_eq_true rfl), (Nat.le_of_ble_eq_true rfl)⟩) hS (fun q _ h => hFc q h) hFc (fun r83 u84 t H1 locs ht hvm hp85 hB hz1 hk1 hS => ?_)
      obtain ⟨hP1, hD1⟩ := hB
      rw [ht] at hP1
      have hD1 := hD1.weaken (fun _ _ _ h => hFc _ h)
      generalize H1 = H at hP1 hS ⊢
      have hP := hP1
      have hD := hD1
      have hP : va_P D xcl (rp ad E16 RL) H := hP
      have hD : va_D A (rp ad E16 RL) := hD
      rcases hp85 with ⟨rfl, z86, z87, z88⟩ | ⟨rfl, z89⟩
      · refine W.eq (g2 := F0 m 47 ls [.int 1]) rfl ?_
        refine lv_if_eq (tgt := 55) hx hb xd_De_load_47 (by decide) (fun hc90 => absurd hc90 (by decide)) (fun _ => ?_)
        refine lv_aload hx hb xd_De_load_50 (lv_at hl 0 rfl) ?_
        refine lv_goto (tgt := 61) hx hb xd_De_load_52 (by decide) ?_
        refine lv_astore hx hb xd_De_load_61 hl (Nat.le_of_ble_eq_true rfl) rfl (fun ls hl => ?_)
        have hl : lv_has ls 6 [(5, .ref (ad (20 + z28) (10 + 10 * z29))), (4, .ref (ad (20 + z28) (10 + 10 * z29))), (3, .int r13), (0, .ref (ad 0 0)), (1, .int ix), (2, .int kx)] := hl
        refine lv_aload hx hb xd_De_load_63 (lv_at hl 0 rfl) ?_
        refine lv_ifnonnull (tgt := 78) hx hb xd_De_load_65 (by decide) ?_
        refine lv_aload hx hb xd_De_load_78 (lv_at hl 0 rfl) ?_
        have hFc := px_free hD hS hA
        refine va_calli (va_runV (As := []) (rest := []) ⟨hx, hb, hml, hown, hT⟩ (xc_Me_codeA l D kA H.size ad E16 RL g nd ml z28 z29 (by first | assumption | omega) (by first | assumption | omega) (by first | assumption | omega) z30.1 hTD1 hTL1 (by first | assumption | omega) z31 z30.2.2.2.2) (cwV 0 hT (wT_V k7x_30 k7x_31 k7x_32 k7x_33 k7x_29) rfl rfl rfl (by decide +kernel) ⟨Nat.le_of_ble_eq_true rfl, Nat.le_of_ble_eq_true rfl⟩) (px_preV hK hP hD m_40 c_39 rfl) rfl rfl hl.1 rfl (lv_room (Nat.le_of_ble_eq_true rfl)) xd_De_load_80 ⟨(Nat.le_of_ble_eq_true rfl), (Nat.le_of_ble_eq_true rfl)⟩) hS (fun q _ h => hFc q h) hFc (fun r91 u92 t H1 locs ht hvm hp93 hB hz1 hk1 hS => ?_)
        obtain ⟨hP1, hD1⟩ := hB
        rw [ht] at hP1
        have hD1 := hD1.weaken (fun _ _ _ h => hFc _ h)
        generalize H1 = H at hP1 hS ⊢
        have hP := hP1
        have hD := hD1
        have hP : va_P D xcl (rp ad E16 RL) H := hP
        have hD : va_D A (rp ad E16 RL) := hD
        refine W.widen (k := 1) (n := 6) (Nat.le_of_ble_eq_true rfl) (Nat.le_of_ble_eq_true rfl) ?_
        refine vx_ret ?_
        exact W.iret (v := r91) hx hb hr (fun t ht hW => ⟨⟨r91, E16, rfl, ⟨⟨⟨wn17, hCI⟩, hF1⟩, Or.inr ⟨(by rw [← hnm]; exact hc82), z28, z29, z30, by
        rw [← hnm]
        exact Or.inl ⟨rfl, (by rw [hdm_38]; exact pI_ex hk0_55 tk0_55 tf0_55 ⟨z86, z87, z88⟩), hp93⟩⟩⟩, by rw [ht]; exact hP, hD⟩, hS.F ht⟩) hS.2.2 xd_De_load_83
      · refine W.eq (g2 := F0 m 47 ls [.int 0]) rfl ?_
        refine lv_if_eq (tgt := 55) hx hb xd_De_load_47 (by decide) (fun _ => ?_) (fun hc94 => absurd (by decide) hc94)
        refine lv_aload hx hb xd_De_load_55 (lv_at hl 0 rfl) ?_
        refine lv_iload_n hx hb xd_De_load_57 rfl (lv_at hl 1 rfl) ?_
        have hFc := px_free hD hS hA
        refine va_callq (va_runV (As := [.int r13]) (rest := []) ⟨hx, hb, hml, hown, hT⟩ (xc_Me_sourceOfX l D kA H.size ad E16 RL g nd ml z28 z29 r13 (by first | assumption | omega) (by first | assumption | omega) (by first | assumption | omega) z30.1 hTD1 hTL1 (by first | assumption | omega) z31 z30.2.2.2.2 hNZ1) (cwV 1 hT (wT_V k7x_35 k7x_36 k7x_37 k7x_33 k7x_34) rfl rfl rfl (by decide +kernel) ⟨Nat.le_of_ble_eq_true rfl, Nat.le_of_ble_eq_true rfl⟩) (px_preV hK hP hD m_40 c_39 rfl) rfl rfl hl.1 rfl (lv_room (Nat.le_of_ble_eq_true rfl)) xd_De_load_58 ⟨(Nat.le_of_ble_eq_true rfl), (Nat.le_of_ble_eq_true rfl)⟩) hS (fun q _ h => hFc q h) hFc (fun r95 u96 t H1 locs ht hvm hp97 hB hz1 hk1 hS => ?_)
        obtain ⟨hP1, hD1⟩ := hB
        rw [ht] at hP1
        have hD1 := hD1.weaken (fun _ _ _ h => hFc _ h)
        generalize H1 = H at hP1 hS ⊢
        have hP := hP1
        have hD := hD1
        have hP : va_P D xcl (rp ad E16 RL) H := hP
        have hD : va_D A (rp ad E16 RL) := hD
        have hRx : ∀ t, t < 72 → (RWb E16 z28 z29 t ↔ rdQ g z28 (mdv g z28 z29) t) := fun t ht => hRB1 z28 z30.1 z29 z30.2.2.2.2 t ht
        have hKx : LKP g (z28 + 1) := LKP_le hLKP (by have q := z30.1; omega)
        have hx6 : z28 < 6 := by have q := z30.1; omega
        rcases hp97 with ⟨rfl, z98⟩ | ⟨z99, z100, z101, rfl, z102, z103⟩
        · refine W.eq (g2 := F0 m 61 ls [.null]) rfl ?_
          have hsn : ¬ ∃ m, srQ g z28 (mdv g z28 z29) r13 m := sr_none hx6 hKx hRx z98
          refine lv_astoreN hx hb xd_De_load_61 hl (Nat.le_of_ble_eq_true rfl) rfl (fun ls hl => ?_)
          have hl : lv_has ls 6 [(5, .null), (4, .ref (ad (20 + z28) (10 + 10 * z29))), (3, .int r13), (0, .ref (ad 0 0)), (1, .int ix), (2, .int kx)] := hl
          refine lv_aloadN hx hb xd_De_load_63 (lv_at hl 0 rfl) ?_
          refine lv_ifnonnullN hx hb xd_De_load_65 ?_
          exact y_throwC (ik := 89) (is := 176) (wf := fun (u : Nat → Nat → va_E) => rp ad u RL) E16 (⟨⟨wn17, hCI⟩, hF1⟩) (Or.inr ⟨rfl, (by rw [← hnm]; exact hc82), z28, z29, z30, by rw [← hnm]; exact (fun ⟨i9, q9⟩ => by rw [hdm_38, pI_x hk0_55 tk0_55 tf0_55 z89] at q9; cases q9), by rw [← hnm]; exact hsn⟩) hx hb hlt hown hT hK k7x_38 k7x_39 hZ.2.2.2.1.2.2.2.2.2.2.2.2.2.2.2.2.2.2.2.2.2.2.1 hZ.1 hS hP hD (hl.1.trans hml.symm) xd_De_load_68 xd_De_load_71 xd_De_load_72 xd_De_load_74 xd_De_load_77 htab (Nat.le_of_ble_eq_true rfl) (Nat.le_of_ble_eq_true rfl) (Nat.le_of_ble_eq_true rfl) (Nat.le_of_ble_eq_true rfl) hlocks (Nat.le_of_ble_eq_true rfl) (Nat.le_of_ble_eq_true rfl)
        · refine W.eq (g2 := F0 m 61 ls [.ref (ad (20 + z99) (10 + 10 * z100))]) rfl ?_
          have hsy := sr_some hx6 hKx hRx z103
          refine lv_astore hx hb xd_De_load_61 hl (Nat.le_of_ble_eq_true rfl) rfl (fun ls hl => ?_)
          have hl : lv_has ls 6 [(5, .ref (ad (20 + z99) (10 + 10 * z100))), (4, .ref (ad (20 + z28) (10 + 10 * z29))), (3, .int r13), (0, .ref (ad 0 0)), (1, .int ix), (2, .int kx)] := hl
          refine lv_aload hx hb xd_De_load_63 (lv_at hl 0 rfl) ?_
          refine lv_ifnonnull (tgt := 78) hx hb xd_De_load_65 (by decide) ?_
          refine lv_aload hx hb xd_De_load_78 (lv_at hl 0 rfl) ?_
          have hFc := px_free hD hS hA
          obtain ⟨hm_104, d_104, rs_104, fr_104, g2_104, g3_104, g4_104, hd_104, hrs_104, q0_104, q1_104, q2_104, q3_104, q4_104, q5_104, q6_104, q7_104⟩ := id z102
          have c_105 : E16 (20 + z99) (10 + 10 * z100) = .inr (6, [.ref (ad (20 + z99) 0), .ref (ad (1 + d_104) 0), .ref (ad (20 + z99) (11 + 10 * z100)), .ref (ad (20 + z99) (12 + 10 * z100)), .ref (ad (20 + z99) (13 + 10 * z100)), .ref (ad (20 + z99) (14 + 10 * z100))]) := q0_104
          have m_106 : (20 + z99, 10 + 10 * z100) ∈ RL := hm_104 0 (by decide)
          have c_107 : E16 (20 + z99) (11 + 10 * z100) = .inl (kA 6, rs_104, .inr (.inr (.inr (.inr fr_104)))) := q1_104
          have m_108 : (20 + z99, 11 + 10 * z100) ∈ RL := hm_104 1 (by decide)
          have c_109 : E16 (20 + z99) (12 + 10 * z100) = .inr (10, [.ref (ad (20 + z99) (15 + 10 * z100))]) := q2_104
          have m_110 : (20 + z99, 12 + 10 * z100) ∈ RL := hm_104 2 (by decide)
          have c_111 : E16 (20 + z99) (13 + 10 * z100) = .inr (10, [.ref (ad (20 + z99) (16 + 10 * z100))]) := q3_104
          have m_112 : (20 + z99, 13 + 10 * z100) ∈ RL := hm_104 3 (by decide)
          have c_113 : E16 (20 + z99) (14 + 10 * z100) = .inr (10, [.ref (ad (20 + z99) (17 + 10 * z100))]) := q4_104
          have m_114 : (20 + z99, 14 + 10 * z100) ∈ RL := hm_104 4 (by decide)
          have c_115 : E16 (20 + z99) (15 + 10 * z100) = .inl (kA 0, 6, .inl g2_104) := q5_104
          have m_116 : (20 + z99, 15 + 10 * z100) ∈ RL := hm_104 5 (by decide)
          have c_117 : E16 (20 + z99) (16 + 10 * z100) = .inl (kA 0, 6, .inl g3_104) := q6_104
          have m_118 : (20 + z99, 16 + 10 * z100) ∈ RL := hm_104 6 (by decide)
          have c_119 : E16 (20 + z99) (17 + 10 * z100) = .inl (kA 0, 6, .inl g4_104) := q7_104
          have m_120 : (20 + z99, 17 + 10 * z100) ∈ RL := hm_104 7 (by decide)
          refine va_calli (va_runV (As := []) (rest := []) ⟨hx, hb, hml, hown, hT⟩ (xc_Me_codeA l D kA H.size ad E16 RL g nd ml z99 z100 (by first | assumption | omega) (by first | assumption | omega) (by first | assumption | omega) (by have q := hsy.2.2.1; have q2 := z30.1; omega) hTD1 hTL1 (by first | assumption | omega) z102 hsy.2.1) (cwV 0 hT (wT_V k7x_30 k7x_31 k7x_32 k7x_33 k7x_29) rfl rfl rfl (by decide +kernel) ⟨Nat.le_of_ble_eq_true rfl, Nat.le_of_ble_eq_true rfl⟩) (px_preV hK hP hD m_106 c_105 rfl) rfl rfl hl.1 rfl (lv_room (Nat.le_of_ble_eq_true rfl)) xd_De_load_80 ⟨(Nat.le_of_ble_eq_true rfl), (Nat.le_of_ble_eq_true rfl)⟩) hS (fun q _ h => hFc q h) hFc (fun r121 u122 t H1 locs ht hvm hp123 hB hz1 hk1 hS => ?_)
          obtain ⟨hP1, hD1⟩ := hB
          rw [ht] at hP1
          have hD1 := hD1.weaken (fun _ _ _ h => hFc _ h)
          generalize H1 = H at hP1 hS ⊢
          have hP := hP1
          have hD := hD1
          have hP : va_P D xcl (rp ad E16 RL) H := hP
          have hD : va_D A (rp ad E16 RL) := hD
          refine W.widen (k := 1) (n := 6) (Nat.le_of_ble_eq_true rfl) (Nat.le_of_ble_eq_true rfl) ?_
          refine vx_ret ?_
          exact W.iret (v := r121) hx hb hr (fun t ht hW => ⟨⟨r121, E16, rfl, ⟨⟨⟨wn17, hCI⟩, hF1⟩, Or.inr ⟨(by rw [← hnm]; exact hc82), z28, z29, z30, by
        rw [← hnm]
        exact Or.inr ⟨(fun ⟨i9, q9⟩ => by rw [hdm_38, pI_x hk0_55 tk0_55 tf0_55 z89] at q9; cases q9), Or.inr ⟨rfl, 12 * z99 + mdv g z99 z100, hsy.1, by
          have q := hsy.2.2.2
          rw [show (12 * z99 + mdv g z99 z100) / 12 = z99 by omega, show (12 * z99 + mdv g z99 z100) % 12 = mdv g z99 z100 by omega]
          exact hp123⟩⟩⟩⟩, by rw [ht]; exact hP, hD⟩, hS.F ht⟩) hS.2.2 xd_De_load_83
    · exact y_throwA (ik := 56) (is := 161) (wf := fun (u : Nat → Nat → va_E) => rp ad u RL) E16 (⟨⟨wn17, hCI⟩, hF1⟩) (Or.inl ⟨rfl, (Or.inl (by rw [← hnm]; exact hc82))⟩) hx hb hlt hown hT hK k7x_20 k7x_21 hZ.2.2.2.1.2.2.2.2.2.2.2.2.2.2.2.2.2.2.2.2.2.1 hZ.1 hS hP hD (hl.1.trans hml.symm) xd_De_load_25 xd_De_load_28 xd_De_load_29 xd_De_load_31 xd_De_load_34 htab (Nat.le_of_ble_eq_true rfl) (Nat.le_of_ble_eq_true rfl) (Nat.le_of_ble_eq_true rfl) (Nat.le_of_ble_eq_true rfl) hlocks (Nat.le_of_ble_eq_true rfl) (Nat.le_of_ble_eq_true rfl)
def BG (g g2 : gT) (d : Nat) : Prop := g2 4 d = g 4 d ∧ g2 5 d = g 5 d ∧ ∀ i, i < 6 → g2 6 (6 * d + i) = g 6 (6 * d + i) ∧ g2 9 (6 * d + i) = g 9 (6 * d + i) ∧ ∀ j, j < 3 → g2 7 (3 * (6 * d + i) + j) = g 7 (3 * (6 * d + i) + j)
theorem BG_of {g g2 : gT} {d : Nat} (h : ∀ j, 3 ≤ j → j ≤ 17 → j ≠ 11 → g2 j = g j) : BG g g2 d := ⟨by rw [h 4 (by omega) (by omega) (by omega)], by rw [h 5 (by omega) (by omega) (by omega)], fun i _ => ⟨by rw [h 6 (by omega) (by omega) (by omega)], by rw [h 9 (by omega) (by omega) (by omega)], fun j _ => by rw [h 7 (by omega) (by omega) (by omega)]⟩⟩
theorem BG_AG {g g2 : gT} {d : Nat} (h : AG g g2 d) : BG g g2 d := by
  obtain ⟨_, h4, h5, _, _, h6, _⟩ := h
  exact ⟨h4, h5, fun i hi => ⟨(h6 i hi).1, (h6 i hi).2.1, fun j hj => ((h6 i hi).2.2.2 j hj).1⟩⟩
theorem exP_BG {g g2 : gT} {d i : Nat} {tn : Int32} (h : BG g g2 d) (hi : i < 6) : exP g2 (6 * d + i) tn ↔ exP g (6 * d + i) tn := by
  obtain ⟨_, h9, h7⟩ := h.2.2 i hi
  unfold exP
  rw [h9, show g2 7 (3 * (6 * d + i)) = g 7 (3 * (6 * d + i)) from h7 0 (by omega), h7 1 (by omega), h7 2 (by omega)]
theorem pI_BG {g g2 : gT} {d : Nat} {n : Int32} (h : BG g g2 d) (h5 : iN (g 5 d) ≤ 6) : pI g2 d n = pI g d n := by
  unfold pI
  rw [h.2.1]
  exact ff_congr (fun j hj => by rw [(h.2.2 j (by omega)).1])
theorem spQ_BG {g g2 : gT} {Q : Nat → Prop} {d : Nat} (hd : BG g g2 d) (hd5 : iN (g 5 d) ≤ 6) (hQ : ∀ m, m < 72 → Q m → BG g g2 (m % 12) ∧ iN (g 5 (m % 12)) ≤ 6) (h : spQ g2 Q d) : spQ g Q d := by
  obtain ⟨m, hm, q, p, p1, p2, hex, hor⟩ := h
  obtain ⟨a, b⟩ := hQ m hm q
  rw [a.2.1] at p2
  obtain ⟨i, hi⟩ : ∃ i, p = 6 * (m % 12) + i := ⟨p - 6 * (m % 12), by omega⟩
  subst hi
  have hi6 : i < 6 := by omega
  refine ⟨m, hm, q, _, p1, p2, ?_, ?_⟩
  · rw [hd.1] at hex
    exact (exP_BG a hi6).mp hex
  · rw [(a.2.2 i hi6).1, hd.1] at hor
    rcases hor with ⟨j, hj⟩ | ⟨m2, h1, h2, h3, i2, h4, h5⟩
    · exact Or.inl ⟨j, by rw [← pI_BG hd hd5]; exact hj⟩
    · obtain ⟨a2, b2⟩ := hQ m2 h1 h3
      rw [pI_BG a2 b2] at h4
      have z := (pI_is h4).1
      exact Or.inr ⟨m2, h1, h2, h3, i2, h4, (exP_BG a2 (by omega)).mp h5⟩
def NSs (g : gT) (ml : Nat) : Prop := ∀ la, la < ml → ∀ k, k < mcv g la → ¬ spQ g (rdQ g la (mdv g la k)) (mdv g la k)
theorem NS_u {g : gT} {ml : Nat} {nm : Int32} (h : NSs g ml) : ∀ la, la < ml → ∀ k, k < mcv g la → ∀ m m2, srQ g la (mdv g la k) nm m → srQ g la (mdv g la k) nm m2 → m = m2 := fun la hl k hk m m2 ⟨a1, a2, i, a3, a4⟩ ⟨b1, b2, i2, b3, b4⟩ => by
  refine Decidable.byContradiction (fun ne => h la hl k hk ?_)
  obtain ⟨z1, z2⟩ := pI_is a3
  refine ⟨m, a1, a2, 6 * (m % 12) + i, by omega, by omega, a4, Or.inr ?_⟩
  rw [z2]
  exact ⟨m2, b1, fun e => ne e.symm, b2, i2, b3, b4⟩
theorem NS_BG {g g2 : gT} {np : Nat} (hk : LKP g np) (hv : VQ g g2 np) (hB : ∀ la, la < np → ∀ k, k < mcv g la → BG g g2 (mdv g la k)) (h5 : ∀ d, d < 12 → ∃ k, k ≤ 6 ∧ g 5 d = nI k) (h : NSs g np) : NSs g2 np := fun la hl k hk9 hs => by
  obtain ⟨e1, _, e3⟩ := hv la hl
  have hm : k < mcv g la := by rw [← e1]; exact hk9
  rw [(e3 k hm).1] at hs
  have hs2 : spQ g2 (rdQ g la (mdv g la k)) (mdv g la k) := (spQ_iff (fun m _ => rdQ_VQ hk hv hl hm)).mp hs
  have h56 : ∀ d, d < 12 → iN (g 5 d) ≤ 6 := fun d hd => by
    obtain ⟨k, q1, q2⟩ := h5 d hd
    rw [q2, iN_nI (by omega)]; exact q1
  refine h la hl k hm (spQ_BG (hB la hl k hm) (h56 _ ((hk.2 la hl).2 k hm)) (fun m hm72 hq => ?_) hs2)
  obtain ⟨la3, hc, k3, hk3, e⟩ := rd_ch (LKP_le hk (by omega)) hq.1
  have hla3 := Ch_lt (fun x hx => hk.1 x (by omega)) hc
  have hd3 := (hk.2 la3 (by omega)).2 k3 hk3
  rw [show m % 12 = mdv g la3 k3 by omega]
  exact ⟨hB la3 (by omega) k3 hk3, h56 _ hd3⟩
theorem NS_r {g g2 : gT} {ml : Nat} (hk : LKP g ml) (hg : ∀ j, 3 ≤ j → j ≤ 21 → j ≠ 11 → g2 j = g j) (h5 : ∀ d, d < 12 → ∃ k, k ≤ 6 ∧ g 5 d = nI k) (h : NSs g ml) : NSs g2 ml := NS_BG hk (VQ_of hk (fun j a b c => hg j a (by omega) c) (fun la _ => by rw [hg 19 (by omega) (by omega) (by omega)]) (fun la _ => by rw [hg 20 (by omega) (by omega) (by omega)]) (fun la _ k _ => by rw [hg 21 (by omega) (by omega) (by omega)])) (fun la _ k _ => BG_of (fun j a b c => hg j a (by omega) c)) h5 h
theorem NS_XQ {g g2 : gT} {ml : Nat} (hk : LKP g ml) (hq : XQ g g2 ml) (h5 : ∀ d, d < 12 → ∃ k, k ≤ 6 ∧ g 5 d = nI k) (h : NSs g ml) : NSs g2 ml := NS_BG hk (XQ_VQ hk hq) (fun la _ k _ => BG_of (fun j a b _ => hq.1 j a b)) h5 h
theorem AG_r {g g1 g2 : gT} {d : Nat} (h : AG g g1 d) (hg : ∀ j, 3 ≤ j → j ≤ 17 → g2 j = g1 j) : AG g g2 d := by
  unfold AG at h ⊢
  rw [hg 3 (by omega) (by omega), hg 4 (by omega) (by omega), hg 5 (by omega) (by omega), hg 6 (by omega) (by omega), hg 7 (by omega) (by omega), hg 8 (by omega) (by omega), hg 9 (by omega) (by omega), hg 10 (by omega) (by omega), hg 11 (by omega) (by omega), hg 12 (by omega) (by omega), hg 13 (by omega) (by omega), hg 14 (by omega) (by omega), hg 15 (by omega) (by omega), hg 16 (by omega) (by omega), hg 17 (by omega) (by omega)]
  exact h
theorem NS_ln {g g1 : gT} {v : Nat → Int32} {kA : Nat → ClassId} {ad : Nat → Nat → Nat} {E : Nat → Nat → va_E} {RL : List (Nat × Nat)} {ml nd len wn cs : Nat} {t : Nat → Int32} {wl : List (Nat × Nat)} (hMI : MI v g) (hCI : CI kA ad E RL ml nd len wn cs) (hX : XT g ad E nd ml len) (hg : ∀ j, j ≠ 1 → j ≠ 2 → g1 j = (lnF t wl nd g).2 j) (h : NSs g ml) : NSs g1 ml := by
  obtain ⟨_, hnd, hml, hD, hI⟩ := CI_b hCI
  obtain ⟨h1, h2, h3, h4, h5b, h6, h7, h8, h9, h10⟩ := hX
  have h5 := hMI.2.2.2.1
  have h12 := hMI.2.2.2.2.1
  have hk : LKP g ml := LKP_L (by omega) hnd hI h3
  have e18 := lnF_row (nd := nd) (t := t) (wl := wl) (g := g)
  have h56 : iN (g 5 (nd - 1)) ≤ 6 := by
    obtain ⟨k, q1, q2⟩ := h5 (nd - 1) (by omega)
    rw [q2, iN_nI (by omega)]; exact q1
  have hA : ∀ la, la < ml → ∀ k, k < mcv g la → AG g g1 (mdv g la k) := fun la hl k hk9 => by
    obtain ⟨q1, q2⟩ := h10 la hl k hk9
    exact AG_r (lnF_AG (t := t) (wl := wl) h56 _ q1 q2) (fun j a b => hg j (by omega) (by omega))
  have hv : VQ g g1 ml := fun la hl => by
    refine ⟨by unfold mcv; rw [hg 20 (by omega) (by omega), e18 20 (by omega)], by unfold prv; rw [hg 19 (by omega) (by omega), e18 19 (by omega)], fun k hk9 => ⟨by unfold mdv; rw [hg 21 (by omega) (by omega), e18 21 (by omega)], ?_⟩⟩
    obtain ⟨q1, q2⟩ := h10 la hl k hk9
    obtain ⟨_, a4, _, _, a12, _, a13, _⟩ := hA la hl k hk9
    obtain ⟨kd, q3, q4⟩ := h12 (mdv g la k) (by omega)
    refine ⟨a4, a12, fun i hi => a13 i ?_⟩
    rw [q4, iN_nI (by omega)] at hi; omega
  exact NS_BG hk hv (fun la hl k hk9 => BG_AG (hA la hl k hk9)) h5 h
theorem rsW_ns {g : gT} {nl md : Nat} (h : rsW g nl md = 0) : ¬ SPL g nl md := fun q => by
  unfold rsW at h
  by_cases h1 : CYC g nl md
  · rw [cif_pos h1] at h; omega
  · rw [cif_neg h1, cif_pos q] at h; omega
theorem NS_keep {g : gT} {nd ml lq : Nat} {L : List Nat} (hnd : nd ≤ 12) (hml : ml < 5) (hlq : lq ≤ ml) (hG : GL nd L) (hk : LKP g ml) (h5 : ∀ d, d < 12 → ∃ k, k ≤ 6 ∧ g 5 d = nI k) (hrs : rsW (gDr g ml lq L) ml L.length = 0) (h : NSs g ml) : NSs (gKl (gDr g ml lq L) L) (ml + 1) := by
  have hk2 : LKP (gDr g ml lq L) (ml + 1) := LKP_gDr hnd hlq (by omega) hG hk
  have hl12 : L.length ≤ 12 := by have q := GL_len hG; omega
  have hD : NSs (gDr g ml lq L) (ml + 1) := fun la hl k hk9 => by
    by_cases q : la = ml
    · subst q
      intro hs
      have hkL : k < L.length := by rw [gDr_mc hl12] at hk9; exact hk9
      refine rsW_ns hrs ⟨mdv (gDr g la lq L) la k, ⟨(hk2.2 la hl).2 k hk9, 12 * la + k, by omega, by omega, ?_⟩, hs⟩
      rw [gDr_md hG hnd hkL]; exact gDr_21n hkL
    · exact NS_BG hk (VQ_gDr hk) (fun la _ k _ => BG_of (fun j a b _ => gDr_o (by omega) (by omega) (by omega) (by omega))) h5 h la (by omega) k hk9
  exact NS_r hk2 (fun j a b c => gKl_o c) (fun d hd => by rw [gDr_o (by decide) (by decide) (by decide) (by decide)]; exact h5 d hd) hD
theorem ly_ns {kA : Nat → ClassId} {g u2 : gT} {ad ad' : Nat → Nat → Nat} {E E' : Nat → Nat → va_E} {RL RL' : List (Nat × Nat)} {ml nd len wn cs code why : Nat} {fi px bi k r u5 : Int32} {o : Int64} (hCI : CI kA ad E RL ml nd len wn cs) (hX : XT g ad E nd ml len) (h5g : ∀ d, d < 12 → ∃ k, k ≤ 6 ∧ g 5 d = nI k) (hNS : NSs g ml) (hY : YP kA g ad E ml nd len fi px bi k ad' E' RL' o) (hR : lyR g (g 0) (w_all (g 0) len) nd ml fi px bi code why r u5 u2) : ∃ ml2, ml2 ≤ 5 ∧ u5 = nI ml2 ∧ NSs u2 ml2 := by
  obtain ⟨_, hnd, hml, hD, hI⟩ := CI_b hCI
  have hk : LKP g ml := LKP_L (by omega) hnd hI hX.2.2.1
  have hthr : SQ g u2 ml → NSs u2 ml := fun hs => NS_XQ hk (SQ_XQ hk hs) h5g hNS
  rcases hR with ⟨hn, rfl, rfl, hu5, hs⟩ | ⟨hok, ⟨Lx, hLx⟩, rfl, rfl, hu5, hs⟩ | ⟨hok, L1, L, gD, hL1, hL, hG, hDT, hwhy, hr⟩
  · exact ⟨ml, hml, hu5, hthr hs⟩
  · exact ⟨ml, hml, hu5, hthr hs⟩
  · have hlq := ok1_lq (by omega) hok
    have hrs := rsW_DT hnd hlq hml hG hk hDT
    rcases hr with ⟨hw, rfl, hu5, hs⟩ | ⟨hw, rfl, hr0, hu5, hN⟩
    · exact ⟨ml, hml, hu5, hthr hs⟩
    · have hl12 : L.length ≤ 12 := by have q := GL_len hG; omega
      rw [hrs] at hwhy
      have hr9 : rsW (gDr g ml (iN (px + 1)) L) ml L.length = 0 := by rw [← hwhy]; exact hw
      have hm5 : ml < 5 := by have q := rsW_0 hr9; omega
      have hK := NS_keep hnd hm5 hlq hG hk h5g hr9 hNS
      have hk3 : LKP (gKl (gDr g ml (iN (px + 1)) L) L) (ml + 1) := by
        have q := LKP_gDr hnd hlq hml hG hk
        exact ⟨fun x hx => by unfold prv; rw [gKl_o (by decide)]; exact q.1 x hx, fun la hl => by unfold mcv mdv; rw [gKl_o (by decide), gKl_o (by decide)]; exact q.2 la hl⟩
      exact ⟨ml + 1, by omega, hu5, NS_XQ hk3 (NW_XQ hk hl12 hN) (fun d hd => by rw [gKl_o (by decide), gDr_o (by decide) (by decide) (by decide) (by decide)]; exact h5g d hd) hK⟩
theorem NS_0 {g : gT} : NSs g 0 := fun la hl => absurd hl (Nat.not_lt_zero _)
theorem k7e_0 : (Cond.code xy_De_line xb_De_line 2 (some .int)) ∈ wT := wT_t (List.mem_append_left _ (List.mem_of_getElem? (i := 186) rfl)) rfl
theorem k7e_1 : (Cond.methodLink "LayerDeskLaw" 7 xy_De_line) ∈ wT := wT_t (List.mem_append_left _ (List.mem_of_getElem? (i := 183) rfl)) rfl
theorem k7e_2 : (Cond.instanceMethod xy_De_line) ∈ wT := wT_t (List.mem_append_left _ (List.mem_of_getElem? (i := 184) rfl)) rfl
theorem k7e_3 : (Cond.selects "LayerDesk" xy_De_line xy_De_line) ∈ wT := wT_t (List.mem_append_left _ (List.mem_of_getElem? (i := 185) rfl)) rfl
theorem k7e_4 : (Cond.initialized "LayerDesk") ∈ wT := wT_t (List.mem_append_left _ (List.mem_of_getElem? (i := 1) rfl)) rfl
theorem k7e_5 : (Cond.classLink "LayerDeskLaw" 13 "java/lang/IllegalArgumentException") ∈ wT := wT_t (List.mem_append_left _ (List.mem_of_getElem? (i := 181) rfl)) rfl
theorem k7e_6 : (Cond.classLink "LayerDeskLaw" 15 "java/lang/IllegalStateException") ∈ wT := wT_t (List.mem_append_left _ (List.mem_of_getElem? (i := 182) rfl)) rfl
theorem k7e_7 : (Cond.code xy_De_layer xb_De_layer 7 (some .int)) ∈ wT := wT_t (List.mem_append_right _ (List.mem_append_right _ (List.mem_append_left _ (List.mem_of_getElem? (i := 55) rfl)))) rfl
theorem k7e_8 : (Cond.methodLink "LayerDeskLaw" 17 xy_De_layer) ∈ wT := wT_t (List.mem_append_right _ (List.mem_append_right _ (List.mem_append_left _ (List.mem_of_getElem? (i := 52) rfl)))) rfl
theorem k7e_9 : (Cond.instanceMethod xy_De_layer) ∈ wT := wT_t (List.mem_append_right _ (List.mem_append_right _ (List.mem_append_left _ (List.mem_of_getElem? (i := 53) rfl)))) rfl
theorem k7e_10 : (Cond.selects "LayerDesk" xy_De_layer xy_De_layer) ∈ wT := wT_t (List.mem_append_right _ (List.mem_append_right _ (List.mem_append_left _ (List.mem_of_getElem? (i := 54) rfl)))) rfl
theorem k7e_11 : (Cond.classLink "LayerDeskLaw" 21 "java/util/NoSuchElementException") ∈ wT := wT_t (List.mem_append_right _ (List.mem_append_right _ (List.mem_append_left _ (List.mem_of_getElem? (i := 51) rfl)))) rfl
theorem k7e_12 : (Cond.code xy_De_load xb_De_load 6 (some .int)) ∈ wT := wT_t (List.mem_append_right _ (List.mem_append_right _ (List.mem_append_right _ (List.mem_append_left _ (List.mem_of_getElem? (i := 38) rfl))))) rfl
theorem k7e_13 : (Cond.methodLink "LayerDeskLaw" 23 xy_De_load) ∈ wT := wT_t (List.mem_append_right _ (List.mem_append_right _ (List.mem_append_right _ (List.mem_append_left _ (List.mem_of_getElem? (i := 35) rfl))))) rfl
theorem k7e_14 : (Cond.instanceMethod xy_De_load) ∈ wT := wT_t (List.mem_append_right _ (List.mem_append_right _ (List.mem_append_right _ (List.mem_append_left _ (List.mem_of_getElem? (i := 36) rfl))))) rfl
theorem k7e_15 : (Cond.selects "LayerDesk" xy_De_load xy_De_load) ∈ wT := wT_t (List.mem_append_right _ (List.mem_append_right _ (List.mem_append_right _ (List.mem_append_left _ (List.mem_of_getElem? (i := 37) rfl))))) rfl
theorem k7e_16 : (Cond.code xy_De_peek xb_De_peek 8 (some .boolean)) ∈ wT := wT_t (List.mem_append_right _ (List.mem_append_right _ (List.mem_append_right _ (List.mem_append_left _ (List.mem_of_getElem? (i := 59) rfl))))) rfl
theorem k7e_17 : (Cond.methodLink "LayerDeskLaw" 27 xy_De_peek) ∈ wT := wT_t (List.mem_append_right _ (List.mem_append_right _ (List.mem_append_right _ (List.mem_append_left _ (List.mem_of_getElem? (i := 56) rfl))))) rfl
theorem k7e_18 : (Cond.instanceMethod xy_De_peek) ∈ wT := wT_t (List.mem_append_right _ (List.mem_append_right _ (List.mem_append_right _ (List.mem_append_left _ (List.mem_of_getElem? (i := 57) rfl))))) rfl
theorem k7e_19 : (Cond.selects "LayerDesk" xy_De_peek xy_De_peek) ∈ wT := wT_t (List.mem_append_right _ (List.mem_append_right _ (List.mem_append_right _ (List.mem_append_left _ (List.mem_of_getElem? (i := 58) rfl))))) rfl
theorem k7e_20 : (Cond.code xy_De_provider xb_De_provider 6 (some .int)) ∈ wT := wT_t (List.mem_append_right _ (List.mem_append_right _ (List.mem_append_right _ (List.mem_append_left _ (List.mem_of_getElem? (i := 71) rfl))))) rfl
theorem k7e_21 : (Cond.methodLink "LayerDeskLaw" 31 xy_De_provider) ∈ wT := wT_t (List.mem_append_right _ (List.mem_append_right _ (List.mem_append_right _ (List.mem_append_left _ (List.mem_of_getElem? (i := 68) rfl))))) rfl
theorem k7e_22 : (Cond.instanceMethod xy_De_provider) ∈ wT := wT_t (List.mem_append_right _ (List.mem_append_right _ (List.mem_append_right _ (List.mem_append_left _ (List.mem_of_getElem? (i := 69) rfl))))) rfl
theorem k7e_23 : (Cond.selects "LayerDesk" xy_De_provider xy_De_provider) ∈ wT := wT_t (List.mem_append_right _ (List.mem_append_right _ (List.mem_append_right _ (List.mem_append_left _ (List.mem_of_getElem? (i := 70) rfl))))) rfl
set_option maxHeartbeats 4000000 in
set_option maxRecDepth 100000 in
theorem xc_La_lineX (l : Launch) (hlt : l.stackTraces = false) (D : va_G) (kA : Nat → ClassId) (sz : Nat) (ad : Nat → Nat → Nat) (E : Nat → Nat → va_E) (RL : List (Nat × Nat)) (Z : zT) (g : Nat → Nat → Int32) (ml : Nat) (nd : Nat) (len : Nat) (wn : Nat) (cs : Nat) (ob : Nat) (fo : Nat → Int64) (hCI : CI kA ad E RL ml nd len wn cs) (hTD : TDs g E nd) (hZI : ZI g nd) (hTX : ∀ i, i < len → eA (E 0 2) i = g 0 i) : Met l xy_La_line (.codeWith xy_La_line xb_La_line 3 (some .int) [(0, 8, 11, 13), (0, 8, 14, 15)] :: wT) { frames := 8, cells := 14, slots := 72, locals := 176 } (va_Pc [.ref (ad 0 0), .ref ob] (xPreZ D kA sz ((ob, .inl (kA 3, 1, .inr (.inl fo))) :: rp ad E RL) Z)) (va_Qi (fun (r : Int32) (u : ((Nat → Nat → Nat) × (Nat → Nat → va_E) × List (Nat × Nat)) × (Nat → Int64)) => (∃ wn2, CI kA u.1.1 u.1.2.1 u.1.2.2 ml (lnF (g 0) (w_all (g 0) len) nd g).1 0 wn2 cs) ∧ TDs (lnF (g 0) (w_all (g 0) len) nd g).2 u.1.2.1 (lnF (g 0) (w_all (g 0) len) nd g).1 ∧ u.1.1 0 0 = ad 0 0 ∧ FRL ml nd ad u.1.1 E u.1.2.1) (fun (u : ((Nat → Nat → Nat) × (Nat → Nat → va_E) × List (Nat × Nat)) × (Nat → Int64)) t => va_P D xcl ((ob, .inl (kA 3, 1, .inr (.inl u.2))) :: rp u.1.1 u.1.2.1 u.1.2.2) t.heap ∧ va_D (va_A ((ob, .inl (kA 3, 1, .inr (.inl fo))) :: rp ad E RL) sz) ((ob, .inl (kA 3, 1, .inr (.inl u.2))) :: rp u.1.1 u.1.2.1 u.1.2.2)) (va_A ((ob, .inl (kA 3, 1, .inr (.inl fo))) :: rp ad E RL) sz)) 14 72 (va_A ((ob, .inl (kA 3, 1, .inr (.inl fo))) :: rp ad E RL) sz) := by
  refine va_MetW (cc := xb_La_line) (maxL := 3) (ret := (some .int)) (by decide) rfl ?_
  intro p e s m args below meth c s₁ B hml hv
  obtain ⟨rfl, ⟨hsz, hP, hK, hD0⟩, hZ⟩ := hv
  have hx := B.exec
  have hb := B.bytes
  have hr := B.returns
  have hT := x_hT B.pre
  have hown : s.vm.findClass xR_La = some m.cls := findClass_of_methodNamed B.named
  have hlocks := B.notSynchronized
  subst hsz
  have hD := hD0.self (sz := s.heap.size)
  generalize hAe : va_A ((ob, .inl (kA 3, 1, .inr (.inl fo))) :: rp ad E RL) s.heap.size = A at hD hZ ⊢
  have hA : ∀ q : Nat, s.heap.size ≤ q → A q := fun q h => by rw [← hAe]; exact Or.inr h
  have hS : va_S A s.heap s.heap [] := va_S.rf
  have hl := lv_entry ([.ref (ad 0 0), .ref ob]) (n := 3) (Nat.le_of_ble_eq_true rfl)
  rw [lg_entry_eq]
  generalize (lg_sl ([.ref (ad 0 0), .ref ob]) ++ List.replicate (3 - (lg_sl ([.ref (ad 0 0), .ref ob])).length) Slot.unset).toArray = ls at hl ⊢
  have hl : lv_has ls 3 [(0, .ref (ad 0 0)), (1, .ref ob)] := hl
  have hP : va_P D xcl ((ob, .inl (kA 3, 1, .inr (.inl fo))) :: rp ad E RL) s.heap := hP
  have hex := vx_table (x := xy_La_line) B (atoms_spec (ws := .codeWith xy_La_line xb_La_line 3 (some .int) [(0, 8, 11, 13), (0, 8, 14, 15)] :: wT) B.pre _ List.mem_cons_self)
  refine lv_aload_n hx hb xd_La_line_0 rfl (lv_at hl 1 rfl) ?_
  refine lv_iconst (v := 0) hx hb xd_La_line_1 (by decide) ?_
  refine lv_aload_n hx hb xd_La_line_2 rfl (lv_at hl 0 rfl) ?_
  have hPc := xp_P (X := [(ob, .inl (kA 3, 1, .inr (.inl fo)))]) hP
  have hDc := xp_D (X := [(ob, .inl (kA 3, 1, .inr (.inl fo)))]) hD
  have hFc := va_freeP (X := [(ob, .inl (kA 3, 1, .inr (.inl fo)))]) (cx := []) hD hS hA [] rfl
  have hZc := hZ.kept hS
  obtain ⟨lf, hc0⟩ := hCI.2.1
  refine vx_calli (vx_runV (As := []) (rest := [.int 0, .ref ob]) ⟨hx, hb, hml, hown, hT⟩ (xc_De_lineX l hlt D kA s.heap.size ad E RL Z g ml nd len wn cs hCI hTD hZI hTX) (cwV 0 hT (wT_V k7e_1 k7e_2 k7e_3 k7e_4 k7e_0) rfl rfl rfl (by decide +kernel) ⟨Nat.le_of_ble_eq_true rfl, Nat.le_of_ble_eq_true rfl⟩) (px_preVZ hK hPc hDc (hCI.1 0 (by decide)) hc0 rfl hFc hZc) rfl rfl hl.1 rfl (lv_room (Nat.le_of_ble_eq_true rfl)) xd_La_line_3 ⟨Nat.le_of_ble_eq_true rfl, Nat.le_of_ble_eq_true rfl⟩) hS (fun q _ h => hFc q h) hFc (fun q _ h => hFc q h) (fun E9 ce q9 u t H1 locs ht hvm hpost hB hz1 hk1 hS hce hcv hcl => ?_) (fun r u t H1 locs ht hvm hpost hB hz1 hk1 hS => ?_)
  · obtain ⟨hE9, hP1, hD1⟩ := hB
    rw [ht] at hP1
    obtain ⟨hP, hD⟩ := va_joinP (X := [(ob, .inl (kA 3, 1, .inr (.inl fo)))]) (cx := []) (wr := [(ob, .inl (kA 3, 1, .inr (.inl fo)))]) (rx := []) hP hD [] [0] rfl rfl (by decide) (by decide) hk1 hFc hP1 hD1
    generalize H1 = H at hP hS hce ⊢
    have hl := lv_sub hl [1] rfl
    have hl : lv_has ls 3 [(1, .ref ob)] := hl
    have hP : va_P D xcl ((ob, .inl (kA 3, 1, .inr (.inl fo))) :: rp u.1 u.2.1 u.2.2) H := hP
    have hD : va_D A ((ob, .inl (kA 3, 1, .inr (.inl fo))) :: rp u.1 u.2.1 u.2.2) := hD
    rcases hE9 with rfl | rfl
    · refine vx_catch (own := "LayerDeskLaw") (name := "java/lang/IllegalArgumentException") hown [] ⟨0, 8, 11, 13⟩ [⟨0, 8, 14, 15⟩] (by rw [hex]; rfl) (fun z hz => nomatch hz) rfl (by decide) (hT _ k7e_5) (va_Nw.use rfl hK.2.2.2.2.2.1) hce hcv hcl ?_
      refine lv_astore_n hx hb xd_La_line_11 rfl hl (Nat.le_of_ble_eq_true rfl) rfl (fun ls hl => ?_)
      have hl : lv_has ls 3 [(2, .ref q9), (1, .ref ob)] := hl
      refine lv_iconst (v := 1) hx hb xd_La_line_12 (by decide) ?_
      refine W.widen (k := 14) (n := 72) (Nat.le_of_ble_eq_true rfl) (Nat.le_of_ble_eq_true rfl) ?_
      exact W.iret (v := 1) hx hb hr (fun t ht hW => ⟨⟨1, ((u.1, u.2.1, u.2.2), fo), rfl, hpost, by rw [ht]; exact hP, hD⟩, hS.F ht⟩) hS.2.2 xd_La_line_13
    · refine vx_catch (own := "LayerDeskLaw") (name := "java/lang/IllegalStateException") hown [⟨0, 8, 11, 13⟩] ⟨0, 8, 14, 15⟩ [] (by rw [hex]; rfl) (fun z hz => by rw [List.mem_singleton] at hz; subst hz; exact Or.inr ⟨(by decide), "java/lang/IllegalArgumentException", hT _ k7e_5, hZ.2.2.2.2.1⟩) rfl (by decide) (hT _ k7e_6) (va_Nw.use rfl hK.2.2.2.2.2.2.1) hce hcv hcl ?_
      refine lv_astore_n hx hb xd_La_line_14 rfl hl (Nat.le_of_ble_eq_true rfl) rfl (fun ls hl => ?_)
      have hl : lv_has ls 3 [(2, .ref q9), (1, .ref ob)] := hl
      refine lv_iconst (v := 2) hx hb xd_La_line_15 (by decide) ?_
      refine W.widen (k := 14) (n := 72) (Nat.le_of_ble_eq_true rfl) (Nat.le_of_ble_eq_true rfl) ?_
      exact W.iret (v := 2) hx hb hr (fun t ht hW => ⟨⟨2, ((u.1, u.2.1, u.2.2), fo), rfl, hpost, by rw [ht]; exact hP, hD⟩, hS.F ht⟩) hS.2.2 xd_La_line_16
  · obtain ⟨hP1, hD1⟩ := hB
    rw [ht] at hP1
    obtain ⟨hP, hD⟩ := va_joinP (X := [(ob, .inl (kA 3, 1, .inr (.inl fo)))]) (cx := []) (wr := [(ob, .inl (kA 3, 1, .inr (.inl fo)))]) (rx := []) hP hD [] [0] rfl rfl (by decide) (by decide) hk1 hFc hP1 hD1
    generalize H1 = H at hP hS ⊢
    have hl := lv_sub hl [1] rfl
    have hl : lv_has ls 3 [(1, .ref ob)] := hl
    have hP : va_P D xcl ((ob, .inl (kA 3, 1, .inr (.inl fo))) :: rp u.1 u.2.1 u.2.2) H := hP
    have hD : va_D A ((ob, .inl (kA 3, 1, .inr (.inl fo))) :: rp u.1 u.2.1 u.2.2) := hD
    refine lv_i2l (v := ((r : Int32).toInt64)) hx hb xd_La_line_6 rfl ?_
    refine va_last hx hb hK.1 hP hD hS 0 3 rfl rfl (show ¬ _ by decide) xd_La_line_7 (fun H locs hP hD hS => ?_)
    have hP : va_P D xcl ((ob, .inl (kA 3, 1, .inr (.inl (vp_updL fo (0 : Int32).toNatClampNeg ((r : Int32).toInt64))))) :: rp u.1 u.2.1 u.2.2) H := hP
    have hD : va_D A ((ob, .inl (kA 3, 1, .inr (.inl (vp_updL fo (0 : Int32).toNatClampNeg ((r : Int32).toInt64))))) :: rp u.1 u.2.1 u.2.2) := hD
    refine lv_goto (tgt := 17) hx hb xd_La_line_8 (by decide) ?_
    refine lv_iconst (v := 0) hx hb xd_La_line_17 (by decide) ?_
    refine W.widen (k := 14) (n := 72) (Nat.le_of_ble_eq_true rfl) (Nat.le_of_ble_eq_true rfl) ?_
    exact W.iret (v := 0) hx hb hr (fun t ht hW => ⟨⟨0, ((u.1, u.2.1, u.2.2), (vp_updL fo (0 : Int32).toNatClampNeg ((r : Int32).toInt64))), rfl, hpost, by rw [ht]; exact hP, hD⟩, hS.F ht⟩) hS.2.2 xd_La_line_18
set_option maxHeartbeats 4000000 in
set_option maxRecDepth 100000 in
theorem xc_La_layerX (l : Launch) (hlt : l.stackTraces = false) (D : va_G) (kA : Nat → ClassId) (sz : Nat) (ad : Nat → Nat → Nat) (E : Nat → Nat → va_E) (RL : List (Nat × Nat)) (Z : zT) (g : Nat → Nat → Int32) (ml : Nat) (nd : Nat) (len : Nat) (wn : Nat) (cs : Nat) (ob : Nat) (fo : Nat → Int64) (fi : Int32) (px : Int32) (bi : Int32) (hCI : CI kA ad E RL ml nd len wn cs) (hTD : TDs g E nd) (hTL : TLas g ad E nd ml) (hCB : CBs g E ml) (hTX : ∀ i, i < len → eA (E 0 2) i = g 0 i) (hNZ : NZ g nd) (hUQ : ∀ d, d < nd → UQ1 g d) (hND : NDq g ml) : Met l xy_La_layer (.codeWith xy_La_layer xb_La_layer 6 (some .int) [(0, 12, 15, 13), (0, 12, 19, 21), (0, 12, 23, 15)] :: wT) { frames := 24, cells := 101, slots := 430, locals := 1310 } (va_Pc [.ref (ad 0 0), .int fi, .int px, .int bi, .ref ob] (xPreZ D kA sz ((ob, .inl (kA 3, 1, .inr (.inl fo))) :: rp ad E RL) Z)) (va_Qi (fun (r : Int32) (u : ((Nat → Nat → Nat) × (Nat → Nat → va_E) × List (Nat × Nat)) × (Nat → Int64)) => YP kA g ad E ml nd len fi px bi r u.1.1 u.1.2.1 u.1.2.2 (u.2 0)) (fun (u : ((Nat → Nat → Nat) × (Nat → Nat → va_E) × List (Nat × Nat)) × (Nat → Int64)) t => va_P D xcl ((ob, .inl (kA 3, 1, .inr (.inl u.2))) :: rp u.1.1 u.1.2.1 u.1.2.2) t.heap ∧ va_D (va_A ((ob, .inl (kA 3, 1, .inr (.inl fo))) :: rp ad E RL) sz) ((ob, .inl (kA 3, 1, .inr (.inl u.2))) :: rp u.1.1 u.1.2.1 u.1.2.2)) (va_A ((ob, .inl (kA 3, 1, .inr (.inl fo))) :: rp ad E RL) sz)) 101 430 (va_A ((ob, .inl (kA 3, 1, .inr (.inl fo))) :: rp ad E RL) sz) := by
  refine va_MetW (cc := xb_La_layer) (maxL := 6) (ret := (some .int)) (by decide) rfl ?_
  intro p e s m args below meth c s₁ B hml hv
  obtain ⟨rfl, ⟨hsz, hP, hK, hD0⟩, hZ⟩ := hv
  have hx := B.exec
  have hb := B.bytes
  have hr := B.returns
  have hT := x_hT B.pre
  have hown : s.vm.findClass xR_La = some m.cls := findClass_of_methodNamed B.named
  have hlocks := B.notSynchronized
  subst hsz
  have hD := hD0.self (sz := s.heap.size)
  generalize hAe : va_A ((ob, .inl (kA 3, 1, .inr (.inl fo))) :: rp ad E RL) s.heap.size = A at hD hZ ⊢
  have hA : ∀ q : Nat, s.heap.size ≤ q → A q := fun q h => by rw [← hAe]; exact Or.inr h
  have hS : va_S A s.heap s.heap [] := va_S.rf
  have hl := lv_entry ([.ref (ad 0 0), .int fi, .int px, .int bi, .ref ob]) (n := 6) (Nat.le_of_ble_eq_true rfl)
  rw [lg_entry_eq]
  generalize (lg_sl ([.ref (ad 0 0), .int fi, .int px, .int bi, .ref ob]) ++ List.replicate (6 - (lg_sl ([.ref (ad 0 0), .int fi, .int px, .int bi, .ref ob])).length) Slot.unset).toArray = ls at hl ⊢
  have hl : lv_has ls 6 [(0, .ref (ad 0 0)), (1, .int fi), (2, .int px), (3, .int bi), (4, .ref ob)] := hl
  have hP : va_P D xcl ((ob, .inl (kA 3, 1, .inr (.inl fo))) :: rp ad E RL) s.heap := hP
  have hex := vx_table (x := xy_La_layer) B (atoms_spec (ws := .codeWith xy_La_layer xb_La_layer 6 (some .int) [(0, 12, 15, 13), (0, 12, 19, 21), (0, 12, 23, 15)] :: wT) B.pre _ List.mem_cons_self)
  refine lv_aload hx hb xd_La_layer_0 (lv_at hl 4 rfl) ?_
  refine lv_iconst (v := 0) hx hb xd_La_layer_2 (by decide) ?_
  refine lv_aload_n hx hb xd_La_layer_3 rfl (lv_at hl 0 rfl) ?_
  refine lv_iload_n hx hb xd_La_layer_4 rfl (lv_at hl 1 rfl) ?_
  refine lv_iload_n hx hb xd_La_layer_5 rfl (lv_at hl 2 rfl) ?_
  refine lv_iload_n hx hb xd_La_layer_6 rfl (lv_at hl 3 rfl) ?_
  have hPc := xp_P (X := [(ob, .inl (kA 3, 1, .inr (.inl fo)))]) hP
  have hDc := xp_D (X := [(ob, .inl (kA 3, 1, .inr (.inl fo)))]) hD
  have hFc := va_freeP (X := [(ob, .inl (kA 3, 1, .inr (.inl fo)))]) (cx := []) hD hS hA [] rfl
  have hZc := hZ.kept hS
  obtain ⟨lf, hc0⟩ := hCI.2.1
  refine vx_calli (vx_runV (As := [.int fi, .int px, .int bi]) (rest := [.int 0, .ref ob]) ⟨hx, hb, hml, hown, hT⟩ (xc_De_layerX l hlt D kA s.heap.size ad E RL Z g ml nd len wn cs fi px bi hCI hTD hTL hCB hTX hNZ hUQ hND) (cwV 3 hT (wT_V k7e_8 k7e_9 k7e_10 k7e_4 k7e_7) rfl rfl rfl (by decide +kernel) ⟨Nat.le_of_ble_eq_true rfl, Nat.le_of_ble_eq_true rfl⟩) (px_preVZ hK hPc hDc (hCI.1 0 (by decide)) hc0 rfl hFc hZc) rfl rfl hl.1 rfl (lv_room (Nat.le_of_ble_eq_true rfl)) xd_La_layer_7 ⟨Nat.le_of_ble_eq_true rfl, Nat.le_of_ble_eq_true rfl⟩) hS (fun q _ h => hFc q h) hFc (fun q _ h => hFc q h) (fun E9 ce q9 u t H1 locs ht hvm hpost hB hz1 hk1 hS hce hcv hcl => ?_) (fun r u t H1 locs ht hvm hpost hB hz1 hk1 hS => ?_)
  · obtain ⟨hE9, hP1, hD1⟩ := hB
    rw [ht] at hP1
    obtain ⟨hP, hD⟩ := va_joinP (X := [(ob, .inl (kA 3, 1, .inr (.inl fo)))]) (cx := []) (wr := [(ob, .inl (kA 3, 1, .inr (.inl fo)))]) (rx := []) hP hD [] [0] rfl rfl (by decide) (by decide) hk1 hFc hP1 hD1
    generalize H1 = H at hP hS hce ⊢
    have hl := lv_sub hl [1, 2, 3, 4] rfl
    have hl : lv_has ls 6 [(1, .int fi), (2, .int px), (3, .int bi), (4, .ref ob)] := hl
    have hP : va_P D xcl ((ob, .inl (kA 3, 1, .inr (.inl fo))) :: rp u.1 u.2.1 u.2.2) H := hP
    have hD : va_D A ((ob, .inl (kA 3, 1, .inr (.inl fo))) :: rp u.1 u.2.1 u.2.2) := hD
    rcases hE9 with ⟨rfl, hz9⟩ | ⟨rfl, hz9⟩ | ⟨rfl, hz9⟩
    · refine vx_catch (own := "LayerDeskLaw") (name := "java/lang/IllegalArgumentException") hown [] ⟨0, 12, 15, 13⟩ [⟨0, 12, 19, 21⟩, ⟨0, 12, 23, 15⟩] (by rw [hex]; rfl) (fun z hz => nomatch hz) rfl (by decide) (hT _ k7e_5) (va_Nw.use rfl hK.2.2.2.2.2.1) hce hcv hcl ?_
      refine lv_astore hx hb xd_La_layer_15 hl (Nat.le_of_ble_eq_true rfl) rfl (fun ls hl => ?_)
      have hl : lv_has ls 6 [(5, .ref q9), (1, .int fi), (2, .int px), (3, .int bi), (4, .ref ob)] := hl
      refine lv_iconst (v := 1) hx hb xd_La_layer_17 (by decide) ?_
      refine W.widen (k := 101) (n := 430) (Nat.le_of_ble_eq_true rfl) (Nat.le_of_ble_eq_true rfl) ?_
      exact W.iret (v := 1) hx hb hr (fun t ht hW => ⟨⟨1, ((u.1, u.2.1, u.2.2), fo), rfl, (YP_1 ⟨hpost.1, hpost.2⟩ hz9), by rw [ht]; exact hP, hD⟩, hS.F ht⟩) hS.2.2 xd_La_layer_18
    · refine vx_catch (own := "LayerDeskLaw") (name := "java/util/NoSuchElementException") hown [⟨0, 12, 15, 13⟩] ⟨0, 12, 19, 21⟩ [⟨0, 12, 23, 15⟩] (by rw [hex]; rfl) (fun z hz => by rw [List.mem_singleton] at hz; subst hz; exact Or.inr ⟨(by decide), "java/lang/IllegalArgumentException", hT _ k7e_5, hZ.2.2.2.2.2.1⟩) rfl (by decide) (hT _ k7e_11) (va_Nw.use rfl hK.2.2.2.2.2.2.2) hce hcv hcl ?_
      refine lv_astore hx hb xd_La_layer_19 hl (Nat.le_of_ble_eq_true rfl) rfl (fun ls hl => ?_)
      have hl : lv_has ls 6 [(5, .ref q9), (1, .int fi), (2, .int px), (3, .int bi), (4, .ref ob)] := hl
      refine lv_iconst (v := 2) hx hb xd_La_layer_21 (by decide) ?_
      refine W.widen (k := 101) (n := 430) (Nat.le_of_ble_eq_true rfl) (Nat.le_of_ble_eq_true rfl) ?_
      exact W.iret (v := 2) hx hb hr (fun t ht hW => ⟨⟨2, ((u.1, u.2.1, u.2.2), fo), rfl, (YP_2 ⟨hpost.1, hpost.2⟩ hz9), by rw [ht]; exact hP, hD⟩, hS.F ht⟩) hS.2.2 xd_La_layer_22
    · refine vx_catch (own := "LayerDeskLaw") (name := "java/lang/IllegalStateException") hown [⟨0, 12, 15, 13⟩, ⟨0, 12, 19, 21⟩] ⟨0, 12, 23, 15⟩ [] (by rw [hex]; rfl) (fun z hz => by rcases List.mem_cons.mp hz with hz | hz; subst hz; exact Or.inr ⟨(by decide), "java/lang/IllegalArgumentException", hT _ k7e_5, hZ.2.2.2.2.1⟩; rw [List.mem_singleton] at hz; subst hz; exact Or.inr ⟨(by decide), "java/util/NoSuchElementException", hT _ k7e_11, hZ.2.2.2.2.2.2⟩) rfl (by decide) (hT _ k7e_6) (va_Nw.use rfl hK.2.2.2.2.2.2.1) hce hcv hcl ?_
      refine lv_astore hx hb xd_La_layer_23 hl (Nat.le_of_ble_eq_true rfl) rfl (fun ls hl => ?_)
      have hl : lv_has ls 6 [(5, .ref q9), (1, .int fi), (2, .int px), (3, .int bi), (4, .ref ob)] := hl
      refine lv_iconst (v := 3) hx hb xd_La_layer_25 (by decide) ?_
      refine W.widen (k := 101) (n := 430) (Nat.le_of_ble_eq_true rfl) (Nat.le_of_ble_eq_true rfl) ?_
      exact W.iret (v := 3) hx hb hr (fun t ht hW => ⟨⟨3, ((u.1, u.2.1, u.2.2), fo), rfl, (YP_3 ⟨hpost.1, hpost.2⟩ hz9), by rw [ht]; exact hP, hD⟩, hS.F ht⟩) hS.2.2 xd_La_layer_26
  · obtain ⟨hP1, hD1⟩ := hB
    rw [ht] at hP1
    obtain ⟨hP, hD⟩ := va_joinP (X := [(ob, .inl (kA 3, 1, .inr (.inl fo)))]) (cx := []) (wr := [(ob, .inl (kA 3, 1, .inr (.inl fo)))]) (rx := []) hP hD [] [0] rfl rfl (by decide) (by decide) hk1 hFc hP1 hD1
    generalize H1 = H at hP hS ⊢
    have hl := lv_sub hl [1, 2, 3, 4] rfl
    have hl : lv_has ls 6 [(1, .int fi), (2, .int px), (3, .int bi), (4, .ref ob)] := hl
    have hP : va_P D xcl ((ob, .inl (kA 3, 1, .inr (.inl fo))) :: rp u.1 u.2.1 u.2.2) H := hP
    have hD : va_D A ((ob, .inl (kA 3, 1, .inr (.inl fo))) :: rp u.1 u.2.1 u.2.2) := hD
    refine lv_i2l (v := ((r : Int32).toInt64)) hx hb xd_La_layer_10 rfl ?_
    refine va_last hx hb hK.1 hP hD hS 0 3 rfl rfl (show ¬ _ by decide) xd_La_layer_11 (fun H locs hP hD hS => ?_)
    have hP : va_P D xcl ((ob, .inl (kA 3, 1, .inr (.inl (vp_updL fo (0 : Int32).toNatClampNeg ((r : Int32).toInt64))))) :: rp u.1 u.2.1 u.2.2) H := hP
    have hD : va_D A ((ob, .inl (kA 3, 1, .inr (.inl (vp_updL fo (0 : Int32).toNatClampNeg ((r : Int32).toInt64))))) :: rp u.1 u.2.1 u.2.2) := hD
    refine lv_goto (tgt := 27) hx hb xd_La_layer_12 (by decide) ?_
    refine lv_iconst (v := 0) hx hb xd_La_layer_27 (by decide) ?_
    refine W.widen (k := 101) (n := 430) (Nat.le_of_ble_eq_true rfl) (Nat.le_of_ble_eq_true rfl) ?_
    exact W.iret (v := 0) hx hb hr (fun t ht hW => ⟨⟨0, ((u.1, u.2.1, u.2.2), (vp_updL fo (0 : Int32).toNatClampNeg ((r : Int32).toInt64))), rfl, (by
        obtain ⟨⟨y1, y2, y3, y4⟩, L9, wn2, cs2, y5, y6, y7, y8, y9, y10, y11, y12, _⟩ := hpost
        exact Or.inr (Or.inr (Or.inr ⟨rfl, by rw [y1]; simp [vp_updL], y2, y3, y4, L9, wn2, cs2, y5, y6, y7, y8, y9, y10, y11, y12⟩))), by rw [ht]; exact hP, hD⟩, hS.F ht⟩) hS.2.2 xd_La_layer_28
set_option maxHeartbeats 4000000 in
set_option maxRecDepth 100000 in
theorem xc_La_loadX (l : Launch) (hlt : l.stackTraces = false) (D : va_G) (kA : Nat → ClassId) (sz : Nat) (ad : Nat → Nat → Nat) (E : Nat → Nat → va_E) (RL : List (Nat × Nat)) (Z : zT) (g : Nat → Nat → Int32) (ml : Nat) (nd : Nat) (len : Nat) (wn : Nat) (cs : Nat) (ob : Nat) (fo : Nat → Int64) (ix : Int32) (kx : Int32) (hCI : CI kA ad E RL ml nd len wn cs) (hXT : XT g ad E nd ml len) : Met l xy_La_load (.codeWith xy_La_load xb_La_load 5 (some .int) [(0, 10, 13, 13), (0, 10, 17, 21)] :: wT) { frames := 7, cells := 1, slots := 6, locals := 115 } (va_Pc [.ref (ad 0 0), .int ix, .int kx, .ref ob] (xPreZ D kA sz ((ob, .inl (kA 3, 1, .inr (.inl fo))) :: rp ad E RL) Z)) (va_Qi (fun (r : Int32) (u : ((Nat → Nat → Nat) × (Nat → Nat → va_E) × List (Nat × Nat)) × (Nat → Int64)) => ((∃ wn2, CI kA ad u.1.2.1 RL ml nd 0 wn2 cs) ∧ F134 E u.1.2.1 ∧ u.1.1 = ad ∧ u.1.2.2 = RL) ∧ ∃ a : Int32, ldA g ml (n1 (g 0) (w_all (g 0) len)) ix kx r a ∧ (r = 0 → u.2 0 = a.toInt64)) (fun (u : ((Nat → Nat → Nat) × (Nat → Nat → va_E) × List (Nat × Nat)) × (Nat → Int64)) t => va_P D xcl ((ob, .inl (kA 3, 1, .inr (.inl u.2))) :: rp u.1.1 u.1.2.1 u.1.2.2) t.heap ∧ va_D (va_A ((ob, .inl (kA 3, 1, .inr (.inl fo))) :: rp ad E RL) sz) ((ob, .inl (kA 3, 1, .inr (.inl u.2))) :: rp u.1.1 u.1.2.1 u.1.2.2)) (va_A ((ob, .inl (kA 3, 1, .inr (.inl fo))) :: rp ad E RL) sz)) 1 6 (va_A ((ob, .inl (kA 3, 1, .inr (.inl fo))) :: rp ad E RL) sz) := by
  refine va_MetW (cc := xb_La_load) (maxL := 5) (ret := (some .int)) (by decide) rfl ?_
  intro p e s m args below meth c s₁ B hml hv
  obtain ⟨rfl, ⟨hsz, hP, hK, hD0⟩, hZ⟩ := hv
  have hx := B.exec
  have hb := B.bytes
  have hr := B.returns
  have hT := x_hT B.pre
  have hown : s.vm.findClass xR_La = some m.cls := findClass_of_methodNamed B.named
  have hlocks := B.notSynchronized
  subst hsz
  have hD := hD0.self (sz := s.heap.size)
  generalize hAe : va_A ((ob, .inl (kA 3, 1, .inr (.inl fo))) :: rp ad E RL) s.heap.size = A at hD hZ ⊢
  have hA : ∀ q : Nat, s.heap.size ≤ q → A q := fun q h => by rw [← hAe]; exact Or.inr h
  have hS : va_S A s.heap s.heap [] := va_S.rf
  have hl := lv_entry ([.ref (ad 0 0), .int ix, .int kx, .ref ob]) (n := 5) (Nat.le_of_ble_eq_true rfl)
  rw [lg_entry_eq]
  generalize (lg_sl ([.ref (ad 0 0), .int ix, .int kx, .ref ob]) ++ List.replicate (5 - (lg_sl ([.ref (ad 0 0), .int ix, .int kx, .ref ob])).length) Slot.unset).toArray = ls at hl ⊢
  have hl : lv_has ls 5 [(0, .ref (ad 0 0)), (1, .int ix), (2, .int kx), (3, .ref ob)] := hl
  have hP : va_P D xcl ((ob, .inl (kA 3, 1, .inr (.inl fo))) :: rp ad E RL) s.heap := hP
  have hex := vx_table (x := xy_La_load) B (atoms_spec (ws := .codeWith xy_La_load xb_La_load 5 (some .int) [(0, 10, 13, 13), (0, 10, 17, 21)] :: wT) B.pre _ List.mem_cons_self)
  refine lv_aload_n hx hb xd_La_load_0 rfl (lv_at hl 3 rfl) ?_
  refine lv_iconst (v := 0) hx hb xd_La_load_1 (by decide) ?_
  refine lv_aload_n hx hb xd_La_load_2 rfl (lv_at hl 0 rfl) ?_
  refine lv_iload_n hx hb xd_La_load_3 rfl (lv_at hl 1 rfl) ?_
  refine lv_iload_n hx hb xd_La_load_4 rfl (lv_at hl 2 rfl) ?_
  have hPc := xp_P (X := [(ob, .inl (kA 3, 1, .inr (.inl fo)))]) hP
  have hDc := xp_D (X := [(ob, .inl (kA 3, 1, .inr (.inl fo)))]) hD
  have hFc := va_freeP (X := [(ob, .inl (kA 3, 1, .inr (.inl fo)))]) (cx := []) hD hS hA [] rfl
  have hZc := hZ.kept hS
  obtain ⟨lf, hc0⟩ := hCI.2.1
  refine vx_calli (vx_runV (As := [.int ix, .int kx]) (rest := [.int 0, .ref ob]) ⟨hx, hb, hml, hown, hT⟩ (xc_De_loadA l hlt D kA s.heap.size ad E RL Z g ml nd len wn cs ix kx hCI hXT) (cwV 2 hT (wT_V k7e_13 k7e_14 k7e_15 k7e_4 k7e_12) rfl rfl rfl (by decide +kernel) ⟨Nat.le_of_ble_eq_true rfl, Nat.le_of_ble_eq_true rfl⟩) (px_preVZ hK hPc hDc (hCI.1 0 (by decide)) hc0 rfl hFc hZc) rfl rfl hl.1 rfl (lv_room (Nat.le_of_ble_eq_true rfl)) xd_La_load_5 ⟨Nat.le_of_ble_eq_true rfl, Nat.le_of_ble_eq_true rfl⟩) hS (fun q _ h => hFc q h) hFc (fun q _ h => hFc q h) (fun E9 ce q9 u t H1 locs ht hvm hpost hB hz1 hk1 hS hce hcv hcl => ?_) (fun r u t H1 locs ht hvm hpost hB hz1 hk1 hS => ?_)
  · obtain ⟨hE9, hP1, hD1⟩ := hB
    rw [ht] at hP1
    obtain ⟨hP, hD⟩ := va_joinP (X := [(ob, .inl (kA 3, 1, .inr (.inl fo)))]) (cx := []) (wr := [(ob, .inl (kA 3, 1, .inr (.inl fo)))]) (rx := []) hP hD [] [0] rfl rfl (by decide) (by decide) hk1 hFc hP1 hD1
    generalize H1 = H at hP hS hce ⊢
    have hl := lv_sub hl [1, 2, 3] rfl
    have hl : lv_has ls 5 [(1, .int ix), (2, .int kx), (3, .ref ob)] := hl
    have hP : va_P D xcl ((ob, .inl (kA 3, 1, .inr (.inl fo))) :: rp ad u RL) H := hP
    have hD : va_D A ((ob, .inl (kA 3, 1, .inr (.inl fo))) :: rp ad u RL) := hD
    rcases hE9 with ⟨rfl, hz9⟩ | ⟨rfl, hz9⟩
    · refine vx_catch (own := "LayerDeskLaw") (name := "java/lang/IllegalArgumentException") hown [] ⟨0, 10, 13, 13⟩ [⟨0, 10, 17, 21⟩] (by rw [hex]; rfl) (fun z hz => nomatch hz) rfl (by decide) (hT _ k7e_5) (va_Nw.use rfl hK.2.2.2.2.2.1) hce hcv hcl ?_
      refine lv_astore hx hb xd_La_load_13 hl (Nat.le_of_ble_eq_true rfl) rfl (fun ls hl => ?_)
      have hl : lv_has ls 5 [(4, .ref q9), (1, .int ix), (2, .int kx), (3, .ref ob)] := hl
      refine lv_iconst (v := 1) hx hb xd_La_load_15 (by decide) ?_
      refine W.widen (k := 1) (n := 6) (Nat.le_of_ble_eq_true rfl) (Nat.le_of_ble_eq_true rfl) ?_
      exact W.iret (v := 1) hx hb hr (fun t ht hW => ⟨⟨1, ((ad, u, RL), fo), rfl, ⟨⟨hpost.1, hpost.2, rfl, rfl⟩, 0, Or.inl ⟨rfl, hz9⟩, fun h9 => absurd h9 (by decide)⟩, by rw [ht]; exact hP, hD⟩, hS.F ht⟩) hS.2.2 xd_La_load_16
    · refine vx_catch (own := "LayerDeskLaw") (name := "java/util/NoSuchElementException") hown [⟨0, 10, 13, 13⟩] ⟨0, 10, 17, 21⟩ [] (by rw [hex]; rfl) (fun z hz => by rw [List.mem_singleton] at hz; subst hz; exact Or.inr ⟨(by decide), "java/lang/IllegalArgumentException", hT _ k7e_5, hZ.2.2.2.2.2.1⟩) rfl (by decide) (hT _ k7e_11) (va_Nw.use rfl hK.2.2.2.2.2.2.2) hce hcv hcl ?_
      refine lv_astore hx hb xd_La_load_17 hl (Nat.le_of_ble_eq_true rfl) rfl (fun ls hl => ?_)
      have hl : lv_has ls 5 [(4, .ref q9), (1, .int ix), (2, .int kx), (3, .ref ob)] := hl
      refine lv_iconst (v := 2) hx hb xd_La_load_19 (by decide) ?_
      refine W.widen (k := 1) (n := 6) (Nat.le_of_ble_eq_true rfl) (Nat.le_of_ble_eq_true rfl) ?_
      exact W.iret (v := 2) hx hb hr (fun t ht hW => ⟨⟨2, ((ad, u, RL), fo), rfl, ⟨⟨hpost.1, hpost.2, rfl, rfl⟩, 0, (by obtain ⟨z1, la, kn, z2, z3, z4⟩ := hz9; exact Or.inr ⟨z1, la, kn, z2, Or.inr ⟨z3, Or.inl ⟨rfl, z4⟩⟩⟩), fun h9 => absurd h9 (by decide)⟩, by rw [ht]; exact hP, hD⟩, hS.F ht⟩) hS.2.2 xd_La_load_20
  · obtain ⟨hP1, hD1⟩ := hB
    rw [ht] at hP1
    obtain ⟨hP, hD⟩ := va_joinP (X := [(ob, .inl (kA 3, 1, .inr (.inl fo)))]) (cx := []) (wr := [(ob, .inl (kA 3, 1, .inr (.inl fo)))]) (rx := []) hP hD [] [0] rfl rfl (by decide) (by decide) hk1 hFc hP1 hD1
    generalize H1 = H at hP hS ⊢
    have hl := lv_sub hl [1, 2, 3] rfl
    have hl : lv_has ls 5 [(1, .int ix), (2, .int kx), (3, .ref ob)] := hl
    have hP : va_P D xcl ((ob, .inl (kA 3, 1, .inr (.inl fo))) :: rp ad u RL) H := hP
    have hD : va_D A ((ob, .inl (kA 3, 1, .inr (.inl fo))) :: rp ad u RL) := hD
    refine lv_i2l (v := ((r : Int32).toInt64)) hx hb xd_La_load_8 rfl ?_
    refine va_last hx hb hK.1 hP hD hS 0 3 rfl rfl (show ¬ _ by decide) xd_La_load_9 (fun H locs hP hD hS => ?_)
    have hP : va_P D xcl ((ob, .inl (kA 3, 1, .inr (.inl (vp_updL fo (0 : Int32).toNatClampNeg ((r : Int32).toInt64))))) :: rp ad u RL) H := hP
    have hD : va_D A ((ob, .inl (kA 3, 1, .inr (.inl (vp_updL fo (0 : Int32).toNatClampNeg ((r : Int32).toInt64))))) :: rp ad u RL) := hD
    refine lv_goto (tgt := 21) hx hb xd_La_load_10 (by decide) ?_
    refine lv_iconst (v := 0) hx hb xd_La_load_21 (by decide) ?_
    refine W.widen (k := 1) (n := 6) (Nat.le_of_ble_eq_true rfl) (Nat.le_of_ble_eq_true rfl) ?_
    exact W.iret (v := 0) hx hb hr (fun t ht hW => ⟨⟨0, ((ad, u, RL), (vp_updL fo (0 : Int32).toNatClampNeg ((r : Int32).toInt64))), rfl, ⟨⟨hpost.1.1, hpost.1.2, rfl, rfl⟩, r, hpost.2, fun _ => by simp [vp_updL]⟩, by rw [ht]; exact hP, hD⟩, hS.F ht⟩) hS.2.2 xd_La_load_22
set_option maxHeartbeats 4000000 in
set_option maxRecDepth 100000 in
theorem xc_La_peekX (l : Launch) (hlt : l.stackTraces = false) (D : va_G) (kA : Nat → ClassId) (sz : Nat) (ad : Nat → Nat → Nat) (E : Nat → Nat → va_E) (RL : List (Nat × Nat)) (Z : zT) (g : Nat → Nat → Int32) (ml : Nat) (nd : Nat) (len : Nat) (wn : Nat) (cs : Nat) (ob : Nat) (fo : Nat → Int64) (ix : Int32) (kx : Int32) (tx : Int32) (dx : Int32) (hCI : CI kA ad E RL ml nd len wn cs) (hTX : ∀ i, i < len → eA (E 0 2) i = g 0 i) : Met l xy_La_peek (.codeWith xy_La_peek xb_La_peek 7 (some .int) [(0, 21, 24, 13), (0, 21, 28, 21)] :: wT) { frames := 7, cells := 1, slots := 6, locals := 109 } (va_Pc [.ref (ad 0 0), .int ix, .int kx, .int tx, .int dx, .ref ob] (xPreZ D kA sz ((ob, .inl (kA 3, 1, .inr (.inl fo))) :: rp ad E RL) Z)) (va_Qi (fun (r : Int32) (u : ((Nat → Nat → Nat) × (Nat → Nat → va_E) × List (Nat × Nat)) × (Nat → Int64)) => (∃ wn2, CI kA ad u.1.2.1 RL ml nd 0 wn2 cs) ∧ F134 E u.1.2.1 ∧ u.1.1 = ad ∧ u.1.2.2 = RL) (fun (u : ((Nat → Nat → Nat) × (Nat → Nat → va_E) × List (Nat × Nat)) × (Nat → Int64)) t => va_P D xcl ((ob, .inl (kA 3, 1, .inr (.inl u.2))) :: rp u.1.1 u.1.2.1 u.1.2.2) t.heap ∧ va_D (va_A ((ob, .inl (kA 3, 1, .inr (.inl fo))) :: rp ad E RL) sz) ((ob, .inl (kA 3, 1, .inr (.inl u.2))) :: rp u.1.1 u.1.2.1 u.1.2.2)) (va_A ((ob, .inl (kA 3, 1, .inr (.inl fo))) :: rp ad E RL) sz)) 1 6 (va_A ((ob, .inl (kA 3, 1, .inr (.inl fo))) :: rp ad E RL) sz) := by
  refine va_MetW (cc := xb_La_peek) (maxL := 7) (ret := (some .int)) (by decide) rfl ?_
  intro p e s m args below meth c s₁ B hml hv
  obtain ⟨rfl, ⟨hsz, hP, hK, hD0⟩, hZ⟩ := hv
  have hx := B.exec
  have hb := B.bytes
  have hr := B.returns
  have hT := x_hT B.pre
  have hown : s.vm.findClass xR_La = some m.cls := findClass_of_methodNamed B.named
  have hlocks := B.notSynchronized
  subst hsz
  have hD := hD0.self (sz := s.heap.size)
  generalize hAe : va_A ((ob, .inl (kA 3, 1, .inr (.inl fo))) :: rp ad E RL) s.heap.size = A at hD hZ ⊢
  have hA : ∀ q : Nat, s.heap.size ≤ q → A q := fun q h => by rw [← hAe]; exact Or.inr h
  have hS : va_S A s.heap s.heap [] := va_S.rf
  have hl := lv_entry ([.ref (ad 0 0), .int ix, .int kx, .int tx, .int dx, .ref ob]) (n := 7) (Nat.le_of_ble_eq_true rfl)
  rw [lg_entry_eq]
  generalize (lg_sl ([.ref (ad 0 0), .int ix, .int kx, .int tx, .int dx, .ref ob]) ++ List.replicate (7 - (lg_sl ([.ref (ad 0 0), .int ix, .int kx, .int tx, .int dx, .ref ob])).length) Slot.unset).toArray = ls at hl ⊢
  have hl : lv_has ls 7 [(0, .ref (ad 0 0)), (1, .int ix), (2, .int kx), (3, .int tx), (4, .int dx), (5, .ref ob)] := hl
  have hP : va_P D xcl ((ob, .inl (kA 3, 1, .inr (.inl fo))) :: rp ad E RL) s.heap := hP
  have hex := vx_table (x := xy_La_peek) B (atoms_spec (ws := .codeWith xy_La_peek xb_La_peek 7 (some .int) [(0, 21, 24, 13), (0, 21, 28, 21)] :: wT) B.pre _ List.mem_cons_self)
  refine lv_aload hx hb xd_La_peek_0 (lv_at hl 5 rfl) ?_
  refine lv_iconst (v := 0) hx hb xd_La_peek_2 (by decide) ?_
  refine lv_aload_n hx hb xd_La_peek_3 rfl (lv_at hl 0 rfl) ?_
  refine lv_iload_n hx hb xd_La_peek_4 rfl (lv_at hl 1 rfl) ?_
  refine lv_iload_n hx hb xd_La_peek_5 rfl (lv_at hl 2 rfl) ?_
  refine lv_iload_n hx hb xd_La_peek_6 rfl (lv_at hl 3 rfl) ?_
  refine lv_iload hx hb xd_La_peek_7 (lv_at hl 4 rfl) ?_
  have hPc := xp_P (X := [(ob, .inl (kA 3, 1, .inr (.inl fo)))]) hP
  have hDc := xp_D (X := [(ob, .inl (kA 3, 1, .inr (.inl fo)))]) hD
  have hFc := va_freeP (X := [(ob, .inl (kA 3, 1, .inr (.inl fo)))]) (cx := []) hD hS hA [] rfl
  have hZc := hZ.kept hS
  obtain ⟨lf, hc0⟩ := hCI.2.1
  refine vx_calli (vx_runV (As := [.int ix, .int kx, .int tx, .int dx]) (rest := [.int 0, .ref ob]) ⟨hx, hb, hml, hown, hT⟩ (xc_De_peekK l hlt D kA s.heap.size ad E RL Z g ml nd len wn cs ix kx tx dx hCI hTX) (cwV 4 hT (wT_V k7e_17 k7e_18 k7e_19 k7e_4 k7e_16) rfl rfl rfl (by decide +kernel) ⟨Nat.le_of_ble_eq_true rfl, Nat.le_of_ble_eq_true rfl⟩) (px_preVZ hK hPc hDc (hCI.1 0 (by decide)) hc0 rfl hFc hZc) rfl rfl hl.1 rfl (lv_room (Nat.le_of_ble_eq_true rfl)) xd_La_peek_9 ⟨Nat.le_of_ble_eq_true rfl, Nat.le_of_ble_eq_true rfl⟩) hS (fun q _ h => hFc q h) hFc (fun q _ h => hFc q h) (fun E9 ce q9 u t H1 locs ht hvm hpost hB hz1 hk1 hS hce hcv hcl => ?_) (fun r u t H1 locs ht hvm hpost hB hz1 hk1 hS => ?_)
  · obtain ⟨hE9, hP1, hD1⟩ := hB
    rw [ht] at hP1
    obtain ⟨hP, hD⟩ := va_joinP (X := [(ob, .inl (kA 3, 1, .inr (.inl fo)))]) (cx := []) (wr := [(ob, .inl (kA 3, 1, .inr (.inl fo)))]) (rx := []) hP hD [] [0] rfl rfl (by decide) (by decide) hk1 hFc hP1 hD1
    generalize H1 = H at hP hS hce ⊢
    have hl := lv_sub hl [1, 2, 3, 4, 5] rfl
    have hl : lv_has ls 7 [(1, .int ix), (2, .int kx), (3, .int tx), (4, .int dx), (5, .ref ob)] := hl
    have hP : va_P D xcl ((ob, .inl (kA 3, 1, .inr (.inl fo))) :: rp ad u RL) H := hP
    have hD : va_D A ((ob, .inl (kA 3, 1, .inr (.inl fo))) :: rp ad u RL) := hD
    rcases hE9 with rfl | rfl
    · refine vx_catch (own := "LayerDeskLaw") (name := "java/lang/IllegalArgumentException") hown [] ⟨0, 21, 24, 13⟩ [⟨0, 21, 28, 21⟩] (by rw [hex]; rfl) (fun z hz => nomatch hz) rfl (by decide) (hT _ k7e_5) (va_Nw.use rfl hK.2.2.2.2.2.1) hce hcv hcl ?_
      refine lv_astore hx hb xd_La_peek_24 hl (Nat.le_of_ble_eq_true rfl) rfl (fun ls hl => ?_)
      have hl : lv_has ls 7 [(6, .ref q9), (1, .int ix), (2, .int kx), (3, .int tx), (4, .int dx), (5, .ref ob)] := hl
      refine lv_iconst (v := 1) hx hb xd_La_peek_26 (by decide) ?_
      refine W.widen (k := 1) (n := 6) (Nat.le_of_ble_eq_true rfl) (Nat.le_of_ble_eq_true rfl) ?_
      exact W.iret (v := 1) hx hb hr (fun t ht hW => ⟨⟨1, ((ad, u, RL), fo), rfl, ⟨hpost.1, hpost.2, rfl, rfl⟩, by rw [ht]; exact hP, hD⟩, hS.F ht⟩) hS.2.2 xd_La_peek_27
    · refine vx_catch (own := "LayerDeskLaw") (name := "java/util/NoSuchElementException") hown [⟨0, 21, 24, 13⟩] ⟨0, 21, 28, 21⟩ [] (by rw [hex]; rfl) (fun z hz => by rw [List.mem_singleton] at hz; subst hz; exact Or.inr ⟨(by decide), "java/lang/IllegalArgumentException", hT _ k7e_5, hZ.2.2.2.2.2.1⟩) rfl (by decide) (hT _ k7e_11) (va_Nw.use rfl hK.2.2.2.2.2.2.2) hce hcv hcl ?_
      refine lv_astore hx hb xd_La_peek_28 hl (Nat.le_of_ble_eq_true rfl) rfl (fun ls hl => ?_)
      have hl : lv_has ls 7 [(6, .ref q9), (1, .int ix), (2, .int kx), (3, .int tx), (4, .int dx), (5, .ref ob)] := hl
      refine lv_iconst (v := 2) hx hb xd_La_peek_30 (by decide) ?_
      refine W.widen (k := 1) (n := 6) (Nat.le_of_ble_eq_true rfl) (Nat.le_of_ble_eq_true rfl) ?_
      exact W.iret (v := 2) hx hb hr (fun t ht hW => ⟨⟨2, ((ad, u, RL), fo), rfl, ⟨hpost.1, hpost.2, rfl, rfl⟩, by rw [ht]; exact hP, hD⟩, hS.F ht⟩) hS.2.2 xd_La_peek_31
  · obtain ⟨hP1, hD1⟩ := hB
    rw [ht] at hP1
    obtain ⟨hP, hD⟩ := va_joinP (X := [(ob, .inl (kA 3, 1, .inr (.inl fo)))]) (cx := []) (wr := [(ob, .inl (kA 3, 1, .inr (.inl fo)))]) (rx := []) hP hD [] [0] rfl rfl (by decide) (by decide) hk1 hFc hP1 hD1
    generalize H1 = H at hP hS ⊢
    have hl := lv_sub hl [1, 2, 3, 4, 5] rfl
    have hl : lv_has ls 7 [(1, .int ix), (2, .int kx), (3, .int tx), (4, .int dx), (5, .ref ob)] := hl
    have hP : va_P D xcl ((ob, .inl (kA 3, 1, .inr (.inl fo))) :: rp ad u RL) H := hP
    have hD : va_D A ((ob, .inl (kA 3, 1, .inr (.inl fo))) :: rp ad u RL) := hD
    refine lv_if_eq (tgt := 19) hx hb xd_La_peek_12 (by decide) (fun hc1 => ?_) (fun hc1 => ?_)
    · refine lv_lconst (v := 0) hx hb xd_La_peek_19 (by decide) ?_
      refine va_last hx hb hK.1 hP hD hS 0 3 rfl rfl (show ¬ _ by decide) xd_La_peek_20 (fun H locs hP hD hS => ?_)
      have hP : va_P D xcl ((ob, .inl (kA 3, 1, .inr (.inl (vp_updL fo (0 : Int32).toNatClampNeg 0)))) :: rp ad u RL) H := hP
      have hD : va_D A ((ob, .inl (kA 3, 1, .inr (.inl (vp_updL fo (0 : Int32).toNatClampNeg 0)))) :: rp ad u RL) := hD
      refine lv_goto (tgt := 32) hx hb xd_La_peek_21 (by decide) ?_
      refine lv_iconst (v := 0) hx hb xd_La_peek_32 (by decide) ?_
      refine W.widen (k := 1) (n := 6) (Nat.le_of_ble_eq_true rfl) (Nat.le_of_ble_eq_true rfl) ?_
      exact W.iret (v := 0) hx hb hr (fun t ht hW => ⟨⟨0, ((ad, u, RL), (vp_updL fo (0 : Int32).toNatClampNeg 0)), rfl, ⟨hpost.1, hpost.2, rfl, rfl⟩, by rw [ht]; exact hP, hD⟩, hS.F ht⟩) hS.2.2 xd_La_peek_33
    · refine lv_lconst (v := 1) hx hb xd_La_peek_15 (by decide) ?_
      refine lv_goto (tgt := 20) hx hb xd_La_peek_16 (by decide) ?_
      refine va_last hx hb hK.1 hP hD hS 0 3 rfl rfl (show ¬ _ by decide) xd_La_peek_20 (fun H locs hP hD hS => ?_)
      have hP : va_P D xcl ((ob, .inl (kA 3, 1, .inr (.inl (vp_updL fo (0 : Int32).toNatClampNeg 1)))) :: rp ad u RL) H := hP
      have hD : va_D A ((ob, .inl (kA 3, 1, .inr (.inl (vp_updL fo (0 : Int32).toNatClampNeg 1)))) :: rp ad u RL) := hD
      refine lv_goto (tgt := 32) hx hb xd_La_peek_21 (by decide) ?_
      refine lv_iconst (v := 0) hx hb xd_La_peek_32 (by decide) ?_
      refine W.widen (k := 1) (n := 6) (Nat.le_of_ble_eq_true rfl) (Nat.le_of_ble_eq_true rfl) ?_
      exact W.iret (v := 0) hx hb hr (fun t ht hW => ⟨⟨0, ((ad, u, RL), (vp_updL fo (0 : Int32).toNatClampNeg 1)), rfl, ⟨hpost.1, hpost.2, rfl, rfl⟩, by rw [ht]; exact hP, hD⟩, hS.F ht⟩) hS.2.2 xd_La_peek_33
set_option maxHeartbeats 4000000 in
set_option maxRecDepth 100000 in
theorem xc_La_providerX (l : Launch) (hlt : l.stackTraces = false) (D : va_G) (kA : Nat → ClassId) (sz : Nat) (ad : Nat → Nat → Nat) (E : Nat → Nat → va_E) (RL : List (Nat × Nat)) (Z : zT) (g : Nat → Nat → Int32) (ml : Nat) (nd : Nat) (len : Nat) (wn : Nat) (cs : Nat) (ob : Nat) (fo : Nat → Int64) (ix : Int32) (kx : Int32) (hCI : CI kA ad E RL ml nd len wn cs) (hTX : ∀ i, i < len → eA (E 0 2) i = g 0 i) : Met l xy_La_provider (.codeWith xy_La_provider xb_La_provider 5 (some .int) [(0, 10, 13, 13)] :: wT) { frames := 7, cells := 1, slots := 6, locals := 107 } (va_Pc [.ref (ad 0 0), .int ix, .int kx, .ref ob] (xPreZ D kA sz ((ob, .inl (kA 3, 1, .inr (.inl fo))) :: rp ad E RL) Z)) (va_Qi (fun (r : Int32) (u : ((Nat → Nat → Nat) × (Nat → Nat → va_E) × List (Nat × Nat)) × (Nat → Int64)) => (∃ wn2, CI kA ad u.1.2.1 RL ml nd 0 wn2 cs) ∧ F134 E u.1.2.1 ∧ u.1.1 = ad ∧ u.1.2.2 = RL) (fun (u : ((Nat → Nat → Nat) × (Nat → Nat → va_E) × List (Nat × Nat)) × (Nat → Int64)) t => va_P D xcl ((ob, .inl (kA 3, 1, .inr (.inl u.2))) :: rp u.1.1 u.1.2.1 u.1.2.2) t.heap ∧ va_D (va_A ((ob, .inl (kA 3, 1, .inr (.inl fo))) :: rp ad E RL) sz) ((ob, .inl (kA 3, 1, .inr (.inl u.2))) :: rp u.1.1 u.1.2.1 u.1.2.2)) (va_A ((ob, .inl (kA 3, 1, .inr (.inl fo))) :: rp ad E RL) sz)) 1 6 (va_A ((ob, .inl (kA 3, 1, .inr (.inl fo))) :: rp ad E RL) sz) := by
  refine va_MetW (cc := xb_La_provider) (maxL := 5) (ret := (some .int)) (by decide) rfl ?_
  intro p e s m args below meth c s₁ B hml hv
  obtain ⟨rfl, ⟨hsz, hP, hK, hD0⟩, hZ⟩ := hv
  have hx := B.exec
  have hb := B.bytes
  have hr := B.returns
  have hT := x_hT B.pre
  have hown : s.vm.findClass xR_La = some m.cls := findClass_of_methodNamed B.named
  have hlocks := B.notSynchronized
  subst hsz
  have hD := hD0.self (sz := s.heap.size)
  generalize hAe : va_A ((ob, .inl (kA 3, 1, .inr (.inl fo))) :: rp ad E RL) s.heap.size = A at hD hZ ⊢
  have hA : ∀ q : Nat, s.heap.size ≤ q → A q := fun q h => by rw [← hAe]; exact Or.inr h
  have hS : va_S A s.heap s.heap [] := va_S.rf
  have hl := lv_entry ([.ref (ad 0 0), .int ix, .int kx, .ref ob]) (n := 5) (Nat.le_of_ble_eq_true rfl)
  rw [lg_entry_eq]
  generalize (lg_sl ([.ref (ad 0 0), .int ix, .int kx, .ref ob]) ++ List.replicate (5 - (lg_sl ([.ref (ad 0 0), .int ix, .int kx, .ref ob])).length) Slot.unset).toArray = ls at hl ⊢
  have hl : lv_has ls 5 [(0, .ref (ad 0 0)), (1, .int ix), (2, .int kx), (3, .ref ob)] := hl
  have hP : va_P D xcl ((ob, .inl (kA 3, 1, .inr (.inl fo))) :: rp ad E RL) s.heap := hP
  have hex := vx_table (x := xy_La_provider) B (atoms_spec (ws := .codeWith xy_La_provider xb_La_provider 5 (some .int) [(0, 10, 13, 13)] :: wT) B.pre _ List.mem_cons_self)
  refine lv_aload_n hx hb xd_La_provider_0 rfl (lv_at hl 3 rfl) ?_
  refine lv_iconst (v := 0) hx hb xd_La_provider_1 (by decide) ?_
  refine lv_aload_n hx hb xd_La_provider_2 rfl (lv_at hl 0 rfl) ?_
  refine lv_iload_n hx hb xd_La_provider_3 rfl (lv_at hl 1 rfl) ?_
  refine lv_iload_n hx hb xd_La_provider_4 rfl (lv_at hl 2 rfl) ?_
  have hPc := xp_P (X := [(ob, .inl (kA 3, 1, .inr (.inl fo)))]) hP
  have hDc := xp_D (X := [(ob, .inl (kA 3, 1, .inr (.inl fo)))]) hD
  have hFc := va_freeP (X := [(ob, .inl (kA 3, 1, .inr (.inl fo)))]) (cx := []) hD hS hA [] rfl
  have hZc := hZ.kept hS
  obtain ⟨lf, hc0⟩ := hCI.2.1
  refine vx_calli (vx_runV (As := [.int ix, .int kx]) (rest := [.int 0, .ref ob]) ⟨hx, hb, hml, hown, hT⟩ (xc_De_providerK l hlt D kA s.heap.size ad E RL Z g ml nd len wn cs ix kx hCI hTX) (cwV 2 hT (wT_V k7e_21 k7e_22 k7e_23 k7e_4 k7e_20) rfl rfl rfl (by decide +kernel) ⟨Nat.le_of_ble_eq_true rfl, Nat.le_of_ble_eq_true rfl⟩) (px_preVZ hK hPc hDc (hCI.1 0 (by decide)) hc0 rfl hFc hZc) rfl rfl hl.1 rfl (lv_room (Nat.le_of_ble_eq_true rfl)) xd_La_provider_5 ⟨Nat.le_of_ble_eq_true rfl, Nat.le_of_ble_eq_true rfl⟩) hS (fun q _ h => hFc q h) hFc (fun q _ h => hFc q h) (fun E9 ce q9 u t H1 locs ht hvm hpost hB hz1 hk1 hS hce hcv hcl => ?_) (fun r u t H1 locs ht hvm hpost hB hz1 hk1 hS => ?_)
  · obtain ⟨hE9, hP1, hD1⟩ := hB
    rw [ht] at hP1
    obtain ⟨hP, hD⟩ := va_joinP (X := [(ob, .inl (kA 3, 1, .inr (.inl fo)))]) (cx := []) (wr := [(ob, .inl (kA 3, 1, .inr (.inl fo)))]) (rx := []) hP hD [] [0] rfl rfl (by decide) (by decide) hk1 hFc hP1 hD1
    generalize H1 = H at hP hS hce ⊢
    have hl := lv_sub hl [1, 2, 3] rfl
    have hl : lv_has ls 5 [(1, .int ix), (2, .int kx), (3, .ref ob)] := hl
    have hP : va_P D xcl ((ob, .inl (kA 3, 1, .inr (.inl fo))) :: rp ad u RL) H := hP
    have hD : va_D A ((ob, .inl (kA 3, 1, .inr (.inl fo))) :: rp ad u RL) := hD
    subst hE9
    · refine vx_catch (own := "LayerDeskLaw") (name := "java/lang/IllegalArgumentException") hown [] ⟨0, 10, 13, 13⟩ [] (by rw [hex]; rfl) (fun z hz => nomatch hz) rfl (by decide) (hT _ k7e_5) (va_Nw.use rfl hK.2.2.2.2.2.1) hce hcv hcl ?_
      refine lv_astore hx hb xd_La_provider_13 hl (Nat.le_of_ble_eq_true rfl) rfl (fun ls hl => ?_)
      have hl : lv_has ls 5 [(4, .ref q9), (1, .int ix), (2, .int kx), (3, .ref ob)] := hl
      refine lv_iconst (v := 1) hx hb xd_La_provider_15 (by decide) ?_
      refine W.widen (k := 1) (n := 6) (Nat.le_of_ble_eq_true rfl) (Nat.le_of_ble_eq_true rfl) ?_
      exact W.iret (v := 1) hx hb hr (fun t ht hW => ⟨⟨1, ((ad, u, RL), fo), rfl, ⟨hpost.1, hpost.2, rfl, rfl⟩, by rw [ht]; exact hP, hD⟩, hS.F ht⟩) hS.2.2 xd_La_provider_16
  · obtain ⟨hP1, hD1⟩ := hB
    rw [ht] at hP1
    obtain ⟨hP, hD⟩ := va_joinP (X := [(ob, .inl (kA 3, 1, .inr (.inl fo)))]) (cx := []) (wr := [(ob, .inl (kA 3, 1, .inr (.inl fo)))]) (rx := []) hP hD [] [0] rfl rfl (by decide) (by decide) hk1 hFc hP1 hD1
    generalize H1 = H at hP hS ⊢
    have hl := lv_sub hl [1, 2, 3] rfl
    have hl : lv_has ls 5 [(1, .int ix), (2, .int kx), (3, .ref ob)] := hl
    have hP : va_P D xcl ((ob, .inl (kA 3, 1, .inr (.inl fo))) :: rp ad u RL) H := hP
    have hD : va_D A ((ob, .inl (kA 3, 1, .inr (.inl fo))) :: rp ad u RL) := hD
    refine lv_i2l (v := ((r : Int32).toInt64)) hx hb xd_La_provider_8 rfl ?_
    refine va_last hx hb hK.1 hP hD hS 0 3 rfl rfl (show ¬ _ by decide) xd_La_provider_9 (fun H locs hP hD hS => ?_)
    have hP : va_P D xcl ((ob, .inl (kA 3, 1, .inr (.inl (vp_updL fo (0 : Int32).toNatClampNeg ((r : Int32).toInt64))))) :: rp ad u RL) H := hP
    have hD : va_D A ((ob, .inl (kA 3, 1, .inr (.inl (vp_updL fo (0 : Int32).toNatClampNeg ((r : Int32).toInt64))))) :: rp ad u RL) := hD
    refine lv_goto (tgt := 17) hx hb xd_La_provider_10 (by decide) ?_
    refine lv_iconst (v := 0) hx hb xd_La_provider_17 (by decide) ?_
    refine W.widen (k := 1) (n := 6) (Nat.le_of_ble_eq_true rfl) (Nat.le_of_ble_eq_true rfl) ?_
    exact W.iret (v := 0) hx hb hr (fun t ht hW => ⟨⟨0, ((ad, u, RL), (vp_updL fo (0 : Int32).toNatClampNeg ((r : Int32).toInt64))), rfl, ⟨hpost.1, hpost.2, rfl, rfl⟩, by rw [ht]; exact hP, hD⟩, hS.F ht⟩) hS.2.2 xd_La_provider_18
theorem xd_Mo_thrown_0 : decode xb_Mo_thrown 0 = .ok (.aload_n 0, 1) := by decide +kernel
theorem xd_Mo_thrown_1 : decode xb_Mo_thrown 1 = .ok (.getfield 87, 3) := by decide +kernel
theorem xd_Mo_thrown_4 : decode xb_Mo_thrown 4 = .ok (.ireturn, 1) := by decide +kernel
theorem k4s_0 : (Cond.fieldLink "LayerDeskModel" 87 "LayerDeskModel" "fault" "I") ∈ wT := wT_t (List.mem_append_right _ (List.mem_append_right _ (List.mem_append_right _ (List.mem_append_left _ (List.mem_of_getElem? (i := 84) rfl))))) rfl
set_option maxHeartbeats 4000000 in
set_option maxRecDepth 100000 in
theorem xc_Mo_thrown (l : Launch) (D : va_G) (kA : Nat → ClassId) (sz h : Nat) (mm : Nat → Nat) (v : Nat → Int32) (g : Nat → Nat → Int32) (hMI : MI v g) : Met l xy_Mo_thrown (.code xy_Mo_thrown xb_Mo_thrown 1 (some .int) :: wT) { frames := 0, cells := 0, slots := 0, locals := 0 } (va_Pc [.ref h] (xPre D kA sz (moW h mm kA v g))) (va_Qi (fun (r : Int32) (u : (Nat → Int32) × (Nat → Nat → Int32)) => u.1 = v ∧ u.2 = g ∧ r = v 0) (fun (u : (Nat → Int32) × (Nat → Nat → Int32)) t => va_P D xcl (moW h mm kA u.1 u.2) t.heap ∧ va_D (va_A (moW h mm kA v g) sz) (moW h mm kA u.1 u.2)) (va_A (moW h mm kA v g) sz)) 0 0 (va_A (moW h mm kA v g) sz) := by
  refine Met.ofW (cc := xb_Mo_thrown) (maxL := 1) (ret := (some .int)) (by decide) rfl ?_
  intro p e s m args below meth c s₁ B hml hv
  obtain ⟨rfl, hsz, hP, hK, hD0⟩ := hv
  have hx := B.exec
  have hb := B.bytes
  have hr := B.returns
  have hT := x_hT B.pre
  have hown : s.vm.findClass xR_Mo = some m.cls := findClass_of_methodNamed B.named
  have hlocks := B.notSynchronized
  subst hsz
  have hD := hD0.self (sz := s.heap.size)
  generalize hAe : va_A (moW h mm kA v g) s.heap.size = A at hD ⊢
  have hA : ∀ q : Nat, s.heap.size ≤ q → A q := fun q h => by rw [← hAe]; exact Or.inr h
  have hS : va_S A s.heap s.heap [] := va_S.rf
  have hl := lv_entry ([.ref h]) (n := 1) (Nat.le_of_ble_eq_true rfl)
  rw [lg_entry_eq]
  generalize (lg_sl ([.ref h]) ++ List.replicate (1 - (lg_sl ([.ref h])).length) Slot.unset).toArray = ls at hl ⊢
  have hl : lv_has ls 1 [(0, .ref h)] := hl
  have hP : va_P D xcl (moW h mm kA v g) s.heap := hP
  refine lv_aload_n hx hb xd_Mo_thrown_0 rfl (lv_at hl 0 rfl) ?_
  refine va_get (D := D) (ci := 4) (v := .int (v 0)) (C := xR_Mo) (T := xT_Mo) (N := 31) hx hb hT xi_Mo hown hK.1 hP 0 rfl rfl 0 (by decide) (hT _ k4s_0) (fun _ h9 => h9) rfl xd_Mo_thrown_1 ?_
  exact W.iret (v := (v 0)) hx hb hr (fun t ht hW => ⟨⟨(v 0), (v, g), rfl, ⟨rfl, rfl, rfl⟩, by rw [ht]; exact hP, hD⟩, hS.F ht⟩) hS.2.2 xd_Mo_thrown_4
