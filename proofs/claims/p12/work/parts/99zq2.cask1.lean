theorem k7x_0 : (Cond.code xy_De_openLayer xb_De_openLayer 3 (some (.object "LayerDesk$Layer"))) ∈ wT := wT_t (List.mem_append_left _ (List.mem_of_getElem? (i := 137) rfl)) rfl
theorem k7x_1 : (Cond.methodLink "LayerDesk" 68 xy_De_openLayer) ∈ wT := wT_t (List.mem_append_left _ (List.mem_of_getElem? (i := 134) rfl)) rfl
theorem k7x_2 : (Cond.instanceMethod xy_De_openLayer) ∈ wT := wT_t (List.mem_append_left _ (List.mem_of_getElem? (i := 136) rfl)) rfl
theorem k7x_3 : (Cond.selects "LayerDesk" xy_De_openLayer xy_De_openLayer) ∈ wT := wT_s (q := (xy_De_openLayer, 6)) (by decide +kernel) rfl
theorem k7x_4 : (Cond.initialized "LayerDesk") ∈ wT := wT_t (List.mem_append_left _ (List.mem_of_getElem? (i := 1) rfl)) rfl
theorem k7x_5 : (Cond.fieldLink "LayerDesk" 128 "LayerDesk$Layer" "members" "[LLayerDesk$Member;") ∈ wT := wT_t (List.mem_append_right _ (List.mem_append_right _ (List.mem_append_left _ (List.mem_of_getElem? (i := 150) rfl)))) rfl
theorem k7x_6 : (Cond.fieldLink "LayerDesk$Layer" 19 "LayerDesk$Layer" "members" "[LLayerDesk$Member;") ∈ wT := wT_t (List.mem_append_right _ (List.mem_append_right _ (List.mem_append_left _ (List.mem_of_getElem? (i := 147) rfl)))) rfl
theorem k7x_7 : (Cond.fieldLink "LayerDesk$Layer" 27 "LayerDesk$Member" "descriptor" "LLayerDesk$Descriptor;") ∈ wT := wT_t (List.mem_append_right _ (List.mem_append_right _ (List.mem_append_left _ (List.mem_of_getElem? (i := 183) rfl)))) rfl
theorem k7x_8 : (Cond.fieldLink "LayerDesk$Layer" 36 "LayerDesk$Descriptor" "number" "I") ∈ wT := wT_t (List.mem_append_right _ (List.mem_append_left _ (List.mem_of_getElem? (i := 48) rfl))) rfl
theorem k7x_9 : (Cond.code xy_Ly_withDescriptor xb_Ly_withDescriptor 3 (some (.object "LayerDesk$Member"))) ∈ wT := wT_t (List.mem_append_left _ (List.mem_of_getElem? (i := 173) rfl)) rfl
theorem k7x_10 : (Cond.methodLink "LayerDesk" 195 xy_Ly_withDescriptor) ∈ wT := wT_t (List.mem_append_left _ (List.mem_of_getElem? (i := 170) rfl)) rfl
theorem k7x_11 : (Cond.instanceMethod xy_Ly_withDescriptor) ∈ wT := wT_t (List.mem_append_left _ (List.mem_of_getElem? (i := 171) rfl)) rfl
theorem k7x_12 : (Cond.selects "LayerDesk$Layer" xy_Ly_withDescriptor xy_Ly_withDescriptor) ∈ wT := wT_t (List.mem_append_left _ (List.mem_of_getElem? (i := 172) rfl)) rfl
theorem k7x_13 : (Cond.initialized "LayerDesk$Layer") ∈ wT := wT_t (List.mem_append_left _ (List.mem_of_getElem? (i := 19) rfl)) rfl
theorem k7x_14 : (Cond.fieldLink "LayerDesk$Descriptor" 14 "LayerDesk$Descriptor" "packages" "LLayerDesk$Names;") ∈ wT := wT_t (List.mem_append_right _ (List.mem_append_left _ (List.mem_of_getElem? (i := 60) rfl))) rfl
theorem k7x_15 : (Cond.code xy_Na_indexOf xb_Na_indexOf 3 (some .int)) ∈ wT := wT_t (List.mem_append_right _ (List.mem_append_left _ (List.mem_of_getElem? (i := 127) rfl))) rfl
theorem k7x_16 : (Cond.methodLink "LayerDesk$Descriptor" 68 xy_Na_indexOf) ∈ wT := wT_t (List.mem_append_right _ (List.mem_append_left _ (List.mem_of_getElem? (i := 167) rfl))) rfl
theorem k7x_17 : (Cond.instanceMethod xy_Na_indexOf) ∈ wT := wT_t (List.mem_append_right _ (List.mem_append_left _ (List.mem_of_getElem? (i := 125) rfl))) rfl
theorem k7x_18 : (Cond.selects "LayerDesk$Names" xy_Na_indexOf xy_Na_indexOf) ∈ wT := wT_t (List.mem_append_right _ (List.mem_append_left _ (List.mem_of_getElem? (i := 126) rfl))) rfl
theorem k7x_19 : (Cond.initialized "LayerDesk$Names") ∈ wT := wT_t (List.mem_append_left _ (List.mem_of_getElem? (i := 11) rfl)) rfl
theorem k7x_20 : (Cond.fieldLink "LayerDesk$Descriptor" 24 "LayerDesk$Descriptor" "opened" "[LLayerDesk$Grant;") ∈ wT := wT_t (List.mem_append_right _ (List.mem_append_left _ (List.mem_of_getElem? (i := 65) rfl))) rfl
theorem k7x_21 : (Cond.code xy_Gr_covers xb_Gr_covers 2 (some .boolean)) ∈ wT := wT_t (List.mem_append_right _ (List.mem_append_left _ (List.mem_of_getElem? (i := 179) rfl))) rfl
theorem k7x_22 : (Cond.methodLink "LayerDesk$Descriptor" 72 xy_Gr_covers) ∈ wT := wT_t (List.mem_append_right _ (List.mem_append_right _ (List.mem_append_right _ (List.mem_append_left _ (List.mem_of_getElem? (i := 21) rfl))))) rfl
theorem k7x_23 : (Cond.instanceMethod xy_Gr_covers) ∈ wT := wT_t (List.mem_append_right _ (List.mem_append_left _ (List.mem_of_getElem? (i := 177) rfl))) rfl
theorem k7x_24 : (Cond.selects "LayerDesk$Grant" xy_Gr_covers xy_Gr_covers) ∈ wT := wT_t (List.mem_append_right _ (List.mem_append_left _ (List.mem_of_getElem? (i := 178) rfl))) rfl
theorem k7x_25 : (Cond.initialized "LayerDesk$Grant") ∈ wT := wT_t (List.mem_append_left _ (List.mem_of_getElem? (i := 12) rfl)) rfl
theorem k7x_26 : (Cond.fieldLink "LayerDesk" 10 "LayerDesk" "written" "LLayerDesk$Line;") ∈ wT := wT_t (List.mem_append_left _ (List.mem_of_getElem? (i := 99) rfl)) rfl
theorem k7x_27 : (Cond.code xy_Li_takeName xb_Li_takeName 1 (some .int)) ∈ wT := wT_t (List.mem_append_right _ (List.mem_append_right _ (List.mem_append_right _ (List.mem_append_left _ (List.mem_of_getElem? (i := 42) rfl))))) rfl
theorem k7x_28 : (Cond.methodLink "LayerDesk" 158 xy_Li_takeName) ∈ wT := wT_t (List.mem_append_right _ (List.mem_append_right _ (List.mem_append_right _ (List.mem_append_left _ (List.mem_of_getElem? (i := 39) rfl))))) rfl
theorem k7x_29 : (Cond.instanceMethod xy_Li_takeName) ∈ wT := wT_t (List.mem_append_right _ (List.mem_append_right _ (List.mem_append_right _ (List.mem_append_left _ (List.mem_of_getElem? (i := 40) rfl))))) rfl
theorem k7x_30 : (Cond.selects "LayerDesk$Line" xy_Li_takeName xy_Li_takeName) ∈ wT := wT_t (List.mem_append_right _ (List.mem_append_right _ (List.mem_append_right _ (List.mem_append_left _ (List.mem_of_getElem? (i := 41) rfl))))) rfl
theorem k7x_31 : (Cond.initialized "LayerDesk$Line") ∈ wT := wT_t (List.mem_append_left _ (List.mem_of_getElem? (i := 2) rfl)) rfl
theorem k7x_32 : (Cond.code xy_De_memberAt xb_De_memberAt 4 (some (.object "LayerDesk$Member"))) ∈ wT := wT_t (List.mem_append_left _ (List.mem_of_getElem? (i := 161) rfl)) rfl
theorem k7x_33 : (Cond.methodLink "LayerDesk" 132 xy_De_memberAt) ∈ wT := wT_t (List.mem_append_left _ (List.mem_of_getElem? (i := 158) rfl)) rfl
theorem k7x_34 : (Cond.instanceMethod xy_De_memberAt) ∈ wT := wT_t (List.mem_append_left _ (List.mem_of_getElem? (i := 160) rfl)) rfl
theorem k7x_35 : (Cond.selects "LayerDesk" xy_De_memberAt xy_De_memberAt) ∈ wT := wT_s (q := (xy_De_memberAt, 6)) (by decide +kernel) rfl
theorem k7x_36 : (Cond.code xy_De_memberOf xb_De_memberOf 4 (some (.object "LayerDesk$Member"))) ∈ wT := wT_t (List.mem_append_left _ (List.mem_of_getElem? (i := 169) rfl)) rfl
theorem k7x_37 : (Cond.methodLink "LayerDesk" 145 xy_De_memberOf) ∈ wT := wT_t (List.mem_append_left _ (List.mem_of_getElem? (i := 166) rfl)) rfl
theorem k7x_38 : (Cond.instanceMethod xy_De_memberOf) ∈ wT := wT_t (List.mem_append_left _ (List.mem_of_getElem? (i := 168) rfl)) rfl
theorem k7x_39 : (Cond.selects "LayerDesk" xy_De_memberOf xy_De_memberOf) ∈ wT := wT_s (q := (xy_De_memberOf, 6)) (by decide +kernel) rfl
theorem k7x_40 : (Cond.classLink "LayerDesk" 56 "java/lang/IllegalArgumentException") ∈ wT := wT_t (List.mem_append_right _ (List.mem_append_left _ (List.mem_of_getElem? (i := 205) rfl))) rfl
theorem k7x_41 : (Cond.initialized "java/lang/IllegalArgumentException") ∈ wT := wT_t (List.mem_append_left _ (List.mem_of_getElem? (i := 16) rfl)) rfl
theorem k7x_42 : (Cond.fieldLink "LayerDesk" 136 "LayerDesk$Member" "descriptor" "LLayerDesk$Descriptor;") ∈ wT := wT_t (List.mem_append_right _ (List.mem_append_right _ (List.mem_append_left _ (List.mem_of_getElem? (i := 185) rfl)))) rfl
theorem k7x_43 : (Cond.fieldLink "LayerDesk" 163 "LayerDesk$Descriptor" "packages" "LLayerDesk$Names;") ∈ wT := wT_t (List.mem_append_right _ (List.mem_append_left _ (List.mem_of_getElem? (i := 63) rfl))) rfl
theorem k7x_44 : (Cond.code xy_Na_holds xb_Na_holds 2 (some .boolean)) ∈ wT := wT_t (List.mem_append_right _ (List.mem_append_left _ (List.mem_of_getElem? (i := 123) rfl))) rfl
theorem k7x_45 : (Cond.methodLink "LayerDesk" 167 xy_Na_holds) ∈ wT := wT_t (List.mem_append_right _ (List.mem_append_right _ (List.mem_append_right _ (List.mem_append_left _ (List.mem_of_getElem? (i := 46) rfl))))) rfl
theorem k7x_46 : (Cond.instanceMethod xy_Na_holds) ∈ wT := wT_t (List.mem_append_right _ (List.mem_append_left _ (List.mem_of_getElem? (i := 121) rfl))) rfl
theorem k7x_47 : (Cond.selects "LayerDesk$Names" xy_Na_holds xy_Na_holds) ∈ wT := wT_t (List.mem_append_right _ (List.mem_append_left _ (List.mem_of_getElem? (i := 122) rfl))) rfl
theorem k7x_48 : (Cond.fieldLink "LayerDesk" 148 "LayerDesk$Member" "reading" "LLayerDesk$Reach;") ∈ wT := wT_t (List.mem_append_right _ (List.mem_append_right _ (List.mem_append_left _ (List.mem_of_getElem? (i := 192) rfl)))) rfl
theorem k7x_49 : (Cond.code xy_Re_marks xb_Re_marks 2 (some .boolean)) ∈ wT := wT_t (List.mem_append_left _ (List.mem_of_getElem? (i := 177) rfl)) rfl
theorem k7x_50 : (Cond.methodLink "LayerDesk" 152 xy_Re_marks) ∈ wT := wT_t (List.mem_append_left _ (List.mem_of_getElem? (i := 174) rfl)) rfl
theorem k7x_51 : (Cond.instanceMethod xy_Re_marks) ∈ wT := wT_t (List.mem_append_left _ (List.mem_of_getElem? (i := 175) rfl)) rfl
theorem k7x_52 : (Cond.selects "LayerDesk$Reach" xy_Re_marks xy_Re_marks) ∈ wT := wT_t (List.mem_append_left _ (List.mem_of_getElem? (i := 176) rfl)) rfl
theorem k7x_53 : (Cond.initialized "LayerDesk$Reach") ∈ wT := wT_t (List.mem_append_left _ (List.mem_of_getElem? (i := 21) rfl)) rfl
theorem k7x_54 : (Cond.fieldLink "LayerDesk" 183 "LayerDesk$Descriptor" "name" "I") ∈ wT := wT_t (List.mem_append_right _ (List.mem_append_left _ (List.mem_of_getElem? (i := 59) rfl))) rfl
theorem k7x_55 : (Cond.code xy_Ds_opensTo xb_Ds_opensTo 4 (some .boolean)) ∈ wT := wT_t (List.mem_append_right _ (List.mem_append_right _ (List.mem_append_right _ (List.mem_append_left _ (List.mem_of_getElem? (i := 64) rfl))))) rfl
theorem k7x_56 : (Cond.methodLink "LayerDesk" 186 xy_Ds_opensTo) ∈ wT := wT_t (List.mem_append_right _ (List.mem_append_right _ (List.mem_append_right _ (List.mem_append_left _ (List.mem_of_getElem? (i := 61) rfl))))) rfl
theorem k7x_57 : (Cond.instanceMethod xy_Ds_opensTo) ∈ wT := wT_t (List.mem_append_right _ (List.mem_append_right _ (List.mem_append_right _ (List.mem_append_left _ (List.mem_of_getElem? (i := 62) rfl))))) rfl
theorem k7x_58 : (Cond.selects "LayerDesk$Descriptor" xy_Ds_opensTo xy_Ds_opensTo) ∈ wT := wT_t (List.mem_append_right _ (List.mem_append_right _ (List.mem_append_right _ (List.mem_append_left _ (List.mem_of_getElem? (i := 63) rfl))))) rfl
theorem k7x_59 : (Cond.initialized "LayerDesk$Descriptor") ∈ wT := wT_t (List.mem_append_left _ (List.mem_of_getElem? (i := 10) rfl)) rfl
theorem k7x_60 : (Cond.classLink "LayerDesk" 89 "java/util/NoSuchElementException") ∈ wT := wT_t (List.mem_append_right _ (List.mem_append_right _ (List.mem_append_left _ (List.mem_of_getElem? (i := 94) rfl)))) rfl
theorem k7x_61 : (Cond.initialized "java/util/NoSuchElementException") ∈ wT := wT_t (List.mem_append_left _ (List.mem_of_getElem? (i := 18) rfl)) rfl
set_option maxHeartbeats 4000000 in
set_option maxRecDepth 100000 in
theorem xc_De_memberAtA (l : Launch) (D : va_G) (kA : Nat → ClassId) (sz : Nat) (ad : Nat → Nat → Nat) (E : Nat → Nat → va_E) (RL : List (Nat × Nat)) (g : Nat → Nat → Int32) (ml : Nat) (nd : Nat) (len : Nat) (wn : Nat) (cs : Nat) (ix : Int32) (kx : Int32) (hCI : CI kA ad E RL ml nd len wn cs) (hTL : TLas g ad E nd ml) : Met l xy_De_memberAt (.code xy_De_memberAt xb_De_memberAt 4 (some (.object "LayerDesk$Member")) :: wT) { frames := 1, cells := 0, slots := 0, locals := 22 } (va_Pc [.ref (ad 0 0), .int ix, .int kx] (xPre D kA sz (rp ad E RL))) (va_Qq (fun (r : Option Nat) (u : Unit) => (r = none ∧ ¬ ∃ la kn, moQ g ml ix kx la kn) ∨ ∃ x k, moQ g ml ix kx x k ∧ r = some (ad (20 + x) (10 + 10 * k)) ∧ MEI kA ad E RL nd x k) (fun (u : Unit) t => va_P D xcl (rp ad E RL) t.heap ∧ va_D (va_A (rp ad E RL) sz) (rp ad E RL)) (va_A (rp ad E RL) sz)) 0 0 (va_A (rp ad E RL) sz) := by
  refine Met.ofW (cc := xb_De_memberAt) (maxL := 4) (ret := (some (.object "LayerDesk$Member"))) (by decide) rfl ?_
  intro p e s m args below meth c s₁ B hml hv
  obtain ⟨rfl, hsz, hP, hK, hD0⟩ := hv
  have hx := B.exec
  have hb := B.bytes
  have hr := B.returns
  have hT := x_hT B.pre
  have hown : s.vm.findClass xR_De = some m.cls := findClass_of_methodNamed B.named
  have hlocks := B.notSynchronized
  subst hsz
  have hD := hD0.self (sz := s.heap.size)
  generalize hAe : va_A (rp ad E RL) s.heap.size = A at hD ⊢
  have hA : ∀ q : Nat, s.heap.size ≤ q → A q := fun q h => by rw [← hAe]; exact Or.inr h
  have hS : va_S A s.heap s.heap [] := va_S.rf
  have hl := lv_entry ([.ref (ad 0 0), .int ix, .int kx]) (n := 4) (Nat.le_of_ble_eq_true rfl)
  rw [lg_entry_eq]
  generalize (lg_sl ([.ref (ad 0 0), .int ix, .int kx]) ++ List.replicate (4 - (lg_sl ([.ref (ad 0 0), .int ix, .int kx])).length) Slot.unset).toArray = ls at hl ⊢
  have hl : lv_has ls 4 [(0, .ref (ad 0 0)), (1, .int ix), (2, .int kx)] := hl
  have hP : va_P D xcl (rp ad E RL) s.heap := hP
  obtain ⟨hmB, hDk, hLi, hSh, hCh, hLa, hDIs, hLIs⟩ := id hCI
  obtain ⟨fl_1, hml_1, q9_1, hla_1⟩ := id (hLa)
  have c_2 : E 0 9 = .inl (kA 5, 5, .inr (.inr (.inr (.inr fl_1)))) := q9_1
  have m_3 : (0, 9) ∈ RL := hmB 9 (by decide)
  obtain ⟨_, hnd12, hml5, _, _⟩ := CI_b hCI
  have hLKP : LKP g ml := LKP_C hCI hTL
  have hmcb : ∀ la, la < ml → mcv g la ≤ 12 := fun la hl9 => (hLKP.2 la hl9).1
  refine lv_aload_n hx hb xd_De_memberAt_0 rfl (lv_at hl 0 rfl) ?_
  refine lv_iload_n hx hb xd_De_memberAt_1 rfl (lv_at hl 1 rfl) ?_
  have hFc := px_free hD hS hA
  obtain ⟨lf_4, q_4⟩ := id (hDk)
  have c_5 : E 0 0 = .inr (0, [.ref (ad 0 1), .ref (ad 0 5), .ref (ad 0 7), .ref (ad 0 9), .int (nI ml), .int lf_4]) := q_4
  have m_6 : (0, 0) ∈ RL := hmB 0 (by decide)
  refine va_callq (va_runV (As := [.int ix]) (rest := []) ⟨hx, hb, hml, hown, hT⟩ (xc_De_openLayerX l D kA s.heap.size ad E RL g ml nd len wn cs ix (by first | assumption | omega) (by first | assumption | omega)) (cwV 1 hT (wT_V k7x_1 k7x_2 k7x_3 k7x_4 k7x_0) rfl rfl rfl (by decide +kernel) ⟨Nat.le_of_ble_eq_true rfl, Nat.le_of_ble_eq_true rfl⟩) (px_preV hK hP hD m_6 c_5 rfl) rfl rfl hl.1 rfl (lv_room (Nat.le_of_ble_eq_true rfl)) xd_De_memberAt_2 ⟨(Nat.le_of_ble_eq_true rfl), (Nat.le_of_ble_eq_true rfl)⟩) hS (fun q _ h => hFc q h) hFc (fun r7 u8 t H1 locs ht hvm hp9 hB hz1 hk1 hS => ?_)
  obtain ⟨hP1, hD1⟩ := hB
  rw [ht] at hP1
  have hD1 := hD1.weaken (fun _ _ _ h => hFc _ h)
  generalize H1 = H at hP1 hS ⊢
  have hP := hP1
  have hD := hD1
  have hP : va_P D xcl (rp ad E RL) H := hP
  have hD : va_D A (rp ad E RL) := hD
  rcases hp9 with ⟨rfl, z10⟩ | ⟨z11, z12, z13, z14, rfl⟩
  · refine W.eq (g2 := F0 m 5 ls [.null]) rfl ?_
    refine lv_astore_nN hx hb xd_De_memberAt_5 rfl hl (Nat.le_of_ble_eq_true rfl) rfl (fun ls hl => ?_)
    have hl : lv_has ls 4 [(3, .null), (0, .ref (ad 0 0)), (1, .int ix), (2, .int kx)] := hl
    refine lv_aload_nN hx hb xd_De_memberAt_6 rfl (lv_at hl 0 rfl) ?_
    refine lv_ifnullN (tgt := 23) hx hb xd_De_memberAt_7 (by decide) ?_
    refine lv_null hx hb xd_De_memberAt_23 ?_
    refine lv_goto (tgt := 33) hx hb xd_De_memberAt_24 (by decide) ?_
    exact W.aret (v := .null) hx hb hr (Or.inl ⟨_, rfl⟩) (Or.inl rfl) (fun t ht hW => ⟨⟨none, (), rfl, Or.inl ⟨rfl, fun ⟨la9, kn9, q⟩ => z10 ⟨la9, q.1, q.2.1, q.2.2.1⟩⟩, by rw [ht]; exact hP, hD⟩, hS.F ht⟩) hS.2.2 xd_De_memberAt_33
  · refine W.eq (g2 := F0 m 5 ls [.ref (ad (20 + z11) 0)]) rfl ?_
    refine lv_astore_n hx hb xd_De_memberAt_5 rfl hl (Nat.le_of_ble_eq_true rfl) rfl (fun ls hl => ?_)
    have hl : lv_has ls 4 [(3, .ref (ad (20 + z11) 0)), (0, .ref (ad 0 0)), (1, .int ix), (2, .int kx)] := hl
    refine lv_aload_n hx hb xd_De_memberAt_6 rfl (lv_at hl 0 rfl) ?_
    refine lv_ifnull hx hb xd_De_memberAt_7 ?_
    refine lv_iload_n hx hb xd_De_memberAt_10 rfl (lv_at hl 3 rfl) ?_
    refine lv_if_lt (tgt := 23) hx hb xd_De_memberAt_11 (by decide) (fun hc15 => ?_) (fun hc15 => ?_)
    · refine lv_null hx hb xd_De_memberAt_23 ?_
      refine lv_goto (tgt := 33) hx hb xd_De_memberAt_24 (by decide) ?_
      exact W.aret (v := .null) hx hb hr (Or.inl ⟨_, rfl⟩) (Or.inl rfl) (fun t ht hW => ⟨⟨none, (), rfl, Or.inl ⟨rfl, fun ⟨la9, kn9, q⟩ => absurd (show nI kn9 < 0 by rw [← q.2.2.2.1]; exact hc15) (nI_pos (by rw [xb_31]; have z1 := q.2.2.2.2; have z2 := hmcb la9 q.1; omega))⟩, by rw [ht]; exact hP, hD⟩, hS.F ht⟩) hS.2.2 xd_De_memberAt_33
    · obtain ⟨kn, hkn31, hkn⟩ := nI_of hc15
      rw [xb_31] at hkn31
      rw [hkn] at hl
      refine lv_iload_n hx hb xd_De_memberAt_14 rfl (lv_at hl 3 rfl) ?_
      refine lv_aload_n hx hb xd_De_memberAt_15 rfl (lv_at hl 0 rfl) ?_
      obtain ⟨m0_16, m1_16, pv_16, op_16, mk_16, fm_16, hmk_16, hpv_16, q0_16, q1_16, hk_16⟩ := id (hLIs z11 (by omega))
      have c_17 : E (20 + z11) 0 = .inr (5, [.int (nI z11), pv_16, .ref (ad (20 + z11) 1), .int op_16]) := q0_16
      have m_18 : (20 + z11, 0) ∈ RL := m0_16
      have c_19 : E (20 + z11) 1 = .inl (kA 6, mk_16, .inr (.inr (.inr (.inr fm_16)))) := q1_16
      have m_20 : (20 + z11, 1) ∈ RL := m1_16
      obtain ⟨top_16, ⟨lq_16, hlq_16, h19_16, hpv2_16⟩, h20_16, tmd_16⟩ := TLa_get c_17 c_19 (hTL z11 (by omega))
      have c_21 : E (20 + z11) 0 = .inr (5, [.int (nI z11), (lyv ad lq_16), .ref (ad (20 + z11) 1), .int op_16]) := by rw [← hpv2_16]; exact c_17
      have i20_16 : iN (g 20 z11) = mk_16 := by rw [h20_16, iN_nI (by omega)]
      refine px_get (D := D) (ci := 5) (v := .ref (ad (20 + z11) 1)) (C := xR_Ly) (T := xT_Ly) (N := 4) hx hb hT xi_Ly hown hK.1 hP m_18 c_21 rfl 2 (by decide) (hT _ k7x_5) (fun _ h9 => h9) rfl xd_De_memberAt_16 ?_
      refine px_alen hx hb hK.1 hP m_20 c_19 6 rfl xd_De_memberAt_19 ?_
      refine W.eq (g2 := F0 m 20 ls [.int (nI mk_16), .int (nI kn)]) rfl ?_
      refine xn_lt (a := kn) (b := mk_16) (tgt := 27) hx hb xd_De_memberAt_20 (by decide) (by omega) (by omega) (fun hc22 => ?_) (fun hc22 => ?_)
      · refine lv_aload_n hx hb xd_De_memberAt_27 rfl (lv_at hl 0 rfl) ?_
        refine px_get (D := D) (ci := 5) (v := .ref (ad (20 + z11) 1)) (C := xR_Ly) (T := xT_Ly) (N := 4) hx hb hT xi_Ly hown hK.1 hP m_18 c_21 rfl 2 (by decide) (hT _ k7x_5) (fun _ h9 => h9) rfl xd_De_memberAt_28 ?_
        refine lv_iload_n hx hb xd_De_memberAt_31 rfl (lv_at hl 3 rfl) ?_
        refine px_aald (i := kn) (x := (some (ad (20 + z11) (10 + 10 * kn)))) hx hb hK.1 hP m_20 c_19 6 rfl ((hk_16 kn (by omega)).1) (by omega) (by omega) xd_De_memberAt_32 ?_
        exact W.aret (v := .ref (ad (20 + z11) (10 + 10 * kn))) hx hb hr (Or.inl ⟨_, rfl⟩) (Or.inr ⟨_, rfl⟩) (fun t ht hW => ⟨⟨(some (ad (20 + z11) (10 + 10 * kn))), (), rfl, Or.inr ⟨z11, kn, ⟨z12, z13, z14, hkn, by unfold mcv; rw [i20_16]; omega⟩, rfl, (hk_16 kn (by omega)).2⟩, by rw [ht]; exact hP, hD⟩, hS.F ht⟩) hS.2.2 xd_De_memberAt_33
      · refine lv_null hx hb xd_De_memberAt_23 ?_
        refine lv_goto (tgt := 33) hx hb xd_De_memberAt_24 (by decide) ?_
        exact W.aret (v := .null) hx hb hr (Or.inl ⟨_, rfl⟩) (Or.inl rfl) (fun t ht hW => ⟨⟨none, (), rfl, Or.inl ⟨rfl, fun ⟨la9, kn9, q⟩ => by
        obtain ⟨q1, q2, q3, q4, q5⟩ := q
        have e1 := nI_inj9 (by omega) (by omega) (z13.symm.trans q2)
        have q6 := hmcb la9 q1
        have e2 := nI_inj9 (by omega) (by omega) (hkn.symm.trans q4)
        rw [← e1] at q5
        unfold mcv at q5
        rw [i20_16] at q5
        omega⟩, by rw [ht]; exact hP, hD⟩, hS.F ht⟩) hS.2.2 xd_De_memberAt_33
set_option maxHeartbeats 4000000 in
set_option maxRecDepth 100000 in
theorem xc_Ly_withDescriptorA (l : Launch) (D : va_G) (kA : Nat → ClassId) (sz : Nat) (ad : Nat → Nat → Nat) (E : Nat → Nat → va_E) (RL : List (Nat × Nat)) (g : Nat → Nat → Int32) (nd : Nat) (nL : Nat) (n : Nat) (dx : Int32) (hDIs : DIs kA ad E RL nd) (hLIs : LIs kA ad E RL nd nL) (hnL : nL ≤ 6) (hn : n < nL) (hTD : TDs g E nd) (hTL : TLas g ad E nd nL) (hnd12 : nd ≤ 12) : Met l xy_Ly_withDescriptor (.code xy_Ly_withDescriptor xb_Ly_withDescriptor 3 (some (.object "LayerDesk$Member")) :: wT) { frames := 0, cells := 0, slots := 0, locals := 0 } (va_Pc [.ref (ad (20 + n) 0), .int dx] (xPre D kA sz (rp ad E RL))) (va_Qq (fun (r : Option Nat) (u : Unit) => (r = none ∧ ∀ j, j < mcv g n → ¬ dx = nI (mdv g n j)) ∨ ∃ k, k < mcv g n ∧ dx = nI (mdv g n k) ∧ r = some (ad (20 + n) (10 + 10 * k)) ∧ MEI kA ad E RL nd n k) (fun (u : Unit) t => va_P D xcl (rp ad E RL) t.heap ∧ va_D (va_A (rp ad E RL) sz) (rp ad E RL)) (va_A (rp ad E RL) sz)) 0 0 (va_A (rp ad E RL) sz) := by
  refine Met.ofW (cc := xb_Ly_withDescriptor) (maxL := 3) (ret := (some (.object "LayerDesk$Member"))) (by decide) rfl ?_
  intro p e s m args below meth c s₁ B hml hv
  obtain ⟨rfl, hsz, hP, hK, hD0⟩ := hv
  have hx := B.exec
  have hb := B.bytes
  have hr := B.returns
  have hT := x_hT B.pre
  have hown : s.vm.findClass xR_Ly = some m.cls := findClass_of_methodNamed B.named
  have hlocks := B.notSynchronized
  subst hsz
  have hD := hD0.self (sz := s.heap.size)
  generalize hAe : va_A (rp ad E RL) s.heap.size = A at hD ⊢
  have hA : ∀ q : Nat, s.heap.size ≤ q → A q := fun q h => by rw [← hAe]; exact Or.inr h
  have hS : va_S A s.heap s.heap [] := va_S.rf
  have hl := lv_entry ([.ref (ad (20 + n) 0), .int dx]) (n := 3) (Nat.le_of_ble_eq_true rfl)
  rw [lg_entry_eq]
  generalize (lg_sl ([.ref (ad (20 + n) 0), .int dx]) ++ List.replicate (3 - (lg_sl ([.ref (ad (20 + n) 0), .int dx])).length) Slot.unset).toArray = ls at hl ⊢
  have hl : lv_has ls 3 [(0, .ref (ad (20 + n) 0)), (1, .int dx)] := hl
  have hP : va_P D xcl (rp ad E RL) s.heap := hP
  refine lv_iconst (v := 0) hx hb xd_Ly_withDescriptor_0 (by decide) ?_
  refine lv_istore_n hx hb xd_Ly_withDescriptor_1 rfl hl (Nat.le_of_ble_eq_true rfl) rfl (fun ls hl => ?_)
  have hl : lv_has ls 3 [(2, .int 0), (0, .ref (ad (20 + n) 0)), (1, .int dx)] := hl
  obtain ⟨m0_1, m1_1, pv_1, op_1, mk_1, fm_1, hmk_1, hpv_1, q0_1, q1_1, hk_1⟩ := id (hLIs n (by omega))
  have c_2 : E (20 + n) 0 = .inr (5, [.int (nI n), pv_1, .ref (ad (20 + n) 1), .int op_1]) := q0_1
  have m_3 : (20 + n, 0) ∈ RL := m0_1
  have c_4 : E (20 + n) 1 = .inl (kA 6, mk_1, .inr (.inr (.inr (.inr fm_1)))) := q1_1
  have m_5 : (20 + n, 1) ∈ RL := m1_1
  obtain ⟨top_1, ⟨lq_1, hlq_1, h19_1, hpv2_1⟩, h20_1, tmd_1⟩ := TLa_get c_2 c_4 (hTL n (by omega))
  have c_6 : E (20 + n) 0 = .inr (5, [.int (nI n), (lyv ad lq_1), .ref (ad (20 + n) 1), .int op_1]) := by rw [← hpv2_1]; exact c_2
  have i20_1 : iN (g 20 n) = mk_1 := by rw [h20_1, iN_nI (by omega)]
  refine xlab (σ := Nat) (ml := 3) 2 (fun (k : Nat) => [(2, .int (nI k)), (0, .ref (ad (20 + n) 0)), (1, .int dx)]) (fun (k : Nat) => []) (fun (k : Nat) => rp ad E RL) (fun (k : Nat) => (k ≤ mk_1) ∧ (∀ j, j < k → ¬ dx = nI (mdv g n j))) (fun (k : Nat) => mk_1 - k) ?_ 0 _ _ _ (lv_sub hl [0, 1, 2] rfl) hP hD hS ⟨(show 0 ≤ mk_1 from by first | assumption | omega), (show ∀ j, j < 0 → ¬ dx = nI (mdv g n j) from fun j hj => absurd hj (by omega))⟩
  intro n9 ih7 a9 ls H locs hμ hl hP hD hS hI
  subst hμ
  obtain ⟨k, rfl⟩ : ∃ z, z = a9 := ⟨_, rfl⟩
  obtain ⟨hk9, hno⟩ := hI
  have hk9 : k ≤ mk_1 := hk9
  have hno : ∀ j, j < k → ¬ dx = nI (mdv g n j) := hno
  have hl : lv_has ls 3 [(2, .int (nI k)), (0, .ref (ad (20 + n) 0)), (1, .int dx)] := hl
  have hP : va_P D xcl (rp ad E RL) H := hP
  have hD : va_D A (rp ad E RL) := hD
  refine lv_iload_n hx hb xd_Ly_withDescriptor_2 rfl (lv_at hl 0 rfl) ?_
  refine lv_aload_n hx hb xd_Ly_withDescriptor_3 rfl (lv_at hl 1 rfl) ?_
  refine px_get (D := D) (ci := 5) (v := .ref (ad (20 + n) 1)) (C := xR_Ly) (T := xT_Ly) (N := 4) hx hb hT xi_Ly hown hK.1 hP m_3 c_6 rfl 2 (by decide) (hT _ k7x_6) (fun _ h9 => h9) rfl xd_Ly_withDescriptor_4 ?_
  refine px_alen hx hb hK.1 hP m_5 c_4 6 rfl xd_Ly_withDescriptor_7 ?_
  refine W.eq (g2 := F0 m 8 ls [.int (nI mk_1), .int (nI k)]) rfl ?_
  refine xn_ge (a := k) (b := mk_1) (tgt := 40) hx hb xd_Ly_withDescriptor_8 (by decide) (by omega) (by omega) (fun hc8 => ?_) (fun hc8 => ?_)
  · refine lv_null hx hb xd_Ly_withDescriptor_40 ?_
    exact W.aret (v := .null) hx hb hr (Or.inl ⟨_, rfl⟩) (Or.inl rfl) (fun t ht hW => ⟨⟨none, (), rfl, Or.inl ⟨rfl, fun j hj => hno j (by unfold mcv at hj; rw [i20_1] at hj; omega)⟩, by rw [ht]; exact hP, hD⟩, hS.F ht⟩) hS.2.2 xd_Ly_withDescriptor_41
  · refine lv_aload_n hx hb xd_Ly_withDescriptor_11 rfl (lv_at hl 1 rfl) ?_
    refine px_get (D := D) (ci := 5) (v := .ref (ad (20 + n) 1)) (C := xR_Ly) (T := xT_Ly) (N := 4) hx hb hT xi_Ly hown hK.1 hP m_3 c_6 rfl 2 (by decide) (hT _ k7x_6) (fun _ h9 => h9) rfl xd_Ly_withDescriptor_12 ?_
    refine lv_iload_n hx hb xd_Ly_withDescriptor_15 rfl (lv_at hl 0 rfl) ?_
    refine px_aald (i := k) (x := (some (ad (20 + n) (10 + 10 * k)))) hx hb hK.1 hP m_5 c_4 6 rfl ((hk_1 k (by omega)).1) (by omega) (by omega) xd_Ly_withDescriptor_16 ?_
    obtain ⟨hm_9, d_9, rs_9, fr_9, g2_9, g3_9, g4_9, hd_9, hrs_9, q0_9, q1_9, q2_9, q3_9, q4_9, q5_9, q6_9, q7_9⟩ := (hk_1 k (by omega)).2
    have c_10 : E (20 + n) (10 + 10 * k) = .inr (6, [.ref (ad (20 + n) 0), .ref (ad (1 + d_9) 0), .ref (ad (20 + n) (11 + 10 * k)), .ref (ad (20 + n) (12 + 10 * k)), .ref (ad (20 + n) (13 + 10 * k)), .ref (ad (20 + n) (14 + 10 * k))]) := q0_9
    have m_11 : (20 + n, 10 + 10 * k) ∈ RL := hm_9 0 (by decide)
    have c_12 : E (20 + n) (11 + 10 * k) = .inl (kA 6, rs_9, .inr (.inr (.inr (.inr fr_9)))) := q1_9
    have m_13 : (20 + n, 11 + 10 * k) ∈ RL := hm_9 1 (by decide)
    have c_14 : E (20 + n) (12 + 10 * k) = .inr (10, [.ref (ad (20 + n) (15 + 10 * k))]) := q2_9
    have m_15 : (20 + n, 12 + 10 * k) ∈ RL := hm_9 2 (by decide)
    have c_16 : E (20 + n) (13 + 10 * k) = .inr (10, [.ref (ad (20 + n) (16 + 10 * k))]) := q3_9
    have m_17 : (20 + n, 13 + 10 * k) ∈ RL := hm_9 3 (by decide)
    have c_18 : E (20 + n) (14 + 10 * k) = .inr (10, [.ref (ad (20 + n) (17 + 10 * k))]) := q4_9
    have m_19 : (20 + n, 14 + 10 * k) ∈ RL := hm_9 4 (by decide)
    have c_20 : E (20 + n) (15 + 10 * k) = .inl (kA 0, 6, .inl g2_9) := q5_9
    have m_21 : (20 + n, 15 + 10 * k) ∈ RL := hm_9 5 (by decide)
    have c_22 : E (20 + n) (16 + 10 * k) = .inl (kA 0, 6, .inl g3_9) := q6_9
    have m_23 : (20 + n, 16 + 10 * k) ∈ RL := hm_9 6 (by decide)
    have c_24 : E (20 + n) (17 + 10 * k) = .inl (kA 0, 6, .inl g4_9) := q7_9
    have m_25 : (20 + n, 17 + 10 * k) ∈ RL := hm_9 7 (by decide)
    have hdm_9 : mdv g n k = d_9 := by
      obtain ⟨dz, hdz, h21z, hvz⟩ := tmd_1 k (by omega)
      rw [c_10] at hvz
      have ez := (rp_inj hD ((hDIs d_9 hd_9).1 0 (by omega)) ((hDIs dz hdz).1 0 (by omega)) (Value.ref.inj hvz)).1
      unfold mdv
      rw [h21z, iN_nI (by omega)]; omega
    refine px_get (D := D) (ci := 6) (v := .ref (ad (1 + d_9) 0)) (C := xR_Me) (T := xT_Me) (N := 6) hx hb hT xi_Me hown hK.1 hP m_11 c_10 rfl 1 (by decide) (hT _ k7x_7) (fun _ h9 => h9) rfl xd_Ly_withDescriptor_17 ?_
    obtain ⟨hm_26, fd_26, nm_26, sd_26, k0_26, k1_26, k2_26, k3_26, f0_26, f1_26, f2_26, f3_26, fe_26, fo_26, tr_26, op_26, hk0_26, hk1_26, hk2_26, hk3_26, q0_26, q1_26, q2_26, q3_26, q4_26, q5_26, q6_26, q7_26, q8_26, q9_26, q10_26, q11_26, q12_26, hg_26⟩ := id (hDIs d_9 (by omega))
    have c_27 : E (1 + d_9) 0 = .inr (7, [.int (nI d_9), .int fd_26, .int nm_26, .ref (ad (1 + d_9) 1), .ref (ad (1 + d_9) 9), .ref (ad (1 + d_9) 10), .ref (ad (1 + d_9) 2), .ref (ad (1 + d_9) 11), .ref (ad (1 + d_9) 12), .ref (ad (1 + d_9) 3), .ref (ad (1 + d_9) 4), .int sd_26]) := q0_26
    have m_28 : (1 + d_9, 0) ∈ RL := hm_26 0 (by decide)
    have c_29 : E (1 + d_9) 1 = .inr (8, [.ref (ad (1 + d_9) 5), .int (nI k0_26)]) := q1_26
    have m_30 : (1 + d_9, 1) ∈ RL := hm_26 1 (by decide)
    have c_31 : E (1 + d_9) 2 = .inr (8, [.ref (ad (1 + d_9) 6), .int (nI k1_26)]) := q2_26
    have m_32 : (1 + d_9, 2) ∈ RL := hm_26 2 (by decide)
    have c_33 : E (1 + d_9) 3 = .inr (8, [.ref (ad (1 + d_9) 7), .int (nI k2_26)]) := q3_26
    have m_34 : (1 + d_9, 3) ∈ RL := hm_26 3 (by decide)
    have c_35 : E (1 + d_9) 4 = .inr (8, [.ref (ad (1 + d_9) 8), .int (nI k3_26)]) := q4_26
    have m_36 : (1 + d_9, 4) ∈ RL := hm_26 4 (by decide)
    have c_37 : E (1 + d_9) 5 = .inl (kA 0, 6, .inl f0_26) := q5_26
    have m_38 : (1 + d_9, 5) ∈ RL := hm_26 5 (by decide)
    have c_39 : E (1 + d_9) 6 = .inl (kA 0, 5, .inl f1_26) := q6_26
    have m_40 : (1 + d_9, 6) ∈ RL := hm_26 6 (by decide)
    have c_41 : E (1 + d_9) 7 = .inl (kA 0, 3, .inl f2_26) := q7_26
    have m_42 : (1 + d_9, 7) ∈ RL := hm_26 7 (by decide)
    have c_43 : E (1 + d_9) 8 = .inl (kA 0, 3, .inl f3_26) := q8_26
    have m_44 : (1 + d_9, 8) ∈ RL := hm_26 8 (by decide)
    have c_45 : E (1 + d_9) 9 = .inl (kA 8, 6, .inr (.inr (.inr (.inr fe_26)))) := q9_26
    have m_46 : (1 + d_9, 9) ∈ RL := hm_26 9 (by decide)
    have c_47 : E (1 + d_9) 10 = .inl (kA 8, 6, .inr (.inr (.inr (.inr fo_26)))) := q10_26
    have m_48 : (1 + d_9, 10) ∈ RL := hm_26 10 (by decide)
    have c_49 : E (1 + d_9) 11 = .inl (kA 2, 5, .inl tr_26) := q11_26
    have m_50 : (1 + d_9, 11) ∈ RL := hm_26 11 (by decide)
    have c_51 : E (1 + d_9) 12 = .inl (kA 2, 5, .inl op_26) := q12_26
    have m_52 : (1 + d_9, 12) ∈ RL := hm_26 12 (by decide)
    have hg_26 : ∀ w9, w9 < k0_26 → fe_26 w9 = some (ad (1 + d_9) (20 + 3 * w9)) ∧ fo_26 w9 = some (ad (1 + d_9) (38 + 3 * w9)) ∧ GI kA (ad (1 + d_9)) (E (1 + d_9)) (fun o => (1 + d_9, o) ∈ RL) (20 + 3 * w9) (21 + 3 * w9) (22 + 3 * w9) ∧ GI kA (ad (1 + d_9)) (E (1 + d_9)) (fun o => (1 + d_9, o) ∈ RL) (38 + 3 * w9) (39 + 3 * w9) (40 + 3 * w9) := hg_26
    obtain ⟨hTT_26, tgr_26⟩ := TD_get hk0_26 hk1_26 hk2_26 hk3_26 c_27 c_29 c_31 c_33 c_35 c_37 c_39 c_41 c_43 c_49 c_51 (hTD d_9 (by omega))
    obtain ⟨tfd_26, tnm_26, tsd_26, tk0_26, tf0_26, tk1_26, tf1_26, tk2_26, tk3_26⟩ := id hTT_26
    have ik0_26 : iN (g 5 d_9) = k0_26 := by rw [← tk0_26, iN_nI (by omega)]
    have ik1_26 : iN (g 12 d_9) = k1_26 := by rw [← tk1_26, iN_nI (by omega)]
    refine px_get (D := D) (ci := 7) (v := .int (nI d_9)) (C := xR_Ds) (T := xT_Ds) (N := 12) hx hb hT xi_Ds hown hK.1 hP m_28 c_27 rfl 0 (by decide) (hT _ k7x_8) (fun _ h9 => h9) rfl xd_Ly_withDescriptor_20 ?_
    refine lv_iload_n hx hb xd_Ly_withDescriptor_23 rfl (lv_at hl 2 rfl) ?_
    refine lv_icmp_ne (tgt := 34) hx hb xd_Ly_withDescriptor_24 (by decide) (fun hc53 => ?_) (fun hc53 => ?_)
    · refine lv_iinc (k := 0) (x := (nI k)) (v := (nI (k + 1))) hx hb xd_Ly_withDescriptor_34 hl rfl (xb_inc k 1) (Nat.le_of_ble_eq_true rfl) rfl (fun ls hl => ?_)
      have hl : lv_has ls 3 [(2, .int (nI (k + 1))), (0, .ref (ad (20 + n) 0)), (1, .int dx)] := hl
      refine lv_goto (tgt := 2) hx hb xd_Ly_withDescriptor_37 (by decide) ?_
      exact ih7 (k + 1) _ _ _ (show mk_1 - (k + 1) < mk_1 - k by omega) (lv_sub hl [0, 1, 2] rfl) hP hD hS ⟨(show (k + 1) ≤ mk_1 from by first | assumption | omega), (show ∀ j, j < (k + 1) → ¬ dx = nI (mdv g n j) from fun j hj => by
        rcases Nat.lt_or_ge j k with z | z
        · exact hno j z
        · rw [show j = k by omega, hdm_9]; exact fun q => hc53 q.symm)⟩
    · refine lv_aload_n hx hb xd_Ly_withDescriptor_27 rfl (lv_at hl 1 rfl) ?_
      refine px_get (D := D) (ci := 5) (v := .ref (ad (20 + n) 1)) (C := xR_Ly) (T := xT_Ly) (N := 4) hx hb hT xi_Ly hown hK.1 hP m_3 c_6 rfl 2 (by decide) (hT _ k7x_6) (fun _ h9 => h9) rfl xd_Ly_withDescriptor_28 ?_
      refine lv_iload_n hx hb xd_Ly_withDescriptor_31 rfl (lv_at hl 0 rfl) ?_
      refine px_aald (i := k) (x := (some (ad (20 + n) (10 + 10 * k)))) hx hb hK.1 hP m_5 c_4 6 rfl ((hk_1 k (by omega)).1) (by omega) (by omega) xd_Ly_withDescriptor_32 ?_
      exact W.aret (v := .ref (ad (20 + n) (10 + 10 * k))) hx hb hr (Or.inl ⟨_, rfl⟩) (Or.inr ⟨_, rfl⟩) (fun t ht hW => ⟨⟨(some (ad (20 + n) (10 + 10 * k))), (), rfl, Or.inr ⟨k, by unfold mcv; rw [i20_1]; omega, by rw [hdm_9]; exact hc53.symm, rfl, (hk_1 k (by omega)).2⟩, by rw [ht]; exact hP, hD⟩, hS.F ht⟩) hS.2.2 xd_Ly_withDescriptor_33
set_option maxHeartbeats 4000000 in
set_option maxRecDepth 100000 in
theorem xc_De_memberOfA (l : Launch) (D : va_G) (kA : Nat → ClassId) (sz : Nat) (ad : Nat → Nat → Nat) (E : Nat → Nat → va_E) (RL : List (Nat × Nat)) (g : Nat → Nat → Int32) (ml : Nat) (nd : Nat) (len : Nat) (wn : Nat) (cs : Nat) (ix : Int32) (dx : Int32) (hCI : CI kA ad E RL ml nd len wn cs) (hTD : TDs g E nd) (hTL : TLas g ad E nd ml) : Met l xy_De_memberOf (.code xy_De_memberOf xb_De_memberOf 4 (some (.object "LayerDesk$Member")) :: wT) { frames := 1, cells := 0, slots := 0, locals := 22 } (va_Pc [.ref (ad 0 0), .int ix, .int dx] (xPre D kA sz (rp ad E RL))) (va_Qq (fun (r : Option Nat) (u : Unit) => (r = none ∧ ¬ ∃ la d, thQ g nd ml ix dx la d) ∨ ∃ x k, thQ g nd ml ix dx x (mdv g x k) ∧ k < mcv g x ∧ r = some (ad (20 + x) (10 + 10 * k)) ∧ MEI kA ad E RL nd x k) (fun (u : Unit) t => va_P D xcl (rp ad E RL) t.heap ∧ va_D (va_A (rp ad E RL) sz) (rp ad E RL)) (va_A (rp ad E RL) sz)) 0 0 (va_A (rp ad E RL) sz) := by
  refine Met.ofW (cc := xb_De_memberOf) (maxL := 4) (ret := (some (.object "LayerDesk$Member"))) (by decide) rfl ?_
  intro p e s m args below meth c s₁ B hml hv
  obtain ⟨rfl, hsz, hP, hK, hD0⟩ := hv
  have hx := B.exec
  have hb := B.bytes
  have hr := B.returns
  have hT := x_hT B.pre
  have hown : s.vm.findClass xR_De = some m.cls := findClass_of_methodNamed B.named
  have hlocks := B.notSynchronized
  subst hsz
  have hD := hD0.self (sz := s.heap.size)
  generalize hAe : va_A (rp ad E RL) s.heap.size = A at hD ⊢
  have hA : ∀ q : Nat, s.heap.size ≤ q → A q := fun q h => by rw [← hAe]; exact Or.inr h
  have hS : va_S A s.heap s.heap [] := va_S.rf
  have hl := lv_entry ([.ref (ad 0 0), .int ix, .int dx]) (n := 4) (Nat.le_of_ble_eq_true rfl)
  rw [lg_entry_eq]
  generalize (lg_sl ([.ref (ad 0 0), .int ix, .int dx]) ++ List.replicate (4 - (lg_sl ([.ref (ad 0 0), .int ix, .int dx])).length) Slot.unset).toArray = ls at hl ⊢
  have hl : lv_has ls 4 [(0, .ref (ad 0 0)), (1, .int ix), (2, .int dx)] := hl
  have hP : va_P D xcl (rp ad E RL) s.heap := hP
  obtain ⟨hmB, hDk, hLi, hSh, hCh, hLa, hDIs, hLIs⟩ := id hCI
  obtain ⟨fl_1, hml_1, q9_1, hla_1⟩ := id (hLa)
  have c_2 : E 0 9 = .inl (kA 5, 5, .inr (.inr (.inr (.inr fl_1)))) := q9_1
  have m_3 : (0, 9) ∈ RL := hmB 9 (by decide)
  obtain ⟨_, hnd12, hml5, _, _⟩ := CI_b hCI
  have hLKP : LKP g ml := LKP_C hCI hTL
  have hmcb : ∀ la, la < ml → mcv g la ≤ 12 := fun la hl9 => (hLKP.2 la hl9).1
  refine lv_aload_n hx hb xd_De_memberOf_0 rfl (lv_at hl 0 rfl) ?_
  refine lv_iload_n hx hb xd_De_memberOf_1 rfl (lv_at hl 1 rfl) ?_
  have hFc := px_free hD hS hA
  obtain ⟨lf_4, q_4⟩ := id (hDk)
  have c_5 : E 0 0 = .inr (0, [.ref (ad 0 1), .ref (ad 0 5), .ref (ad 0 7), .ref (ad 0 9), .int (nI ml), .int lf_4]) := q_4
  have m_6 : (0, 0) ∈ RL := hmB 0 (by decide)
  refine va_callq (va_runV (As := [.int ix]) (rest := []) ⟨hx, hb, hml, hown, hT⟩ (xc_De_openLayerX l D kA s.heap.size ad E RL g ml nd len wn cs ix (by first | assumption | omega) (by first | assumption | omega)) (cwV 1 hT (wT_V k7x_1 k7x_2 k7x_3 k7x_4 k7x_0) rfl rfl rfl (by decide +kernel) ⟨Nat.le_of_ble_eq_true rfl, Nat.le_of_ble_eq_true rfl⟩) (px_preV hK hP hD m_6 c_5 rfl) rfl rfl hl.1 rfl (lv_room (Nat.le_of_ble_eq_true rfl)) xd_De_memberOf_2 ⟨(Nat.le_of_ble_eq_true rfl), (Nat.le_of_ble_eq_true rfl)⟩) hS (fun q _ h => hFc q h) hFc (fun r7 u8 t H1 locs ht hvm hp9 hB hz1 hk1 hS => ?_)
  obtain ⟨hP1, hD1⟩ := hB
  rw [ht] at hP1
  have hD1 := hD1.weaken (fun _ _ _ h => hFc _ h)
  generalize H1 = H at hP1 hS ⊢
  have hP := hP1
  have hD := hD1
  have hP : va_P D xcl (rp ad E RL) H := hP
  have hD : va_D A (rp ad E RL) := hD
  rcases hp9 with ⟨rfl, z10⟩ | ⟨z11, z12, z13, z14, rfl⟩
  · refine W.eq (g2 := F0 m 5 ls [.null]) rfl ?_
    refine lv_astore_nN hx hb xd_De_memberOf_5 rfl hl (Nat.le_of_ble_eq_true rfl) rfl (fun ls hl => ?_)
    have hl : lv_has ls 4 [(3, .null), (0, .ref (ad 0 0)), (1, .int ix), (2, .int dx)] := hl
    refine lv_aload_nN hx hb xd_De_memberOf_6 rfl (lv_at hl 0 rfl) ?_
    refine lv_ifnonnullN hx hb xd_De_memberOf_7 ?_
    refine lv_null hx hb xd_De_memberOf_10 ?_
    refine lv_goto (tgt := 19) hx hb xd_De_memberOf_11 (by decide) ?_
    exact W.aret (v := .null) hx hb hr (Or.inl ⟨_, rfl⟩) (Or.inl rfl) (fun t ht hW => ⟨⟨none, (), rfl, Or.inl ⟨rfl, fun ⟨la9, d9, q⟩ => z10 ⟨la9, q.1, q.2.1, q.2.2.1⟩⟩, by rw [ht]; exact hP, hD⟩, hS.F ht⟩) hS.2.2 xd_De_memberOf_19
  · refine W.eq (g2 := F0 m 5 ls [.ref (ad (20 + z11) 0)]) rfl ?_
    refine lv_astore_n hx hb xd_De_memberOf_5 rfl hl (Nat.le_of_ble_eq_true rfl) rfl (fun ls hl => ?_)
    have hl : lv_has ls 4 [(3, .ref (ad (20 + z11) 0)), (0, .ref (ad 0 0)), (1, .int ix), (2, .int dx)] := hl
    refine lv_aload_n hx hb xd_De_memberOf_6 rfl (lv_at hl 0 rfl) ?_
    refine lv_ifnonnull (tgt := 14) hx hb xd_De_memberOf_7 (by decide) ?_
    refine lv_aload_n hx hb xd_De_memberOf_14 rfl (lv_at hl 0 rfl) ?_
    refine lv_iload_n hx hb xd_De_memberOf_15 rfl (lv_at hl 3 rfl) ?_
    have hFc := px_free hD hS hA
    obtain ⟨m0_15, m1_15, pv_15, op_15, mk_15, fm_15, hmk_15, hpv_15, q0_15, q1_15, hk_15⟩ := id (hLIs z11 (by omega))
    have c_16 : E (20 + z11) 0 = .inr (5, [.int (nI z11), pv_15, .ref (ad (20 + z11) 1), .int op_15]) := q0_15
    have m_17 : (20 + z11, 0) ∈ RL := m0_15
    have c_18 : E (20 + z11) 1 = .inl (kA 6, mk_15, .inr (.inr (.inr (.inr fm_15)))) := q1_15
    have m_19 : (20 + z11, 1) ∈ RL := m1_15
    obtain ⟨top_15, ⟨lq_15, hlq_15, h19_15, hpv2_15⟩, h20_15, tmd_15⟩ := TLa_get c_16 c_18 (hTL z11 (by omega))
    have c_20 : E (20 + z11) 0 = .inr (5, [.int (nI z11), (lyv ad lq_15), .ref (ad (20 + z11) 1), .int op_15]) := by rw [← hpv2_15]; exact c_16
    have i20_15 : iN (g 20 z11) = mk_15 := by rw [h20_15, iN_nI (by omega)]
    refine va_callq (va_runV (As := [.int dx]) (rest := []) ⟨hx, hb, hml, hown, hT⟩ (xc_Ly_withDescriptorA l D kA H.size ad E RL g nd ml z11 dx (by first | assumption | omega) (by first | assumption | omega) (by first | assumption | omega) (by first | assumption | omega) (by first | assumption | omega) (by first | assumption | omega) (by first | assumption | omega)) (cwV 1 hT (wT_V k7x_10 k7x_11 k7x_12 k7x_13 k7x_9) rfl rfl rfl (by decide +kernel) ⟨Nat.le_of_ble_eq_true rfl, Nat.le_of_ble_eq_true rfl⟩) (px_preV hK hP hD m_17 c_20 rfl) rfl rfl hl.1 rfl (lv_room (Nat.le_of_ble_eq_true rfl)) xd_De_memberOf_16 ⟨(Nat.le_of_ble_eq_true rfl), (Nat.le_of_ble_eq_true rfl)⟩) hS (fun q _ h => hFc q h) hFc (fun r21 u22 t H1 locs ht hvm hp23 hB hz1 hk1 hS => ?_)
    obtain ⟨hP1, hD1⟩ := hB
    rw [ht] at hP1
    have hD1 := hD1.weaken (fun _ _ _ h => hFc _ h)
    generalize H1 = H at hP1 hS ⊢
    have hP := hP1
    have hD := hD1
    have hP : va_P D xcl (rp ad E RL) H := hP
    have hD : va_D A (rp ad E RL) := hD
    rcases hp23 with ⟨rfl, z24⟩ | ⟨z25, z26, z27, rfl, z28⟩
    · refine W.eq (g2 := F0 m 19 ls [.null]) rfl ?_
      exact W.aret (v := .null) hx hb hr (Or.inl ⟨_, rfl⟩) (Or.inl rfl) (fun t ht hW => ⟨⟨none, (), rfl, Or.inl ⟨rfl, fun ⟨la9, d9, q1, q2, q3, q4, q5, k9, q6, q7⟩ => by
        have e1 := nI_inj9 (by omega) (by omega) (z13.symm.trans q2)
        rw [← e1] at q6 q7
        exact z24 k9 q6 (by rw [q7]; exact q4)⟩, by rw [ht]; exact hP, hD⟩, hS.F ht⟩) hS.2.2 xd_De_memberOf_19
    · refine W.eq (g2 := F0 m 19 ls [.ref (ad (20 + z11) (10 + 10 * z25))]) rfl ?_
      exact W.aret (v := .ref (ad (20 + z11) (10 + 10 * z25))) hx hb hr (Or.inl ⟨_, rfl⟩) (Or.inr ⟨_, rfl⟩) (fun t ht hW => ⟨⟨(some (ad (20 + z11) (10 + 10 * z25))), (), rfl, Or.inr ⟨z11, z25, ⟨z12, z13, z14, z27, T_md hnd12 z12 hLIs hTL z26, z25, z26, rfl⟩, z26, rfl, z28⟩, by rw [ht]; exact hP, hD⟩, hS.F ht⟩) hS.2.2 xd_De_memberOf_19
set_option maxHeartbeats 4000000 in
set_option maxRecDepth 100000 in
theorem xc_Ds_opensToA (l : Launch) (D : va_G) (kA : Nat → ClassId) (sz : Nat) (ad : Nat → Nat → Nat) (E : Nat → Nat → va_E) (RL : List (Nat × Nat)) (g : Nat → Nat → Int32) (nd : Nat) (d : Nat) (pn : Int32) (rd : Int32) (hDIs : DIs kA ad E RL nd) (hd : d < nd) (hTD : TDs g E nd) (hrd0 : ¬ rd = 0) : Met l xy_Ds_opensTo (.code xy_Ds_opensTo xb_Ds_opensTo 4 (some .boolean) :: wT) { frames := 2, cells := 0, slots := 0, locals := 43 } (va_Pc [.ref (ad (1 + d) 0), .int pn, .int rd] (xPre D kA sz (rp ad E RL))) (va_Qi (fun (r : Int32) (u : Unit) => (r = 1 ∧ (∃ i, pI g d pn = some i ∧ opnP g (6 * d + i) rd)) ∨ (r = 0 ∧ ¬ (∃ i, pI g d pn = some i ∧ opnP g (6 * d + i) rd))) (fun (u : Unit) t => va_P D xcl (rp ad E RL) t.heap ∧ va_D (va_A (rp ad E RL) sz) (rp ad E RL)) (va_A (rp ad E RL) sz)) 0 0 (va_A (rp ad E RL) sz) := by
  refine Met.ofW (cc := xb_Ds_opensTo) (maxL := 4) (ret := (some .boolean)) (by decide) rfl ?_
  intro p e s m args below meth c s₁ B hml hv
  obtain ⟨rfl, hsz, hP, hK, hD0⟩ := hv
  have hx := B.exec
  have hb := B.bytes
  have hr := B.returns
  have hT := x_hT B.pre
  have hown : s.vm.findClass xR_Ds = some m.cls := findClass_of_methodNamed B.named
  have hlocks := B.notSynchronized
  subst hsz
  have hD := hD0.self (sz := s.heap.size)
  generalize hAe : va_A (rp ad E RL) s.heap.size = A at hD ⊢
  have hA : ∀ q : Nat, s.heap.size ≤ q → A q := fun q h => by rw [← hAe]; exact Or.inr h
  have hS : va_S A s.heap s.heap [] := va_S.rf
  have hl := lv_entry ([.ref (ad (1 + d) 0), .int pn, .int rd]) (n := 4) (Nat.le_of_ble_eq_true rfl)
  rw [lg_entry_eq]
  generalize (lg_sl ([.ref (ad (1 + d) 0), .int pn, .int rd]) ++ List.replicate (4 - (lg_sl ([.ref (ad (1 + d) 0), .int pn, .int rd])).length) Slot.unset).toArray = ls at hl ⊢
  have hl : lv_has ls 4 [(0, .ref (ad (1 + d) 0)), (1, .int pn), (2, .int rd)] := hl
  have hP : va_P D xcl (rp ad E RL) s.heap := hP
  refine lv_aload_n hx hb xd_Ds_opensTo_0 rfl (lv_at hl 0 rfl) ?_
  obtain ⟨hm_1, fd_1, nm_1, sd_1, k0_1, k1_1, k2_1, k3_1, f0_1, f1_1, f2_1, f3_1, fe_1, fo_1, tr_1, op_1, hk0_1, hk1_1, hk2_1, hk3_1, q0_1, q1_1, q2_1, q3_1, q4_1, q5_1, q6_1, q7_1, q8_1, q9_1, q10_1, q11_1, q12_1, hg_1⟩ := id (hDIs d (by omega))
  have c_2 : E (1 + d) 0 = .inr (7, [.int (nI d), .int fd_1, .int nm_1, .ref (ad (1 + d) 1), .ref (ad (1 + d) 9), .ref (ad (1 + d) 10), .ref (ad (1 + d) 2), .ref (ad (1 + d) 11), .ref (ad (1 + d) 12), .ref (ad (1 + d) 3), .ref (ad (1 + d) 4), .int sd_1]) := q0_1
  have m_3 : (1 + d, 0) ∈ RL := hm_1 0 (by decide)
  have c_4 : E (1 + d) 1 = .inr (8, [.ref (ad (1 + d) 5), .int (nI k0_1)]) := q1_1
  have m_5 : (1 + d, 1) ∈ RL := hm_1 1 (by decide)
  have c_6 : E (1 + d) 2 = .inr (8, [.ref (ad (1 + d) 6), .int (nI k1_1)]) := q2_1
  have m_7 : (1 + d, 2) ∈ RL := hm_1 2 (by decide)
  have c_8 : E (1 + d) 3 = .inr (8, [.ref (ad (1 + d) 7), .int (nI k2_1)]) := q3_1
  have m_9 : (1 + d, 3) ∈ RL := hm_1 3 (by decide)
  have c_10 : E (1 + d) 4 = .inr (8, [.ref (ad (1 + d) 8), .int (nI k3_1)]) := q4_1
  have m_11 : (1 + d, 4) ∈ RL := hm_1 4 (by decide)
  have c_12 : E (1 + d) 5 = .inl (kA 0, 6, .inl f0_1) := q5_1
  have m_13 : (1 + d, 5) ∈ RL := hm_1 5 (by decide)
  have c_14 : E (1 + d) 6 = .inl (kA 0, 5, .inl f1_1) := q6_1
  have m_15 : (1 + d, 6) ∈ RL := hm_1 6 (by decide)
  have c_16 : E (1 + d) 7 = .inl (kA 0, 3, .inl f2_1) := q7_1
  have m_17 : (1 + d, 7) ∈ RL := hm_1 7 (by decide)
  have c_18 : E (1 + d) 8 = .inl (kA 0, 3, .inl f3_1) := q8_1
  have m_19 : (1 + d, 8) ∈ RL := hm_1 8 (by decide)
  have c_20 : E (1 + d) 9 = .inl (kA 8, 6, .inr (.inr (.inr (.inr fe_1)))) := q9_1
  have m_21 : (1 + d, 9) ∈ RL := hm_1 9 (by decide)
  have c_22 : E (1 + d) 10 = .inl (kA 8, 6, .inr (.inr (.inr (.inr fo_1)))) := q10_1
  have m_23 : (1 + d, 10) ∈ RL := hm_1 10 (by decide)
  have c_24 : E (1 + d) 11 = .inl (kA 2, 5, .inl tr_1) := q11_1
  have m_25 : (1 + d, 11) ∈ RL := hm_1 11 (by decide)
  have c_26 : E (1 + d) 12 = .inl (kA 2, 5, .inl op_1) := q12_1
  have m_27 : (1 + d, 12) ∈ RL := hm_1 12 (by decide)
  have hg_1 : ∀ w9, w9 < k0_1 → fe_1 w9 = some (ad (1 + d) (20 + 3 * w9)) ∧ fo_1 w9 = some (ad (1 + d) (38 + 3 * w9)) ∧ GI kA (ad (1 + d)) (E (1 + d)) (fun o => (1 + d, o) ∈ RL) (20 + 3 * w9) (21 + 3 * w9) (22 + 3 * w9) ∧ GI kA (ad (1 + d)) (E (1 + d)) (fun o => (1 + d, o) ∈ RL) (38 + 3 * w9) (39 + 3 * w9) (40 + 3 * w9) := hg_1
  obtain ⟨hTT_1, tgr_1⟩ := TD_get hk0_1 hk1_1 hk2_1 hk3_1 c_2 c_4 c_6 c_8 c_10 c_12 c_14 c_16 c_18 c_24 c_26 (hTD d (by omega))
  obtain ⟨tfd_1, tnm_1, tsd_1, tk0_1, tf0_1, tk1_1, tf1_1, tk2_1, tk3_1⟩ := id hTT_1
  have ik0_1 : iN (g 5 d) = k0_1 := by rw [← tk0_1, iN_nI (by omega)]
  have ik1_1 : iN (g 12 d) = k1_1 := by rw [← tk1_1, iN_nI (by omega)]
  refine px_get (D := D) (ci := 7) (v := .ref (ad (1 + d) 1)) (C := xR_Ds) (T := xT_Ds) (N := 12) hx hb hT xi_Ds hown hK.1 hP m_3 c_2 rfl 3 (by decide) (hT _ k7x_14) (fun _ h9 => h9) rfl xd_Ds_opensTo_1 ?_
  refine lv_iload_n hx hb xd_Ds_opensTo_4 rfl (lv_at hl 1 rfl) ?_
  have hFc := px_free hD hS hA
  refine va_calli (va_runV (As := [.int pn]) (rest := []) ⟨hx, hb, hml, hown, hT⟩ (xc_Na_indexOf l D kA s.heap.size ad E RL (1 + d) 1 5 6 k0_1 f0_1 pn m_5 c_4 m_13 c_12 (by first | assumption | omega) (by first | assumption | omega)) (cwV 1 hT (wT_V k7x_16 k7x_17 k7x_18 k7x_19 k7x_15) rfl rfl rfl (by decide +kernel) ⟨Nat.le_of_ble_eq_true rfl, Nat.le_of_ble_eq_true rfl⟩) (px_preV hK hP hD m_5 c_4 rfl) rfl rfl hl.1 rfl (lv_room (Nat.le_of_ble_eq_true rfl)) xd_Ds_opensTo_5 ⟨(Nat.le_of_ble_eq_true rfl), (Nat.le_of_ble_eq_true rfl)⟩) hS (fun q _ h => hFc q h) hFc (fun r28 u29 t H1 locs ht hvm hp30 hB hz1 hk1 hS => ?_)
  obtain ⟨hP1, hD1⟩ := hB
  rw [ht] at hP1
  have hD1 := hD1.weaken (fun _ _ _ h => hFc _ h)
  generalize H1 = H at hP1 hS ⊢
  have hP := hP1
  have hD := hD1
  have hP : va_P D xcl (rp ad E RL) H := hP
  have hD : va_D A (rp ad E RL) := hD
  rcases hp30 with ⟨z31, z32, rfl, z33, z34⟩ | ⟨rfl, z35⟩
  · refine W.eq (g2 := F0 m 8 ls [.int (nI z31)]) rfl ?_
    refine lv_istore_n hx hb xd_Ds_opensTo_8 rfl hl (Nat.le_of_ble_eq_true rfl) rfl (fun ls hl => ?_)
    have hl : lv_has ls 4 [(3, .int (nI z31)), (0, .ref (ad (1 + d) 0)), (1, .int pn), (2, .int rd)] := hl
    refine lv_iload_n hx hb xd_Ds_opensTo_9 rfl (lv_at hl 0 rfl) ?_
    refine xz_lt (a := z31) (tgt := 30) hx hb xd_Ds_opensTo_10 (by decide) (by omega) ?_
    refine lv_aload_n hx hb xd_Ds_opensTo_13 rfl (lv_at hl 1 rfl) ?_
    refine px_get (D := D) (ci := 7) (v := .ref (ad (1 + d) 10)) (C := xR_Ds) (T := xT_Ds) (N := 12) hx hb hT xi_Ds hown hK.1 hP m_3 c_2 rfl 5 (by decide) (hT _ k7x_20) (fun _ h9 => h9) rfl xd_Ds_opensTo_14 ?_
    refine lv_iload_n hx hb xd_Ds_opensTo_17 rfl (lv_at hl 0 rfl) ?_
    refine px_aald (i := z31) (x := (some (ad (1 + d) (38 + 3 * z31)))) hx hb hK.1 hP m_23 c_22 8 rfl ((hg_1 z31 (by omega)).2.1) (by omega) (by decide) xd_Ds_opensTo_18 ?_
    refine lv_iload_n hx hb xd_Ds_opensTo_19 rfl (lv_at hl 3 rfl) ?_
    obtain ⟨m0_37, m1_37, m2_37, ta_37, n_37, f_37, hn_37, q0_37, q1_37, q2_37⟩ := (hg_1 z31 (by omega)).2.2.2
    have c_38 : E (1 + d) (38 + 3 * z31) = .inr (9, [.ref (ad (1 + d) (39 + 3 * z31)), .int ta_37]) := q0_37
    have m_39 : (1 + d, 38 + 3 * z31) ∈ RL := m0_37
    have c_40 : E (1 + d) (39 + 3 * z31) = .inr (8, [.ref (ad (1 + d) (40 + 3 * z31)), .int (nI n_37)]) := q1_37
    have m_41 : (1 + d, 39 + 3 * z31) ∈ RL := m1_37
    have c_42 : E (1 + d) (40 + 3 * z31) = .inl (kA 0, 3, .inl f_37) := q2_37
    have m_43 : (1 + d, 40 + 3 * z31) ∈ RL := m2_37
    have hFc := px_free hD hS hA
    refine va_calli (va_runV (As := [.int rd]) (rest := []) ⟨hx, hb, hml, hown, hT⟩ (xc_Gr_covers l D kA H.size ad E RL (1 + d) (38 + 3 * z31) (39 + 3 * z31) (40 + 3 * z31) ta_37 n_37 f_37 rd m_39 c_38 m_41 c_40 m_43 c_42 (by first | assumption | omega)) (cwV 1 hT (wT_V k7x_22 k7x_23 k7x_24 k7x_25 k7x_21) rfl rfl rfl (by decide +kernel) ⟨Nat.le_of_ble_eq_true rfl, Nat.le_of_ble_eq_true rfl⟩) (px_preV hK hP hD m_39 c_38 rfl) rfl rfl hl.1 rfl (lv_room (Nat.le_of_ble_eq_true rfl)) xd_Ds_opensTo_20 ⟨(Nat.le_of_ble_eq_true rfl), (Nat.le_of_ble_eq_true rfl)⟩) hS (fun q _ h => hFc q h) hFc (fun r44 u45 t H1 locs ht hvm hp46 hB hz1 hk1 hS => ?_)
    obtain ⟨hP1, hD1⟩ := hB
    rw [ht] at hP1
    have hD1 := hD1.weaken (fun _ _ _ h => hFc _ h)
    generalize H1 = H at hP1 hS ⊢
    have hP := hP1
    have hD := hD1
    have hP : va_P D xcl (rp ad E RL) H := hP
    have hD : va_D A (rp ad E RL) := hD
    rcases hp46 with ⟨rfl, z47⟩ | ⟨rfl, z48, z49⟩
    · refine W.eq (g2 := F0 m 23 ls [.int 1]) rfl ?_
      refine lv_if_eq (tgt := 30) hx hb xd_Ds_opensTo_23 (by decide) (fun hc50 => absurd hc50 (by decide)) (fun _ => ?_)
      refine lv_iconst (v := 1) hx hb xd_Ds_opensTo_26 (by decide) ?_
      refine lv_goto (tgt := 31) hx hb xd_Ds_opensTo_27 (by decide) ?_
      exact W.zret (v := 1) hx hb hr rfl (fun t ht hW => ⟨⟨1, (), rfl, Or.inl ⟨rfl, z31, (pI_y hk0_1 tk0_1 tf0_1 z32 z33 z34), (opnP_c (p := 6 * d + z31) hn_37 hrd0 (TG_get hn_37 c_38 c_40 c_42 (tgr_1 z31 (by omega)).2).1 (TG_get hn_37 c_38 c_40 c_42 (tgr_1 z31 (by omega)).2).2).mpr z47⟩, by rw [ht]; exact hP, hD⟩, hS.F ht⟩) hS.2.2 xd_Ds_opensTo_31
    · refine W.eq (g2 := F0 m 23 ls [.int 0]) rfl ?_
      refine lv_if_eq (tgt := 30) hx hb xd_Ds_opensTo_23 (by decide) (fun _ => ?_) (fun hc51 => absurd (by decide) hc51)
      refine lv_iconst (v := 0) hx hb xd_Ds_opensTo_30 (by decide) ?_
      exact W.zret (v := 0) hx hb hr rfl (fun t ht hW => ⟨⟨0, (), rfl, Or.inr ⟨rfl, fun ⟨i9, q1, q2⟩ => by
        rw [(pI_y hk0_1 tk0_1 tf0_1 z32 z33 z34)] at q1
        rw [← Option.some.inj q1] at q2
        rcases (opnP_c (p := 6 * d + z31) hn_37 hrd0 (TG_get hn_37 c_38 c_40 c_42 (tgr_1 z31 (by omega)).2).1 (TG_get hn_37 c_38 c_40 c_42 (tgr_1 z31 (by omega)).2).2).mp q2 with q | ⟨k9, q3, q4⟩
        · exact q z48
        · exact z49 k9 q3 q4⟩, by rw [ht]; exact hP, hD⟩, hS.F ht⟩) hS.2.2 xd_Ds_opensTo_31
  · refine W.eq (g2 := F0 m 8 ls [.int (-1)]) rfl ?_
    refine lv_istore_n hx hb xd_Ds_opensTo_8 rfl hl (Nat.le_of_ble_eq_true rfl) rfl (fun ls hl => ?_)
    have hl : lv_has ls 4 [(3, .int (-1)), (0, .ref (ad (1 + d) 0)), (1, .int pn), (2, .int rd)] := hl
    refine lv_iload_n hx hb xd_Ds_opensTo_9 rfl (lv_at hl 0 rfl) ?_
    refine lv_if_lt (tgt := 30) hx hb xd_Ds_opensTo_10 (by decide) (fun _ => ?_) (fun hc52 => absurd (by decide) hc52)
    refine lv_iconst (v := 0) hx hb xd_Ds_opensTo_30 (by decide) ?_
    exact W.zret (v := 0) hx hb hr rfl (fun t ht hW => ⟨⟨0, (), rfl, Or.inr ⟨rfl, fun ⟨i9, q1, q2⟩ => by rw [pI_x hk0_1 tk0_1 tf0_1 z35] at q1; cases q1⟩, by rw [ht]; exact hP, hD⟩, hS.F ht⟩) hS.2.2 xd_Ds_opensTo_31
set_option maxHeartbeats 4000000 in
set_option maxRecDepth 100000 in
theorem xc_De_peekA (l : Launch) (hlt : l.stackTraces = false) (D : va_G) (kA : Nat → ClassId) (sz : Nat) (ad : Nat → Nat → Nat) (E : Nat → Nat → va_E) (RL : List (Nat × Nat)) (Z : zT) (g : Nat → Nat → Int32) (ml : Nat) (nd : Nat) (len : Nat) (wn : Nat) (cs : Nat) (ix : Int32) (kx : Int32) (tx : Int32) (dx : Int32) (hCI : CI kA ad E RL ml nd len wn cs) (hXT : XT g ad E nd ml len) : vx_Met l xy_De_peek (.code xy_De_peek xb_De_peek 8 (some .boolean) :: wT) { frames := 6, cells := 1, slots := 6, locals := 82 } (va_Pc [.ref (ad 0 0), .int ix, .int kx, .int tx, .int dx] (xPreZ D kA sz (rp ad E RL) Z)) (va_Qi (fun (r : Int32) (u : Nat → Nat → va_E) => ((∃ wn2, CI kA ad u RL ml nd 0 wn2 cs) ∧ F134 E u) ∧ pkA g nd ml (n1 (g 0) (w_all (g 0) len)) ix kx tx dx 0 r) (fun (u : Nat → Nat → va_E) t => va_P D xcl (rp ad u RL) t.heap ∧ va_D (va_A (rp ad E RL) sz) (rp ad u RL)) (va_A (rp ad E RL) sz)) (vx_X (fun (u : Nat → Nat → va_E) => ((∃ wn2, CI kA ad u RL ml nd 0 wn2 cs) ∧ F134 E u)) (fun E9 u t => ((E9 = "java/lang/IllegalArgumentException" ∧ ((n1 (g 0) (w_all (g 0) len)) = 0 ∨ (¬ ∃ la kn, moQ g ml ix kx la kn) ∨ ¬ ∃ la d, thQ g nd ml tx dx la d)) ∨ (E9 = "java/util/NoSuchElementException" ∧ (¬ (n1 (g 0) (w_all (g 0) len)) = 0 ∧ ∃ la kn la2 d2, moQ g ml ix kx la kn ∧ thQ g nd ml tx dx la2 d2 ∧ pI g d2 (n1 (g 0) (w_all (g 0) len)) = none))) ∧ va_P D xcl (rp ad u RL) t.heap ∧ va_D (va_A (rp ad E RL) sz) (rp ad u RL)) (va_A (rp ad E RL) sz)) 1 6 (va_A (rp ad E RL) sz) := by
  refine vx_ofW (cc := xb_De_peek) (maxL := 8) (ret := (some .boolean)) (by decide) rfl ?_
  intro p e s m args below meth c s₁ B hml htab hv
  obtain ⟨rfl, ⟨hsz, hP, hK, hD0⟩, hZ⟩ := hv
  have hx := B.exec
  have hb := B.bytes
  have hr := B.returns
  have hT := x_hT B.pre
  have hown : s.vm.findClass xR_De = some m.cls := findClass_of_methodNamed B.named
  have hlocks := B.notSynchronized
  subst hsz
  have hD := hD0.self (sz := s.heap.size)
  generalize hAe : va_A (rp ad E RL) s.heap.size = A at hD hZ ⊢
  have hA : ∀ q : Nat, s.heap.size ≤ q → A q := fun q h => by rw [← hAe]; exact Or.inr h
  have hS : va_S A s.heap s.heap [] := va_S.rf
  have hl := lv_entry ([.ref (ad 0 0), .int ix, .int kx, .int tx, .int dx]) (n := 8) (Nat.le_of_ble_eq_true rfl)
  rw [lg_entry_eq]
  generalize (lg_sl ([.ref (ad 0 0), .int ix, .int kx, .int tx, .int dx]) ++ List.replicate (8 - (lg_sl ([.ref (ad 0 0), .int ix, .int kx, .int tx, .int dx])).length) Slot.unset).toArray = ls at hl ⊢
  have hl : lv_has ls 8 [(0, .ref (ad 0 0)), (1, .int ix), (2, .int kx), (3, .int tx), (4, .int dx)] := hl
  have hP : va_P D xcl (rp ad E RL) s.heap := hP
  obtain ⟨hmB, hDk, hLi, hSh, hCh, hLa, hDIs, hLIs⟩ := id hCI
  obtain ⟨lf_1, q_1⟩ := id (hDk)
  have c_2 : E 0 0 = .inr (0, [.ref (ad 0 1), .ref (ad 0 5), .ref (ad 0 7), .ref (ad 0 9), .int (nI ml), .int lf_1]) := q_1
  have m_3 : (0, 0) ∈ RL := hmB 0 (by decide)
  refine lv_aload_n hx hb xd_De_peek_0 rfl (lv_at hl 0 rfl) ?_
  refine px_get (D := D) (ci := 0) (v := .ref (ad 0 1)) (C := xR_De) (T := xT_De) (N := 6) hx hb hT xi_De hown hK.1 hP m_3 c_2 rfl 0 (by decide) (hT _ k7x_26) (fun _ h9 => h9) rfl xd_De_peek_1 ?_
  have hFc := px_free hD hS hA
  obtain ⟨tx_4, fb_4, fe_4, hl1_4, hw2_4, q1_4, q2_4, q3_4, q4_4, hws_4⟩ := id (hLi)
  have c_5 : E 0 1 = .inr (1, [.ref (ad 0 2), .ref (ad 0 3), .ref (ad 0 4), .int (nI len), .int (nI wn)]) := q1_4
  have m_6 : (0, 1) ∈ RL := hmB 1 (by decide)
  have c_7 : E 0 2 = .inl (kA 1, 40, .inl tx_4) := q2_4
  have m_8 : (0, 2) ∈ RL := hmB 2 (by decide)
  have c_9 : E 0 3 = .inl (kA 0, 20, .inl fb_4) := q3_4
  have m_10 : (0, 3) ∈ RL := hmB 3 (by decide)
  have c_11 : E 0 4 = .inl (kA 0, 20, .inl fe_4) := q4_4
  have m_12 : (0, 4) ∈ RL := hmB 4 (by decide)
  refine va_calli (va_runV (As := []) (rest := []) ⟨hx, hb, hml, hown, hT⟩ (xc_Li_takeNameX l D kA s.heap.size ad E RL g ml nd len wn cs (by first | assumption | omega) hXT.1) (cwV 0 hT (wT_V k7x_28 k7x_29 k7x_30 k7x_31 k7x_27) rfl rfl rfl (by decide +kernel) ⟨Nat.le_of_ble_eq_true rfl, Nat.le_of_ble_eq_true rfl⟩) (px_preV hK hP hD m_6 c_5 rfl) rfl rfl hl.1 rfl (lv_room (Nat.le_of_ble_eq_true rfl)) xd_De_peek_4 ⟨(Nat.le_of_ble_eq_true rfl), (Nat.le_of_ble_eq_true rfl)⟩) hS (fun q _ h => hFc q h) hFc (fun r13 u14 t H1 locs ht hvm hp15 hB hz1 hk1 hS => ?_)
  obtain ⟨hP1, hD1⟩ := hB
  rw [ht] at hP1
  have hD1 := hD1.weaken (fun _ _ _ h => hFc _ h)
  generalize H1 = H at hP1 hS ⊢
  have hP := hP1
  have hD := hD1
  obtain ⟨E16, rfl⟩ : ∃ z, z = u14 := ⟨_, rfl⟩
  have hP : va_P D xcl (rp ad E16 RL) H := hP
  have hD : va_D A (rp ad E16 RL) := hD
  obtain ⟨⟨wn17, hCI⟩, hF1, hnm⟩ := hp15
  have hCI : CI kA ad E16 RL ml nd 0 wn17 cs := hCI
  have hnm : r13 = (n1 (g 0) (w_all (g 0) len)) := hnm
  obtain ⟨hmB, hDk, hLi, hSh, hCh, hLa, hDIs, hLIs⟩ := id hCI
  obtain ⟨lf_18, q_18⟩ := id (hDk)
  have c_19 : E16 0 0 = .inr (0, [.ref (ad 0 1), .ref (ad 0 5), .ref (ad 0 7), .ref (ad 0 9), .int (nI ml), .int lf_18]) := q_18
  have m_20 : (0, 0) ∈ RL := hmB 0 (by decide)
  obtain ⟨fl_21, hml_21, q9_21, hla_21⟩ := id (hLa)
  have c_22 : E16 0 9 = .inl (kA 5, 5, .inr (.inr (.inr (.inr fl_21)))) := q9_21
  have m_23 : (0, 9) ∈ RL := hmB 9 (by decide)
  have hXT1 : XT g ad E16 nd ml 0 := f1_join hF1 hXT
  have hTD1 := hXT1.2.1
  have hTL1 := hXT1.2.2.1
  have hRB1 := hXT1.2.2.2.2.1
  have hNZ1 := hXT1.2.2.2.2.2.2.1
  obtain ⟨_, hnd12, hml5, _, _⟩ := CI_b hCI
  have hLKP : LKP g ml := LKP_C hCI hTL1
  have hmcb : ∀ la, la < ml → mcv g la ≤ 12 := fun la hl9 => (hLKP.2 la hl9).1
  refine lv_istore hx hb xd_De_peek_7 hl (Nat.le_of_ble_eq_true rfl) rfl (fun ls hl => ?_)
  have hl : lv_has ls 8 [(5, .int r13), (0, .ref (ad 0 0)), (1, .int ix), (2, .int kx), (3, .int tx), (4, .int dx)] := hl
  refine lv_aload_n hx hb xd_De_peek_9 rfl (lv_at hl 1 rfl) ?_
  refine lv_iload_n hx hb xd_De_peek_10 rfl (lv_at hl 2 rfl) ?_
  refine lv_iload_n hx hb xd_De_peek_11 rfl (lv_at hl 3 rfl) ?_
  have hFc := px_free hD hS hA
  refine va_callq (va_runV (As := [.int ix, .int kx]) (rest := []) ⟨hx, hb, hml, hown, hT⟩ (xc_De_memberAtA l D kA H.size ad E16 RL g ml nd 0 wn17 cs ix kx (by first | assumption | omega) hTL1) (cwV 2 hT (wT_V k7x_33 k7x_34 k7x_35 k7x_4 k7x_32) rfl rfl rfl (by decide +kernel) ⟨Nat.le_of_ble_eq_true rfl, Nat.le_of_ble_eq_true rfl⟩) (px_preV hK hP hD m_20 c_19 rfl) rfl rfl hl.1 rfl (lv_room (Nat.le_of_ble_eq_true rfl)) xd_De_peek_12 ⟨(Nat.le_of_ble_eq_true rfl), (Nat.le_of_ble_eq_true rfl)⟩) hS (fun q _ h => hFc q h) hFc (fun r24 u25 t H1 locs ht hvm hp26 hB hz1 hk1 hS => ?_)
  obtain ⟨hP1, hD1⟩ := hB
  rw [ht] at hP1
  have hD1 := hD1.weaken (fun _ _ _ h => hFc _ h)
  generalize H1 = H at hP1 hS ⊢
  have hP := hP1
  have hD := hD1
  have hP : va_P D xcl (rp ad E16 RL) H := hP
  have hD : va_D A (rp ad E16 RL) := hD
  rcases hp26 with ⟨rfl, z27⟩ | ⟨z28, z29, z30, rfl, z31⟩
  · refine W.eq (g2 := F0 m 15 ls [.null]) rfl ?_
    refine lv_astoreN hx hb xd_De_peek_15 hl (Nat.le_of_ble_eq_true rfl) rfl (fun ls hl => ?_)
    have hl : lv_has ls 8 [(6, .null), (5, .int r13), (0, .ref (ad 0 0)), (1, .int ix), (2, .int kx), (3, .int tx), (4, .int dx)] := hl
    refine lv_aload_n hx hb xd_De_peek_17 rfl (lv_at hl 2 rfl) ?_
    refine lv_iload_n hx hb xd_De_peek_18 rfl (lv_at hl 5 rfl) ?_
    refine lv_iload hx hb xd_De_peek_19 (lv_at hl 6 rfl) ?_
    have hFc := px_free hD hS hA
    refine va_callq (va_runV (As := [.int tx, .int dx]) (rest := []) ⟨hx, hb, hml, hown, hT⟩ (xc_De_memberOfA l D kA H.size ad E16 RL g ml nd 0 wn17 cs tx dx (by first | assumption | omega) hTD1 hTL1) (cwV 2 hT (wT_V k7x_37 k7x_38 k7x_39 k7x_4 k7x_36) rfl rfl rfl (by decide +kernel) ⟨Nat.le_of_ble_eq_true rfl, Nat.le_of_ble_eq_true rfl⟩) (px_preV hK hP hD m_20 c_19 rfl) rfl rfl hl.1 rfl (lv_room (Nat.le_of_ble_eq_true rfl)) xd_De_peek_21 ⟨(Nat.le_of_ble_eq_true rfl), (Nat.le_of_ble_eq_true rfl)⟩) hS (fun q _ h => hFc q h) hFc (fun r32 u33 t H1 locs ht hvm hp34 hB hz1 hk1 hS => ?_)
    obtain ⟨hP1, hD1⟩ := hB
    rw [ht] at hP1
    have hD1 := hD1.weaken (fun _ _ _ h => hFc _ h)
    generalize H1 = H at hP1 hS ⊢
    have hP := hP1
    have hD := hD1
    have hP : va_P D xcl (rp ad E16 RL) H := hP
    have hD : va_D A (rp ad E16 RL) := hD
    rcases hp34 with ⟨rfl, z35⟩ | ⟨z36, z37, z38, z39, rfl, z40⟩
    · refine W.eq (g2 := F0 m 24 ls [.null]) rfl ?_
      refine lv_astoreN hx hb xd_De_peek_24 hl (Nat.le_of_ble_eq_true rfl) rfl (fun ls hl => ?_)
      have hl : lv_has ls 8 [(7, .null), (6, .null), (5, .int r13), (0, .ref (ad 0 0)), (1, .int ix), (2, .int kx), (3, .int tx), (4, .int dx)] := hl
      refine lv_aloadN hx hb xd_De_peek_26 (lv_at hl 1 rfl) ?_
      refine lv_ifnullN (tgt := 41) hx hb xd_De_peek_28 (by decide) ?_
      exact y_throwA (ik := 56) (is := 161) (wf := fun (u : Nat → Nat → va_E) => rp ad u RL) E16 (⟨⟨wn17, hCI⟩, hF1⟩) (Or.inl ⟨rfl, Or.inr (Or.inl z27)⟩) hx hb hlt hown hT hK k7x_40 k7x_41 hZ.2.2.2.1.2.2.2.2.2.2.2.2.2.2.2.2.2.2.2.2.2.1 hZ.1 hS hP hD (hl.1.trans hml.symm) xd_De_peek_41 xd_De_peek_44 xd_De_peek_45 xd_De_peek_47 xd_De_peek_50 htab (Nat.le_of_ble_eq_true rfl) (Nat.le_of_ble_eq_true rfl) (Nat.le_of_ble_eq_true rfl) (Nat.le_of_ble_eq_true rfl) hlocks (Nat.le_of_ble_eq_true rfl) (Nat.le_of_ble_eq_true rfl)
    · refine W.eq (g2 := F0 m 24 ls [.ref (ad (20 + z36) (10 + 10 * z37))]) rfl ?_
      have hlx_hkq2 : z36 < ml := z38.1
      obtain ⟨m0_41, m1_41, pv_41, op_41, mk_41, fm_41, hmk_41, hpv_41, q0_41, q1_41, hk_41⟩ := id (hLIs z36 (by omega))
      have c_42 : E16 (20 + z36) 0 = .inr (5, [.int (nI z36), pv_41, .ref (ad (20 + z36) 1), .int op_41]) := q0_41
      have m_43 : (20 + z36, 0) ∈ RL := m0_41
      have c_44 : E16 (20 + z36) 1 = .inl (kA 6, mk_41, .inr (.inr (.inr (.inr fm_41)))) := q1_41
      have m_45 : (20 + z36, 1) ∈ RL := m1_41
      obtain ⟨top_41, ⟨lq_41, hlq_41, h19_41, hpv2_41⟩, h20_41, tmd_41⟩ := TLa_get c_42 c_44 (hTL1 z36 (by omega))
      have c_46 : E16 (20 + z36) 0 = .inr (5, [.int (nI z36), (lyv ad lq_41), .ref (ad (20 + z36) 1), .int op_41]) := by rw [← hpv2_41]; exact c_42
      have i20_41 : iN (g 20 z36) = mk_41 := by rw [h20_41, iN_nI (by omega)]
      have hkq2 : z37 < mk_41 := by have q := (show z37 < iN (g 20 z36) from z39); rw [i20_41] at q; exact q
      obtain ⟨hm_47, d_47, rs_47, fr_47, g2_47, g3_47, g4_47, hd_47, hrs_47, q0_47, q1_47, q2_47, q3_47, q4_47, q5_47, q6_47, q7_47⟩ := id z40
      have c_48 : E16 (20 + z36) (10 + 10 * z37) = .inr (6, [.ref (ad (20 + z36) 0), .ref (ad (1 + d_47) 0), .ref (ad (20 + z36) (11 + 10 * z37)), .ref (ad (20 + z36) (12 + 10 * z37)), .ref (ad (20 + z36) (13 + 10 * z37)), .ref (ad (20 + z36) (14 + 10 * z37))]) := q0_47
      have m_49 : (20 + z36, 10 + 10 * z37) ∈ RL := hm_47 0 (by decide)
      have c_50 : E16 (20 + z36) (11 + 10 * z37) = .inl (kA 6, rs_47, .inr (.inr (.inr (.inr fr_47)))) := q1_47
      have m_51 : (20 + z36, 11 + 10 * z37) ∈ RL := hm_47 1 (by decide)
      have c_52 : E16 (20 + z36) (12 + 10 * z37) = .inr (10, [.ref (ad (20 + z36) (15 + 10 * z37))]) := q2_47
      have m_53 : (20 + z36, 12 + 10 * z37) ∈ RL := hm_47 2 (by decide)
      have c_54 : E16 (20 + z36) (13 + 10 * z37) = .inr (10, [.ref (ad (20 + z36) (16 + 10 * z37))]) := q3_47
      have m_55 : (20 + z36, 13 + 10 * z37) ∈ RL := hm_47 3 (by decide)
      have c_56 : E16 (20 + z36) (14 + 10 * z37) = .inr (10, [.ref (ad (20 + z36) (17 + 10 * z37))]) := q4_47
      have m_57 : (20 + z36, 14 + 10 * z37) ∈ RL := hm_47 4 (by decide)
      have c_58 : E16 (20 + z36) (15 + 10 * z37) = .inl (kA 0, 6, .inl g2_47) := q5_47
      have m_59 : (20 + z36, 15 + 10 * z37) ∈ RL := hm_47 5 (by decide)
      have c_60 : E16 (20 + z36) (16 + 10 * z37) = .inl (kA 0, 6, .inl g3_47) := q6_47
      have m_61 : (20 + z36, 16 + 10 * z37) ∈ RL := hm_47 6 (by decide)
      have c_62 : E16 (20 + z36) (17 + 10 * z37) = .inl (kA 0, 6, .inl g4_47) := q7_47
      have m_63 : (20 + z36, 17 + 10 * z37) ∈ RL := hm_47 7 (by decide)
      have hdm_47 : mdv g z36 z37 = d_47 := by
        obtain ⟨dz, hdz, h21z, hvz⟩ := tmd_41 z37 (by omega)
        rw [c_48] at hvz
        have ez := (rp_inj hD ((hDIs d_47 hd_47).1 0 (by omega)) ((hDIs dz hdz).1 0 (by omega)) (Value.ref.inj hvz)).1
        unfold mdv
        rw [h21z, iN_nI (by omega)]; omega
      obtain ⟨hm_64, fd_64, nm_64, sd_64, k0_64, k1_64, k2_64, k3_64, f0_64, f1_64, f2_64, f3_64, fe_64, fo_64, tr_64, op_64, hk0_64, hk1_64, hk2_64, hk3_64, q0_64, q1_64, q2_64, q3_64, q4_64, q5_64, q6_64, q7_64, q8_64, q9_64, q10_64, q11_64, q12_64, hg_64⟩ := id (hDIs d_47 (by omega))
      have c_65 : E16 (1 + d_47) 0 = .inr (7, [.int (nI d_47), .int fd_64, .int nm_64, .ref (ad (1 + d_47) 1), .ref (ad (1 + d_47) 9), .ref (ad (1 + d_47) 10), .ref (ad (1 + d_47) 2), .ref (ad (1 + d_47) 11), .ref (ad (1 + d_47) 12), .ref (ad (1 + d_47) 3), .ref (ad (1 + d_47) 4), .int sd_64]) := q0_64
      have m_66 : (1 + d_47, 0) ∈ RL := hm_64 0 (by decide)
      have c_67 : E16 (1 + d_47) 1 = .inr (8, [.ref (ad (1 + d_47) 5), .int (nI k0_64)]) := q1_64
      have m_68 : (1 + d_47, 1) ∈ RL := hm_64 1 (by decide)
      have c_69 : E16 (1 + d_47) 2 = .inr (8, [.ref (ad (1 + d_47) 6), .int (nI k1_64)]) := q2_64
      have m_70 : (1 + d_47, 2) ∈ RL := hm_64 2 (by decide)
      have c_71 : E16 (1 + d_47) 3 = .inr (8, [.ref (ad (1 + d_47) 7), .int (nI k2_64)]) := q3_64
      have m_72 : (1 + d_47, 3) ∈ RL := hm_64 3 (by decide)
      have c_73 : E16 (1 + d_47) 4 = .inr (8, [.ref (ad (1 + d_47) 8), .int (nI k3_64)]) := q4_64
      have m_74 : (1 + d_47, 4) ∈ RL := hm_64 4 (by decide)
      have c_75 : E16 (1 + d_47) 5 = .inl (kA 0, 6, .inl f0_64) := q5_64
      have m_76 : (1 + d_47, 5) ∈ RL := hm_64 5 (by decide)
      have c_77 : E16 (1 + d_47) 6 = .inl (kA 0, 5, .inl f1_64) := q6_64
      have m_78 : (1 + d_47, 6) ∈ RL := hm_64 6 (by decide)
      have c_79 : E16 (1 + d_47) 7 = .inl (kA 0, 3, .inl f2_64) := q7_64
      have m_80 : (1 + d_47, 7) ∈ RL := hm_64 7 (by decide)
      have c_81 : E16 (1 + d_47) 8 = .inl (kA 0, 3, .inl f3_64) := q8_64
      have m_82 : (1 + d_47, 8) ∈ RL := hm_64 8 (by decide)
      have c_83 : E16 (1 + d_47) 9 = .inl (kA 8, 6, .inr (.inr (.inr (.inr fe_64)))) := q9_64
      have m_84 : (1 + d_47, 9) ∈ RL := hm_64 9 (by decide)
      have c_85 : E16 (1 + d_47) 10 = .inl (kA 8, 6, .inr (.inr (.inr (.inr fo_64)))) := q10_64
      have m_86 : (1 + d_47, 10) ∈ RL := hm_64 10 (by decide)
      have c_87 : E16 (1 + d_47) 11 = .inl (kA 2, 5, .inl tr_64) := q11_64
      have m_88 : (1 + d_47, 11) ∈ RL := hm_64 11 (by decide)
      have c_89 : E16 (1 + d_47) 12 = .inl (kA 2, 5, .inl op_64) := q12_64
      have m_90 : (1 + d_47, 12) ∈ RL := hm_64 12 (by decide)
      have hg_64 : ∀ w9, w9 < k0_64 → fe_64 w9 = some (ad (1 + d_47) (20 + 3 * w9)) ∧ fo_64 w9 = some (ad (1 + d_47) (38 + 3 * w9)) ∧ GI kA (ad (1 + d_47)) (E16 (1 + d_47)) (fun o => (1 + d_47, o) ∈ RL) (20 + 3 * w9) (21 + 3 * w9) (22 + 3 * w9) ∧ GI kA (ad (1 + d_47)) (E16 (1 + d_47)) (fun o => (1 + d_47, o) ∈ RL) (38 + 3 * w9) (39 + 3 * w9) (40 + 3 * w9) := hg_64
      obtain ⟨hTT_64, tgr_64⟩ := TD_get hk0_64 hk1_64 hk2_64 hk3_64 c_65 c_67 c_69 c_71 c_73 c_75 c_77 c_79 c_81 c_87 c_89 (hTD1 d_47 (by omega))
      obtain ⟨tfd_64, tnm_64, tsd_64, tk0_64, tf0_64, tk1_64, tf1_64, tk2_64, tk3_64⟩ := id hTT_64
      have ik0_64 : iN (g 5 d_47) = k0_64 := by rw [← tk0_64, iN_nI (by omega)]
      have ik1_64 : iN (g 12 d_47) = k1_64 := by rw [← tk1_64, iN_nI (by omega)]
      refine lv_astore hx hb xd_De_peek_24 hl (Nat.le_of_ble_eq_true rfl) rfl (fun ls hl => ?_)
      have hl : lv_has ls 8 [(7, .ref (ad (20 + z36) (10 + 10 * z37))), (6, .null), (5, .int r13), (0, .ref (ad 0 0)), (1, .int ix), (2, .int kx), (3, .int tx), (4, .int dx)] := hl
      refine lv_aloadN hx hb xd_De_peek_26 (lv_at hl 1 rfl) ?_
      refine lv_ifnullN (tgt := 41) hx hb xd_De_peek_28 (by decide) ?_
      exact y_throwA (ik := 56) (is := 161) (wf := fun (u : Nat → Nat → va_E) => rp ad u RL) E16 (⟨⟨wn17, hCI⟩, hF1⟩) (Or.inl ⟨rfl, Or.inr (Or.inl z27)⟩) hx hb hlt hown hT hK k7x_40 k7x_41 hZ.2.2.2.1.2.2.2.2.2.2.2.2.2.2.2.2.2.2.2.2.2.1 hZ.1 hS hP hD (hl.1.trans hml.symm) xd_De_peek_41 xd_De_peek_44 xd_De_peek_45 xd_De_peek_47 xd_De_peek_50 htab (Nat.le_of_ble_eq_true rfl) (Nat.le_of_ble_eq_true rfl) (Nat.le_of_ble_eq_true rfl) (Nat.le_of_ble_eq_true rfl) hlocks (Nat.le_of_ble_eq_true rfl) (Nat.le_of_ble_eq_true rfl)
  · refine W.eq (g2 := F0 m 15 ls [.ref (ad (20 + z28) (10 + 10 * z29))]) rfl ?_
    have hlx_hkq : z28 < ml := z30.1
    obtain ⟨m0_91, m1_91, pv_91, op_91, mk_91, fm_91, hmk_91, hpv_91, q0_91, q1_91, hk_91⟩ := id (hLIs z28 (by omega))
    have c_92 : E16 (20 + z28) 0 = .inr (5, [.int (nI z28), pv_91, .ref (ad (20 + z28) 1), .int op_91]) := q0_91
    have m_93 : (20 + z28, 0) ∈ RL := m0_91
    have c_94 : E16 (20 + z28) 1 = .inl (kA 6, mk_91, .inr (.inr (.inr (.inr fm_91)))) := q1_91
    have m_95 : (20 + z28, 1) ∈ RL := m1_91
    obtain ⟨top_91, ⟨lq_91, hlq_91, h19_91, hpv2_91⟩, h20_91, tmd_91⟩ := TLa_get c_92 c_94 (hTL1 z28 (by omega))
    have c_96 : E16 (20 + z28) 0 = .inr (5, [.int (nI z28), (lyv ad lq_91), .ref (ad (20 + z28) 1), .int op_91]) := by rw [← hpv2_91]; exact c_92
    have i20_91 : iN (g 20 z28) = mk_91 := by rw [h20_91, iN_nI (by omega)]
    have hkq : z29 < mk_91 := by have q := (show z29 < iN (g 20 z28) from z30.2.2.2.2); rw [i20_91] at q; exact q
    obtain ⟨hm_97, d_97, rs_97, fr_97, g2_97, g3_97, g4_97, hd_97, hrs_97, q0_97, q1_97, q2_97, q3_97, q4_97, q5_97, q6_97, q7_97⟩ := id z31
    have c_98 : E16 (20 + z28) (10 + 10 * z29) = .inr (6, [.ref (ad (20 + z28) 0), .ref (ad (1 + d_97) 0), .ref (ad (20 + z28) (11 + 10 * z29)), .ref (ad (20 + z28) (12 + 10 * z29)), .ref (ad (20 + z28) (13 + 10 * z29)), .ref (ad (20 + z28) (14 + 10 * z29))]) := q0_97
    have m_99 : (20 + z28, 10 + 10 * z29) ∈ RL := hm_97 0 (by decide)
    have c_100 : E16 (20 + z28) (11 + 10 * z29) = .inl (kA 6, rs_97, .inr (.inr (.inr (.inr fr_97)))) := q1_97
    have m_101 : (20 + z28, 11 + 10 * z29) ∈ RL := hm_97 1 (by decide)
    have c_102 : E16 (20 + z28) (12 + 10 * z29) = .inr (10, [.ref (ad (20 + z28) (15 + 10 * z29))]) := q2_97
    have m_103 : (20 + z28, 12 + 10 * z29) ∈ RL := hm_97 2 (by decide)
    have c_104 : E16 (20 + z28) (13 + 10 * z29) = .inr (10, [.ref (ad (20 + z28) (16 + 10 * z29))]) := q3_97
    have m_105 : (20 + z28, 13 + 10 * z29) ∈ RL := hm_97 3 (by decide)
    have c_106 : E16 (20 + z28) (14 + 10 * z29) = .inr (10, [.ref (ad (20 + z28) (17 + 10 * z29))]) := q4_97
    have m_107 : (20 + z28, 14 + 10 * z29) ∈ RL := hm_97 4 (by decide)
    have c_108 : E16 (20 + z28) (15 + 10 * z29) = .inl (kA 0, 6, .inl g2_97) := q5_97
    have m_109 : (20 + z28, 15 + 10 * z29) ∈ RL := hm_97 5 (by decide)
    have c_110 : E16 (20 + z28) (16 + 10 * z29) = .inl (kA 0, 6, .inl g3_97) := q6_97
    have m_111 : (20 + z28, 16 + 10 * z29) ∈ RL := hm_97 6 (by decide)
    have c_112 : E16 (20 + z28) (17 + 10 * z29) = .inl (kA 0, 6, .inl g4_97) := q7_97
    have m_113 : (20 + z28, 17 + 10 * z29) ∈ RL := hm_97 7 (by decide)
    have hdm_97 : mdv g z28 z29 = d_97 := by
      obtain ⟨dz, hdz, h21z, hvz⟩ := tmd_91 z29 (by omega)
      rw [c_98] at hvz
      have ez := (rp_inj hD ((hDIs d_97 hd_97).1 0 (by omega)) ((hDIs dz hdz).1 0 (by omega)) (Value.ref.inj hvz)).1
      unfold mdv
      rw [h21z, iN_nI (by omega)]; omega
    obtain ⟨hm_114, fd_114, nm_114, sd_114, k0_114, k1_114, k2_114, k3_114, f0_114, f1_114, f2_114, f3_114, fe_114, fo_114, tr_114, op_114, hk0_114, hk1_114, hk2_114, hk3_114, q0_114, q1_114, q2_114, q3_114, q4_114, q5_114, q6_114, q7_114, q8_114, q9_114, q10_114, q11_114, q12_114, hg_114⟩ := id (hDIs d_97 (by omega))
    have c_115 : E16 (1 + d_97) 0 = .inr (7, [.int (nI d_97), .int fd_114, .int nm_114, .ref (ad (1 + d_97) 1), .ref (ad (1 + d_97) 9), .ref (ad (1 + d_97) 10), .ref (ad (1 + d_97) 2), .ref (ad (1 + d_97) 11), .ref (ad (1 + d_97) 12), .ref (ad (1 + d_97) 3), .ref (ad (1 + d_97) 4), .int sd_114]) := q0_114
    have m_116 : (1 + d_97, 0) ∈ RL := hm_114 0 (by decide)
    have c_117 : E16 (1 + d_97) 1 = .inr (8, [.ref (ad (1 + d_97) 5), .int (nI k0_114)]) := q1_114
    have m_118 : (1 + d_97, 1) ∈ RL := hm_114 1 (by decide)
    have c_119 : E16 (1 + d_97) 2 = .inr (8, [.ref (ad (1 + d_97) 6), .int (nI k1_114)]) := q2_114
    have m_120 : (1 + d_97, 2) ∈ RL := hm_114 2 (by decide)
    have c_121 : E16 (1 + d_97) 3 = .inr (8, [.ref (ad (1 + d_97) 7), .int (nI k2_114)]) := q3_114
    have m_122 : (1 + d_97, 3) ∈ RL := hm_114 3 (by decide)
    have c_123 : E16 (1 + d_97) 4 = .inr (8, [.ref (ad (1 + d_97) 8), .int (nI k3_114)]) := q4_114
    have m_124 : (1 + d_97, 4) ∈ RL := hm_114 4 (by decide)
    have c_125 : E16 (1 + d_97) 5 = .inl (kA 0, 6, .inl f0_114) := q5_114
    have m_126 : (1 + d_97, 5) ∈ RL := hm_114 5 (by decide)
    have c_127 : E16 (1 + d_97) 6 = .inl (kA 0, 5, .inl f1_114) := q6_114
    have m_128 : (1 + d_97, 6) ∈ RL := hm_114 6 (by decide)
    have c_129 : E16 (1 + d_97) 7 = .inl (kA 0, 3, .inl f2_114) := q7_114
    have m_130 : (1 + d_97, 7) ∈ RL := hm_114 7 (by decide)
    have c_131 : E16 (1 + d_97) 8 = .inl (kA 0, 3, .inl f3_114) := q8_114
    have m_132 : (1 + d_97, 8) ∈ RL := hm_114 8 (by decide)
    have c_133 : E16 (1 + d_97) 9 = .inl (kA 8, 6, .inr (.inr (.inr (.inr fe_114)))) := q9_114
    have m_134 : (1 + d_97, 9) ∈ RL := hm_114 9 (by decide)
    have c_135 : E16 (1 + d_97) 10 = .inl (kA 8, 6, .inr (.inr (.inr (.inr fo_114)))) := q10_114
    have m_136 : (1 + d_97, 10) ∈ RL := hm_114 10 (by decide)
    have c_137 : E16 (1 + d_97) 11 = .inl (kA 2, 5, .inl tr_114) := q11_114
    have m_138 : (1 + d_97, 11) ∈ RL := hm_114 11 (by decide)
    have c_139 : E16 (1 + d_97) 12 = .inl (kA 2, 5, .inl op_114) := q12_114
    have m_140 : (1 + d_97, 12) ∈ RL := hm_114 12 (by decide)
    have hg_114 : ∀ w9, w9 < k0_114 → fe_114 w9 = some (ad (1 + d_97) (20 + 3 * w9)) ∧ fo_114 w9 = some (ad (1 + d_97) (38 + 3 * w9)) ∧ GI kA (ad (1 + d_97)) (E16 (1 + d_97)) (fun o => (1 + d_97, o) ∈ RL) (20 + 3 * w9) (21 + 3 * w9) (22 + 3 * w9) ∧ GI kA (ad (1 + d_97)) (E16 (1 + d_97)) (fun o => (1 + d_97, o) ∈ RL) (38 + 3 * w9) (39 + 3 * w9) (40 + 3 * w9) := hg_114
    obtain ⟨hTT_114, tgr_114⟩ := TD_get hk0_114 hk1_114 hk2_114 hk3_114 c_115 c_117 c_119 c_121 c_123 c_125 c_127 c_129 c_131 c_137 c_139 (hTD1 d_97 (by omega))
    obtain ⟨tfd_114, tnm_114, tsd_114, tk0_114, tf0_114, tk1_114, tf1_114, tk2_114, tk3_114⟩ := id hTT_114
    have ik0_114 : iN (g 5 d_97) = k0_114 := by rw [← tk0_114, iN_nI (by omega)]
    have ik1_114 : iN (g 12 d_97) = k1_114 := by rw [← tk1_114, iN_nI (by omega)]
    refine lv_astore hx hb xd_De_peek_15 hl (Nat.le_of_ble_eq_true rfl) rfl (fun ls hl => ?_)
    have hl : lv_has ls 8 [(6, .ref (ad (20 + z28) (10 + 10 * z29))), (5, .int r13), (0, .ref (ad 0 0)), (1, .int ix), (2, .int kx), (3, .int tx), (4, .int dx)] := hl
    refine lv_aload_n hx hb xd_De_peek_17 rfl (lv_at hl 2 rfl) ?_
    refine lv_iload_n hx hb xd_De_peek_18 rfl (lv_at hl 5 rfl) ?_
    refine lv_iload hx hb xd_De_peek_19 (lv_at hl 6 rfl) ?_
    have hFc := px_free hD hS hA
    refine va_callq (va_runV (As := [.int tx, .int dx]) (rest := []) ⟨hx, hb, hml, hown, hT⟩ (xc_De_memberOfA l D kA H.size ad E16 RL g ml nd 0 wn17 cs tx dx (by first | assumption | omega) hTD1 hTL1) (cwV 2 hT (wT_V k7x_37 k7x_38 k7x_39 k7x_4 k7x_36) rfl rfl rfl (by decide +kernel) ⟨Nat.le_of_ble_eq_true rfl, Nat.le_of_ble_eq_true rfl⟩) (px_preV hK hP hD m_20 c_19 rfl) rfl rfl hl.1 rfl (lv_room (Nat.le_of_ble_eq_true rfl)) xd_De_peek_21 ⟨(Nat.le_of_ble_eq_true rfl), (Nat.le_of_ble_eq_true rfl)⟩) hS (fun q _ h => hFc q h) hFc (fun r141 u142 t H1 locs ht hvm hp143 hB hz1 hk1 hS => ?_)
    obtain ⟨hP1, hD1⟩ := hB
    rw [ht] at hP1
    have hD1 := hD1.weaken (fun _ _ _ h => hFc _ h)
    generalize H1 = H at hP1 hS ⊢
    have hP := hP1
    have hD := hD1
    have hP : va_P D xcl (rp ad E16 RL) H := hP
    have hD : va_D A (rp ad E16 RL) := hD
    rcases hp143 with ⟨rfl, z144⟩ | ⟨z145, z146, z147, z148, rfl, z149⟩
    · refine W.eq (g2 := F0 m 24 ls [.null]) rfl ?_
      refine lv_astoreN hx hb xd_De_peek_24 hl (Nat.le_of_ble_eq_true rfl) rfl (fun ls hl => ?_)
      have hl : lv_has ls 8 [(7, .null), (6, .ref (ad (20 + z28) (10 + 10 * z29))), (5, .int r13), (0, .ref (ad 0 0)), (1, .int ix), (2, .int kx), (3, .int tx), (4, .int dx)] := hl
      refine lv_aload hx hb xd_De_peek_26 (lv_at hl 1 rfl) ?_
      refine lv_ifnull hx hb xd_De_peek_28 ?_
      refine lv_aloadN hx hb xd_De_peek_31 (lv_at hl 0 rfl) ?_
      refine lv_ifnullN (tgt := 41) hx hb xd_De_peek_33 (by decide) ?_
      exact y_throwA (ik := 56) (is := 161) (wf := fun (u : Nat → Nat → va_E) => rp ad u RL) E16 (⟨⟨wn17, hCI⟩, hF1⟩) (Or.inl ⟨rfl, Or.inr (Or.inr z144)⟩) hx hb hlt hown hT hK k7x_40 k7x_41 hZ.2.2.2.1.2.2.2.2.2.2.2.2.2.2.2.2.2.2.2.2.2.1 hZ.1 hS hP hD (hl.1.trans hml.symm) xd_De_peek_41 xd_De_peek_44 xd_De_peek_45 xd_De_peek_47 xd_De_peek_50 htab (Nat.le_of_ble_eq_true rfl) (Nat.le_of_ble_eq_true rfl) (Nat.le_of_ble_eq_true rfl) (Nat.le_of_ble_eq_true rfl) hlocks (Nat.le_of_ble_eq_true rfl) (Nat.le_of_ble_eq_true rfl)
    · refine W.eq (g2 := F0 m 24 ls [.ref (ad (20 + z145) (10 + 10 * z146))]) rfl ?_
      have hlx_hkq2 : z145 < ml := z147.1
      obtain ⟨m0_150, m1_150, pv_150, op_150, mk_150, fm_150, hmk_150, hpv_150, q0_150, q1_150, hk_150⟩ := id (hLIs z145 (by omega))
      have c_151 : E16 (20 + z145) 0 = .inr (5, [.int (nI z145), pv_150, .ref (ad (20 + z145) 1), .int op_150]) := q0_150
      have m_152 : (20 + z145, 0) ∈ RL := m0_150
      have c_153 : E16 (20 + z145) 1 = .inl (kA 6, mk_150, .inr (.inr (.inr (.inr fm_150)))) := q1_150
      have m_154 : (20 + z145, 1) ∈ RL := m1_150
      obtain ⟨top_150, ⟨lq_150, hlq_150, h19_150, hpv2_150⟩, h20_150, tmd_150⟩ := TLa_get c_151 c_153 (hTL1 z145 (by omega))
      have c_155 : E16 (20 + z145) 0 = .inr (5, [.int (nI z145), (lyv ad lq_150), .ref (ad (20 + z145) 1), .int op_150]) := by rw [← hpv2_150]; exact c_151
      have i20_150 : iN (g 20 z145) = mk_150 := by rw [h20_150, iN_nI (by omega)]
      have hkq2 : z146 < mk_150 := by have q := (show z146 < iN (g 20 z145) from z148); rw [i20_150] at q; exact q
      obtain ⟨hm_156, d_156, rs_156, fr_156, g2_156, g3_156, g4_156, hd_156, hrs_156, q0_156, q1_156, q2_156, q3_156, q4_156, q5_156, q6_156, q7_156⟩ := id z149
      have c_157 : E16 (20 + z145) (10 + 10 * z146) = .inr (6, [.ref (ad (20 + z145) 0), .ref (ad (1 + d_156) 0), .ref (ad (20 + z145) (11 + 10 * z146)), .ref (ad (20 + z145) (12 + 10 * z146)), .ref (ad (20 + z145) (13 + 10 * z146)), .ref (ad (20 + z145) (14 + 10 * z146))]) := q0_156
      have m_158 : (20 + z145, 10 + 10 * z146) ∈ RL := hm_156 0 (by decide)
      have c_159 : E16 (20 + z145) (11 + 10 * z146) = .inl (kA 6, rs_156, .inr (.inr (.inr (.inr fr_156)))) := q1_156
      have m_160 : (20 + z145, 11 + 10 * z146) ∈ RL := hm_156 1 (by decide)
      have c_161 : E16 (20 + z145) (12 + 10 * z146) = .inr (10, [.ref (ad (20 + z145) (15 + 10 * z146))]) := q2_156
      have m_162 : (20 + z145, 12 + 10 * z146) ∈ RL := hm_156 2 (by decide)
      have c_163 : E16 (20 + z145) (13 + 10 * z146) = .inr (10, [.ref (ad (20 + z145) (16 + 10 * z146))]) := q3_156
      have m_164 : (20 + z145, 13 + 10 * z146) ∈ RL := hm_156 3 (by decide)
      have c_165 : E16 (20 + z145) (14 + 10 * z146) = .inr (10, [.ref (ad (20 + z145) (17 + 10 * z146))]) := q4_156
      have m_166 : (20 + z145, 14 + 10 * z146) ∈ RL := hm_156 4 (by decide)
      have c_167 : E16 (20 + z145) (15 + 10 * z146) = .inl (kA 0, 6, .inl g2_156) := q5_156
      have m_168 : (20 + z145, 15 + 10 * z146) ∈ RL := hm_156 5 (by decide)
      have c_169 : E16 (20 + z145) (16 + 10 * z146) = .inl (kA 0, 6, .inl g3_156) := q6_156
      have m_170 : (20 + z145, 16 + 10 * z146) ∈ RL := hm_156 6 (by decide)
      have c_171 : E16 (20 + z145) (17 + 10 * z146) = .inl (kA 0, 6, .inl g4_156) := q7_156
      have m_172 : (20 + z145, 17 + 10 * z146) ∈ RL := hm_156 7 (by decide)
      have hdm_156 : mdv g z145 z146 = d_156 := by
        obtain ⟨dz, hdz, h21z, hvz⟩ := tmd_150 z146 (by omega)
        rw [c_157] at hvz
        have ez := (rp_inj hD ((hDIs d_156 hd_156).1 0 (by omega)) ((hDIs dz hdz).1 0 (by omega)) (Value.ref.inj hvz)).1
        unfold mdv
        rw [h21z, iN_nI (by omega)]; omega
      obtain ⟨hm_173, fd_173, nm_173, sd_173, k0_173, k1_173, k2_173, k3_173, f0_173, f1_173, f2_173, f3_173, fe_173, fo_173, tr_173, op_173, hk0_173, hk1_173, hk2_173, hk3_173, q0_173, q1_173, q2_173, q3_173, q4_173, q5_173, q6_173, q7_173, q8_173, q9_173, q10_173, q11_173, q12_173, hg_173⟩ := id (hDIs d_156 (by omega))
      have c_174 : E16 (1 + d_156) 0 = .inr (7, [.int (nI d_156), .int fd_173, .int nm_173, .ref (ad (1 + d_156) 1), .ref (ad (1 + d_156) 9), .ref (ad (1 + d_156) 10), .ref (ad (1 + d_156) 2), .ref (ad (1 + d_156) 11), .ref (ad (1 + d_156) 12), .ref (ad (1 + d_156) 3), .ref (ad (1 + d_156) 4), .int sd_173]) := q0_173
      have m_175 : (1 + d_156, 0) ∈ RL := hm_173 0 (by decide)
      have c_176 : E16 (1 + d_156) 1 = .inr (8, [.ref (ad (1 + d_156) 5), .int (nI k0_173)]) := q1_173
      have m_177 : (1 + d_156, 1) ∈ RL := hm_173 1 (by decide)
      have c_178 : E16 (1 + d_156) 2 = .inr (8, [.ref (ad (1 + d_156) 6), .int (nI k1_173)]) := q2_173
      have m_179 : (1 + d_156, 2) ∈ RL := hm_173 2 (by decide)
      have c_180 : E16 (1 + d_156) 3 = .inr (8, [.ref (ad (1 + d_156) 7), .int (nI k2_173)]) := q3_173
      have m_181 : (1 + d_156, 3) ∈ RL := hm_173 3 (by decide)
      have c_182 : E16 (1 + d_156) 4 = .inr (8, [.ref (ad (1 + d_156) 8), .int (nI k3_173)]) := q4_173
      have m_183 : (1 + d_156, 4) ∈ RL := hm_173 4 (by decide)
      have c_184 : E16 (1 + d_156) 5 = .inl (kA 0, 6, .inl f0_173) := q5_173
      have m_185 : (1 + d_156, 5) ∈ RL := hm_173 5 (by decide)
      have c_186 : E16 (1 + d_156) 6 = .inl (kA 0, 5, .inl f1_173) := q6_173
      have m_187 : (1 + d_156, 6) ∈ RL := hm_173 6 (by decide)
      have c_188 : E16 (1 + d_156) 7 = .inl (kA 0, 3, .inl f2_173) := q7_173
      have m_189 : (1 + d_156, 7) ∈ RL := hm_173 7 (by decide)
      have c_190 : E16 (1 + d_156) 8 = .inl (kA 0, 3, .inl f3_173) := q8_173
      have m_191 : (1 + d_156, 8) ∈ RL := hm_173 8 (by decide)
      have c_192 : E16 (1 + d_156) 9 = .inl (kA 8, 6, .inr (.inr (.inr (.inr fe_173)))) := q9_173
      have m_193 : (1 + d_156, 9) ∈ RL := hm_173 9 (by decide)
      have c_194 : E16 (1 + d_156) 10 = .inl (kA 8, 6, .inr (.inr (.inr (.inr fo_173)))) := q10_173
      have m_195 : (1 + d_156, 10) ∈ RL := hm_173 10 (by decide)
      have c_196 : E16 (1 + d_156) 11 = .inl (kA 2, 5, .inl tr_173) := q11_173
      have m_197 : (1 + d_156, 11) ∈ RL := hm_173 11 (by decide)
      have c_198 : E16 (1 + d_156) 12 = .inl (kA 2, 5, .inl op_173) := q12_173
      have m_199 : (1 + d_156, 12) ∈ RL := hm_173 12 (by decide)
      have hg_173 : ∀ w9, w9 < k0_173 → fe_173 w9 = some (ad (1 + d_156) (20 + 3 * w9)) ∧ fo_173 w9 = some (ad (1 + d_156) (38 + 3 * w9)) ∧ GI kA (ad (1 + d_156)) (E16 (1 + d_156)) (fun o => (1 + d_156, o) ∈ RL) (20 + 3 * w9) (21 + 3 * w9) (22 + 3 * w9) ∧ GI kA (ad (1 + d_156)) (E16 (1 + d_156)) (fun o => (1 + d_156, o) ∈ RL) (38 + 3 * w9) (39 + 3 * w9) (40 + 3 * w9) := hg_173
      obtain ⟨hTT_173, tgr_173⟩ := TD_get hk0_173 hk1_173 hk2_173 hk3_173 c_174 c_176 c_178 c_180 c_182 c_184 c_186 c_188 c_190 c_196 c_198 (hTD1 d_156 (by omega))
      obtain ⟨tfd_173, tnm_173, tsd_173, tk0_173, tf0_173, tk1_173, tf1_173, tk2_173, tk3_173⟩ := id hTT_173
      have ik0_173 : iN (g 5 d_156) = k0_173 := by rw [← tk0_173, iN_nI (by omega)]
      have ik1_173 : iN (g 12 d_156) = k1_173 := by rw [← tk1_173, iN_nI (by omega)]
      refine lv_astore hx hb xd_De_peek_24 hl (Nat.le_of_ble_eq_true rfl) rfl (fun ls hl => ?_)
      have hl : lv_has ls 8 [(7, .ref (ad (20 + z145) (10 + 10 * z146))), (6, .ref (ad (20 + z28) (10 + 10 * z29))), (5, .int r13), (0, .ref (ad 0 0)), (1, .int ix), (2, .int kx), (3, .int tx), (4, .int dx)] := hl
      refine lv_aload hx hb xd_De_peek_26 (lv_at hl 1 rfl) ?_
      refine lv_ifnull hx hb xd_De_peek_28 ?_
      refine lv_aload hx hb xd_De_peek_31 (lv_at hl 0 rfl) ?_
      refine lv_ifnull hx hb xd_De_peek_33 ?_
      refine lv_iload hx hb xd_De_peek_36 (lv_at hl 2 rfl) ?_
      refine lv_if_ne (tgt := 51) hx hb xd_De_peek_38 (by decide) (fun hc200 => ?_) (fun hc200 => ?_)
      · refine lv_aload hx hb xd_De_peek_51 (lv_at hl 0 rfl) ?_
        refine px_get (D := D) (ci := 6) (v := .ref (ad (1 + d_156) 0)) (C := xR_Me) (T := xT_Me) (N := 6) hx hb hT xi_Me hown hK.1 hP m_158 c_157 rfl 1 (by decide) (hT _ k7x_42) (fun _ h9 => h9) rfl xd_De_peek_53 ?_
        refine px_get (D := D) (ci := 7) (v := .ref (ad (1 + d_156) 1)) (C := xR_Ds) (T := xT_Ds) (N := 12) hx hb hT xi_Ds hown hK.1 hP m_175 c_174 rfl 3 (by decide) (hT _ k7x_43) (fun _ h9 => h9) rfl xd_De_peek_56 ?_
        refine lv_iload hx hb xd_De_peek_59 (lv_at hl 2 rfl) ?_
        have hFc := px_free hD hS hA
        refine va_calli (va_runV (As := [.int r13]) (rest := []) ⟨hx, hb, hml, hown, hT⟩ (xc_Na_holds l D kA H.size ad E16 RL (1 + d_156) 1 5 6 k0_173 f0_173 r13 m_177 c_176 m_185 c_184 (by first | assumption | omega) (by first | assumption | omega)) (cwV 1 hT (wT_V k7x_45 k7x_46 k7x_47 k7x_19 k7x_44) rfl rfl rfl (by decide +kernel) ⟨Nat.le_of_ble_eq_true rfl, Nat.le_of_ble_eq_true rfl⟩) (px_preV hK hP hD m_177 c_176 rfl) rfl rfl hl.1 rfl (lv_room (Nat.le_of_ble_eq_true rfl)) xd_De_peek_61 ⟨(Nat.le_of_ble_eq_true rfl), (Nat.le_of_ble_eq_true rfl)⟩) hS (fun q _ h => hFc q h) hFc (fun r201 u202 t H1 locs ht hvm hp203 hB hz1 hk1 hS => ?_)
        obtain ⟨hP1, hD1⟩ := hB
        rw [ht] at hP1
        have hD1 := hD1.weaken (fun _ _ _ h => hFc _ h)
        generalize H1 = H at hP1 hS ⊢
        have hP := hP1
        have hD := hD1
        have hP : va_P D xcl (rp ad E16 RL) H := hP
        have hD : va_D A (rp ad E16 RL) := hD
        rcases hp203 with ⟨rfl, z204, z205, z206⟩ | ⟨rfl, z207⟩
        · refine W.eq (g2 := F0 m 64 ls [.int 1]) rfl ?_
          obtain ⟨pi9, hpi9⟩ : ∃ q, pI g (mdv g z145 z146) r13 = some q := by rw [hdm_156]; exact pI_ex hk0_173 tk0_173 tf0_173 ⟨z204, z205, z206⟩
          refine lv_if_ne (tgt := 77) hx hb xd_De_peek_64 (by decide) (fun _ => ?_) (fun hc208 => absurd hc208 (by decide))
          refine lv_aload hx hb xd_De_peek_77 (lv_at hl 1 rfl) ?_
          refine lv_aload hx hb xd_De_peek_79 (lv_at hl 0 rfl) ?_
          refine lv_acmp_eq (rx := (some (ad (20 + z28) (10 + 10 * z29)))) (ry := (some (ad (20 + z145) (10 + 10 * z146)))) (tgt := 118) hx hb xd_De_peek_81 (by decide) (fun hc209 => ?_) (fun hc209 => ?_)
          · refine lv_iconst (v := 1) hx hb xd_De_peek_118 (by decide) ?_
            refine lv_goto (tgt := 123) hx hb xd_De_peek_119 (by decide) ?_
            refine W.widen (k := 1) (n := 6) (Nat.le_of_ble_eq_true rfl) (Nat.le_of_ble_eq_true rfl) ?_
            refine vx_ret ?_
            exact W.zret (v := 1) hx hb hr rfl (fun t ht hW => ⟨⟨1, E16, rfl, ⟨⟨⟨wn17, hCI⟩, hF1⟩, Or.inr ⟨(by rw [← hnm]; exact hc200), z28, z29, z145, mdv g z145 z146, z30, z147, Or.inr ⟨rfl, pi9, by rw [← hnm]; exact hpi9, Or.inl ⟨rfl, Or.inl (by
        have e9 := rp_inj hD (z31.1 0 (by omega)) (z149.1 0 (by omega)) (Option.some.inj hc209)
        have e1 : z28 = z145 := by omega
        have e2 : z29 = z146 := by omega
        exact ⟨e1, by rw [e1, e2]⟩)⟩⟩⟩⟩, by rw [ht]; exact hP, hD⟩, hS.F ht⟩) hS.2.2 xd_De_peek_123
          · have hne9 : ¬ (z28 = z145 ∧ mdv g z28 z29 = mdv g z145 z146) := fun ⟨e1, e2⟩ => by
              have e3 := hXT1.2.2.2.2.2.2.2.2.1 z28 z30.1 z29 z146 z30.2.2.2.2 (by rw [e1]; exact z148) (by rw [e2, e1])
              exact hc209 (by rw [e1, e3])
            refine lv_aload hx hb xd_De_peek_84 (lv_at hl 1 rfl) ?_
            refine px_get (D := D) (ci := 6) (v := .ref (ad (20 + z28) (14 + 10 * z29))) (C := xR_Me) (T := xT_Me) (N := 6) hx hb hT xi_Me hown hK.1 hP m_99 c_98 rfl 5 (by decide) (hT _ k7x_48) (fun _ h9 => h9) rfl xd_De_peek_86 ?_
            refine lv_aload hx hb xd_De_peek_89 (lv_at hl 0 rfl) ?_
            have hFc := px_free hD hS hA
            refine va_calli (va_runV (As := [.ref (ad (20 + z145) (10 + 10 * z146))]) (rest := []) ⟨hx, hb, hml, hown, hT⟩ (xc_Re_marks l D kA H.size ad E16 RL (20 + z28) (14 + 10 * z29) (17 + 10 * z29) g4_97 z145 z146 d_156 (lyv ad lq_150) op_150 fd_173 nm_173 sd_173 m_107 c_106 m_113 c_112 m_158 c_157 m_152 c_155 m_175 c_174 (by first | assumption | omega)) (cwV 1 hT (wT_V k7x_50 k7x_51 k7x_52 k7x_53 k7x_49) rfl rfl rfl (by decide +kernel) ⟨Nat.le_of_ble_eq_true rfl, Nat.le_of_ble_eq_true rfl⟩) (px_preV hK hP hD m_107 c_106 rfl) rfl rfl hl.1 rfl (lv_room (Nat.le_of_ble_eq_true rfl)) xd_De_peek_91 ⟨(Nat.le_of_ble_eq_true rfl), (Nat.le_of_ble_eq_true rfl)⟩) hS (fun q _ h => hFc q h) hFc (fun r210 u211 t H1 locs ht hvm hp212 hB hz1 hk1 hS => ?_)
            obtain ⟨hP1, hD1⟩ := hB
            rw [ht] at hP1
            have hD1 := hD1.weaken (fun _ _ _ h => hFc _ h)
            generalize H1 = H at hP1 hS ⊢
            have hP := hP1
            have hD := hD1
            have hP : va_P D xcl (rp ad E16 RL) H := hP
            have hD : va_D A (rp ad E16 RL) := hD
            have hbit : ¬ ((g4_97 z145 >>> (nI d_156 &&& 31)) &&& 1) = 0 ↔ rdQ g z28 (mdv g z28 z29) (12 * z145 + mdv g z145 z146) := (BS_marks (f := g4_97) (n := z145) (d := d_156) (by omega)).trans (by have q := hRB1 z28 z30.1 z29 z30.2.2.2.2 (12 * z145 + d_156) (by have q9 := z147.1; omega); rw [c_112] at q; rw [hdm_156]; exact q)
            rcases hp212 with ⟨rfl, z213⟩ | ⟨rfl, z214⟩
            · refine W.eq (g2 := F0 m 94 ls [.int 1]) rfl ?_
              refine lv_if_eq (tgt := 122) hx hb xd_De_peek_94 (by decide) (fun hc215 => absurd hc215 (by decide)) (fun _ => ?_)
              refine lv_aload hx hb xd_De_peek_97 (lv_at hl 0 rfl) ?_
              refine px_get (D := D) (ci := 6) (v := .ref (ad (1 + d_156) 0)) (C := xR_Me) (T := xT_Me) (N := 6) hx hb hT xi_Me hown hK.1 hP m_158 c_157 rfl 1 (by decide) (hT _ k7x_42) (fun _ h9 => h9) rfl xd_De_peek_99 ?_
              refine lv_iload hx hb xd_De_peek_102 (lv_at hl 2 rfl) ?_
              refine lv_aload hx hb xd_De_peek_104 (lv_at hl 1 rfl) ?_
              refine px_get (D := D) (ci := 6) (v := .ref (ad (1 + d_97) 0)) (C := xR_Me) (T := xT_Me) (N := 6) hx hb hT xi_Me hown hK.1 hP m_99 c_98 rfl 1 (by decide) (hT _ k7x_42) (fun _ h9 => h9) rfl xd_De_peek_106 ?_
              refine px_get (D := D) (ci := 7) (v := .int nm_114) (C := xR_Ds) (T := xT_Ds) (N := 12) hx hb hT xi_Ds hown hK.1 hP m_116 c_115 rfl 2 (by decide) (hT _ k7x_54) (fun _ h9 => h9) rfl xd_De_peek_109 ?_
              have hFc := px_free hD hS hA
              refine va_calli (va_runV (As := [.int r13, .int nm_114]) (rest := []) ⟨hx, hb, hml, hown, hT⟩ (xc_Ds_opensToA l D kA H.size ad E16 RL g nd d_156 r13 nm_114 (by first | assumption | omega) (by first | assumption | omega) hTD1 (by rw [tnm_114]; exact hNZ1 _ hd_97)) (cwV 2 hT (wT_V k7x_56 k7x_57 k7x_58 k7x_59 k7x_55) rfl rfl rfl (by decide +kernel) ⟨Nat.le_of_ble_eq_true rfl, Nat.le_of_ble_eq_true rfl⟩) (px_preV hK hP hD m_175 c_174 rfl) rfl rfl hl.1 rfl (lv_room (Nat.le_of_ble_eq_true rfl)) xd_De_peek_112 ⟨(Nat.le_of_ble_eq_true rfl), (Nat.le_of_ble_eq_true rfl)⟩) hS (fun q _ h => hFc q h) hFc (fun r216 u217 t H1 locs ht hvm hp218 hB hz1 hk1 hS => ?_)
              obtain ⟨hP1, hD1⟩ := hB
              rw [ht] at hP1
              have hD1 := hD1.weaken (fun _ _ _ h => hFc _ h)
              generalize H1 = H at hP1 hS ⊢
              have hP := hP1
              have hD := hD1
              have hP : va_P D xcl (rp ad E16 RL) H := hP
              have hD : va_D A (rp ad E16 RL) := hD
              rcases hp218 with ⟨rfl, z219⟩ | ⟨rfl, z220⟩
              · refine W.eq (g2 := F0 m 115 ls [.int 1]) rfl ?_
                have hop9 : (∃ i, pI g (mdv g z145 z146) r13 = some i ∧ opnP g (6 * mdv g z145 z146 + i) (g 4 (mdv g z28 z29))) := by rw [hdm_156, hdm_97, ← tnm_114]; exact z219
                refine lv_if_eq (tgt := 122) hx hb xd_De_peek_115 (by decide) (fun hc221 => absurd hc221 (by decide)) (fun _ => ?_)
                refine lv_iconst (v := 1) hx hb xd_De_peek_118 (by decide) ?_
                refine lv_goto (tgt := 123) hx hb xd_De_peek_119 (by decide) ?_
                refine W.widen (k := 1) (n := 6) (Nat.le_of_ble_eq_true rfl) (Nat.le_of_ble_eq_true rfl) ?_
                refine vx_ret ?_
                exact W.zret (v := 1) hx hb hr rfl (fun t ht hW => ⟨⟨1, E16, rfl, ⟨⟨⟨wn17, hCI⟩, hF1⟩, Or.inr ⟨(by rw [← hnm]; exact hc200), z28, z29, z145, mdv g z145 z146, z30, z147, Or.inr ⟨rfl, pi9, by rw [← hnm]; exact hpi9, Or.inl ⟨rfl, Or.inr ⟨hbit.mp z213, by
        obtain ⟨i9, q1, q2⟩ := hop9
        rw [hpi9] at q1
        rw [Option.some.inj q1]; exact q2⟩⟩⟩⟩⟩, by rw [ht]; exact hP, hD⟩, hS.F ht⟩) hS.2.2 xd_De_peek_123
              · refine W.eq (g2 := F0 m 115 ls [.int 0]) rfl ?_
                have hop9 : ¬ (∃ i, pI g (mdv g z145 z146) r13 = some i ∧ opnP g (6 * mdv g z145 z146 + i) (g 4 (mdv g z28 z29))) := by rw [hdm_156, hdm_97, ← tnm_114]; exact z220
                refine lv_if_eq (tgt := 122) hx hb xd_De_peek_115 (by decide) (fun _ => ?_) (fun hc222 => absurd (by decide) hc222)
                refine lv_iconst (v := 0) hx hb xd_De_peek_122 (by decide) ?_
                refine W.widen (k := 1) (n := 6) (Nat.le_of_ble_eq_true rfl) (Nat.le_of_ble_eq_true rfl) ?_
                refine vx_ret ?_
                exact W.zret (v := 0) hx hb hr rfl (fun t ht hW => ⟨⟨0, E16, rfl, ⟨⟨⟨wn17, hCI⟩, hF1⟩, Or.inr ⟨(by rw [← hnm]; exact hc200), z28, z29, z145, mdv g z145 z146, z30, z147, Or.inr ⟨rfl, pi9, by rw [← hnm]; exact hpi9, Or.inr ⟨rfl, fun q => q.elim hne9 (fun q => hop9 ⟨pi9, hpi9, q.2⟩)⟩⟩⟩⟩, by rw [ht]; exact hP, hD⟩, hS.F ht⟩) hS.2.2 xd_De_peek_123
            · refine W.eq (g2 := F0 m 94 ls [.int 0]) rfl ?_
              refine lv_if_eq (tgt := 122) hx hb xd_De_peek_94 (by decide) (fun _ => ?_) (fun hc223 => absurd (by decide) hc223)
              refine lv_iconst (v := 0) hx hb xd_De_peek_122 (by decide) ?_
              refine W.widen (k := 1) (n := 6) (Nat.le_of_ble_eq_true rfl) (Nat.le_of_ble_eq_true rfl) ?_
              refine vx_ret ?_
              exact W.zret (v := 0) hx hb hr rfl (fun t ht hW => ⟨⟨0, E16, rfl, ⟨⟨⟨wn17, hCI⟩, hF1⟩, Or.inr ⟨(by rw [← hnm]; exact hc200), z28, z29, z145, mdv g z145 z146, z30, z147, Or.inr ⟨rfl, pi9, by rw [← hnm]; exact hpi9, Or.inr ⟨rfl, fun q => q.elim hne9 (fun q => hbit.mpr q.1 z214)⟩⟩⟩⟩, by rw [ht]; exact hP, hD⟩, hS.F ht⟩) hS.2.2 xd_De_peek_123
        · refine W.eq (g2 := F0 m 64 ls [.int 0]) rfl ?_
          have hpn9 : pI g (mdv g z145 z146) r13 = none := by rw [hdm_156]; exact pI_x hk0_173 tk0_173 tf0_173 z207
          refine lv_if_ne (tgt := 77) hx hb xd_De_peek_64 (by decide) (fun hc224 => absurd (by decide) hc224) (fun _ => ?_)
          exact y_throwC (ik := 89) (is := 181) (wf := fun (u : Nat → Nat → va_E) => rp ad u RL) E16 (⟨⟨wn17, hCI⟩, hF1⟩) (Or.inr ⟨rfl, (by rw [← hnm]; exact hc200), z28, z29, z145, mdv g z145 z146, z30, z147, by rw [← hnm]; exact hpn9⟩) hx hb hlt hown hT hK k7x_60 k7x_61 hZ.2.2.2.1.2.2.2.2.2.2.2.2.2.2.2.2.2.2.2.2.2.2.2.1 hZ.1 hS hP hD (hl.1.trans hml.symm) xd_De_peek_67 xd_De_peek_70 xd_De_peek_71 xd_De_peek_73 xd_De_peek_76 htab (Nat.le_of_ble_eq_true rfl) (Nat.le_of_ble_eq_true rfl) (Nat.le_of_ble_eq_true rfl) (Nat.le_of_ble_eq_true rfl) hlocks (Nat.le_of_ble_eq_true rfl) (Nat.le_of_ble_eq_true rfl)
      · exact y_throwA (ik := 56) (is := 161) (wf := fun (u : Nat → Nat → va_E) => rp ad u RL) E16 (⟨⟨wn17, hCI⟩, hF1⟩) (Or.inl ⟨rfl, Or.inl (by rw [← hnm]; exact hc200)⟩) hx hb hlt hown hT hK k7x_40 k7x_41 hZ.2.2.2.1.2.2.2.2.2.2.2.2.2.2.2.2.2.2.2.2.2.1 hZ.1 hS hP hD (hl.1.trans hml.symm) xd_De_peek_41 xd_De_peek_44 xd_De_peek_45 xd_De_peek_47 xd_De_peek_50 htab (Nat.le_of_ble_eq_true rfl) (Nat.le_of_ble_eq_true rfl) (Nat.le_of_ble_eq_true rfl) (Nat.le_of_ble_eq_true rfl) hlocks (Nat.le_of_ble_eq_true rfl) (Nat.le_of_ble_eq_true rfl)
theorem k7e_0 : (Cond.code xy_De_line xb_De_line 2 (some .int)) ∈ wT := wT_t (List.mem_append_left _ (List.mem_of_getElem? (i := 186) rfl)) rfl
theorem k7e_1 : (Cond.methodLink "LayerDeskLaw" 7 xy_De_line) ∈ wT := wT_t (List.mem_append_left _ (List.mem_of_getElem? (i := 183) rfl)) rfl
theorem k7e_2 : (Cond.instanceMethod xy_De_line) ∈ wT := wT_t (List.mem_append_left _ (List.mem_of_getElem? (i := 184) rfl)) rfl
theorem k7e_3 : (Cond.selects "LayerDesk" xy_De_line xy_De_line) ∈ wT := wT_t (List.mem_append_left _ (List.mem_of_getElem? (i := 185) rfl)) rfl
theorem k7e_4 : (Cond.initialized "LayerDesk") ∈ wT := wT_t (List.mem_append_left _ (List.mem_of_getElem? (i := 1) rfl)) rfl
theorem k7e_5 : (Cond.classLink "LayerDeskLaw" 13 "java/lang/IllegalArgumentException") ∈ wT := wT_t (List.mem_append_left _ (List.mem_of_getElem? (i := 181) rfl)) rfl
theorem k7e_6 : (Cond.classLink "LayerDeskLaw" 15 "java/lang/IllegalStateException") ∈ wT := wT_t (List.mem_append_left _ (List.mem_of_getElem? (i := 182) rfl)) rfl
theorem k7e_7 : (Cond.code xy_De_layer xb_De_layer 7 (some .int)) ∈ wT := wT_t (List.mem_append_right _ (List.mem_append_right _ (List.mem_append_left _ (List.mem_of_getElem? (i := 55) rfl)))) rfl
theorem k7e_8 : (Cond.methodLink "LayerDeskLaw" 17 xy_De_layer) ∈ wT := wT_t (List.mem_append_right _ (List.mem_append_right _ (List.mem_append_left _ (List.mem_of_getElem? (i := 52) rfl)))) rfl
theorem k7e_9 : (Cond.instanceMethod xy_De_layer) ∈ wT := wT_t (List.mem_append_right _ (List.mem_append_right _ (List.mem_append_left _ (List.mem_of_getElem? (i := 53) rfl)))) rfl
theorem k7e_10 : (Cond.selects "LayerDesk" xy_De_layer xy_De_layer) ∈ wT := wT_t (List.mem_append_right _ (List.mem_append_right _ (List.mem_append_left _ (List.mem_of_getElem? (i := 54) rfl)))) rfl
theorem k7e_11 : (Cond.classLink "LayerDeskLaw" 21 "java/util/NoSuchElementException") ∈ wT := wT_t (List.mem_append_right _ (List.mem_append_right _ (List.mem_append_left _ (List.mem_of_getElem? (i := 51) rfl)))) rfl
theorem k7e_12 : (Cond.code xy_De_load xb_De_load 6 (some .int)) ∈ wT := wT_t (List.mem_append_right _ (List.mem_append_right _ (List.mem_append_right _ (List.mem_append_left _ (List.mem_of_getElem? (i := 38) rfl))))) rfl
theorem k7e_13 : (Cond.methodLink "LayerDeskLaw" 23 xy_De_load) ∈ wT := wT_t (List.mem_append_right _ (List.mem_append_right _ (List.mem_append_right _ (List.mem_append_left _ (List.mem_of_getElem? (i := 35) rfl))))) rfl
theorem k7e_14 : (Cond.instanceMethod xy_De_load) ∈ wT := wT_t (List.mem_append_right _ (List.mem_append_right _ (List.mem_append_right _ (List.mem_append_left _ (List.mem_of_getElem? (i := 36) rfl))))) rfl
theorem k7e_15 : (Cond.selects "LayerDesk" xy_De_load xy_De_load) ∈ wT := wT_t (List.mem_append_right _ (List.mem_append_right _ (List.mem_append_right _ (List.mem_append_left _ (List.mem_of_getElem? (i := 37) rfl))))) rfl
theorem k7e_16 : (Cond.code xy_De_peek xb_De_peek 8 (some .boolean)) ∈ wT := wT_t (List.mem_append_right _ (List.mem_append_right _ (List.mem_append_right _ (List.mem_append_left _ (List.mem_of_getElem? (i := 59) rfl))))) rfl
theorem k7e_17 : (Cond.methodLink "LayerDeskLaw" 27 xy_De_peek) ∈ wT := wT_t (List.mem_append_right _ (List.mem_append_right _ (List.mem_append_right _ (List.mem_append_left _ (List.mem_of_getElem? (i := 56) rfl))))) rfl
theorem k7e_18 : (Cond.instanceMethod xy_De_peek) ∈ wT := wT_t (List.mem_append_right _ (List.mem_append_right _ (List.mem_append_right _ (List.mem_append_left _ (List.mem_of_getElem? (i := 57) rfl))))) rfl
theorem k7e_19 : (Cond.selects "LayerDesk" xy_De_peek xy_De_peek) ∈ wT := wT_t (List.mem_append_right _ (List.mem_append_right _ (List.mem_append_right _ (List.mem_append_left _ (List.mem_of_getElem? (i := 58) rfl))))) rfl
theorem k7e_20 : (Cond.code xy_De_provider xb_De_provider 6 (some .int)) ∈ wT := wT_t (List.mem_append_right _ (List.mem_append_right _ (List.mem_append_right _ (List.mem_append_left _ (List.mem_of_getElem? (i := 71) rfl))))) rfl
theorem k7e_21 : (Cond.methodLink "LayerDeskLaw" 31 xy_De_provider) ∈ wT := wT_t (List.mem_append_right _ (List.mem_append_right _ (List.mem_append_right _ (List.mem_append_left _ (List.mem_of_getElem? (i := 68) rfl))))) rfl
theorem k7e_22 : (Cond.instanceMethod xy_De_provider) ∈ wT := wT_t (List.mem_append_right _ (List.mem_append_right _ (List.mem_append_right _ (List.mem_append_left _ (List.mem_of_getElem? (i := 69) rfl))))) rfl
theorem k7e_23 : (Cond.selects "LayerDesk" xy_De_provider xy_De_provider) ∈ wT := wT_t (List.mem_append_right _ (List.mem_append_right _ (List.mem_append_right _ (List.mem_append_left _ (List.mem_of_getElem? (i := 70) rfl))))) rfl
set_option maxHeartbeats 4000000 in
set_option maxRecDepth 100000 in
theorem xc_La_lineX (l : Launch) (hlt : l.stackTraces = false) (D : va_G) (kA : Nat → ClassId) (sz : Nat) (ad : Nat → Nat → Nat) (E : Nat → Nat → va_E) (RL : List (Nat × Nat)) (Z : zT) (g : Nat → Nat → Int32) (ml : Nat) (nd : Nat) (len : Nat) (wn : Nat) (cs : Nat) (ob : Nat) (fo : Nat → Int64) (hCI : CI kA ad E RL ml nd len wn cs) (hTD : TDs g E nd) (hZI : ZI g nd) (hTX : ∀ i, i < len → eA (E 0 2) i = g 0 i) : Met l xy_La_line (.codeWith xy_La_line xb_La_line 3 (some .int) [(0, 8, 11, 13), (0, 8, 14, 15)] :: wT) { frames := 8, cells := 14, slots := 72, locals := 176 } (va_Pc [.ref (ad 0 0), .ref ob] (xPreZ D kA sz ((ob, .inl (kA 3, 1, .inr (.inl fo))) :: rp ad E RL) Z)) (va_Qi (fun (r : Int32) (u : ((Nat → Nat → Nat) × (Nat → Nat → va_E) × List (Nat × Nat)) × (Nat → Int64)) => (∃ wn2, CI kA u.1.1 u.1.2.1 u.1.2.2 ml (lnF (g 0) (w_all (g 0) len) nd g).1 0 wn2 cs) ∧ TDs (lnF (g 0) (w_all (g 0) len) nd g).2 u.1.2.1 (lnF (g 0) (w_all (g 0) len) nd g).1 ∧ u.1.1 0 0 = ad 0 0 ∧ FRL ml nd ad u.1.1 E u.1.2.1) (fun (u : ((Nat → Nat → Nat) × (Nat → Nat → va_E) × List (Nat × Nat)) × (Nat → Int64)) t => va_P D xcl ((ob, .inl (kA 3, 1, .inr (.inl u.2))) :: rp u.1.1 u.1.2.1 u.1.2.2) t.heap ∧ va_D (va_A ((ob, .inl (kA 3, 1, .inr (.inl fo))) :: rp ad E RL) sz) ((ob, .inl (kA 3, 1, .inr (.inl u.2))) :: rp u.1.1 u.1.2.1 u.1.2.2)) (va_A ((ob, .inl (kA 3, 1, .inr (.inl fo))) :: rp ad E RL) sz)) 14 72 (va_A ((ob, .inl (kA 3, 1, .inr (.inl fo))) :: rp ad E RL) sz) := by
  refine va_MetW (cc := xb_La_line) (maxL := 3) (ret := (some .int)) (by decide) rfl ?_
  intro p e s m args below meth c s₁ B hml hv
  obtain ⟨rfl, ⟨hsz, hP, hK, hD0⟩, hZ⟩ := hv
  have hx := B.exec
  have hb := B.bytes
  have hr := B.returns
  have hT := x_hT B.pre
  have hown : s.vm.findClass xR_La = some m.cls := findClass_of_methodNamed B.named
  have hlocks := B.notSynchronized
  subst hsz
  have hD := hD0.self (sz := s.heap.size)
  generalize hAe : va_A ((ob, .inl (kA 3, 1, .inr (.inl fo))) :: rp ad E RL) s.heap.size = A at hD hZ ⊢
  have hA : ∀ q : Nat, s.heap.size ≤ q → A q := fun q h => by rw [← hAe]; exact Or.inr h
  have hS : va_S A s.heap s.heap [] := va_S.rf
  have hl := lv_entry ([.ref (ad 0 0), .ref ob]) (n := 3) (Nat.le_of_ble_eq_true rfl)
  rw [lg_entry_eq]
  generalize (lg_sl ([.ref (ad 0 0), .ref ob]) ++ List.replicate (3 - (lg_sl ([.ref (ad 0 0), .ref ob])).length) Slot.unset).toArray = ls at hl ⊢
  have hl : lv_has ls 3 [(0, .ref (ad 0 0)), (1, .ref ob)] := hl
  have hP : va_P D xcl ((ob, .inl (kA 3, 1, .inr (.inl fo))) :: rp ad E RL) s.heap := hP
  have hex := vx_table (x := xy_La_line) B (atoms_spec (ws := .codeWith xy_La_line xb_La_line 3 (some .int) [(0, 8, 11, 13), (0, 8, 14, 15)] :: wT) B.pre _ List.mem_cons_self)
  refine lv_aload_n hx hb xd_La_line_0 rfl (lv_at hl 1 rfl) ?_
  refine lv_iconst (v := 0) hx hb xd_La_line_1 (by decide) ?_
  refine lv_aload_n hx hb xd_La_line_2 rfl (lv_at hl 0 rfl) ?_
  have hPc := xp_P (X := [(ob, .inl (kA 3, 1, .inr (.inl fo)))]) hP
  have hDc := xp_D (X := [(ob, .inl (kA 3, 1, .inr (.inl fo)))]) hD
  have hFc := va_freeP (X := [(ob, .inl (kA 3, 1, .inr (.inl fo)))]) (cx := []) hD hS hA [] rfl
  have hZc := hZ.kept hS
  obtain ⟨lf, hc0⟩ := hCI.2.1
  refine vx_calli (vx_runV (As := []) (rest := [.int 0, .ref ob]) ⟨hx, hb, hml, hown, hT⟩ (xc_De_lineX l hlt D kA s.heap.size ad E RL Z g ml nd len wn cs hCI hTD hZI hTX) (cwV 0 hT (wT_V k7e_1 k7e_2 k7e_3 k7e_4 k7e_0) rfl rfl rfl (by decide +kernel) ⟨Nat.le_of_ble_eq_true rfl, Nat.le_of_ble_eq_true rfl⟩) (px_preVZ hK hPc hDc (hCI.1 0 (by decide)) hc0 rfl hFc hZc) rfl rfl hl.1 rfl (lv_room (Nat.le_of_ble_eq_true rfl)) xd_La_line_3 ⟨Nat.le_of_ble_eq_true rfl, Nat.le_of_ble_eq_true rfl⟩) hS (fun q _ h => hFc q h) hFc (fun q _ h => hFc q h) (fun E9 ce q9 u t H1 locs ht hvm hpost hB hz1 hk1 hS hce hcv hcl => ?_) (fun r u t H1 locs ht hvm hpost hB hz1 hk1 hS => ?_)
  · obtain ⟨hE9, hP1, hD1⟩ := hB
    rw [ht] at hP1
    obtain ⟨hP, hD⟩ := va_joinP (X := [(ob, .inl (kA 3, 1, .inr (.inl fo)))]) (cx := []) (wr := [(ob, .inl (kA 3, 1, .inr (.inl fo)))]) (rx := []) hP hD [] [0] rfl rfl (by decide) (by decide) hk1 hFc hP1 hD1
    generalize H1 = H at hP hS hce ⊢
    have hl := lv_sub hl [1] rfl
    have hl : lv_has ls 3 [(1, .ref ob)] := hl
    have hP : va_P D xcl ((ob, .inl (kA 3, 1, .inr (.inl fo))) :: rp u.1 u.2.1 u.2.2) H := hP
    have hD : va_D A ((ob, .inl (kA 3, 1, .inr (.inl fo))) :: rp u.1 u.2.1 u.2.2) := hD
    rcases hE9 with rfl | rfl
    · refine vx_catch (own := "LayerDeskLaw") (name := "java/lang/IllegalArgumentException") hown [] ⟨0, 8, 11, 13⟩ [⟨0, 8, 14, 15⟩] (by rw [hex]; rfl) (fun z hz => nomatch hz) rfl (by decide) (hT _ k7e_5) (va_Nw.use rfl hK.2.2.2.2.2.1) hce hcv hcl ?_
      refine lv_astore_n hx hb xd_La_line_11 rfl hl (Nat.le_of_ble_eq_true rfl) rfl (fun ls hl => ?_)
      have hl : lv_has ls 3 [(2, .ref q9), (1, .ref ob)] := hl
      refine lv_iconst (v := 1) hx hb xd_La_line_12 (by decide) ?_
      refine W.widen (k := 14) (n := 72) (Nat.le_of_ble_eq_true rfl) (Nat.le_of_ble_eq_true rfl) ?_
      exact W.iret (v := 1) hx hb hr (fun t ht hW => ⟨⟨1, ((u.1, u.2.1, u.2.2), fo), rfl, hpost, by rw [ht]; exact hP, hD⟩, hS.F ht⟩) hS.2.2 xd_La_line_13
    · refine vx_catch (own := "LayerDeskLaw") (name := "java/lang/IllegalStateException") hown [⟨0, 8, 11, 13⟩] ⟨0, 8, 14, 15⟩ [] (by rw [hex]; rfl) (fun z hz => by rw [List.mem_singleton] at hz; subst hz; exact Or.inr ⟨(by decide), "java/lang/IllegalArgumentException", hT _ k7e_5, hZ.2.2.2.2.1⟩) rfl (by decide) (hT _ k7e_6) (va_Nw.use rfl hK.2.2.2.2.2.2.1) hce hcv hcl ?_
      refine lv_astore_n hx hb xd_La_line_14 rfl hl (Nat.le_of_ble_eq_true rfl) rfl (fun ls hl => ?_)
      have hl : lv_has ls 3 [(2, .ref q9), (1, .ref ob)] := hl
      refine lv_iconst (v := 2) hx hb xd_La_line_15 (by decide) ?_
      refine W.widen (k := 14) (n := 72) (Nat.le_of_ble_eq_true rfl) (Nat.le_of_ble_eq_true rfl) ?_
      exact W.iret (v := 2) hx hb hr (fun t ht hW => ⟨⟨2, ((u.1, u.2.1, u.2.2), fo), rfl, hpost, by rw [ht]; exact hP, hD⟩, hS.F ht⟩) hS.2.2 xd_La_line_16
  · obtain ⟨hP1, hD1⟩ := hB
    rw [ht] at hP1
    obtain ⟨hP, hD⟩ := va_joinP (X := [(ob, .inl (kA 3, 1, .inr (.inl fo)))]) (cx := []) (wr := [(ob, .inl (kA 3, 1, .inr (.inl fo)))]) (rx := []) hP hD [] [0] rfl rfl (by decide) (by decide) hk1 hFc hP1 hD1
    generalize H1 = H at hP hS ⊢
    have hl := lv_sub hl [1] rfl
    have hl : lv_has ls 3 [(1, .ref ob)] := hl
    have hP : va_P D xcl ((ob, .inl (kA 3, 1, .inr (.inl fo))) :: rp u.1 u.2.1 u.2.2) H := hP
    have hD : va_D A ((ob, .inl (kA 3, 1, .inr (.inl fo))) :: rp u.1 u.2.1 u.2.2) := hD
    refine lv_i2l (v := ((r : Int32).toInt64)) hx hb xd_La_line_6 rfl ?_
    refine va_last hx hb hK.1 hP hD hS 0 3 rfl rfl (show ¬ _ by decide) xd_La_line_7 (fun H locs hP hD hS => ?_)
    have hP : va_P D xcl ((ob, .inl (kA 3, 1, .inr (.inl (vp_updL fo (0 : Int32).toNatClampNeg ((r : Int32).toInt64))))) :: rp u.1 u.2.1 u.2.2) H := hP
    have hD : va_D A ((ob, .inl (kA 3, 1, .inr (.inl (vp_updL fo (0 : Int32).toNatClampNeg ((r : Int32).toInt64))))) :: rp u.1 u.2.1 u.2.2) := hD
    refine lv_goto (tgt := 17) hx hb xd_La_line_8 (by decide) ?_
    refine lv_iconst (v := 0) hx hb xd_La_line_17 (by decide) ?_
    refine W.widen (k := 14) (n := 72) (Nat.le_of_ble_eq_true rfl) (Nat.le_of_ble_eq_true rfl) ?_
    exact W.iret (v := 0) hx hb hr (fun t ht hW => ⟨⟨0, ((u.1, u.2.1, u.2.2), (vp_updL fo (0 : Int32).toNatClampNeg ((r : Int32).toInt64))), rfl, hpost, by rw [ht]; exact hP, hD⟩, hS.F ht⟩) hS.2.2 xd_La_line_18
set_option maxHeartbeats 4000000 in
set_option maxRecDepth 100000 in
theorem xc_La_layerX (l : Launch) (hlt : l.stackTraces = false) (D : va_G) (kA : Nat → ClassId) (sz : Nat) (ad : Nat → Nat → Nat) (E : Nat → Nat → va_E) (RL : List (Nat × Nat)) (Z : zT) (g : Nat → Nat → Int32) (ml : Nat) (nd : Nat) (len : Nat) (wn : Nat) (cs : Nat) (ob : Nat) (fo : Nat → Int64) (fi : Int32) (px : Int32) (bi : Int32) (hCI : CI kA ad E RL ml nd len wn cs) (hTD : TDs g E nd) (hTL : TLas g ad E nd ml) (hCB : CBs g E ml) (hTX : ∀ i, i < len → eA (E 0 2) i = g 0 i) (hNZ : NZ g nd) (hUQ : ∀ d, d < nd → UQ1 g d) (hND : NDq g ml) : Met l xy_La_layer (.codeWith xy_La_layer xb_La_layer 6 (some .int) [(0, 12, 15, 13), (0, 12, 19, 21), (0, 12, 23, 15)] :: wT) { frames := 24, cells := 101, slots := 430, locals := 1310 } (va_Pc [.ref (ad 0 0), .int fi, .int px, .int bi, .ref ob] (xPreZ D kA sz ((ob, .inl (kA 3, 1, .inr (.inl fo))) :: rp ad E RL) Z)) (va_Qi (fun (r : Int32) (u : ((Nat → Nat → Nat) × (Nat → Nat → va_E) × List (Nat × Nat)) × (Nat → Int64)) => YP kA g ad E ml nd len fi px bi r u.1.1 u.1.2.1 u.1.2.2 (u.2 0)) (fun (u : ((Nat → Nat → Nat) × (Nat → Nat → va_E) × List (Nat × Nat)) × (Nat → Int64)) t => va_P D xcl ((ob, .inl (kA 3, 1, .inr (.inl u.2))) :: rp u.1.1 u.1.2.1 u.1.2.2) t.heap ∧ va_D (va_A ((ob, .inl (kA 3, 1, .inr (.inl fo))) :: rp ad E RL) sz) ((ob, .inl (kA 3, 1, .inr (.inl u.2))) :: rp u.1.1 u.1.2.1 u.1.2.2)) (va_A ((ob, .inl (kA 3, 1, .inr (.inl fo))) :: rp ad E RL) sz)) 101 430 (va_A ((ob, .inl (kA 3, 1, .inr (.inl fo))) :: rp ad E RL) sz) := by
  refine va_MetW (cc := xb_La_layer) (maxL := 6) (ret := (some .int)) (by decide) rfl ?_
  intro p e s m args below meth c s₁ B hml hv
  obtain ⟨rfl, ⟨hsz, hP, hK, hD0⟩, hZ⟩ := hv
  have hx := B.exec
  have hb := B.bytes
  have hr := B.returns
  have hT := x_hT B.pre
  have hown : s.vm.findClass xR_La = some m.cls := findClass_of_methodNamed B.named
  have hlocks := B.notSynchronized
  subst hsz
  have hD := hD0.self (sz := s.heap.size)
  generalize hAe : va_A ((ob, .inl (kA 3, 1, .inr (.inl fo))) :: rp ad E RL) s.heap.size = A at hD hZ ⊢
  have hA : ∀ q : Nat, s.heap.size ≤ q → A q := fun q h => by rw [← hAe]; exact Or.inr h
  have hS : va_S A s.heap s.heap [] := va_S.rf
  have hl := lv_entry ([.ref (ad 0 0), .int fi, .int px, .int bi, .ref ob]) (n := 6) (Nat.le_of_ble_eq_true rfl)
  rw [lg_entry_eq]
  generalize (lg_sl ([.ref (ad 0 0), .int fi, .int px, .int bi, .ref ob]) ++ List.replicate (6 - (lg_sl ([.ref (ad 0 0), .int fi, .int px, .int bi, .ref ob])).length) Slot.unset).toArray = ls at hl ⊢
  have hl : lv_has ls 6 [(0, .ref (ad 0 0)), (1, .int fi), (2, .int px), (3, .int bi), (4, .ref ob)] := hl
  have hP : va_P D xcl ((ob, .inl (kA 3, 1, .inr (.inl fo))) :: rp ad E RL) s.heap := hP
  have hex := vx_table (x := xy_La_layer) B (atoms_spec (ws := .codeWith xy_La_layer xb_La_layer 6 (some .int) [(0, 12, 15, 13), (0, 12, 19, 21), (0, 12, 23, 15)] :: wT) B.pre _ List.mem_cons_self)
  refine lv_aload hx hb xd_La_layer_0 (lv_at hl 4 rfl) ?_
  refine lv_iconst (v := 0) hx hb xd_La_layer_2 (by decide) ?_
  refine lv_aload_n hx hb xd_La_layer_3 rfl (lv_at hl 0 rfl) ?_
  refine lv_iload_n hx hb xd_La_layer_4 rfl (lv_at hl 1 rfl) ?_
  refine lv_iload_n hx hb xd_La_layer_5 rfl (lv_at hl 2 rfl) ?_
  refine lv_iload_n hx hb xd_La_layer_6 rfl (lv_at hl 3 rfl) ?_
  have hPc := xp_P (X := [(ob, .inl (kA 3, 1, .inr (.inl fo)))]) hP
  have hDc := xp_D (X := [(ob, .inl (kA 3, 1, .inr (.inl fo)))]) hD
  have hFc := va_freeP (X := [(ob, .inl (kA 3, 1, .inr (.inl fo)))]) (cx := []) hD hS hA [] rfl
  have hZc := hZ.kept hS
  obtain ⟨lf, hc0⟩ := hCI.2.1
  refine vx_calli (vx_runV (As := [.int fi, .int px, .int bi]) (rest := [.int 0, .ref ob]) ⟨hx, hb, hml, hown, hT⟩ (xc_De_layerX l hlt D kA s.heap.size ad E RL Z g ml nd len wn cs fi px bi hCI hTD hTL hCB hTX hNZ hUQ hND) (cwV 3 hT (wT_V k7e_8 k7e_9 k7e_10 k7e_4 k7e_7) rfl rfl rfl (by decide +kernel) ⟨Nat.le_of_ble_eq_true rfl, Nat.le_of_ble_eq_true rfl⟩) (px_preVZ hK hPc hDc (hCI.1 0 (by decide)) hc0 rfl hFc hZc) rfl rfl hl.1 rfl (lv_room (Nat.le_of_ble_eq_true rfl)) xd_La_layer_7 ⟨Nat.le_of_ble_eq_true rfl, Nat.le_of_ble_eq_true rfl⟩) hS (fun q _ h => hFc q h) hFc (fun q _ h => hFc q h) (fun E9 ce q9 u t H1 locs ht hvm hpost hB hz1 hk1 hS hce hcv hcl => ?_) (fun r u t H1 locs ht hvm hpost hB hz1 hk1 hS => ?_)
  · obtain ⟨hE9, hP1, hD1⟩ := hB
    rw [ht] at hP1
    obtain ⟨hP, hD⟩ := va_joinP (X := [(ob, .inl (kA 3, 1, .inr (.inl fo)))]) (cx := []) (wr := [(ob, .inl (kA 3, 1, .inr (.inl fo)))]) (rx := []) hP hD [] [0] rfl rfl (by decide) (by decide) hk1 hFc hP1 hD1
    generalize H1 = H at hP hS hce ⊢
    have hl := lv_sub hl [1, 2, 3, 4] rfl
    have hl : lv_has ls 6 [(1, .int fi), (2, .int px), (3, .int bi), (4, .ref ob)] := hl
    have hP : va_P D xcl ((ob, .inl (kA 3, 1, .inr (.inl fo))) :: rp u.1 u.2.1 u.2.2) H := hP
    have hD : va_D A ((ob, .inl (kA 3, 1, .inr (.inl fo))) :: rp u.1 u.2.1 u.2.2) := hD
    rcases hE9 with ⟨rfl, hz9⟩ | ⟨rfl, hz9⟩ | ⟨rfl, hz9⟩
    · refine vx_catch (own := "LayerDeskLaw") (name := "java/lang/IllegalArgumentException") hown [] ⟨0, 12, 15, 13⟩ [⟨0, 12, 19, 21⟩, ⟨0, 12, 23, 15⟩] (by rw [hex]; rfl) (fun z hz => nomatch hz) rfl (by decide) (hT _ k7e_5) (va_Nw.use rfl hK.2.2.2.2.2.1) hce hcv hcl ?_
      refine lv_astore hx hb xd_La_layer_15 hl (Nat.le_of_ble_eq_true rfl) rfl (fun ls hl => ?_)
      have hl : lv_has ls 6 [(5, .ref q9), (1, .int fi), (2, .int px), (3, .int bi), (4, .ref ob)] := hl
      refine lv_iconst (v := 1) hx hb xd_La_layer_17 (by decide) ?_
      refine W.widen (k := 101) (n := 430) (Nat.le_of_ble_eq_true rfl) (Nat.le_of_ble_eq_true rfl) ?_
      exact W.iret (v := 1) hx hb hr (fun t ht hW => ⟨⟨1, ((u.1, u.2.1, u.2.2), fo), rfl, (YP_1 ⟨hpost.1, hpost.2⟩ hz9), by rw [ht]; exact hP, hD⟩, hS.F ht⟩) hS.2.2 xd_La_layer_18
    · refine vx_catch (own := "LayerDeskLaw") (name := "java/util/NoSuchElementException") hown [⟨0, 12, 15, 13⟩] ⟨0, 12, 19, 21⟩ [⟨0, 12, 23, 15⟩] (by rw [hex]; rfl) (fun z hz => by rw [List.mem_singleton] at hz; subst hz; exact Or.inr ⟨(by decide), "java/lang/IllegalArgumentException", hT _ k7e_5, hZ.2.2.2.2.2.1⟩) rfl (by decide) (hT _ k7e_11) (va_Nw.use rfl hK.2.2.2.2.2.2.2) hce hcv hcl ?_
      refine lv_astore hx hb xd_La_layer_19 hl (Nat.le_of_ble_eq_true rfl) rfl (fun ls hl => ?_)
      have hl : lv_has ls 6 [(5, .ref q9), (1, .int fi), (2, .int px), (3, .int bi), (4, .ref ob)] := hl
      refine lv_iconst (v := 2) hx hb xd_La_layer_21 (by decide) ?_
      refine W.widen (k := 101) (n := 430) (Nat.le_of_ble_eq_true rfl) (Nat.le_of_ble_eq_true rfl) ?_
      exact W.iret (v := 2) hx hb hr (fun t ht hW => ⟨⟨2, ((u.1, u.2.1, u.2.2), fo), rfl, (YP_2 ⟨hpost.1, hpost.2⟩ hz9), by rw [ht]; exact hP, hD⟩, hS.F ht⟩) hS.2.2 xd_La_layer_22
    · refine vx_catch (own := "LayerDeskLaw") (name := "java/lang/IllegalStateException") hown [⟨0, 12, 15, 13⟩, ⟨0, 12, 19, 21⟩] ⟨0, 12, 23, 15⟩ [] (by rw [hex]; rfl) (fun z hz => by rcases List.mem_cons.mp hz with hz | hz; subst hz; exact Or.inr ⟨(by decide), "java/lang/IllegalArgumentException", hT _ k7e_5, hZ.2.2.2.2.1⟩; rw [List.mem_singleton] at hz; subst hz; exact Or.inr ⟨(by decide), "java/util/NoSuchElementException", hT _ k7e_11, hZ.2.2.2.2.2.2⟩) rfl (by decide) (hT _ k7e_6) (va_Nw.use rfl hK.2.2.2.2.2.2.1) hce hcv hcl ?_
      refine lv_astore hx hb xd_La_layer_23 hl (Nat.le_of_ble_eq_true rfl) rfl (fun ls hl => ?_)
      have hl : lv_has ls 6 [(5, .ref q9), (1, .int fi), (2, .int px), (3, .int bi), (4, .ref ob)] := hl
      refine lv_iconst (v := 3) hx hb xd_La_layer_25 (by decide) ?_
      refine W.widen (k := 101) (n := 430) (Nat.le_of_ble_eq_true rfl) (Nat.le_of_ble_eq_true rfl) ?_
      exact W.iret (v := 3) hx hb hr (fun t ht hW => ⟨⟨3, ((u.1, u.2.1, u.2.2), fo), rfl, (YP_3 ⟨hpost.1, hpost.2⟩ hz9), by rw [ht]; exact hP, hD⟩, hS.F ht⟩) hS.2.2 xd_La_layer_26
  · obtain ⟨hP1, hD1⟩ := hB
    rw [ht] at hP1
    obtain ⟨hP, hD⟩ := va_joinP (X := [(ob, .inl (kA 3, 1, .inr (.inl fo)))]) (cx := []) (wr := [(ob, .inl (kA 3, 1, .inr (.inl fo)))]) (rx := []) hP hD [] [0] rfl rfl (by decide) (by decide) hk1 hFc hP1 hD1
    generalize H1 = H at hP hS ⊢
    have hl := lv_sub hl [1, 2, 3, 4] rfl
    have hl : lv_has ls 6 [(1, .int fi), (2, .int px), (3, .int bi), (4, .ref ob)] := hl
    have hP : va_P D xcl ((ob, .inl (kA 3, 1, .inr (.inl fo))) :: rp u.1 u.2.1 u.2.2) H := hP
    have hD : va_D A ((ob, .inl (kA 3, 1, .inr (.inl fo))) :: rp u.1 u.2.1 u.2.2) := hD
    refine lv_i2l (v := ((r : Int32).toInt64)) hx hb xd_La_layer_10 rfl ?_
    refine va_last hx hb hK.1 hP hD hS 0 3 rfl rfl (show ¬ _ by decide) xd_La_layer_11 (fun H locs hP hD hS => ?_)
    have hP : va_P D xcl ((ob, .inl (kA 3, 1, .inr (.inl (vp_updL fo (0 : Int32).toNatClampNeg ((r : Int32).toInt64))))) :: rp u.1 u.2.1 u.2.2) H := hP
    have hD : va_D A ((ob, .inl (kA 3, 1, .inr (.inl (vp_updL fo (0 : Int32).toNatClampNeg ((r : Int32).toInt64))))) :: rp u.1 u.2.1 u.2.2) := hD
    refine lv_goto (tgt := 27) hx hb xd_La_layer_12 (by decide) ?_
    refine lv_iconst (v := 0) hx hb xd_La_layer_27 (by decide) ?_
    refine W.widen (k := 101) (n := 430) (Nat.le_of_ble_eq_true rfl) (Nat.le_of_ble_eq_true rfl) ?_
    exact W.iret (v := 0) hx hb hr (fun t ht hW => ⟨⟨0, ((u.1, u.2.1, u.2.2), (vp_updL fo (0 : Int32).toNatClampNeg ((r : Int32).toInt64))), rfl, (by
        obtain ⟨⟨y1, y2, y3, y4⟩, L9, wn2, cs2, y5, y6, y7, y8, y9, y10, y11, y12, _⟩ := hpost
        exact Or.inr (Or.inr (Or.inr ⟨rfl, by rw [y1]; simp [vp_updL], y2, y3, y4, L9, wn2, cs2, y5, y6, y7, y8, y9, y10, y11, y12⟩))), by rw [ht]; exact hP, hD⟩, hS.F ht⟩) hS.2.2 xd_La_layer_28
set_option maxHeartbeats 4000000 in
set_option maxRecDepth 100000 in
theorem xc_La_loadX (l : Launch) (hlt : l.stackTraces = false) (D : va_G) (kA : Nat → ClassId) (sz : Nat) (ad : Nat → Nat → Nat) (E : Nat → Nat → va_E) (RL : List (Nat × Nat)) (Z : zT) (g : Nat → Nat → Int32) (ml : Nat) (nd : Nat) (len : Nat) (wn : Nat) (cs : Nat) (ob : Nat) (fo : Nat → Int64) (ix : Int32) (kx : Int32) (hCI : CI kA ad E RL ml nd len wn cs) (hTX : ∀ i, i < len → eA (E 0 2) i = g 0 i) : Met l xy_La_load (.codeWith xy_La_load xb_La_load 5 (some .int) [(0, 10, 13, 13), (0, 10, 17, 21)] :: wT) { frames := 7, cells := 1, slots := 6, locals := 115 } (va_Pc [.ref (ad 0 0), .int ix, .int kx, .ref ob] (xPreZ D kA sz ((ob, .inl (kA 3, 1, .inr (.inl fo))) :: rp ad E RL) Z)) (va_Qi (fun (r : Int32) (u : ((Nat → Nat → Nat) × (Nat → Nat → va_E) × List (Nat × Nat)) × (Nat → Int64)) => (∃ wn2, CI kA ad u.1.2.1 RL ml nd 0 wn2 cs) ∧ F134 E u.1.2.1 ∧ u.1.1 = ad ∧ u.1.2.2 = RL) (fun (u : ((Nat → Nat → Nat) × (Nat → Nat → va_E) × List (Nat × Nat)) × (Nat → Int64)) t => va_P D xcl ((ob, .inl (kA 3, 1, .inr (.inl u.2))) :: rp u.1.1 u.1.2.1 u.1.2.2) t.heap ∧ va_D (va_A ((ob, .inl (kA 3, 1, .inr (.inl fo))) :: rp ad E RL) sz) ((ob, .inl (kA 3, 1, .inr (.inl u.2))) :: rp u.1.1 u.1.2.1 u.1.2.2)) (va_A ((ob, .inl (kA 3, 1, .inr (.inl fo))) :: rp ad E RL) sz)) 1 6 (va_A ((ob, .inl (kA 3, 1, .inr (.inl fo))) :: rp ad E RL) sz) := by
  refine va_MetW (cc := xb_La_load) (maxL := 5) (ret := (some .int)) (by decide) rfl ?_
  intro p e s m args below meth c s₁ B hml hv
  obtain ⟨rfl, ⟨hsz, hP, hK, hD0⟩, hZ⟩ := hv
  have hx := B.exec
  have hb := B.bytes
  have hr := B.returns
  have hT := x_hT B.pre
  have hown : s.vm.findClass xR_La = some m.cls := findClass_of_methodNamed B.named
  have hlocks := B.notSynchronized
  subst hsz
  have hD := hD0.self (sz := s.heap.size)
  generalize hAe : va_A ((ob, .inl (kA 3, 1, .inr (.inl fo))) :: rp ad E RL) s.heap.size = A at hD hZ ⊢
  have hA : ∀ q : Nat, s.heap.size ≤ q → A q := fun q h => by rw [← hAe]; exact Or.inr h
  have hS : va_S A s.heap s.heap [] := va_S.rf
  have hl := lv_entry ([.ref (ad 0 0), .int ix, .int kx, .ref ob]) (n := 5) (Nat.le_of_ble_eq_true rfl)
  rw [lg_entry_eq]
  generalize (lg_sl ([.ref (ad 0 0), .int ix, .int kx, .ref ob]) ++ List.replicate (5 - (lg_sl ([.ref (ad 0 0), .int ix, .int kx, .ref ob])).length) Slot.unset).toArray = ls at hl ⊢
  have hl : lv_has ls 5 [(0, .ref (ad 0 0)), (1, .int ix), (2, .int kx), (3, .ref ob)] := hl
  have hP : va_P D xcl ((ob, .inl (kA 3, 1, .inr (.inl fo))) :: rp ad E RL) s.heap := hP
  have hex := vx_table (x := xy_La_load) B (atoms_spec (ws := .codeWith xy_La_load xb_La_load 5 (some .int) [(0, 10, 13, 13), (0, 10, 17, 21)] :: wT) B.pre _ List.mem_cons_self)
  refine lv_aload_n hx hb xd_La_load_0 rfl (lv_at hl 3 rfl) ?_
  refine lv_iconst (v := 0) hx hb xd_La_load_1 (by decide) ?_
  refine lv_aload_n hx hb xd_La_load_2 rfl (lv_at hl 0 rfl) ?_
  refine lv_iload_n hx hb xd_La_load_3 rfl (lv_at hl 1 rfl) ?_
  refine lv_iload_n hx hb xd_La_load_4 rfl (lv_at hl 2 rfl) ?_
  have hPc := xp_P (X := [(ob, .inl (kA 3, 1, .inr (.inl fo)))]) hP
  have hDc := xp_D (X := [(ob, .inl (kA 3, 1, .inr (.inl fo)))]) hD
  have hFc := va_freeP (X := [(ob, .inl (kA 3, 1, .inr (.inl fo)))]) (cx := []) hD hS hA [] rfl
  have hZc := hZ.kept hS
  obtain ⟨lf, hc0⟩ := hCI.2.1
  refine vx_calli (vx_runV (As := [.int ix, .int kx]) (rest := [.int 0, .ref ob]) ⟨hx, hb, hml, hown, hT⟩ (xc_De_loadK l hlt D kA s.heap.size ad E RL Z g ml nd len wn cs ix kx hCI hTX) (cwV 2 hT (wT_V k7e_13 k7e_14 k7e_15 k7e_4 k7e_12) rfl rfl rfl (by decide +kernel) ⟨Nat.le_of_ble_eq_true rfl, Nat.le_of_ble_eq_true rfl⟩) (px_preVZ hK hPc hDc (hCI.1 0 (by decide)) hc0 rfl hFc hZc) rfl rfl hl.1 rfl (lv_room (Nat.le_of_ble_eq_true rfl)) xd_La_load_5 ⟨Nat.le_of_ble_eq_true rfl, Nat.le_of_ble_eq_true rfl⟩) hS (fun q _ h => hFc q h) hFc (fun q _ h => hFc q h) (fun E9 ce q9 u t H1 locs ht hvm hpost hB hz1 hk1 hS hce hcv hcl => ?_) (fun r u t H1 locs ht hvm hpost hB hz1 hk1 hS => ?_)
  · obtain ⟨hE9, hP1, hD1⟩ := hB
    rw [ht] at hP1
    obtain ⟨hP, hD⟩ := va_joinP (X := [(ob, .inl (kA 3, 1, .inr (.inl fo)))]) (cx := []) (wr := [(ob, .inl (kA 3, 1, .inr (.inl fo)))]) (rx := []) hP hD [] [0] rfl rfl (by decide) (by decide) hk1 hFc hP1 hD1
    generalize H1 = H at hP hS hce ⊢
    have hl := lv_sub hl [1, 2, 3] rfl
    have hl : lv_has ls 5 [(1, .int ix), (2, .int kx), (3, .ref ob)] := hl
    have hP : va_P D xcl ((ob, .inl (kA 3, 1, .inr (.inl fo))) :: rp ad u RL) H := hP
    have hD : va_D A ((ob, .inl (kA 3, 1, .inr (.inl fo))) :: rp ad u RL) := hD
    rcases hE9 with rfl | rfl
    · refine vx_catch (own := "LayerDeskLaw") (name := "java/lang/IllegalArgumentException") hown [] ⟨0, 10, 13, 13⟩ [⟨0, 10, 17, 21⟩] (by rw [hex]; rfl) (fun z hz => nomatch hz) rfl (by decide) (hT _ k7e_5) (va_Nw.use rfl hK.2.2.2.2.2.1) hce hcv hcl ?_
      refine lv_astore hx hb xd_La_load_13 hl (Nat.le_of_ble_eq_true rfl) rfl (fun ls hl => ?_)
      have hl : lv_has ls 5 [(4, .ref q9), (1, .int ix), (2, .int kx), (3, .ref ob)] := hl
      refine lv_iconst (v := 1) hx hb xd_La_load_15 (by decide) ?_
      refine W.widen (k := 1) (n := 6) (Nat.le_of_ble_eq_true rfl) (Nat.le_of_ble_eq_true rfl) ?_
      exact W.iret (v := 1) hx hb hr (fun t ht hW => ⟨⟨1, ((ad, u, RL), fo), rfl, ⟨hpost.1, hpost.2, rfl, rfl⟩, by rw [ht]; exact hP, hD⟩, hS.F ht⟩) hS.2.2 xd_La_load_16
    · refine vx_catch (own := "LayerDeskLaw") (name := "java/util/NoSuchElementException") hown [⟨0, 10, 13, 13⟩] ⟨0, 10, 17, 21⟩ [] (by rw [hex]; rfl) (fun z hz => by rw [List.mem_singleton] at hz; subst hz; exact Or.inr ⟨(by decide), "java/lang/IllegalArgumentException", hT _ k7e_5, hZ.2.2.2.2.2.1⟩) rfl (by decide) (hT _ k7e_11) (va_Nw.use rfl hK.2.2.2.2.2.2.2) hce hcv hcl ?_
      refine lv_astore hx hb xd_La_load_17 hl (Nat.le_of_ble_eq_true rfl) rfl (fun ls hl => ?_)
      have hl : lv_has ls 5 [(4, .ref q9), (1, .int ix), (2, .int kx), (3, .ref ob)] := hl
      refine lv_iconst (v := 2) hx hb xd_La_load_19 (by decide) ?_
      refine W.widen (k := 1) (n := 6) (Nat.le_of_ble_eq_true rfl) (Nat.le_of_ble_eq_true rfl) ?_
      exact W.iret (v := 2) hx hb hr (fun t ht hW => ⟨⟨2, ((ad, u, RL), fo), rfl, ⟨hpost.1, hpost.2, rfl, rfl⟩, by rw [ht]; exact hP, hD⟩, hS.F ht⟩) hS.2.2 xd_La_load_20
  · obtain ⟨hP1, hD1⟩ := hB
    rw [ht] at hP1
    obtain ⟨hP, hD⟩ := va_joinP (X := [(ob, .inl (kA 3, 1, .inr (.inl fo)))]) (cx := []) (wr := [(ob, .inl (kA 3, 1, .inr (.inl fo)))]) (rx := []) hP hD [] [0] rfl rfl (by decide) (by decide) hk1 hFc hP1 hD1
    generalize H1 = H at hP hS ⊢
    have hl := lv_sub hl [1, 2, 3] rfl
    have hl : lv_has ls 5 [(1, .int ix), (2, .int kx), (3, .ref ob)] := hl
    have hP : va_P D xcl ((ob, .inl (kA 3, 1, .inr (.inl fo))) :: rp ad u RL) H := hP
    have hD : va_D A ((ob, .inl (kA 3, 1, .inr (.inl fo))) :: rp ad u RL) := hD
    refine lv_i2l (v := ((r : Int32).toInt64)) hx hb xd_La_load_8 rfl ?_
    refine va_last hx hb hK.1 hP hD hS 0 3 rfl rfl (show ¬ _ by decide) xd_La_load_9 (fun H locs hP hD hS => ?_)
    have hP : va_P D xcl ((ob, .inl (kA 3, 1, .inr (.inl (vp_updL fo (0 : Int32).toNatClampNeg ((r : Int32).toInt64))))) :: rp ad u RL) H := hP
    have hD : va_D A ((ob, .inl (kA 3, 1, .inr (.inl (vp_updL fo (0 : Int32).toNatClampNeg ((r : Int32).toInt64))))) :: rp ad u RL) := hD
    refine lv_goto (tgt := 21) hx hb xd_La_load_10 (by decide) ?_
    refine lv_iconst (v := 0) hx hb xd_La_load_21 (by decide) ?_
    refine W.widen (k := 1) (n := 6) (Nat.le_of_ble_eq_true rfl) (Nat.le_of_ble_eq_true rfl) ?_
    exact W.iret (v := 0) hx hb hr (fun t ht hW => ⟨⟨0, ((ad, u, RL), (vp_updL fo (0 : Int32).toNatClampNeg ((r : Int32).toInt64))), rfl, ⟨hpost.1, hpost.2, rfl, rfl⟩, by rw [ht]; exact hP, hD⟩, hS.F ht⟩) hS.2.2 xd_La_load_22
set_option maxHeartbeats 4000000 in
set_option maxRecDepth 100000 in
theorem xc_La_peekX (l : Launch) (hlt : l.stackTraces = false) (D : va_G) (kA : Nat → ClassId) (sz : Nat) (ad : Nat → Nat → Nat) (E : Nat → Nat → va_E) (RL : List (Nat × Nat)) (Z : zT) (g : Nat → Nat → Int32) (ml : Nat) (nd : Nat) (len : Nat) (wn : Nat) (cs : Nat) (ob : Nat) (fo : Nat → Int64) (ix : Int32) (kx : Int32) (tx : Int32) (dx : Int32) (hCI : CI kA ad E RL ml nd len wn cs) (hXT : XT g ad E nd ml len) : Met l xy_La_peek (.codeWith xy_La_peek xb_La_peek 7 (some .int) [(0, 21, 24, 13), (0, 21, 28, 21)] :: wT) { frames := 7, cells := 1, slots := 6, locals := 109 } (va_Pc [.ref (ad 0 0), .int ix, .int kx, .int tx, .int dx, .ref ob] (xPreZ D kA sz ((ob, .inl (kA 3, 1, .inr (.inl fo))) :: rp ad E RL) Z)) (va_Qi (fun (r : Int32) (u : ((Nat → Nat → Nat) × (Nat → Nat → va_E) × List (Nat × Nat)) × (Nat → Int64)) => ((∃ wn2, CI kA ad u.1.2.1 RL ml nd 0 wn2 cs) ∧ F134 E u.1.2.1 ∧ u.1.1 = ad ∧ u.1.2.2 = RL) ∧ ∃ a : Int32, pkA g nd ml (n1 (g 0) (w_all (g 0) len)) ix kx tx dx r a ∧ (r = 0 → u.2 0 = (if a = 0 then 0 else 1))) (fun (u : ((Nat → Nat → Nat) × (Nat → Nat → va_E) × List (Nat × Nat)) × (Nat → Int64)) t => va_P D xcl ((ob, .inl (kA 3, 1, .inr (.inl u.2))) :: rp u.1.1 u.1.2.1 u.1.2.2) t.heap ∧ va_D (va_A ((ob, .inl (kA 3, 1, .inr (.inl fo))) :: rp ad E RL) sz) ((ob, .inl (kA 3, 1, .inr (.inl u.2))) :: rp u.1.1 u.1.2.1 u.1.2.2)) (va_A ((ob, .inl (kA 3, 1, .inr (.inl fo))) :: rp ad E RL) sz)) 1 6 (va_A ((ob, .inl (kA 3, 1, .inr (.inl fo))) :: rp ad E RL) sz) := by
  refine va_MetW (cc := xb_La_peek) (maxL := 7) (ret := (some .int)) (by decide) rfl ?_
  intro p e s m args below meth c s₁ B hml hv
  obtain ⟨rfl, ⟨hsz, hP, hK, hD0⟩, hZ⟩ := hv
  have hx := B.exec
  have hb := B.bytes
  have hr := B.returns
  have hT := x_hT B.pre
  have hown : s.vm.findClass xR_La = some m.cls := findClass_of_methodNamed B.named
  have hlocks := B.notSynchronized
  subst hsz
  have hD := hD0.self (sz := s.heap.size)
  generalize hAe : va_A ((ob, .inl (kA 3, 1, .inr (.inl fo))) :: rp ad E RL) s.heap.size = A at hD hZ ⊢
  have hA : ∀ q : Nat, s.heap.size ≤ q → A q := fun q h => by rw [← hAe]; exact Or.inr h
  have hS : va_S A s.heap s.heap [] := va_S.rf
  have hl := lv_entry ([.ref (ad 0 0), .int ix, .int kx, .int tx, .int dx, .ref ob]) (n := 7) (Nat.le_of_ble_eq_true rfl)
  rw [lg_entry_eq]
  generalize (lg_sl ([.ref (ad 0 0), .int ix, .int kx, .int tx, .int dx, .ref ob]) ++ List.replicate (7 - (lg_sl ([.ref (ad 0 0), .int ix, .int kx, .int tx, .int dx, .ref ob])).length) Slot.unset).toArray = ls at hl ⊢
  have hl : lv_has ls 7 [(0, .ref (ad 0 0)), (1, .int ix), (2, .int kx), (3, .int tx), (4, .int dx), (5, .ref ob)] := hl
  have hP : va_P D xcl ((ob, .inl (kA 3, 1, .inr (.inl fo))) :: rp ad E RL) s.heap := hP
  have hex := vx_table (x := xy_La_peek) B (atoms_spec (ws := .codeWith xy_La_peek xb_La_peek 7 (some .int) [(0, 21, 24, 13), (0, 21, 28, 21)] :: wT) B.pre _ List.mem_cons_self)
  refine lv_aload hx hb xd_La_peek_0 (lv_at hl 5 rfl) ?_
  refine lv_iconst (v := 0) hx hb xd_La_peek_2 (by decide) ?_
  refine lv_aload_n hx hb xd_La_peek_3 rfl (lv_at hl 0 rfl) ?_
  refine lv_iload_n hx hb xd_La_peek_4 rfl (lv_at hl 1 rfl) ?_
  refine lv_iload_n hx hb xd_La_peek_5 rfl (lv_at hl 2 rfl) ?_
  refine lv_iload_n hx hb xd_La_peek_6 rfl (lv_at hl 3 rfl) ?_
  refine lv_iload hx hb xd_La_peek_7 (lv_at hl 4 rfl) ?_
  have hPc := xp_P (X := [(ob, .inl (kA 3, 1, .inr (.inl fo)))]) hP
  have hDc := xp_D (X := [(ob, .inl (kA 3, 1, .inr (.inl fo)))]) hD
  have hFc := va_freeP (X := [(ob, .inl (kA 3, 1, .inr (.inl fo)))]) (cx := []) hD hS hA [] rfl
  have hZc := hZ.kept hS
  obtain ⟨lf, hc0⟩ := hCI.2.1
  refine vx_calli (vx_runV (As := [.int ix, .int kx, .int tx, .int dx]) (rest := [.int 0, .ref ob]) ⟨hx, hb, hml, hown, hT⟩ (xc_De_peekA l hlt D kA s.heap.size ad E RL Z g ml nd len wn cs ix kx tx dx hCI hXT) (cwV 4 hT (wT_V k7e_17 k7e_18 k7e_19 k7e_4 k7e_16) rfl rfl rfl (by decide +kernel) ⟨Nat.le_of_ble_eq_true rfl, Nat.le_of_ble_eq_true rfl⟩) (px_preVZ hK hPc hDc (hCI.1 0 (by decide)) hc0 rfl hFc hZc) rfl rfl hl.1 rfl (lv_room (Nat.le_of_ble_eq_true rfl)) xd_La_peek_9 ⟨Nat.le_of_ble_eq_true rfl, Nat.le_of_ble_eq_true rfl⟩) hS (fun q _ h => hFc q h) hFc (fun q _ h => hFc q h) (fun E9 ce q9 u t H1 locs ht hvm hpost hB hz1 hk1 hS hce hcv hcl => ?_) (fun r u t H1 locs ht hvm hpost hB hz1 hk1 hS => ?_)
  · obtain ⟨hE9, hP1, hD1⟩ := hB
    rw [ht] at hP1
    obtain ⟨hP, hD⟩ := va_joinP (X := [(ob, .inl (kA 3, 1, .inr (.inl fo)))]) (cx := []) (wr := [(ob, .inl (kA 3, 1, .inr (.inl fo)))]) (rx := []) hP hD [] [0] rfl rfl (by decide) (by decide) hk1 hFc hP1 hD1
    generalize H1 = H at hP hS hce ⊢
    have hl := lv_sub hl [1, 2, 3, 4, 5] rfl
    have hl : lv_has ls 7 [(1, .int ix), (2, .int kx), (3, .int tx), (4, .int dx), (5, .ref ob)] := hl
    have hP : va_P D xcl ((ob, .inl (kA 3, 1, .inr (.inl fo))) :: rp ad u RL) H := hP
    have hD : va_D A ((ob, .inl (kA 3, 1, .inr (.inl fo))) :: rp ad u RL) := hD
    rcases hE9 with ⟨rfl, hz9⟩ | ⟨rfl, hz9⟩
    · refine vx_catch (own := "LayerDeskLaw") (name := "java/lang/IllegalArgumentException") hown [] ⟨0, 21, 24, 13⟩ [⟨0, 21, 28, 21⟩] (by rw [hex]; rfl) (fun z hz => nomatch hz) rfl (by decide) (hT _ k7e_5) (va_Nw.use rfl hK.2.2.2.2.2.1) hce hcv hcl ?_
      refine lv_astore hx hb xd_La_peek_24 hl (Nat.le_of_ble_eq_true rfl) rfl (fun ls hl => ?_)
      have hl : lv_has ls 7 [(6, .ref q9), (1, .int ix), (2, .int kx), (3, .int tx), (4, .int dx), (5, .ref ob)] := hl
      refine lv_iconst (v := 1) hx hb xd_La_peek_26 (by decide) ?_
      refine W.widen (k := 1) (n := 6) (Nat.le_of_ble_eq_true rfl) (Nat.le_of_ble_eq_true rfl) ?_
      exact W.iret (v := 1) hx hb hr (fun t ht hW => ⟨⟨1, ((ad, u, RL), fo), rfl, ⟨⟨hpost.1, hpost.2, rfl, rfl⟩, 0, Or.inl ⟨rfl, hz9⟩, fun h9 => absurd h9 (by decide)⟩, by rw [ht]; exact hP, hD⟩, hS.F ht⟩) hS.2.2 xd_La_peek_27
    · refine vx_catch (own := "LayerDeskLaw") (name := "java/util/NoSuchElementException") hown [⟨0, 21, 24, 13⟩] ⟨0, 21, 28, 21⟩ [] (by rw [hex]; rfl) (fun z hz => by rw [List.mem_singleton] at hz; subst hz; exact Or.inr ⟨(by decide), "java/lang/IllegalArgumentException", hT _ k7e_5, hZ.2.2.2.2.2.1⟩) rfl (by decide) (hT _ k7e_11) (va_Nw.use rfl hK.2.2.2.2.2.2.2) hce hcv hcl ?_
      refine lv_astore hx hb xd_La_peek_28 hl (Nat.le_of_ble_eq_true rfl) rfl (fun ls hl => ?_)
      have hl : lv_has ls 7 [(6, .ref q9), (1, .int ix), (2, .int kx), (3, .int tx), (4, .int dx), (5, .ref ob)] := hl
      refine lv_iconst (v := 2) hx hb xd_La_peek_30 (by decide) ?_
      refine W.widen (k := 1) (n := 6) (Nat.le_of_ble_eq_true rfl) (Nat.le_of_ble_eq_true rfl) ?_
      exact W.iret (v := 2) hx hb hr (fun t ht hW => ⟨⟨2, ((ad, u, RL), fo), rfl, ⟨⟨hpost.1, hpost.2, rfl, rfl⟩, 0, (by obtain ⟨z1, la, kn, la2, d2, z2, z3, z4⟩ := hz9; exact Or.inr ⟨z1, la, kn, la2, d2, z2, z3, Or.inl ⟨rfl, z4⟩⟩), fun h9 => absurd h9 (by decide)⟩, by rw [ht]; exact hP, hD⟩, hS.F ht⟩) hS.2.2 xd_La_peek_31
  · obtain ⟨hP1, hD1⟩ := hB
    rw [ht] at hP1
    obtain ⟨hP, hD⟩ := va_joinP (X := [(ob, .inl (kA 3, 1, .inr (.inl fo)))]) (cx := []) (wr := [(ob, .inl (kA 3, 1, .inr (.inl fo)))]) (rx := []) hP hD [] [0] rfl rfl (by decide) (by decide) hk1 hFc hP1 hD1
    generalize H1 = H at hP hS ⊢
    have hl := lv_sub hl [1, 2, 3, 4, 5] rfl
    have hl : lv_has ls 7 [(1, .int ix), (2, .int kx), (3, .int tx), (4, .int dx), (5, .ref ob)] := hl
    have hP : va_P D xcl ((ob, .inl (kA 3, 1, .inr (.inl fo))) :: rp ad u RL) H := hP
    have hD : va_D A ((ob, .inl (kA 3, 1, .inr (.inl fo))) :: rp ad u RL) := hD
    refine lv_if_eq (tgt := 19) hx hb xd_La_peek_12 (by decide) (fun hc1 => ?_) (fun hc1 => ?_)
    · refine lv_lconst (v := 0) hx hb xd_La_peek_19 (by decide) ?_
      refine va_last hx hb hK.1 hP hD hS 0 3 rfl rfl (show ¬ _ by decide) xd_La_peek_20 (fun H locs hP hD hS => ?_)
      have hP : va_P D xcl ((ob, .inl (kA 3, 1, .inr (.inl (vp_updL fo (0 : Int32).toNatClampNeg 0)))) :: rp ad u RL) H := hP
      have hD : va_D A ((ob, .inl (kA 3, 1, .inr (.inl (vp_updL fo (0 : Int32).toNatClampNeg 0)))) :: rp ad u RL) := hD
      refine lv_goto (tgt := 32) hx hb xd_La_peek_21 (by decide) ?_
      refine lv_iconst (v := 0) hx hb xd_La_peek_32 (by decide) ?_
      refine W.widen (k := 1) (n := 6) (Nat.le_of_ble_eq_true rfl) (Nat.le_of_ble_eq_true rfl) ?_
      exact W.iret (v := 0) hx hb hr (fun t ht hW => ⟨⟨0, ((ad, u, RL), (vp_updL fo (0 : Int32).toNatClampNeg 0)), rfl, ⟨⟨hpost.1.1, hpost.1.2, rfl, rfl⟩, r, hpost.2, fun _ => by rw [if_pos hc1]; simp [vp_updL]⟩, by rw [ht]; exact hP, hD⟩, hS.F ht⟩) hS.2.2 xd_La_peek_33
    · refine lv_lconst (v := 1) hx hb xd_La_peek_15 (by decide) ?_
      refine lv_goto (tgt := 20) hx hb xd_La_peek_16 (by decide) ?_
      refine va_last hx hb hK.1 hP hD hS 0 3 rfl rfl (show ¬ _ by decide) xd_La_peek_20 (fun H locs hP hD hS => ?_)
      have hP : va_P D xcl ((ob, .inl (kA 3, 1, .inr (.inl (vp_updL fo (0 : Int32).toNatClampNeg 1)))) :: rp ad u RL) H := hP
      have hD : va_D A ((ob, .inl (kA 3, 1, .inr (.inl (vp_updL fo (0 : Int32).toNatClampNeg 1)))) :: rp ad u RL) := hD
      refine lv_goto (tgt := 32) hx hb xd_La_peek_21 (by decide) ?_
      refine lv_iconst (v := 0) hx hb xd_La_peek_32 (by decide) ?_
      refine W.widen (k := 1) (n := 6) (Nat.le_of_ble_eq_true rfl) (Nat.le_of_ble_eq_true rfl) ?_
      exact W.iret (v := 0) hx hb hr (fun t ht hW => ⟨⟨0, ((ad, u, RL), (vp_updL fo (0 : Int32).toNatClampNeg 1)), rfl, ⟨⟨hpost.1.1, hpost.1.2, rfl, rfl⟩, r, hpost.2, fun _ => by rw [if_neg hc1]; simp [vp_updL]⟩, by rw [ht]; exact hP, hD⟩, hS.F ht⟩) hS.2.2 xd_La_peek_33
set_option maxHeartbeats 4000000 in
set_option maxRecDepth 100000 in
theorem xc_La_providerX (l : Launch) (hlt : l.stackTraces = false) (D : va_G) (kA : Nat → ClassId) (sz : Nat) (ad : Nat → Nat → Nat) (E : Nat → Nat → va_E) (RL : List (Nat × Nat)) (Z : zT) (g : Nat → Nat → Int32) (ml : Nat) (nd : Nat) (len : Nat) (wn : Nat) (cs : Nat) (ob : Nat) (fo : Nat → Int64) (ix : Int32) (kx : Int32) (hCI : CI kA ad E RL ml nd len wn cs) (hTX : ∀ i, i < len → eA (E 0 2) i = g 0 i) : Met l xy_La_provider (.codeWith xy_La_provider xb_La_provider 5 (some .int) [(0, 10, 13, 13)] :: wT) { frames := 7, cells := 1, slots := 6, locals := 107 } (va_Pc [.ref (ad 0 0), .int ix, .int kx, .ref ob] (xPreZ D kA sz ((ob, .inl (kA 3, 1, .inr (.inl fo))) :: rp ad E RL) Z)) (va_Qi (fun (r : Int32) (u : ((Nat → Nat → Nat) × (Nat → Nat → va_E) × List (Nat × Nat)) × (Nat → Int64)) => (∃ wn2, CI kA ad u.1.2.1 RL ml nd 0 wn2 cs) ∧ F134 E u.1.2.1 ∧ u.1.1 = ad ∧ u.1.2.2 = RL) (fun (u : ((Nat → Nat → Nat) × (Nat → Nat → va_E) × List (Nat × Nat)) × (Nat → Int64)) t => va_P D xcl ((ob, .inl (kA 3, 1, .inr (.inl u.2))) :: rp u.1.1 u.1.2.1 u.1.2.2) t.heap ∧ va_D (va_A ((ob, .inl (kA 3, 1, .inr (.inl fo))) :: rp ad E RL) sz) ((ob, .inl (kA 3, 1, .inr (.inl u.2))) :: rp u.1.1 u.1.2.1 u.1.2.2)) (va_A ((ob, .inl (kA 3, 1, .inr (.inl fo))) :: rp ad E RL) sz)) 1 6 (va_A ((ob, .inl (kA 3, 1, .inr (.inl fo))) :: rp ad E RL) sz) := by
  refine va_MetW (cc := xb_La_provider) (maxL := 5) (ret := (some .int)) (by decide) rfl ?_
  intro p e s m args below meth c s₁ B hml hv
  obtain ⟨rfl, ⟨hsz, hP, hK, hD0⟩, hZ⟩ := hv
  have hx := B.exec
  have hb := B.bytes
  have hr := B.returns
  have hT := x_hT B.pre
  have hown : s.vm.findClass xR_La = some m.cls := findClass_of_methodNamed B.named
  have hlocks := B.notSynchronized
  subst hsz
  have hD := hD0.self (sz := s.heap.size)
  generalize hAe : va_A ((ob, .inl (kA 3, 1, .inr (.inl fo))) :: rp ad E RL) s.heap.size = A at hD hZ ⊢
  have hA : ∀ q : Nat, s.heap.size ≤ q → A q := fun q h => by rw [← hAe]; exact Or.inr h
  have hS : va_S A s.heap s.heap [] := va_S.rf
  have hl := lv_entry ([.ref (ad 0 0), .int ix, .int kx, .ref ob]) (n := 5) (Nat.le_of_ble_eq_true rfl)
  rw [lg_entry_eq]
  generalize (lg_sl ([.ref (ad 0 0), .int ix, .int kx, .ref ob]) ++ List.replicate (5 - (lg_sl ([.ref (ad 0 0), .int ix, .int kx, .ref ob])).length) Slot.unset).toArray = ls at hl ⊢
  have hl : lv_has ls 5 [(0, .ref (ad 0 0)), (1, .int ix), (2, .int kx), (3, .ref ob)] := hl
  have hP : va_P D xcl ((ob, .inl (kA 3, 1, .inr (.inl fo))) :: rp ad E RL) s.heap := hP
  have hex := vx_table (x := xy_La_provider) B (atoms_spec (ws := .codeWith xy_La_provider xb_La_provider 5 (some .int) [(0, 10, 13, 13)] :: wT) B.pre _ List.mem_cons_self)
  refine lv_aload_n hx hb xd_La_provider_0 rfl (lv_at hl 3 rfl) ?_
  refine lv_iconst (v := 0) hx hb xd_La_provider_1 (by decide) ?_
  refine lv_aload_n hx hb xd_La_provider_2 rfl (lv_at hl 0 rfl) ?_
  refine lv_iload_n hx hb xd_La_provider_3 rfl (lv_at hl 1 rfl) ?_
  refine lv_iload_n hx hb xd_La_provider_4 rfl (lv_at hl 2 rfl) ?_
  have hPc := xp_P (X := [(ob, .inl (kA 3, 1, .inr (.inl fo)))]) hP
  have hDc := xp_D (X := [(ob, .inl (kA 3, 1, .inr (.inl fo)))]) hD
  have hFc := va_freeP (X := [(ob, .inl (kA 3, 1, .inr (.inl fo)))]) (cx := []) hD hS hA [] rfl
  have hZc := hZ.kept hS
  obtain ⟨lf, hc0⟩ := hCI.2.1
  refine vx_calli (vx_runV (As := [.int ix, .int kx]) (rest := [.int 0, .ref ob]) ⟨hx, hb, hml, hown, hT⟩ (xc_De_providerK l hlt D kA s.heap.size ad E RL Z g ml nd len wn cs ix kx hCI hTX) (cwV 2 hT (wT_V k7e_21 k7e_22 k7e_23 k7e_4 k7e_20) rfl rfl rfl (by decide +kernel) ⟨Nat.le_of_ble_eq_true rfl, Nat.le_of_ble_eq_true rfl⟩) (px_preVZ hK hPc hDc (hCI.1 0 (by decide)) hc0 rfl hFc hZc) rfl rfl hl.1 rfl (lv_room (Nat.le_of_ble_eq_true rfl)) xd_La_provider_5 ⟨Nat.le_of_ble_eq_true rfl, Nat.le_of_ble_eq_true rfl⟩) hS (fun q _ h => hFc q h) hFc (fun q _ h => hFc q h) (fun E9 ce q9 u t H1 locs ht hvm hpost hB hz1 hk1 hS hce hcv hcl => ?_) (fun r u t H1 locs ht hvm hpost hB hz1 hk1 hS => ?_)
  · obtain ⟨hE9, hP1, hD1⟩ := hB
    rw [ht] at hP1
    obtain ⟨hP, hD⟩ := va_joinP (X := [(ob, .inl (kA 3, 1, .inr (.inl fo)))]) (cx := []) (wr := [(ob, .inl (kA 3, 1, .inr (.inl fo)))]) (rx := []) hP hD [] [0] rfl rfl (by decide) (by decide) hk1 hFc hP1 hD1
    generalize H1 = H at hP hS hce ⊢
    have hl := lv_sub hl [1, 2, 3] rfl
    have hl : lv_has ls 5 [(1, .int ix), (2, .int kx), (3, .ref ob)] := hl
    have hP : va_P D xcl ((ob, .inl (kA 3, 1, .inr (.inl fo))) :: rp ad u RL) H := hP
    have hD : va_D A ((ob, .inl (kA 3, 1, .inr (.inl fo))) :: rp ad u RL) := hD
    subst hE9
    · refine vx_catch (own := "LayerDeskLaw") (name := "java/lang/IllegalArgumentException") hown [] ⟨0, 10, 13, 13⟩ [] (by rw [hex]; rfl) (fun z hz => nomatch hz) rfl (by decide) (hT _ k7e_5) (va_Nw.use rfl hK.2.2.2.2.2.1) hce hcv hcl ?_
      refine lv_astore hx hb xd_La_provider_13 hl (Nat.le_of_ble_eq_true rfl) rfl (fun ls hl => ?_)
      have hl : lv_has ls 5 [(4, .ref q9), (1, .int ix), (2, .int kx), (3, .ref ob)] := hl
      refine lv_iconst (v := 1) hx hb xd_La_provider_15 (by decide) ?_
      refine W.widen (k := 1) (n := 6) (Nat.le_of_ble_eq_true rfl) (Nat.le_of_ble_eq_true rfl) ?_
      exact W.iret (v := 1) hx hb hr (fun t ht hW => ⟨⟨1, ((ad, u, RL), fo), rfl, ⟨hpost.1, hpost.2, rfl, rfl⟩, by rw [ht]; exact hP, hD⟩, hS.F ht⟩) hS.2.2 xd_La_provider_16
  · obtain ⟨hP1, hD1⟩ := hB
    rw [ht] at hP1
    obtain ⟨hP, hD⟩ := va_joinP (X := [(ob, .inl (kA 3, 1, .inr (.inl fo)))]) (cx := []) (wr := [(ob, .inl (kA 3, 1, .inr (.inl fo)))]) (rx := []) hP hD [] [0] rfl rfl (by decide) (by decide) hk1 hFc hP1 hD1
    generalize H1 = H at hP hS ⊢
    have hl := lv_sub hl [1, 2, 3] rfl
    have hl : lv_has ls 5 [(1, .int ix), (2, .int kx), (3, .ref ob)] := hl
    have hP : va_P D xcl ((ob, .inl (kA 3, 1, .inr (.inl fo))) :: rp ad u RL) H := hP
    have hD : va_D A ((ob, .inl (kA 3, 1, .inr (.inl fo))) :: rp ad u RL) := hD
    refine lv_i2l (v := ((r : Int32).toInt64)) hx hb xd_La_provider_8 rfl ?_
    refine va_last hx hb hK.1 hP hD hS 0 3 rfl rfl (show ¬ _ by decide) xd_La_provider_9 (fun H locs hP hD hS => ?_)
    have hP : va_P D xcl ((ob, .inl (kA 3, 1, .inr (.inl (vp_updL fo (0 : Int32).toNatClampNeg ((r : Int32).toInt64))))) :: rp ad u RL) H := hP
    have hD : va_D A ((ob, .inl (kA 3, 1, .inr (.inl (vp_updL fo (0 : Int32).toNatClampNeg ((r : Int32).toInt64))))) :: rp ad u RL) := hD
    refine lv_goto (tgt := 17) hx hb xd_La_provider_10 (by decide) ?_
    refine lv_iconst (v := 0) hx hb xd_La_provider_17 (by decide) ?_
    refine W.widen (k := 1) (n := 6) (Nat.le_of_ble_eq_true rfl) (Nat.le_of_ble_eq_true rfl) ?_
    exact W.iret (v := 0) hx hb hr (fun t ht hW => ⟨⟨0, ((ad, u, RL), (vp_updL fo (0 : Int32).toNatClampNeg ((r : Int32).toInt64))), rfl, ⟨hpost.1, hpost.2, rfl, rfl⟩, by rw [ht]; exact hP, hD⟩, hS.F ht⟩) hS.2.2 xd_La_provider_18
theorem xd_Mo_thrown_0 : decode xb_Mo_thrown 0 = .ok (.aload_n 0, 1) := by decide +kernel
theorem xd_Mo_thrown_1 : decode xb_Mo_thrown 1 = .ok (.getfield 87, 3) := by decide +kernel
theorem xd_Mo_thrown_4 : decode xb_Mo_thrown 4 = .ok (.ireturn, 1) := by decide +kernel
theorem k4s_0 : (Cond.fieldLink "LayerDeskModel" 87 "LayerDeskModel" "fault" "I") ∈ wT := wT_t (List.mem_append_right _ (List.mem_append_right _ (List.mem_append_right _ (List.mem_append_left _ (List.mem_of_getElem? (i := 84) rfl))))) rfl
set_option maxHeartbeats 4000000 in
set_option maxRecDepth 100000 in
theorem xc_Mo_thrown (l : Launch) (D : va_G) (kA : Nat → ClassId) (sz h : Nat) (mm : Nat → Nat) (v : Nat → Int32) (g : Nat → Nat → Int32) (hMI : MI v g) : Met l xy_Mo_thrown (.code xy_Mo_thrown xb_Mo_thrown 1 (some .int) :: wT) { frames := 0, cells := 0, slots := 0, locals := 0 } (va_Pc [.ref h] (xPre D kA sz (moW h mm kA v g))) (va_Qi (fun (r : Int32) (u : (Nat → Int32) × (Nat → Nat → Int32)) => u.1 = v ∧ u.2 = g ∧ r = v 0) (fun (u : (Nat → Int32) × (Nat → Nat → Int32)) t => va_P D xcl (moW h mm kA u.1 u.2) t.heap ∧ va_D (va_A (moW h mm kA v g) sz) (moW h mm kA u.1 u.2)) (va_A (moW h mm kA v g) sz)) 0 0 (va_A (moW h mm kA v g) sz) := by
  refine Met.ofW (cc := xb_Mo_thrown) (maxL := 1) (ret := (some .int)) (by decide) rfl ?_
  intro p e s m args below meth c s₁ B hml hv
  obtain ⟨rfl, hsz, hP, hK, hD0⟩ := hv
  have hx := B.exec
  have hb := B.bytes
  have hr := B.returns
  have hT := x_hT B.pre
  have hown : s.vm.findClass xR_Mo = some m.cls := findClass_of_methodNamed B.named
  have hlocks := B.notSynchronized
  subst hsz
  have hD := hD0.self (sz := s.heap.size)
  generalize hAe : va_A (moW h mm kA v g) s.heap.size = A at hD ⊢
  have hA : ∀ q : Nat, s.heap.size ≤ q → A q := fun q h => by rw [← hAe]; exact Or.inr h
  have hS : va_S A s.heap s.heap [] := va_S.rf
  have hl := lv_entry ([.ref h]) (n := 1) (Nat.le_of_ble_eq_true rfl)
  rw [lg_entry_eq]
  generalize (lg_sl ([.ref h]) ++ List.replicate (1 - (lg_sl ([.ref h])).length) Slot.unset).toArray = ls at hl ⊢
  have hl : lv_has ls 1 [(0, .ref h)] := hl
  have hP : va_P D xcl (moW h mm kA v g) s.heap := hP
  refine lv_aload_n hx hb xd_Mo_thrown_0 rfl (lv_at hl 0 rfl) ?_
  refine va_get (D := D) (ci := 4) (v := .int (v 0)) (C := xR_Mo) (T := xT_Mo) (N := 31) hx hb hT xi_Mo hown hK.1 hP 0 rfl rfl 0 (by decide) (hT _ k4s_0) (fun _ h9 => h9) rfl xd_Mo_thrown_1 ?_
  exact W.iret (v := (v 0)) hx hb hr (fun t ht hW => ⟨⟨(v 0), (v, g), rfl, ⟨rfl, rfl, rfl⟩, by rw [ht]; exact hP, hD⟩, hS.F ht⟩) hS.2.2 xd_Mo_thrown_4
