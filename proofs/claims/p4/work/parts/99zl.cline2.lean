theorem k6d_0 : (Cond.code xy_Li_take xb_Li_take 3 none) ∈ wT := wT_t (List.mem_append_left _ (List.mem_of_getElem? (i := 190) rfl)) rfl
theorem k6d_1 : (Cond.methodLink "LayerDesk$Line" 27 xy_Li_take) ∈ wT := wT_t (List.mem_append_right _ (List.mem_append_right _ (List.mem_append_right _ (List.mem_append_left _ (List.mem_of_getElem? (i := 43) rfl))))) rfl
theorem k6d_2 : (Cond.instanceMethod xy_Li_take) ∈ wT := wT_t (List.mem_append_left _ (List.mem_of_getElem? (i := 188) rfl)) rfl
theorem k6d_3 : (Cond.selects "LayerDesk$Line" xy_Li_take xy_Li_take) ∈ wT := wT_t (List.mem_append_left _ (List.mem_of_getElem? (i := 189) rfl)) rfl
theorem k6d_4 : (Cond.initialized "LayerDesk$Line") ∈ wT := wT_t (List.mem_append_left _ (List.mem_of_getElem? (i := 2) rfl)) rfl
theorem k6d_5 : (Cond.fieldLink "LayerDesk$Line" 24 "LayerDesk$Line" "words" "I") ∈ wT := wT_t (List.mem_append_left _ (List.mem_of_getElem? (i := 40) rfl)) rfl
theorem k6d_6 : (Cond.code xy_Li_nameAt xb_Li_nameAt 4 (some .int)) ∈ wT := wT_t (List.mem_append_right _ (List.mem_append_left _ (List.mem_of_getElem? (i := 17) rfl))) rfl
theorem k6d_7 : (Cond.methodLink "LayerDesk$Line" 30 xy_Li_nameAt) ∈ wT := wT_t (List.mem_append_right _ (List.mem_append_right _ (List.mem_append_right _ (List.mem_append_left _ (List.mem_of_getElem? (i := 44) rfl))))) rfl
theorem k6d_8 : (Cond.instanceMethod xy_Li_nameAt) ∈ wT := wT_t (List.mem_append_right _ (List.mem_append_left _ (List.mem_of_getElem? (i := 15) rfl))) rfl
theorem k6d_9 : (Cond.selects "LayerDesk$Line" xy_Li_nameAt xy_Li_nameAt) ∈ wT := wT_t (List.mem_append_right _ (List.mem_append_left _ (List.mem_of_getElem? (i := 16) rfl))) rfl
theorem k6d_10 : (Cond.fieldLink "LayerDesk" 10 "LayerDesk" "written" "LLayerDesk$Line;") ∈ wT := wT_t (List.mem_append_left _ (List.mem_of_getElem? (i := 99) rfl)) rfl
theorem k6d_11 : (Cond.code xy_Li_takeName xb_Li_takeName 1 (some .int)) ∈ wT := wT_t (List.mem_append_right _ (List.mem_append_right _ (List.mem_append_right _ (List.mem_append_left _ (List.mem_of_getElem? (i := 42) rfl))))) rfl
theorem k6d_12 : (Cond.methodLink "LayerDesk" 158 xy_Li_takeName) ∈ wT := wT_t (List.mem_append_right _ (List.mem_append_right _ (List.mem_append_right _ (List.mem_append_left _ (List.mem_of_getElem? (i := 39) rfl))))) rfl
theorem k6d_13 : (Cond.instanceMethod xy_Li_takeName) ∈ wT := wT_t (List.mem_append_right _ (List.mem_append_right _ (List.mem_append_right _ (List.mem_append_left _ (List.mem_of_getElem? (i := 40) rfl))))) rfl
theorem k6d_14 : (Cond.selects "LayerDesk$Line" xy_Li_takeName xy_Li_takeName) ∈ wT := wT_t (List.mem_append_right _ (List.mem_append_right _ (List.mem_append_right _ (List.mem_append_left _ (List.mem_of_getElem? (i := 41) rfl))))) rfl
theorem k6d_15 : (Cond.code xy_De_memberAt xb_De_memberAt 4 (some (.object "LayerDesk$Member"))) ∈ wT := wT_t (List.mem_append_left _ (List.mem_of_getElem? (i := 161) rfl)) rfl
theorem k6d_16 : (Cond.methodLink "LayerDesk" 132 xy_De_memberAt) ∈ wT := wT_t (List.mem_append_left _ (List.mem_of_getElem? (i := 158) rfl)) rfl
theorem k6d_17 : (Cond.instanceMethod xy_De_memberAt) ∈ wT := wT_t (List.mem_append_left _ (List.mem_of_getElem? (i := 160) rfl)) rfl
theorem k6d_18 : (Cond.selects "LayerDesk" xy_De_memberAt xy_De_memberAt) ∈ wT := wT_s (q := (xy_De_memberAt, 6)) (by decide +kernel) rfl
theorem k6d_19 : (Cond.initialized "LayerDesk") ∈ wT := wT_t (List.mem_append_left _ (List.mem_of_getElem? (i := 1) rfl)) rfl
theorem k6d_20 : (Cond.classLink "LayerDesk" 56 "java/lang/IllegalArgumentException") ∈ wT := wT_t (List.mem_append_right _ (List.mem_append_left _ (List.mem_of_getElem? (i := 205) rfl))) rfl
theorem k6d_21 : (Cond.initialized "java/lang/IllegalArgumentException") ∈ wT := wT_t (List.mem_append_left _ (List.mem_of_getElem? (i := 16) rfl)) rfl
theorem k6d_22 : (Cond.fieldLink "LayerDesk" 136 "LayerDesk$Member" "descriptor" "LLayerDesk$Descriptor;") ∈ wT := wT_t (List.mem_append_right _ (List.mem_append_right _ (List.mem_append_left _ (List.mem_of_getElem? (i := 185) rfl)))) rfl
theorem k6d_23 : (Cond.fieldLink "LayerDesk" 163 "LayerDesk$Descriptor" "packages" "LLayerDesk$Names;") ∈ wT := wT_t (List.mem_append_right _ (List.mem_append_left _ (List.mem_of_getElem? (i := 63) rfl))) rfl
theorem k6d_24 : (Cond.code xy_Na_holds xb_Na_holds 2 (some .boolean)) ∈ wT := wT_t (List.mem_append_right _ (List.mem_append_left _ (List.mem_of_getElem? (i := 123) rfl))) rfl
theorem k6d_25 : (Cond.methodLink "LayerDesk" 167 xy_Na_holds) ∈ wT := wT_t (List.mem_append_right _ (List.mem_append_right _ (List.mem_append_right _ (List.mem_append_left _ (List.mem_of_getElem? (i := 46) rfl))))) rfl
theorem k6d_26 : (Cond.instanceMethod xy_Na_holds) ∈ wT := wT_t (List.mem_append_right _ (List.mem_append_left _ (List.mem_of_getElem? (i := 121) rfl))) rfl
theorem k6d_27 : (Cond.selects "LayerDesk$Names" xy_Na_holds xy_Na_holds) ∈ wT := wT_t (List.mem_append_right _ (List.mem_append_left _ (List.mem_of_getElem? (i := 122) rfl))) rfl
theorem k6d_28 : (Cond.initialized "LayerDesk$Names") ∈ wT := wT_t (List.mem_append_left _ (List.mem_of_getElem? (i := 11) rfl)) rfl
theorem k6d_29 : (Cond.code xy_Me_code xb_Me_code 1 (some .int)) ∈ wT := wT_t (List.mem_append_right _ (List.mem_append_right _ (List.mem_append_right _ (List.mem_append_left _ (List.mem_of_getElem? (i := 52) rfl))))) rfl
theorem k6d_30 : (Cond.methodLink "LayerDesk" 178 xy_Me_code) ∈ wT := wT_t (List.mem_append_right _ (List.mem_append_right _ (List.mem_append_right _ (List.mem_append_left _ (List.mem_of_getElem? (i := 49) rfl))))) rfl
theorem k6d_31 : (Cond.instanceMethod xy_Me_code) ∈ wT := wT_t (List.mem_append_right _ (List.mem_append_right _ (List.mem_append_right _ (List.mem_append_left _ (List.mem_of_getElem? (i := 50) rfl))))) rfl
theorem k6d_32 : (Cond.selects "LayerDesk$Member" xy_Me_code xy_Me_code) ∈ wT := wT_t (List.mem_append_right _ (List.mem_append_right _ (List.mem_append_right _ (List.mem_append_left _ (List.mem_of_getElem? (i := 51) rfl))))) rfl
theorem k6d_33 : (Cond.initialized "LayerDesk$Member") ∈ wT := wT_t (List.mem_append_left _ (List.mem_of_getElem? (i := 20) rfl)) rfl
theorem k6d_34 : (Cond.code xy_Me_sourceOf xb_Me_sourceOf 5 (some (.object "LayerDesk$Member"))) ∈ wT := wT_t (List.mem_append_right _ (List.mem_append_right _ (List.mem_append_right _ (List.mem_append_left _ (List.mem_of_getElem? (i := 26) rfl))))) rfl
theorem k6d_35 : (Cond.methodLink "LayerDesk" 172 xy_Me_sourceOf) ∈ wT := wT_t (List.mem_append_right _ (List.mem_append_right _ (List.mem_append_right _ (List.mem_append_left _ (List.mem_of_getElem? (i := 47) rfl))))) rfl
theorem k6d_36 : (Cond.instanceMethod xy_Me_sourceOf) ∈ wT := wT_t (List.mem_append_right _ (List.mem_append_right _ (List.mem_append_right _ (List.mem_append_left _ (List.mem_of_getElem? (i := 24) rfl))))) rfl
theorem k6d_37 : (Cond.selects "LayerDesk$Member" xy_Me_sourceOf xy_Me_sourceOf) ∈ wT := wT_t (List.mem_append_right _ (List.mem_append_right _ (List.mem_append_right _ (List.mem_append_left _ (List.mem_of_getElem? (i := 25) rfl))))) rfl
theorem k6d_38 : (Cond.classLink "LayerDesk" 89 "java/util/NoSuchElementException") ∈ wT := wT_t (List.mem_append_right _ (List.mem_append_right _ (List.mem_append_left _ (List.mem_of_getElem? (i := 94) rfl)))) rfl
theorem k6d_39 : (Cond.initialized "java/util/NoSuchElementException") ∈ wT := wT_t (List.mem_append_left _ (List.mem_of_getElem? (i := 18) rfl)) rfl
theorem k6d_40 : (Cond.code xy_De_memberOf xb_De_memberOf 4 (some (.object "LayerDesk$Member"))) ∈ wT := wT_t (List.mem_append_left _ (List.mem_of_getElem? (i := 169) rfl)) rfl
theorem k6d_41 : (Cond.methodLink "LayerDesk" 145 xy_De_memberOf) ∈ wT := wT_t (List.mem_append_left _ (List.mem_of_getElem? (i := 166) rfl)) rfl
theorem k6d_42 : (Cond.instanceMethod xy_De_memberOf) ∈ wT := wT_t (List.mem_append_left _ (List.mem_of_getElem? (i := 168) rfl)) rfl
theorem k6d_43 : (Cond.selects "LayerDesk" xy_De_memberOf xy_De_memberOf) ∈ wT := wT_s (q := (xy_De_memberOf, 6)) (by decide +kernel) rfl
theorem k6d_44 : (Cond.fieldLink "LayerDesk" 148 "LayerDesk$Member" "reading" "LLayerDesk$Reach;") ∈ wT := wT_t (List.mem_append_right _ (List.mem_append_right _ (List.mem_append_left _ (List.mem_of_getElem? (i := 192) rfl)))) rfl
theorem k6d_45 : (Cond.code xy_Re_marks xb_Re_marks 2 (some .boolean)) ∈ wT := wT_t (List.mem_append_left _ (List.mem_of_getElem? (i := 177) rfl)) rfl
theorem k6d_46 : (Cond.methodLink "LayerDesk" 152 xy_Re_marks) ∈ wT := wT_t (List.mem_append_left _ (List.mem_of_getElem? (i := 174) rfl)) rfl
theorem k6d_47 : (Cond.instanceMethod xy_Re_marks) ∈ wT := wT_t (List.mem_append_left _ (List.mem_of_getElem? (i := 175) rfl)) rfl
theorem k6d_48 : (Cond.selects "LayerDesk$Reach" xy_Re_marks xy_Re_marks) ∈ wT := wT_t (List.mem_append_left _ (List.mem_of_getElem? (i := 176) rfl)) rfl
theorem k6d_49 : (Cond.initialized "LayerDesk$Reach") ∈ wT := wT_t (List.mem_append_left _ (List.mem_of_getElem? (i := 21) rfl)) rfl
theorem k6d_50 : (Cond.fieldLink "LayerDesk" 183 "LayerDesk$Descriptor" "name" "I") ∈ wT := wT_t (List.mem_append_right _ (List.mem_append_left _ (List.mem_of_getElem? (i := 59) rfl))) rfl
theorem k6d_51 : (Cond.code xy_Ds_opensTo xb_Ds_opensTo 4 (some .boolean)) ∈ wT := wT_t (List.mem_append_right _ (List.mem_append_right _ (List.mem_append_right _ (List.mem_append_left _ (List.mem_of_getElem? (i := 64) rfl))))) rfl
theorem k6d_52 : (Cond.methodLink "LayerDesk" 186 xy_Ds_opensTo) ∈ wT := wT_t (List.mem_append_right _ (List.mem_append_right _ (List.mem_append_right _ (List.mem_append_left _ (List.mem_of_getElem? (i := 61) rfl))))) rfl
theorem k6d_53 : (Cond.instanceMethod xy_Ds_opensTo) ∈ wT := wT_t (List.mem_append_right _ (List.mem_append_right _ (List.mem_append_right _ (List.mem_append_left _ (List.mem_of_getElem? (i := 62) rfl))))) rfl
theorem k6d_54 : (Cond.selects "LayerDesk$Descriptor" xy_Ds_opensTo xy_Ds_opensTo) ∈ wT := wT_t (List.mem_append_right _ (List.mem_append_right _ (List.mem_append_right _ (List.mem_append_left _ (List.mem_of_getElem? (i := 63) rfl))))) rfl
theorem k6d_55 : (Cond.initialized "LayerDesk$Descriptor") ∈ wT := wT_t (List.mem_append_left _ (List.mem_of_getElem? (i := 10) rfl)) rfl
theorem k6d_56 : (Cond.code xy_De_openLayer xb_De_openLayer 3 (some (.object "LayerDesk$Layer"))) ∈ wT := wT_t (List.mem_append_left _ (List.mem_of_getElem? (i := 137) rfl)) rfl
theorem k6d_57 : (Cond.methodLink "LayerDesk" 68 xy_De_openLayer) ∈ wT := wT_t (List.mem_append_left _ (List.mem_of_getElem? (i := 134) rfl)) rfl
theorem k6d_58 : (Cond.instanceMethod xy_De_openLayer) ∈ wT := wT_t (List.mem_append_left _ (List.mem_of_getElem? (i := 136) rfl)) rfl
theorem k6d_59 : (Cond.selects "LayerDesk" xy_De_openLayer xy_De_openLayer) ∈ wT := wT_s (q := (xy_De_openLayer, 6)) (by decide +kernel) rfl
theorem k6d_60 : (Cond.code xy_Ly_providerOf xb_Ly_providerOf 6 (some (.object "LayerDesk$Member"))) ∈ wT := wT_t (List.mem_append_right _ (List.mem_append_right _ (List.mem_append_right _ (List.mem_append_left _ (List.mem_of_getElem? (i := 76) rfl))))) rfl
theorem k6d_61 : (Cond.methodLink "LayerDesk" 192 xy_Ly_providerOf) ∈ wT := wT_t (List.mem_append_right _ (List.mem_append_right _ (List.mem_append_right _ (List.mem_append_left _ (List.mem_of_getElem? (i := 73) rfl))))) rfl
theorem k6d_62 : (Cond.instanceMethod xy_Ly_providerOf) ∈ wT := wT_t (List.mem_append_right _ (List.mem_append_right _ (List.mem_append_right _ (List.mem_append_left _ (List.mem_of_getElem? (i := 74) rfl))))) rfl
theorem k6d_63 : (Cond.selects "LayerDesk$Layer" xy_Ly_providerOf xy_Ly_providerOf) ∈ wT := wT_t (List.mem_append_right _ (List.mem_append_right _ (List.mem_append_right _ (List.mem_append_left _ (List.mem_of_getElem? (i := 75) rfl))))) rfl
theorem k6d_64 : (Cond.initialized "LayerDesk$Layer") ∈ wT := wT_t (List.mem_append_left _ (List.mem_of_getElem? (i := 19) rfl)) rfl
theorem k6d_65 : (Cond.methodLink "LayerDesk" 49 xy_Li_take) ∈ wT := wT_t (List.mem_append_left _ (List.mem_of_getElem? (i := 187) rfl)) rfl
theorem k6d_66 : (Cond.fieldLink "LayerDesk" 19 "LayerDesk" "shelf" "LLayerDesk$Shelf;") ∈ wT := wT_t (List.mem_append_left _ (List.mem_of_getElem? (i := 100) rfl)) rfl
theorem k6d_67 : (Cond.code xy_Sh_accept xb_Sh_accept 2 (some .int)) ∈ wT := wT_t (List.mem_append_left _ (List.mem_of_getElem? (i := 194) rfl)) rfl
theorem k6d_68 : (Cond.methodLink "LayerDesk" 52 xy_Sh_accept) ∈ wT := wT_t (List.mem_append_left _ (List.mem_of_getElem? (i := 191) rfl)) rfl
theorem k6d_69 : (Cond.instanceMethod xy_Sh_accept) ∈ wT := wT_t (List.mem_append_left _ (List.mem_of_getElem? (i := 192) rfl)) rfl
theorem k6d_70 : (Cond.selects "LayerDesk$Shelf" xy_Sh_accept xy_Sh_accept) ∈ wT := wT_t (List.mem_append_left _ (List.mem_of_getElem? (i := 193) rfl)) rfl
theorem k6d_71 : (Cond.initialized "LayerDesk$Shelf") ∈ wT := wT_t (List.mem_append_left _ (List.mem_of_getElem? (i := 3) rfl)) rfl
theorem k6d_72 : (Cond.classLink "LayerDesk" 63 "java/lang/IllegalStateException") ∈ wT := wT_t (List.mem_append_right _ (List.mem_append_right _ (List.mem_append_left _ (List.mem_of_getElem? (i := 32) rfl)))) rfl
theorem k6d_73 : (Cond.initialized "java/lang/IllegalStateException") ∈ wT := wT_t (List.mem_append_left _ (List.mem_of_getElem? (i := 17) rfl)) rfl
set_option maxHeartbeats 4000000 in
set_option maxRecDepth 100000 in
theorem xc_Li_takeNameX (l : Launch) (D : va_G) (kA : Nat → ClassId) (sz : Nat) (ad : Nat → Nat → Nat) (E : Nat → Nat → va_E) (RL : List (Nat × Nat)) (g : Nat → Nat → Int32) (ml : Nat) (nd : Nat) (len : Nat) (wn : Nat) (cs : Nat) (hCI : CI kA ad E RL ml nd len wn cs) (hTX : ∀ i, i < len → eA (E 0 2) i = g 0 i) : Met l xy_Li_takeName (.code xy_Li_takeName xb_Li_takeName 1 (some .int) :: wT) { frames := 1, cells := 0, slots := 0, locals := 23 } (va_Pc [.ref (ad 0 1)] (xPre D kA sz (rp ad E RL))) (va_Qi (fun (r : Int32) (u : Nat → Nat → va_E) => (∃ wn2, CI kA ad u RL ml nd 0 wn2 cs) ∧ F134 E u ∧ r = (cif ((w_all (g 0) len).length = 1) (wN (g 0) (w_all (g 0) len) 0) 0)) (fun (u : Nat → Nat → va_E) t => va_P D xcl (rp ad u RL) t.heap ∧ va_D (va_A (rp ad E RL) sz) (rp ad u RL)) (va_A (rp ad E RL) sz)) 0 0 (va_A (rp ad E RL) sz) := by
  refine Met.ofW (cc := xb_Li_takeName) (maxL := 1) (ret := (some .int)) (by decide) rfl ?_
  intro p e s m args below meth c s₁ B hml hv
  obtain ⟨rfl, hsz, hP, hK, hD0⟩ := hv
  have hx := B.exec
  have hb := B.bytes
  have hr := B.returns
  have hT := x_hT B.pre
  have hown : s.vm.findClass xR_Li = some m.cls := findClass_of_methodNamed B.named
  have hlocks := B.notSynchronized
  subst hsz
  have hD := hD0.self (sz := s.heap.size)
  generalize hAe : va_A (rp ad E RL) s.heap.size = A at hD ⊢
  have hA : ∀ q : Nat, s.heap.size ≤ q → A q := fun q h => by rw [← hAe]; exact Or.inr h
  have hS : va_S A s.heap s.heap [] := va_S.rf
  have hl := lv_entry ([.ref (ad 0 1)]) (n := 1) (Nat.le_of_ble_eq_true rfl)
  rw [lg_entry_eq]
  generalize (lg_sl ([.ref (ad 0 1)]) ++ List.replicate (1 - (lg_sl ([.ref (ad 0 1)])).length) Slot.unset).toArray = ls at hl ⊢
  have hl : lv_has ls 1 [(0, .ref (ad 0 1))] := hl
  have hP : va_P D xcl (rp ad E RL) s.heap := hP
  obtain ⟨hmB, hDk, hLi, hSh, hCh, hLa, hDIs, hLIs⟩ := id hCI
  obtain ⟨lf_1, q_1⟩ := id (hDk)
  have c_2 : E 0 0 = .inr (0, [.ref (ad 0 1), .ref (ad 0 5), .ref (ad 0 7), .ref (ad 0 9), .int (nI ml), .int lf_1]) := q_1
  have m_3 : (0, 0) ∈ RL := hmB 0 (by omega)
  obtain ⟨tx_4, fb_4, fe_4, hl1_4, hw2_4, q1_4, q2_4, q3_4, q4_4, hws_4⟩ := id (hLi)
  have c_5 : E 0 1 = .inr (1, [.ref (ad 0 2), .ref (ad 0 3), .ref (ad 0 4), .int (nI len), .int (nI wn)]) := q1_4
  have m_6 : (0, 1) ∈ RL := hmB 1 (by omega)
  have c_7 : E 0 2 = .inl (kA 1, 40, .inl tx_4) := q2_4
  have m_8 : (0, 2) ∈ RL := hmB 2 (by omega)
  have c_9 : E 0 3 = .inl (kA 0, 20, .inl fb_4) := q3_4
  have m_10 : (0, 3) ∈ RL := hmB 3 (by omega)
  have c_11 : E 0 4 = .inl (kA 0, 20, .inl fe_4) := q4_4
  have m_12 : (0, 4) ∈ RL := hmB 4 (by omega)
  obtain ⟨fd_13, hnd_13, q5_13, q6_13, hds_13⟩ := id (hSh)
  have c_14 : E 0 5 = .inr (2, [.ref (ad 0 6), .int (nI nd)]) := q5_13
  have m_15 : (0, 5) ∈ RL := hmB 5 (by omega)
  have c_16 : E 0 6 = .inl (kA 4, 12, .inr (.inr (.inr (.inr fd_13)))) := q6_13
  have m_17 : (0, 6) ∈ RL := hmB 6 (by omega)
  obtain ⟨cf_18, pv_18, fc_18, hcs_18, hpv_18, q7_18, q8_18, hfc_18⟩ := id (hCh)
  have c_19 : E 0 7 = .inr (3, [.ref (ad 0 5), .ref (ad 0 8), .int (nI cs), .int cf_18, pv_18]) := q7_18
  have m_20 : (0, 7) ∈ RL := hmB 7 (by omega)
  have c_21 : E 0 8 = .inl (kA 4, 12, .inr (.inr (.inr (.inr fc_18)))) := q8_18
  have m_22 : (0, 8) ∈ RL := hmB 8 (by omega)
  obtain ⟨fl_23, hml_23, q9_23, hla_23⟩ := id (hLa)
  have c_24 : E 0 9 = .inl (kA 5, 5, .inr (.inr (.inr (.inr fl_23)))) := q9_23
  have m_25 : (0, 9) ∈ RL := hmB 9 (by omega)
  refine lv_aload_n hx hb xd_Li_takeName_0 rfl (lv_at hl 0 rfl) ?_
  have hFc := px_free hD hS hA
  refine va_callv (va_runV (As := []) (rest := []) ⟨hx, hb, hml, hown, hT⟩ (xc_Li_takeX l D kA s.heap.size ad E RL len wn tx_4 fb_4 fe_4 m_6 c_5 m_8 c_7 m_10 c_9 m_12 c_11 (by first | assumption | omega)) (cwV 0 hT (wT_V k6d_1 k6d_2 k6d_3 k6d_4 k6d_0) rfl rfl rfl (by decide +kernel) ⟨Nat.le_of_ble_eq_true rfl, Nat.le_of_ble_eq_true rfl⟩) (px_preV hK hP hD m_6 c_5 rfl) rfl rfl hl.1 rfl (lv_room (Nat.le_of_ble_eq_true rfl)) xd_Li_takeName_1 ⟨(Nat.le_of_ble_eq_true rfl), (Nat.le_of_ble_eq_true rfl)⟩) hS (fun q _ h => hFc q h) hFc (fun u27 t H1 locs ht hvm hp28 hB hz1 hk1 hS => ?_)
  obtain ⟨hP1, hD1⟩ := hB
  rw [ht] at hP1
  have hD1 := hD1.weaken (fun _ _ _ h => hFc _ h)
  generalize H1 = H at hP1 hS ⊢
  have hP := hP1
  have hD := hD1
  obtain ⟨E29, rfl⟩ : ∃ z, z = u27 := ⟨_, rfl⟩
  obtain ⟨w30, w31, w32, hp37, p_33, p_34, p_35, p_36⟩ := hp28
  have p_33 : E29 0 1 = .inr (1, [.ref (ad 0 2), .ref (ad 0 3), .ref (ad 0 4), .int 0, .int (nI w30)]) := p_33
  have p_34 : E29 0 3 = .inl (kA 0, 20, .inl w31) := p_34
  have p_35 : E29 0 4 = .inl (kA 0, 20, .inl w32) := p_35
  have p_36 : (∀ b2 o2, ¬ (b2 = 0 ∧ o2 = 1) → ¬ (b2 = 0 ∧ o2 = 3) → ¬ (b2 = 0 ∧ o2 = 4) → E29 b2 o2 = E b2 o2) := p_36
  have c_38 : E29 0 0 = .inr (0, [.ref (ad 0 1), .ref (ad 0 5), .ref (ad 0 7), .ref (ad 0 9), .int (nI ml), .int lf_1]) := (p_36 0 0 (by omega) (by omega) (by omega)).trans c_2
  have c_39 : E29 0 2 = .inl (kA 1, 40, .inl tx_4) := (p_36 0 2 (by omega) (by omega) (by omega)).trans c_7
  have c_40 : E29 0 5 = .inr (2, [.ref (ad 0 6), .int (nI nd)]) := (p_36 0 5 (by omega) (by omega) (by omega)).trans c_14
  have c_41 : E29 0 6 = .inl (kA 4, 12, .inr (.inr (.inr (.inr fd_13)))) := (p_36 0 6 (by omega) (by omega) (by omega)).trans c_16
  have c_42 : E29 0 7 = .inr (3, [.ref (ad 0 5), .ref (ad 0 8), .int (nI cs), .int cf_18, pv_18]) := (p_36 0 7 (by omega) (by omega) (by omega)).trans c_19
  have c_43 : E29 0 8 = .inl (kA 4, 12, .inr (.inr (.inr (.inr fc_18)))) := (p_36 0 8 (by omega) (by omega) (by omega)).trans c_21
  have c_44 : E29 0 9 = .inl (kA 5, 5, .inr (.inr (.inr (.inr fl_23)))) := (p_36 0 9 (by omega) (by omega) (by omega)).trans c_24
  have hP : va_P D xcl (rp ad E29 RL) H := hP
  have hD : va_D A (rp ad E29 RL) := hD
  obtain ⟨hw20, hWP, hTQ1, hTQ2⟩ := hp37
  obtain ⟨wl, hwl⟩ : ∃ z, z = w_all (g 0) len := ⟨_, rfl⟩
  have htx9 : ∀ j, j < len → tx_4 j = g 0 j := fun j hj => by
    have q := hTX j hj
    rw [← (show E29 0 2 = E 0 2 from by show E29 0 2 = _; rw [p_36 0 2 (by omega) (by omega) (by omega)]), c_39] at q; exact q
  have hwx : w_all tx_4 len = wl := by rw [hwl]; exact w_all_congr htx9
  rw [hwx] at hTQ1 hTQ2
  have hLW : LW g E29 len wl := LW_mk hwl (by omega) c_39 p_34 p_35 htx9 hTQ2
  have c1w : E29 0 1 = .inr (1, [.ref (ad 0 2), .ref (ad 0 3), .ref (ad 0 4), .int 0, .int (nI (wl.length))]) := by rw [← hTQ1]; exact p_33
  have hF1 : F134 E E29 := fun b2 o2 h19 h29 h39 => by show E29 b2 o2 = _; rw [p_36 b2 o2 (by omega) (by omega) (by omega)]
  have hCI : CI kA ad E29 RL ml nd 0 wl.length cs := ⟨hmB, ⟨lf_1, c_38⟩, ⟨tx_4, w31, w32, (by omega), (by omega), c1w, c_39, p_34, p_35, (by rw [← hTQ1]; exact hWP)⟩, ⟨fd_13, (by omega), c_40, c_41, hds_13⟩, ⟨cf_18, pv_18, fc_18, (by omega), hpv_18, c_42, c_43, hfc_18⟩, ⟨fl_23, (by omega), c_44, hla_23⟩, (DIs_same (fun d9 hd9 => fun2 fun o9 => by show E29 (1 + d9) o9 = _; rw [p_36 (1 + d9) o9 (by omega) (by omega) (by omega)]) (fun _ _ => rfl) (fun _ h9 => h9) hDIs), (LIs_same (Nat.le_refl _) (fun n9 hn9 => fun2 fun o9 => by show E29 (20 + n9) o9 = _; rw [p_36 (20 + n9) o9 (by omega) (by omega) (by omega)]) (fun _ _ => rfl) (fun _ _ => rfl) (fun _ h9 => h9) hLIs)⟩
  obtain ⟨hmB, hDk, hLi, hSh, hCh, hLa, hDIs, hLIs⟩ := id hCI
  obtain ⟨tx_45, fb_45, fe_45, hl1_45, hw2_45, q1_45, q2_45, q3_45, q4_45, hws_45⟩ := id (hLi)
  have c_46 : E29 0 1 = .inr (1, [.ref (ad 0 2), .ref (ad 0 3), .ref (ad 0 4), .int (nI 0), .int (nI (wl.length))]) := q1_45
  have m_47 : (0, 1) ∈ RL := hmB 1 (by omega)
  have c_48 : E29 0 2 = .inl (kA 1, 40, .inl tx_45) := q2_45
  have m_49 : (0, 2) ∈ RL := hmB 2 (by omega)
  have c_50 : E29 0 3 = .inl (kA 0, 20, .inl fb_45) := q3_45
  have m_51 : (0, 3) ∈ RL := hmB 3 (by omega)
  have c_52 : E29 0 4 = .inl (kA 0, 20, .inl fe_45) := q4_45
  have m_53 : (0, 4) ∈ RL := hmB 4 (by omega)
  refine lv_aload_n hx hb xd_Li_takeName_4 rfl (lv_at hl 0 rfl) ?_
  refine px_get (D := D) (ci := 1) (v := .int (nI (wl.length))) (C := xR_Li) (T := xT_Li) (N := 5) hx hb hT xi_Li hown hK.1 hP m_47 c_46 rfl 4 (by decide) (hT _ k6d_5) (fun _ h9 => h9) rfl xd_Li_takeName_5 ?_
  refine lv_iconst (v := 1) hx hb xd_Li_takeName_8 (by decide) ?_
  refine xn_ne (a := wl.length) (b := 1) (tgt := 20) hx hb xd_Li_takeName_9 (by decide) (by omega) (by omega) (fun hc54 => ?_) (fun hc54 => ?_)
  · refine lv_iconst (v := 0) hx hb xd_Li_takeName_20 (by decide) ?_
    exact W.iret (v := 0) hx hb hr (fun t ht hW => ⟨⟨0, E29, rfl, ⟨⟨wl.length, hCI⟩, hF1, (by rw [← hwl, cif_neg (by omega)])⟩, by rw [ht]; exact hP, hD⟩, hS.F ht⟩) hS.2.2 xd_Li_takeName_21
  · refine lv_aload_n hx hb xd_Li_takeName_12 rfl (lv_at hl 0 rfl) ?_
    refine lv_iconst (v := 0) hx hb xd_Li_takeName_13 (by decide) ?_
    have hFc := px_free hD hS hA
    refine va_calli (va_runV (As := [.int 0]) (rest := []) ⟨hx, hb, hml, hown, hT⟩ (xc_Li_nameAtX l D kA H.size ad E29 RL g ml nd 0 len wl cs 0 (by first | assumption | omega) hLW (by first | assumption | omega)) (cwV 1 hT (wT_V k6d_7 k6d_8 k6d_9 k6d_4 k6d_6) rfl rfl rfl (by decide +kernel) ⟨Nat.le_of_ble_eq_true rfl, Nat.le_of_ble_eq_true rfl⟩) (px_preV hK hP hD m_47 c_46 rfl) rfl rfl hl.1 rfl (lv_room (Nat.le_of_ble_eq_true rfl)) xd_Li_takeName_14 ⟨(Nat.le_of_ble_eq_true rfl), (Nat.le_of_ble_eq_true rfl)⟩) hS (fun q _ h => hFc q h) hFc (fun r55 u56 t H1 locs ht hvm hp57 hB hz1 hk1 hS => ?_)
    obtain ⟨hP1, hD1⟩ := hB
    rw [ht] at hP1
    have hD1 := hD1.weaken (fun _ _ _ h => hFc _ h)
    generalize H1 = H at hP1 hS ⊢
    have hP := hP1
    have hD := hD1
    have hP : va_P D xcl (rp ad E29 RL) H := hP
    have hD : va_D A (rp ad E29 RL) := hD
    refine lv_goto (tgt := 21) hx hb xd_Li_takeName_17 (by decide) ?_
    exact W.iret (v := r55) hx hb hr (fun t ht hW => ⟨⟨r55, E29, rfl, ⟨⟨wl.length, hCI⟩, hF1, (by rw [← hwl, cif_pos (by omega)]; exact hp57)⟩, by rw [ht]; exact hP, hD⟩, hS.F ht⟩) hS.2.2 xd_Li_takeName_21
set_option maxHeartbeats 4000000 in
set_option maxRecDepth 100000 in
theorem xc_De_loadK (l : Launch) (hlt : l.stackTraces = false) (D : va_G) (kA : Nat → ClassId) (sz : Nat) (ad : Nat → Nat → Nat) (E : Nat → Nat → va_E) (RL : List (Nat × Nat)) (Z : zT) (g : Nat → Nat → Int32) (ml : Nat) (nd : Nat) (len : Nat) (wn : Nat) (cs : Nat) (ix : Int32) (kx : Int32) (hCI : CI kA ad E RL ml nd len wn cs) (hTX : ∀ i, i < len → eA (E 0 2) i = g 0 i) : vx_Met l xy_De_load (.code xy_De_load xb_De_load 6 (some .int) :: wT) { frames := 6, cells := 1, slots := 6, locals := 90 } (va_Pc [.ref (ad 0 0), .int ix, .int kx] (xPreZ D kA sz (rp ad E RL) Z)) (va_Qi (fun (r : Int32) (u : Nat → Nat → va_E) => (∃ wn2, CI kA ad u RL ml nd 0 wn2 cs) ∧ F134 E u) (fun (u : Nat → Nat → va_E) t => va_P D xcl (rp ad u RL) t.heap ∧ va_D (va_A (rp ad E RL) sz) (rp ad u RL)) (va_A (rp ad E RL) sz)) (vx_X (fun (u : Nat → Nat → va_E) => (∃ wn2, CI kA ad u RL ml nd 0 wn2 cs) ∧ F134 E u) (fun E9 u t => (E9 = "java/lang/IllegalArgumentException" ∨ E9 = "java/util/NoSuchElementException") ∧ va_P D xcl (rp ad u RL) t.heap ∧ va_D (va_A (rp ad E RL) sz) (rp ad u RL)) (va_A (rp ad E RL) sz)) 1 6 (va_A (rp ad E RL) sz) := by
  refine vx_ofW (cc := xb_De_load) (maxL := 6) (ret := (some .int)) (by decide) rfl ?_
  intro p e s m args below meth c s₁ B hml htab hv
  obtain ⟨rfl, ⟨hsz, hP, hK, hD0⟩, hZ⟩ := hv
  have hx := B.exec
  have hb := B.bytes
  have hr := B.returns
  have hT := x_hT B.pre
  have hown : s.vm.findClass xR_De = some m.cls := findClass_of_methodNamed B.named
  have hlocks := B.notSynchronized
  subst hsz
  have hD := hD0.self (sz := s.heap.size)
  generalize hAe : va_A (rp ad E RL) s.heap.size = A at hD hZ ⊢
  have hA : ∀ q : Nat, s.heap.size ≤ q → A q := fun q h => by rw [← hAe]; exact Or.inr h
  have hS : va_S A s.heap s.heap [] := va_S.rf
  have hl := lv_entry ([.ref (ad 0 0), .int ix, .int kx]) (n := 6) (Nat.le_of_ble_eq_true rfl)
  rw [lg_entry_eq]
  generalize (lg_sl ([.ref (ad 0 0), .int ix, .int kx]) ++ List.replicate (6 - (lg_sl ([.ref (ad 0 0), .int ix, .int kx])).length) Slot.unset).toArray = ls at hl ⊢
  have hl : lv_has ls 6 [(0, .ref (ad 0 0)), (1, .int ix), (2, .int kx)] := hl
  have hP : va_P D xcl (rp ad E RL) s.heap := hP
  obtain ⟨hmB, hDk, hLi, hSh, hCh, hLa, hDIs, hLIs⟩ := id hCI
  obtain ⟨lf_1, q_1⟩ := id (hDk)
  have c_2 : E 0 0 = .inr (0, [.ref (ad 0 1), .ref (ad 0 5), .ref (ad 0 7), .ref (ad 0 9), .int (nI ml), .int lf_1]) := q_1
  have m_3 : (0, 0) ∈ RL := hmB 0 (by omega)
  refine lv_aload_n hx hb xd_De_load_0 rfl (lv_at hl 0 rfl) ?_
  refine px_get (D := D) (ci := 0) (v := .ref (ad 0 1)) (C := xR_De) (T := xT_De) (N := 6) hx hb hT xi_De hown hK.1 hP m_3 c_2 rfl 0 (by decide) (hT _ k6d_10) (fun _ h9 => h9) rfl xd_De_load_1 ?_
  have hFc := px_free hD hS hA
  obtain ⟨tx_4, fb_4, fe_4, hl1_4, hw2_4, q1_4, q2_4, q3_4, q4_4, hws_4⟩ := id (hLi)
  have c_5 : E 0 1 = .inr (1, [.ref (ad 0 2), .ref (ad 0 3), .ref (ad 0 4), .int (nI len), .int (nI wn)]) := q1_4
  have m_6 : (0, 1) ∈ RL := hmB 1 (by omega)
  have c_7 : E 0 2 = .inl (kA 1, 40, .inl tx_4) := q2_4
  have m_8 : (0, 2) ∈ RL := hmB 2 (by omega)
  have c_9 : E 0 3 = .inl (kA 0, 20, .inl fb_4) := q3_4
  have m_10 : (0, 3) ∈ RL := hmB 3 (by omega)
  have c_11 : E 0 4 = .inl (kA 0, 20, .inl fe_4) := q4_4
  have m_12 : (0, 4) ∈ RL := hmB 4 (by omega)
  refine va_calli (va_runV (As := []) (rest := []) ⟨hx, hb, hml, hown, hT⟩ (xc_Li_takeNameX l D kA s.heap.size ad E RL g ml nd len wn cs (by first | assumption | omega) (by first | assumption | omega)) (cwV 0 hT (wT_V k6d_12 k6d_13 k6d_14 k6d_4 k6d_11) rfl rfl rfl (by decide +kernel) ⟨Nat.le_of_ble_eq_true rfl, Nat.le_of_ble_eq_true rfl⟩) (px_preV hK hP hD m_6 c_5 rfl) rfl rfl hl.1 rfl (lv_room (Nat.le_of_ble_eq_true rfl)) xd_De_load_4 ⟨(Nat.le_of_ble_eq_true rfl), (Nat.le_of_ble_eq_true rfl)⟩) hS (fun q _ h => hFc q h) hFc (fun r13 u14 t H1 locs ht hvm hp15 hB hz1 hk1 hS => ?_)
  obtain ⟨hP1, hD1⟩ := hB
  rw [ht] at hP1
  have hD1 := hD1.weaken (fun _ _ _ h => hFc _ h)
  generalize H1 = H at hP1 hS ⊢
  have hP := hP1
  have hD := hD1
  obtain ⟨E16, rfl⟩ : ∃ z, z = u14 := ⟨_, rfl⟩
  have hP : va_P D xcl (rp ad E16 RL) H := hP
  have hD : va_D A (rp ad E16 RL) := hD
  obtain ⟨⟨wn17, hCI⟩, hF1, hr9⟩ := hp15
  have hCI : CI kA ad E16 RL ml nd 0 wn17 cs := hCI
  obtain ⟨hmB, hDk, hLi, hSh, hCh, hLa, hDIs, hLIs⟩ := id hCI
  obtain ⟨lf_18, q_18⟩ := id (hDk)
  have c_19 : E16 0 0 = .inr (0, [.ref (ad 0 1), .ref (ad 0 5), .ref (ad 0 7), .ref (ad 0 9), .int (nI ml), .int lf_18]) := q_18
  have m_20 : (0, 0) ∈ RL := hmB 0 (by omega)
  obtain ⟨fd_21, hnd_21, q5_21, q6_21, hds_21⟩ := id (hSh)
  have c_22 : E16 0 5 = .inr (2, [.ref (ad 0 6), .int (nI nd)]) := q5_21
  have m_23 : (0, 5) ∈ RL := hmB 5 (by omega)
  have c_24 : E16 0 6 = .inl (kA 4, 12, .inr (.inr (.inr (.inr fd_21)))) := q6_21
  have m_25 : (0, 6) ∈ RL := hmB 6 (by omega)
  obtain ⟨fl_26, hml_26, q9_26, hla_26⟩ := id (hLa)
  have c_27 : E16 0 9 = .inl (kA 5, 5, .inr (.inr (.inr (.inr fl_26)))) := q9_26
  have m_28 : (0, 9) ∈ RL := hmB 9 (by omega)
  refine lv_istore_n hx hb xd_De_load_7 rfl hl (Nat.le_of_ble_eq_true rfl) rfl (fun ls hl => ?_)
  have hl : lv_has ls 6 [(3, .int r13), (0, .ref (ad 0 0)), (1, .int ix), (2, .int kx)] := hl
  refine lv_aload_n hx hb xd_De_load_8 rfl (lv_at hl 1 rfl) ?_
  refine lv_iload_n hx hb xd_De_load_9 rfl (lv_at hl 2 rfl) ?_
  refine lv_iload_n hx hb xd_De_load_10 rfl (lv_at hl 3 rfl) ?_
  have hFc := px_free hD hS hA
  refine va_callq (va_runV (As := [.int ix, .int kx]) (rest := []) ⟨hx, hb, hml, hown, hT⟩ (xc_De_memberAt l D kA H.size ad E16 RL ml nd 0 wn17 cs ix kx (by first | assumption | omega)) (cwV 2 hT (wT_V k6d_16 k6d_17 k6d_18 k6d_19 k6d_15) rfl rfl rfl (by decide +kernel) ⟨Nat.le_of_ble_eq_true rfl, Nat.le_of_ble_eq_true rfl⟩) (px_preV hK hP hD m_20 c_19 rfl) rfl rfl hl.1 rfl (lv_room (Nat.le_of_ble_eq_true rfl)) xd_De_load_11 ⟨(Nat.le_of_ble_eq_true rfl), (Nat.le_of_ble_eq_true rfl)⟩) hS (fun q _ h => hFc q h) hFc (fun r29 u30 t H1 locs ht hvm hp31 hB hz1 hk1 hS => ?_)
  obtain ⟨hP1, hD1⟩ := hB
  rw [ht] at hP1
  have hD1 := hD1.weaken (fun _ _ _ h => hFc _ h)
  generalize H1 = H at hP1 hS ⊢
  have hP := hP1
  have hD := hD1
  have hP : va_P D xcl (rp ad E16 RL) H := hP
  have hD : va_D A (rp ad E16 RL) := hD
  rcases hp31 with rfl | ⟨z32, z33, z34, rfl, z35⟩
  · refine W.eq (g2 := F0 m 14 ls [.null]) rfl ?_
    refine lv_astoreN hx hb xd_De_load_14 hl (Nat.le_of_ble_eq_true rfl) rfl (fun ls hl => ?_)
    have hl : lv_has ls 6 [(4, .null), (3, .int r13), (0, .ref (ad 0 0)), (1, .int ix), (2, .int kx)] := hl
    refine lv_aloadN hx hb xd_De_load_16 (lv_at hl 0 rfl) ?_
    refine lv_ifnullN (tgt := 25) hx hb xd_De_load_18 (by decide) ?_
    exact y_throwA (ik := 56) (is := 161) (wf := fun (u : Nat → Nat → va_E) => rp ad u RL) E16 (⟨⟨wn17, hCI⟩, hF1⟩) (Or.inl rfl) hx hb hlt hown hT hK k6d_20 k6d_21 hZ.2.2.2.1.2.2.2.2.2.2.2.2.2.2.2.2.2.2.2.2.2.1 hZ.1 hS hP hD (hl.1.trans hml.symm) xd_De_load_25 xd_De_load_28 xd_De_load_29 xd_De_load_31 xd_De_load_34 htab (Nat.le_of_ble_eq_true rfl) (Nat.le_of_ble_eq_true rfl) (Nat.le_of_ble_eq_true rfl) (Nat.le_of_ble_eq_true rfl) hlocks (Nat.le_of_ble_eq_true rfl) (Nat.le_of_ble_eq_true rfl)
  · refine W.eq (g2 := F0 m 14 ls [.ref (ad (20 + z32) (10 + 10 * z33))]) rfl ?_
    refine lv_astore hx hb xd_De_load_14 hl (Nat.le_of_ble_eq_true rfl) rfl (fun ls hl => ?_)
    have hl : lv_has ls 6 [(4, .ref (ad (20 + z32) (10 + 10 * z33))), (3, .int r13), (0, .ref (ad 0 0)), (1, .int ix), (2, .int kx)] := hl
    refine lv_aload hx hb xd_De_load_16 (lv_at hl 0 rfl) ?_
    refine lv_ifnull hx hb xd_De_load_18 ?_
    refine lv_iload_n hx hb xd_De_load_21 rfl (lv_at hl 1 rfl) ?_
    refine lv_if_ne (tgt := 35) hx hb xd_De_load_22 (by decide) (fun hc36 => ?_) (fun hc36 => ?_)
    · refine lv_aload hx hb xd_De_load_35 (lv_at hl 0 rfl) ?_
      obtain ⟨hm_37, d_37, rs_37, fr_37, g2_37, g3_37, g4_37, hd_37, hrs_37, q0_37, q1_37, q2_37, q3_37, q4_37, q5_37, q6_37, q7_37⟩ := id z35
      have c_38 : E16 (20 + z32) (10 + 10 * z33) = .inr (6, [.ref (ad (20 + z32) 0), .ref (ad (1 + d_37) 0), .ref (ad (20 + z32) (11 + 10 * z33)), .ref (ad (20 + z32) (12 + 10 * z33)), .ref (ad (20 + z32) (13 + 10 * z33)), .ref (ad (20 + z32) (14 + 10 * z33))]) := q0_37
      have m_39 : (20 + z32, 10 + 10 * z33) ∈ RL := hm_37 0 (by omega)
      have c_40 : E16 (20 + z32) (11 + 10 * z33) = .inl (kA 6, rs_37, .inr (.inr (.inr (.inr fr_37)))) := q1_37
      have m_41 : (20 + z32, 11 + 10 * z33) ∈ RL := hm_37 1 (by omega)
      have c_42 : E16 (20 + z32) (12 + 10 * z33) = .inr (10, [.ref (ad (20 + z32) (15 + 10 * z33))]) := q2_37
      have m_43 : (20 + z32, 12 + 10 * z33) ∈ RL := hm_37 2 (by omega)
      have c_44 : E16 (20 + z32) (13 + 10 * z33) = .inr (10, [.ref (ad (20 + z32) (16 + 10 * z33))]) := q3_37
      have m_45 : (20 + z32, 13 + 10 * z33) ∈ RL := hm_37 3 (by omega)
      have c_46 : E16 (20 + z32) (14 + 10 * z33) = .inr (10, [.ref (ad (20 + z32) (17 + 10 * z33))]) := q4_37
      have m_47 : (20 + z32, 14 + 10 * z33) ∈ RL := hm_37 4 (by omega)
      have c_48 : E16 (20 + z32) (15 + 10 * z33) = .inl (kA 0, 6, .inl g2_37) := q5_37
      have m_49 : (20 + z32, 15 + 10 * z33) ∈ RL := hm_37 5 (by omega)
      have c_50 : E16 (20 + z32) (16 + 10 * z33) = .inl (kA 0, 6, .inl g3_37) := q6_37
      have m_51 : (20 + z32, 16 + 10 * z33) ∈ RL := hm_37 6 (by omega)
      have c_52 : E16 (20 + z32) (17 + 10 * z33) = .inl (kA 0, 6, .inl g4_37) := q7_37
      have m_53 : (20 + z32, 17 + 10 * z33) ∈ RL := hm_37 7 (by omega)
      refine px_get (D := D) (ci := 6) (v := .ref (ad (1 + d_37) 0)) (C := xR_Me) (T := xT_Me) (N := 6) hx hb hT xi_Me hown hK.1 hP m_39 c_38 rfl 1 (by decide) (hT _ k6d_22) (fun _ h9 => h9) rfl xd_De_load_37 ?_
      obtain ⟨hm_54, fd_54, nm_54, sd_54, k0_54, k1_54, k2_54, k3_54, f0_54, f1_54, f2_54, f3_54, fe_54, fo_54, tr_54, op_54, hk0_54, hk1_54, hk2_54, hk3_54, q0_54, q1_54, q2_54, q3_54, q4_54, q5_54, q6_54, q7_54, q8_54, q9_54, q10_54, q11_54, q12_54, hg_54⟩ := id (hDIs d_37 (by omega))
      have c_55 : E16 (1 + d_37) 0 = .inr (7, [.int (nI d_37), .int fd_54, .int nm_54, .ref (ad (1 + d_37) 1), .ref (ad (1 + d_37) 9), .ref (ad (1 + d_37) 10), .ref (ad (1 + d_37) 2), .ref (ad (1 + d_37) 11), .ref (ad (1 + d_37) 12), .ref (ad (1 + d_37) 3), .ref (ad (1 + d_37) 4), .int sd_54]) := q0_54
      have m_56 : (1 + d_37, 0) ∈ RL := hm_54 0 (by omega)
      have c_57 : E16 (1 + d_37) 1 = .inr (8, [.ref (ad (1 + d_37) 5), .int (nI k0_54)]) := q1_54
      have m_58 : (1 + d_37, 1) ∈ RL := hm_54 1 (by omega)
      have c_59 : E16 (1 + d_37) 2 = .inr (8, [.ref (ad (1 + d_37) 6), .int (nI k1_54)]) := q2_54
      have m_60 : (1 + d_37, 2) ∈ RL := hm_54 2 (by omega)
      have c_61 : E16 (1 + d_37) 3 = .inr (8, [.ref (ad (1 + d_37) 7), .int (nI k2_54)]) := q3_54
      have m_62 : (1 + d_37, 3) ∈ RL := hm_54 3 (by omega)
      have c_63 : E16 (1 + d_37) 4 = .inr (8, [.ref (ad (1 + d_37) 8), .int (nI k3_54)]) := q4_54
      have m_64 : (1 + d_37, 4) ∈ RL := hm_54 4 (by omega)
      have c_65 : E16 (1 + d_37) 5 = .inl (kA 0, 6, .inl f0_54) := q5_54
      have m_66 : (1 + d_37, 5) ∈ RL := hm_54 5 (by omega)
      have c_67 : E16 (1 + d_37) 6 = .inl (kA 0, 5, .inl f1_54) := q6_54
      have m_68 : (1 + d_37, 6) ∈ RL := hm_54 6 (by omega)
      have c_69 : E16 (1 + d_37) 7 = .inl (kA 0, 3, .inl f2_54) := q7_54
      have m_70 : (1 + d_37, 7) ∈ RL := hm_54 7 (by omega)
      have c_71 : E16 (1 + d_37) 8 = .inl (kA 0, 3, .inl f3_54) := q8_54
      have m_72 : (1 + d_37, 8) ∈ RL := hm_54 8 (by omega)
      have c_73 : E16 (1 + d_37) 9 = .inl (kA 8, 6, .inr (.inr (.inr (.inr fe_54)))) := q9_54
      have m_74 : (1 + d_37, 9) ∈ RL := hm_54 9 (by omega)
      have c_75 : E16 (1 + d_37) 10 = .inl (kA 8, 6, .inr (.inr (.inr (.inr fo_54)))) := q10_54
      have m_76 : (1 + d_37, 10) ∈ RL := hm_54 10 (by omega)
      have c_77 : E16 (1 + d_37) 11 = .inl (kA 2, 5, .inl tr_54) := q11_54
      have m_78 : (1 + d_37, 11) ∈ RL := hm_54 11 (by omega)
      have c_79 : E16 (1 + d_37) 12 = .inl (kA 2, 5, .inl op_54) := q12_54
      have m_80 : (1 + d_37, 12) ∈ RL := hm_54 12 (by omega)
      have hg_54 : ∀ w9, w9 < k0_54 → fe_54 w9 = some (ad (1 + d_37) (20 + 3 * w9)) ∧ fo_54 w9 = some (ad (1 + d_37) (38 + 3 * w9)) ∧ GI kA (ad (1 + d_37)) (E16 (1 + d_37)) (fun o => (1 + d_37, o) ∈ RL) (20 + 3 * w9) (21 + 3 * w9) (22 + 3 * w9) ∧ GI kA (ad (1 + d_37)) (E16 (1 + d_37)) (fun o => (1 + d_37, o) ∈ RL) (38 + 3 * w9) (39 + 3 * w9) (40 + 3 * w9) := hg_54
      refine px_get (D := D) (ci := 7) (v := .ref (ad (1 + d_37) 1)) (C := xR_Ds) (T := xT_Ds) (N := 12) hx hb hT xi_Ds hown hK.1 hP m_56 c_55 rfl 3 (by decide) (hT _ k6d_23) (fun _ h9 => h9) rfl xd_De_load_40 ?_
      refine lv_iload_n hx hb xd_De_load_43 rfl (lv_at hl 1 rfl) ?_
      have hFc := px_free hD hS hA
      refine va_calli (va_runV (As := [.int r13]) (rest := []) ⟨hx, hb, hml, hown, hT⟩ (xc_Na_holds l D kA H.size ad E16 RL (1 + d_37) 1 5 6 k0_54 f0_54 r13 m_58 c_57 m_66 c_65 (by first | assumption | omega) (by first | assumption | omega)) (cwV 1 hT (wT_V k6d_25 k6d_26 k6d_27 k6d_28 k6d_24) rfl rfl rfl (by decide +kernel) ⟨Nat.le_of_ble_eq_true rfl, Nat.le_of_ble_eq_true rfl⟩) (px_preV hK hP hD m_58 c_57 rfl) rfl rfl hl.1 rfl (lv_room (Nat.le_of_ble_eq_true rfl)) xd_De_load_44 ⟨(Nat.le_of_ble_eq_true rfl), (Nat.le_of_ble_eq_true rfl)⟩) hS (fun q _ h => hFc q h) hFc (fun r81 u82 t H1 locs ht hvm hp83 hB hz1 hk1 hS => ?_)
      obtain ⟨hP1, hD1⟩ := hB
      rw [ht] at hP1
      have hD1 := hD1.weaken (fun _ _ _ h => hFc _ h)
      generalize H1 = H at hP1 hS ⊢
      have hP := hP1
      have hD := hD1
      have hP : va_P D xcl (rp ad E16 RL) H := hP
      have hD : va_D A (rp ad E16 RL) := hD
      rcases hp83 with ⟨rfl, z84, z85, z86⟩ | ⟨rfl, z87⟩
      · refine W.eq (g2 := F0 m 47 ls [.int 1]) rfl ?_
        refine lv_if_eq (tgt := 55) hx hb xd_De_load_47 (by decide) (fun hc88 => absurd hc88 (by decide)) (fun _ => ?_)
        refine lv_aload hx hb xd_De_load_50 (lv_at hl 0 rfl) ?_
        refine lv_goto (tgt := 61) hx hb xd_De_load_52 (by decide) ?_
        refine lv_astore hx hb xd_De_load_61 hl (Nat.le_of_ble_eq_true rfl) rfl (fun ls hl => ?_)
        have hl : lv_has ls 6 [(5, .ref (ad (20 + z32) (10 + 10 * z33))), (4, .ref (ad (20 + z32) (10 + 10 * z33))), (3, .int r13), (0, .ref (ad 0 0)), (1, .int ix), (2, .int kx)] := hl
        refine lv_aload hx hb xd_De_load_63 (lv_at hl 0 rfl) ?_
        refine lv_ifnonnull (tgt := 78) hx hb xd_De_load_65 (by decide) ?_
        refine lv_aload hx hb xd_De_load_78 (lv_at hl 0 rfl) ?_
        have hFc := px_free hD hS hA
        refine va_calli (va_runV (As := []) (rest := []) ⟨hx, hb, hml, hown, hT⟩ (xc_Me_code l D kA H.size ad E16 RL nd ml z32 z33 (by first | assumption | omega) (by first | assumption | omega) (by first | assumption | omega) (by first | assumption | omega) (by first | assumption | omega)) (cwV 0 hT (wT_V k6d_30 k6d_31 k6d_32 k6d_33 k6d_29) rfl rfl rfl (by decide +kernel) ⟨Nat.le_of_ble_eq_true rfl, Nat.le_of_ble_eq_true rfl⟩) (px_preV hK hP hD m_39 c_38 rfl) rfl rfl hl.1 rfl (lv_room (Nat.le_of_ble_eq_true rfl)) xd_De_load_80 ⟨(Nat.le_of_ble_eq_true rfl), (Nat.le_of_ble_eq_true rfl)⟩) hS (fun q _ h => hFc q h) hFc (fun r89 u90 t H1 locs ht hvm hp91 hB hz1 hk1 hS => ?_)
        obtain ⟨hP1, hD1⟩ := hB
        rw [ht] at hP1
        have hD1 := hD1.weaken (fun _ _ _ h => hFc _ h)
        generalize H1 = H at hP1 hS ⊢
        have hP := hP1
        have hD := hD1
        have hP : va_P D xcl (rp ad E16 RL) H := hP
        have hD : va_D A (rp ad E16 RL) := hD
        refine W.widen (k := 1) (n := 6) (Nat.le_of_ble_eq_true rfl) (Nat.le_of_ble_eq_true rfl) ?_
        refine vx_ret ?_
        exact W.iret (v := r89) hx hb hr (fun t ht hW => ⟨⟨r89, E16, rfl, ⟨⟨wn17, hCI⟩, hF1⟩, by rw [ht]; exact hP, hD⟩, hS.F ht⟩) hS.2.2 xd_De_load_83
      · refine W.eq (g2 := F0 m 47 ls [.int 0]) rfl ?_
        refine lv_if_eq (tgt := 55) hx hb xd_De_load_47 (by decide) (fun _ => ?_) (fun hc92 => absurd (by decide) hc92)
        refine lv_aload hx hb xd_De_load_55 (lv_at hl 0 rfl) ?_
        refine lv_iload_n hx hb xd_De_load_57 rfl (lv_at hl 1 rfl) ?_
        have hFc := px_free hD hS hA
        refine va_callq (va_runV (As := [.int r13]) (rest := []) ⟨hx, hb, hml, hown, hT⟩ (xc_Me_sourceOf l D kA H.size ad E16 RL nd ml z32 z33 r13 (by first | assumption | omega) (by first | assumption | omega) (by first | assumption | omega) (by first | assumption | omega) (by first | assumption | omega)) (cwV 1 hT (wT_V k6d_35 k6d_36 k6d_37 k6d_33 k6d_34) rfl rfl rfl (by decide +kernel) ⟨Nat.le_of_ble_eq_true rfl, Nat.le_of_ble_eq_true rfl⟩) (px_preV hK hP hD m_39 c_38 rfl) rfl rfl hl.1 rfl (lv_room (Nat.le_of_ble_eq_true rfl)) xd_De_load_58 ⟨(Nat.le_of_ble_eq_true rfl), (Nat.le_of_ble_eq_true rfl)⟩) hS (fun q _ h => hFc q h) hFc (fun r93 u94 t H1 locs ht hvm hp95 hB hz1 hk1 hS => ?_)
        obtain ⟨hP1, hD1⟩ := hB
        rw [ht] at hP1
        have hD1 := hD1.weaken (fun _ _ _ h => hFc _ h)
        generalize H1 = H at hP1 hS ⊢
        have hP := hP1
        have hD := hD1
        have hP : va_P D xcl (rp ad E16 RL) H := hP
        have hD : va_D A (rp ad E16 RL) := hD
        rcases hp95 with rfl | ⟨z96, z97, z98, rfl, z99⟩
        · refine W.eq (g2 := F0 m 61 ls [.null]) rfl ?_
          refine lv_astoreN hx hb xd_De_load_61 hl (Nat.le_of_ble_eq_true rfl) rfl (fun ls hl => ?_)
          have hl : lv_has ls 6 [(5, .null), (4, .ref (ad (20 + z32) (10 + 10 * z33))), (3, .int r13), (0, .ref (ad 0 0)), (1, .int ix), (2, .int kx)] := hl
          refine lv_aloadN hx hb xd_De_load_63 (lv_at hl 0 rfl) ?_
          refine lv_ifnonnullN hx hb xd_De_load_65 ?_
          exact y_throwC (ik := 89) (is := 176) (wf := fun (u : Nat → Nat → va_E) => rp ad u RL) E16 (⟨⟨wn17, hCI⟩, hF1⟩) (Or.inr rfl) hx hb hlt hown hT hK k6d_38 k6d_39 hZ.2.2.2.1.2.2.2.2.2.2.2.2.2.2.2.2.2.2.2.2.2.2.1 hZ.1 hS hP hD (hl.1.trans hml.symm) xd_De_load_68 xd_De_load_71 xd_De_load_72 xd_De_load_74 xd_De_load_77 htab (Nat.le_of_ble_eq_true rfl) (Nat.le_of_ble_eq_true rfl) (Nat.le_of_ble_eq_true rfl) (Nat.le_of_ble_eq_true rfl) hlocks (Nat.le_of_ble_eq_true rfl) (Nat.le_of_ble_eq_true rfl)
        · refine W.eq (g2 := F0 m 61 ls [.ref (ad (20 + z96) (10 + 10 * z97))]) rfl ?_
          refine lv_astore hx hb xd_De_load_61 hl (Nat.le_of_ble_eq_true rfl) rfl (fun ls hl => ?_)
          have hl : lv_has ls 6 [(5, .ref (ad (20 + z96) (10 + 10 * z97))), (4, .ref (ad (20 + z32) (10 + 10 * z33))), (3, .int r13), (0, .ref (ad 0 0)), (1, .int ix), (2, .int kx)] := hl
          refine lv_aload hx hb xd_De_load_63 (lv_at hl 0 rfl) ?_
          refine lv_ifnonnull (tgt := 78) hx hb xd_De_load_65 (by decide) ?_
          refine lv_aload hx hb xd_De_load_78 (lv_at hl 0 rfl) ?_
          have hFc := px_free hD hS hA
          obtain ⟨hm_100, d_100, rs_100, fr_100, g2_100, g3_100, g4_100, hd_100, hrs_100, q0_100, q1_100, q2_100, q3_100, q4_100, q5_100, q6_100, q7_100⟩ := id z99
          have c_101 : E16 (20 + z96) (10 + 10 * z97) = .inr (6, [.ref (ad (20 + z96) 0), .ref (ad (1 + d_100) 0), .ref (ad (20 + z96) (11 + 10 * z97)), .ref (ad (20 + z96) (12 + 10 * z97)), .ref (ad (20 + z96) (13 + 10 * z97)), .ref (ad (20 + z96) (14 + 10 * z97))]) := q0_100
          have m_102 : (20 + z96, 10 + 10 * z97) ∈ RL := hm_100 0 (by omega)
          have c_103 : E16 (20 + z96) (11 + 10 * z97) = .inl (kA 6, rs_100, .inr (.inr (.inr (.inr fr_100)))) := q1_100
          have m_104 : (20 + z96, 11 + 10 * z97) ∈ RL := hm_100 1 (by omega)
          have c_105 : E16 (20 + z96) (12 + 10 * z97) = .inr (10, [.ref (ad (20 + z96) (15 + 10 * z97))]) := q2_100
          have m_106 : (20 + z96, 12 + 10 * z97) ∈ RL := hm_100 2 (by omega)
          have c_107 : E16 (20 + z96) (13 + 10 * z97) = .inr (10, [.ref (ad (20 + z96) (16 + 10 * z97))]) := q3_100
          have m_108 : (20 + z96, 13 + 10 * z97) ∈ RL := hm_100 3 (by omega)
          have c_109 : E16 (20 + z96) (14 + 10 * z97) = .inr (10, [.ref (ad (20 + z96) (17 + 10 * z97))]) := q4_100
          have m_110 : (20 + z96, 14 + 10 * z97) ∈ RL := hm_100 4 (by omega)
          have c_111 : E16 (20 + z96) (15 + 10 * z97) = .inl (kA 0, 6, .inl g2_100) := q5_100
          have m_112 : (20 + z96, 15 + 10 * z97) ∈ RL := hm_100 5 (by omega)
          have c_113 : E16 (20 + z96) (16 + 10 * z97) = .inl (kA 0, 6, .inl g3_100) := q6_100
          have m_114 : (20 + z96, 16 + 10 * z97) ∈ RL := hm_100 6 (by omega)
          have c_115 : E16 (20 + z96) (17 + 10 * z97) = .inl (kA 0, 6, .inl g4_100) := q7_100
          have m_116 : (20 + z96, 17 + 10 * z97) ∈ RL := hm_100 7 (by omega)
          refine va_calli (va_runV (As := []) (rest := []) ⟨hx, hb, hml, hown, hT⟩ (xc_Me_code l D kA H.size ad E16 RL nd ml z96 z97 (by first | assumption | omega) (by first | assumption | omega) (by first | assumption | omega) (by first | assumption | omega) (by first | assumption | omega)) (cwV 0 hT (wT_V k6d_30 k6d_31 k6d_32 k6d_33 k6d_29) rfl rfl rfl (by decide +kernel) ⟨Nat.le_of_ble_eq_true rfl, Nat.le_of_ble_eq_true rfl⟩) (px_preV hK hP hD m_102 c_101 rfl) rfl rfl hl.1 rfl (lv_room (Nat.le_of_ble_eq_true rfl)) xd_De_load_80 ⟨(Nat.le_of_ble_eq_true rfl), (Nat.le_of_ble_eq_true rfl)⟩) hS (fun q _ h => hFc q h) hFc (fun r117 u118 t H1 locs ht hvm hp119 hB hz1 hk1 hS => ?_)
          obtain ⟨hP1, hD1⟩ := hB
          rw [ht] at hP1
          have hD1 := hD1.weaken (fun _ _ _ h => hFc _ h)
          generalize H1 = H at hP1 hS ⊢
          have hP := hP1
          have hD := hD1
          have hP : va_P D xcl (rp ad E16 RL) H := hP
          have hD : va_D A (rp ad E16 RL) := hD
          refine W.widen (k := 1) (n := 6) (Nat.le_of_ble_eq_true rfl) (Nat.le_of_ble_eq_true rfl) ?_
          refine vx_ret ?_
          exact W.iret (v := r117) hx hb hr (fun t ht hW => ⟨⟨r117, E16, rfl, ⟨⟨wn17, hCI⟩, hF1⟩, by rw [ht]; exact hP, hD⟩, hS.F ht⟩) hS.2.2 xd_De_load_83
    · exact y_throwA (ik := 56) (is := 161) (wf := fun (u : Nat → Nat → va_E) => rp ad u RL) E16 (⟨⟨wn17, hCI⟩, hF1⟩) (Or.inl rfl) hx hb hlt hown hT hK k6d_20 k6d_21 hZ.2.2.2.1.2.2.2.2.2.2.2.2.2.2.2.2.2.2.2.2.2.1 hZ.1 hS hP hD (hl.1.trans hml.symm) xd_De_load_25 xd_De_load_28 xd_De_load_29 xd_De_load_31 xd_De_load_34 htab (Nat.le_of_ble_eq_true rfl) (Nat.le_of_ble_eq_true rfl) (Nat.le_of_ble_eq_true rfl) (Nat.le_of_ble_eq_true rfl) hlocks (Nat.le_of_ble_eq_true rfl) (Nat.le_of_ble_eq_true rfl)
set_option maxHeartbeats 4000000 in
set_option maxRecDepth 100000 in
theorem xc_De_peekK (l : Launch) (hlt : l.stackTraces = false) (D : va_G) (kA : Nat → ClassId) (sz : Nat) (ad : Nat → Nat → Nat) (E : Nat → Nat → va_E) (RL : List (Nat × Nat)) (Z : zT) (g : Nat → Nat → Int32) (ml : Nat) (nd : Nat) (len : Nat) (wn : Nat) (cs : Nat) (ix : Int32) (kx : Int32) (tx : Int32) (dx : Int32) (hCI : CI kA ad E RL ml nd len wn cs) (hTX : ∀ i, i < len → eA (E 0 2) i = g 0 i) : vx_Met l xy_De_peek (.code xy_De_peek xb_De_peek 8 (some .boolean) :: wT) { frames := 6, cells := 1, slots := 6, locals := 82 } (va_Pc [.ref (ad 0 0), .int ix, .int kx, .int tx, .int dx] (xPreZ D kA sz (rp ad E RL) Z)) (va_Qi (fun (r : Int32) (u : Nat → Nat → va_E) => (∃ wn2, CI kA ad u RL ml nd 0 wn2 cs) ∧ F134 E u) (fun (u : Nat → Nat → va_E) t => va_P D xcl (rp ad u RL) t.heap ∧ va_D (va_A (rp ad E RL) sz) (rp ad u RL)) (va_A (rp ad E RL) sz)) (vx_X (fun (u : Nat → Nat → va_E) => (∃ wn2, CI kA ad u RL ml nd 0 wn2 cs) ∧ F134 E u) (fun E9 u t => (E9 = "java/lang/IllegalArgumentException" ∨ E9 = "java/util/NoSuchElementException") ∧ va_P D xcl (rp ad u RL) t.heap ∧ va_D (va_A (rp ad E RL) sz) (rp ad u RL)) (va_A (rp ad E RL) sz)) 1 6 (va_A (rp ad E RL) sz) := by
  refine vx_ofW (cc := xb_De_peek) (maxL := 8) (ret := (some .boolean)) (by decide) rfl ?_
  intro p e s m args below meth c s₁ B hml htab hv
  obtain ⟨rfl, ⟨hsz, hP, hK, hD0⟩, hZ⟩ := hv
  have hx := B.exec
  have hb := B.bytes
  have hr := B.returns
  have hT := x_hT B.pre
  have hown : s.vm.findClass xR_De = some m.cls := findClass_of_methodNamed B.named
  have hlocks := B.notSynchronized
  subst hsz
  have hD := hD0.self (sz := s.heap.size)
  generalize hAe : va_A (rp ad E RL) s.heap.size = A at hD hZ ⊢
  have hA : ∀ q : Nat, s.heap.size ≤ q → A q := fun q h => by rw [← hAe]; exact Or.inr h
  have hS : va_S A s.heap s.heap [] := va_S.rf
  have hl := lv_entry ([.ref (ad 0 0), .int ix, .int kx, .int tx, .int dx]) (n := 8) (Nat.le_of_ble_eq_true rfl)
  rw [lg_entry_eq]
  generalize (lg_sl ([.ref (ad 0 0), .int ix, .int kx, .int tx, .int dx]) ++ List.replicate (8 - (lg_sl ([.ref (ad 0 0), .int ix, .int kx, .int tx, .int dx])).length) Slot.unset).toArray = ls at hl ⊢
  have hl : lv_has ls 8 [(0, .ref (ad 0 0)), (1, .int ix), (2, .int kx), (3, .int tx), (4, .int dx)] := hl
  have hP : va_P D xcl (rp ad E RL) s.heap := hP
  obtain ⟨hmB, hDk, hLi, hSh, hCh, hLa, hDIs, hLIs⟩ := id hCI
  obtain ⟨lf_1, q_1⟩ := id (hDk)
  have c_2 : E 0 0 = .inr (0, [.ref (ad 0 1), .ref (ad 0 5), .ref (ad 0 7), .ref (ad 0 9), .int (nI ml), .int lf_1]) := q_1
  have m_3 : (0, 0) ∈ RL := hmB 0 (by omega)
  refine lv_aload_n hx hb xd_De_peek_0 rfl (lv_at hl 0 rfl) ?_
  refine px_get (D := D) (ci := 0) (v := .ref (ad 0 1)) (C := xR_De) (T := xT_De) (N := 6) hx hb hT xi_De hown hK.1 hP m_3 c_2 rfl 0 (by decide) (hT _ k6d_10) (fun _ h9 => h9) rfl xd_De_peek_1 ?_
  have hFc := px_free hD hS hA
  obtain ⟨tx_4, fb_4, fe_4, hl1_4, hw2_4, q1_4, q2_4, q3_4, q4_4, hws_4⟩ := id (hLi)
  have c_5 : E 0 1 = .inr (1, [.ref (ad 0 2), .ref (ad 0 3), .ref (ad 0 4), .int (nI len), .int (nI wn)]) := q1_4
  have m_6 : (0, 1) ∈ RL := hmB 1 (by omega)
  have c_7 : E 0 2 = .inl (kA 1, 40, .inl tx_4) := q2_4
  have m_8 : (0, 2) ∈ RL := hmB 2 (by omega)
  have c_9 : E 0 3 = .inl (kA 0, 20, .inl fb_4) := q3_4
  have m_10 : (0, 3) ∈ RL := hmB 3 (by omega)
  have c_11 : E 0 4 = .inl (kA 0, 20, .inl fe_4) := q4_4
  have m_12 : (0, 4) ∈ RL := hmB 4 (by omega)
  refine va_calli (va_runV (As := []) (rest := []) ⟨hx, hb, hml, hown, hT⟩ (xc_Li_takeNameX l D kA s.heap.size ad E RL g ml nd len wn cs (by first | assumption | omega) (by first | assumption | omega)) (cwV 0 hT (wT_V k6d_12 k6d_13 k6d_14 k6d_4 k6d_11) rfl rfl rfl (by decide +kernel) ⟨Nat.le_of_ble_eq_true rfl, Nat.le_of_ble_eq_true rfl⟩) (px_preV hK hP hD m_6 c_5 rfl) rfl rfl hl.1 rfl (lv_room (Nat.le_of_ble_eq_true rfl)) xd_De_peek_4 ⟨(Nat.le_of_ble_eq_true rfl), (Nat.le_of_ble_eq_true rfl)⟩) hS (fun q _ h => hFc q h) hFc (fun r13 u14 t H1 locs ht hvm hp15 hB hz1 hk1 hS => ?_)
  obtain ⟨hP1, hD1⟩ := hB
  rw [ht] at hP1
  have hD1 := hD1.weaken (fun _ _ _ h => hFc _ h)
  generalize H1 = H at hP1 hS ⊢
  have hP := hP1
  have hD := hD1
  obtain ⟨E16, rfl⟩ : ∃ z, z = u14 := ⟨_, rfl⟩
  have hP : va_P D xcl (rp ad E16 RL) H := hP
  have hD : va_D A (rp ad E16 RL) := hD
  obtain ⟨⟨wn17, hCI⟩, hF1, hr9⟩ := hp15
  have hCI : CI kA ad E16 RL ml nd 0 wn17 cs := hCI
  obtain ⟨hmB, hDk, hLi, hSh, hCh, hLa, hDIs, hLIs⟩ := id hCI
  obtain ⟨lf_18, q_18⟩ := id (hDk)
  have c_19 : E16 0 0 = .inr (0, [.ref (ad 0 1), .ref (ad 0 5), .ref (ad 0 7), .ref (ad 0 9), .int (nI ml), .int lf_18]) := q_18
  have m_20 : (0, 0) ∈ RL := hmB 0 (by omega)
  obtain ⟨fd_21, hnd_21, q5_21, q6_21, hds_21⟩ := id (hSh)
  have c_22 : E16 0 5 = .inr (2, [.ref (ad 0 6), .int (nI nd)]) := q5_21
  have m_23 : (0, 5) ∈ RL := hmB 5 (by omega)
  have c_24 : E16 0 6 = .inl (kA 4, 12, .inr (.inr (.inr (.inr fd_21)))) := q6_21
  have m_25 : (0, 6) ∈ RL := hmB 6 (by omega)
  obtain ⟨fl_26, hml_26, q9_26, hla_26⟩ := id (hLa)
  have c_27 : E16 0 9 = .inl (kA 5, 5, .inr (.inr (.inr (.inr fl_26)))) := q9_26
  have m_28 : (0, 9) ∈ RL := hmB 9 (by omega)
  refine lv_istore hx hb xd_De_peek_7 hl (Nat.le_of_ble_eq_true rfl) rfl (fun ls hl => ?_)
  have hl : lv_has ls 8 [(5, .int r13), (0, .ref (ad 0 0)), (1, .int ix), (2, .int kx), (3, .int tx), (4, .int dx)] := hl
  refine lv_aload_n hx hb xd_De_peek_9 rfl (lv_at hl 1 rfl) ?_
  refine lv_iload_n hx hb xd_De_peek_10 rfl (lv_at hl 2 rfl) ?_
  refine lv_iload_n hx hb xd_De_peek_11 rfl (lv_at hl 3 rfl) ?_
  have hFc := px_free hD hS hA
  refine va_callq (va_runV (As := [.int ix, .int kx]) (rest := []) ⟨hx, hb, hml, hown, hT⟩ (xc_De_memberAt l D kA H.size ad E16 RL ml nd 0 wn17 cs ix kx (by first | assumption | omega)) (cwV 2 hT (wT_V k6d_16 k6d_17 k6d_18 k6d_19 k6d_15) rfl rfl rfl (by decide +kernel) ⟨Nat.le_of_ble_eq_true rfl, Nat.le_of_ble_eq_true rfl⟩) (px_preV hK hP hD m_20 c_19 rfl) rfl rfl hl.1 rfl (lv_room (Nat.le_of_ble_eq_true rfl)) xd_De_peek_12 ⟨(Nat.le_of_ble_eq_true rfl), (Nat.le_of_ble_eq_true rfl)⟩) hS (fun q _ h => hFc q h) hFc (fun r29 u30 t H1 locs ht hvm hp31 hB hz1 hk1 hS => ?_)
  obtain ⟨hP1, hD1⟩ := hB
  rw [ht] at hP1
  have hD1 := hD1.weaken (fun _ _ _ h => hFc _ h)
  generalize H1 = H at hP1 hS ⊢
  have hP := hP1
  have hD := hD1
  have hP : va_P D xcl (rp ad E16 RL) H := hP
  have hD : va_D A (rp ad E16 RL) := hD
  rcases hp31 with rfl | ⟨z32, z33, z34, rfl, z35⟩
  · refine W.eq (g2 := F0 m 15 ls [.null]) rfl ?_
    refine lv_astoreN hx hb xd_De_peek_15 hl (Nat.le_of_ble_eq_true rfl) rfl (fun ls hl => ?_)
    have hl : lv_has ls 8 [(6, .null), (5, .int r13), (0, .ref (ad 0 0)), (1, .int ix), (2, .int kx), (3, .int tx), (4, .int dx)] := hl
    refine lv_aload_n hx hb xd_De_peek_17 rfl (lv_at hl 2 rfl) ?_
    refine lv_iload_n hx hb xd_De_peek_18 rfl (lv_at hl 5 rfl) ?_
    refine lv_iload hx hb xd_De_peek_19 (lv_at hl 6 rfl) ?_
    have hFc := px_free hD hS hA
    refine va_callq (va_runV (As := [.int tx, .int dx]) (rest := []) ⟨hx, hb, hml, hown, hT⟩ (xc_De_memberOf l D kA H.size ad E16 RL ml nd 0 wn17 cs tx dx (by first | assumption | omega)) (cwV 2 hT (wT_V k6d_41 k6d_42 k6d_43 k6d_19 k6d_40) rfl rfl rfl (by decide +kernel) ⟨Nat.le_of_ble_eq_true rfl, Nat.le_of_ble_eq_true rfl⟩) (px_preV hK hP hD m_20 c_19 rfl) rfl rfl hl.1 rfl (lv_room (Nat.le_of_ble_eq_true rfl)) xd_De_peek_21 ⟨(Nat.le_of_ble_eq_true rfl), (Nat.le_of_ble_eq_true rfl)⟩) hS (fun q _ h => hFc q h) hFc (fun r36 u37 t H1 locs ht hvm hp38 hB hz1 hk1 hS => ?_)
    obtain ⟨hP1, hD1⟩ := hB
    rw [ht] at hP1
    have hD1 := hD1.weaken (fun _ _ _ h => hFc _ h)
    generalize H1 = H at hP1 hS ⊢
    have hP := hP1
    have hD := hD1
    have hP : va_P D xcl (rp ad E16 RL) H := hP
    have hD : va_D A (rp ad E16 RL) := hD
    rcases hp38 with rfl | ⟨z39, z40, z41, rfl, z42⟩
    · refine W.eq (g2 := F0 m 24 ls [.null]) rfl ?_
      refine lv_astoreN hx hb xd_De_peek_24 hl (Nat.le_of_ble_eq_true rfl) rfl (fun ls hl => ?_)
      have hl : lv_has ls 8 [(7, .null), (6, .null), (5, .int r13), (0, .ref (ad 0 0)), (1, .int ix), (2, .int kx), (3, .int tx), (4, .int dx)] := hl
      refine lv_aloadN hx hb xd_De_peek_26 (lv_at hl 1 rfl) ?_
      refine lv_ifnullN (tgt := 41) hx hb xd_De_peek_28 (by decide) ?_
      exact y_throwA (ik := 56) (is := 161) (wf := fun (u : Nat → Nat → va_E) => rp ad u RL) E16 (⟨⟨wn17, hCI⟩, hF1⟩) (Or.inl rfl) hx hb hlt hown hT hK k6d_20 k6d_21 hZ.2.2.2.1.2.2.2.2.2.2.2.2.2.2.2.2.2.2.2.2.2.1 hZ.1 hS hP hD (hl.1.trans hml.symm) xd_De_peek_41 xd_De_peek_44 xd_De_peek_45 xd_De_peek_47 xd_De_peek_50 htab (Nat.le_of_ble_eq_true rfl) (Nat.le_of_ble_eq_true rfl) (Nat.le_of_ble_eq_true rfl) (Nat.le_of_ble_eq_true rfl) hlocks (Nat.le_of_ble_eq_true rfl) (Nat.le_of_ble_eq_true rfl)
    · refine W.eq (g2 := F0 m 24 ls [.ref (ad (20 + z39) (10 + 10 * z40))]) rfl ?_
      refine lv_astore hx hb xd_De_peek_24 hl (Nat.le_of_ble_eq_true rfl) rfl (fun ls hl => ?_)
      have hl : lv_has ls 8 [(7, .ref (ad (20 + z39) (10 + 10 * z40))), (6, .null), (5, .int r13), (0, .ref (ad 0 0)), (1, .int ix), (2, .int kx), (3, .int tx), (4, .int dx)] := hl
      refine lv_aloadN hx hb xd_De_peek_26 (lv_at hl 1 rfl) ?_
      refine lv_ifnullN (tgt := 41) hx hb xd_De_peek_28 (by decide) ?_
      exact y_throwA (ik := 56) (is := 161) (wf := fun (u : Nat → Nat → va_E) => rp ad u RL) E16 (⟨⟨wn17, hCI⟩, hF1⟩) (Or.inl rfl) hx hb hlt hown hT hK k6d_20 k6d_21 hZ.2.2.2.1.2.2.2.2.2.2.2.2.2.2.2.2.2.2.2.2.2.1 hZ.1 hS hP hD (hl.1.trans hml.symm) xd_De_peek_41 xd_De_peek_44 xd_De_peek_45 xd_De_peek_47 xd_De_peek_50 htab (Nat.le_of_ble_eq_true rfl) (Nat.le_of_ble_eq_true rfl) (Nat.le_of_ble_eq_true rfl) (Nat.le_of_ble_eq_true rfl) hlocks (Nat.le_of_ble_eq_true rfl) (Nat.le_of_ble_eq_true rfl)
  · refine W.eq (g2 := F0 m 15 ls [.ref (ad (20 + z32) (10 + 10 * z33))]) rfl ?_
    refine lv_astore hx hb xd_De_peek_15 hl (Nat.le_of_ble_eq_true rfl) rfl (fun ls hl => ?_)
    have hl : lv_has ls 8 [(6, .ref (ad (20 + z32) (10 + 10 * z33))), (5, .int r13), (0, .ref (ad 0 0)), (1, .int ix), (2, .int kx), (3, .int tx), (4, .int dx)] := hl
    refine lv_aload_n hx hb xd_De_peek_17 rfl (lv_at hl 2 rfl) ?_
    refine lv_iload_n hx hb xd_De_peek_18 rfl (lv_at hl 5 rfl) ?_
    refine lv_iload hx hb xd_De_peek_19 (lv_at hl 6 rfl) ?_
    have hFc := px_free hD hS hA
    refine va_callq (va_runV (As := [.int tx, .int dx]) (rest := []) ⟨hx, hb, hml, hown, hT⟩ (xc_De_memberOf l D kA H.size ad E16 RL ml nd 0 wn17 cs tx dx (by first | assumption | omega)) (cwV 2 hT (wT_V k6d_41 k6d_42 k6d_43 k6d_19 k6d_40) rfl rfl rfl (by decide +kernel) ⟨Nat.le_of_ble_eq_true rfl, Nat.le_of_ble_eq_true rfl⟩) (px_preV hK hP hD m_20 c_19 rfl) rfl rfl hl.1 rfl (lv_room (Nat.le_of_ble_eq_true rfl)) xd_De_peek_21 ⟨(Nat.le_of_ble_eq_true rfl), (Nat.le_of_ble_eq_true rfl)⟩) hS (fun q _ h => hFc q h) hFc (fun r43 u44 t H1 locs ht hvm hp45 hB hz1 hk1 hS => ?_)
    obtain ⟨hP1, hD1⟩ := hB
    rw [ht] at hP1
    have hD1 := hD1.weaken (fun _ _ _ h => hFc _ h)
    generalize H1 = H at hP1 hS ⊢
    have hP := hP1
    have hD := hD1
    have hP : va_P D xcl (rp ad E16 RL) H := hP
    have hD : va_D A (rp ad E16 RL) := hD
    rcases hp45 with rfl | ⟨z46, z47, z48, rfl, z49⟩
    · refine W.eq (g2 := F0 m 24 ls [.null]) rfl ?_
      refine lv_astoreN hx hb xd_De_peek_24 hl (Nat.le_of_ble_eq_true rfl) rfl (fun ls hl => ?_)
      have hl : lv_has ls 8 [(7, .null), (6, .ref (ad (20 + z32) (10 + 10 * z33))), (5, .int r13), (0, .ref (ad 0 0)), (1, .int ix), (2, .int kx), (3, .int tx), (4, .int dx)] := hl
      refine lv_aload hx hb xd_De_peek_26 (lv_at hl 1 rfl) ?_
      refine lv_ifnull hx hb xd_De_peek_28 ?_
      refine lv_aloadN hx hb xd_De_peek_31 (lv_at hl 0 rfl) ?_
      refine lv_ifnullN (tgt := 41) hx hb xd_De_peek_33 (by decide) ?_
      exact y_throwA (ik := 56) (is := 161) (wf := fun (u : Nat → Nat → va_E) => rp ad u RL) E16 (⟨⟨wn17, hCI⟩, hF1⟩) (Or.inl rfl) hx hb hlt hown hT hK k6d_20 k6d_21 hZ.2.2.2.1.2.2.2.2.2.2.2.2.2.2.2.2.2.2.2.2.2.1 hZ.1 hS hP hD (hl.1.trans hml.symm) xd_De_peek_41 xd_De_peek_44 xd_De_peek_45 xd_De_peek_47 xd_De_peek_50 htab (Nat.le_of_ble_eq_true rfl) (Nat.le_of_ble_eq_true rfl) (Nat.le_of_ble_eq_true rfl) (Nat.le_of_ble_eq_true rfl) hlocks (Nat.le_of_ble_eq_true rfl) (Nat.le_of_ble_eq_true rfl)
    · refine W.eq (g2 := F0 m 24 ls [.ref (ad (20 + z46) (10 + 10 * z47))]) rfl ?_
      refine lv_astore hx hb xd_De_peek_24 hl (Nat.le_of_ble_eq_true rfl) rfl (fun ls hl => ?_)
      have hl : lv_has ls 8 [(7, .ref (ad (20 + z46) (10 + 10 * z47))), (6, .ref (ad (20 + z32) (10 + 10 * z33))), (5, .int r13), (0, .ref (ad 0 0)), (1, .int ix), (2, .int kx), (3, .int tx), (4, .int dx)] := hl
      refine lv_aload hx hb xd_De_peek_26 (lv_at hl 1 rfl) ?_
      refine lv_ifnull hx hb xd_De_peek_28 ?_
      refine lv_aload hx hb xd_De_peek_31 (lv_at hl 0 rfl) ?_
      refine lv_ifnull hx hb xd_De_peek_33 ?_
      refine lv_iload hx hb xd_De_peek_36 (lv_at hl 2 rfl) ?_
      refine lv_if_ne (tgt := 51) hx hb xd_De_peek_38 (by decide) (fun hc50 => ?_) (fun hc50 => ?_)
      · refine lv_aload hx hb xd_De_peek_51 (lv_at hl 0 rfl) ?_
        obtain ⟨hm_51, d_51, rs_51, fr_51, g2_51, g3_51, g4_51, hd_51, hrs_51, q0_51, q1_51, q2_51, q3_51, q4_51, q5_51, q6_51, q7_51⟩ := id z49
        have c_52 : E16 (20 + z46) (10 + 10 * z47) = .inr (6, [.ref (ad (20 + z46) 0), .ref (ad (1 + d_51) 0), .ref (ad (20 + z46) (11 + 10 * z47)), .ref (ad (20 + z46) (12 + 10 * z47)), .ref (ad (20 + z46) (13 + 10 * z47)), .ref (ad (20 + z46) (14 + 10 * z47))]) := q0_51
        have m_53 : (20 + z46, 10 + 10 * z47) ∈ RL := hm_51 0 (by omega)
        have c_54 : E16 (20 + z46) (11 + 10 * z47) = .inl (kA 6, rs_51, .inr (.inr (.inr (.inr fr_51)))) := q1_51
        have m_55 : (20 + z46, 11 + 10 * z47) ∈ RL := hm_51 1 (by omega)
        have c_56 : E16 (20 + z46) (12 + 10 * z47) = .inr (10, [.ref (ad (20 + z46) (15 + 10 * z47))]) := q2_51
        have m_57 : (20 + z46, 12 + 10 * z47) ∈ RL := hm_51 2 (by omega)
        have c_58 : E16 (20 + z46) (13 + 10 * z47) = .inr (10, [.ref (ad (20 + z46) (16 + 10 * z47))]) := q3_51
        have m_59 : (20 + z46, 13 + 10 * z47) ∈ RL := hm_51 3 (by omega)
        have c_60 : E16 (20 + z46) (14 + 10 * z47) = .inr (10, [.ref (ad (20 + z46) (17 + 10 * z47))]) := q4_51
        have m_61 : (20 + z46, 14 + 10 * z47) ∈ RL := hm_51 4 (by omega)
        have c_62 : E16 (20 + z46) (15 + 10 * z47) = .inl (kA 0, 6, .inl g2_51) := q5_51
        have m_63 : (20 + z46, 15 + 10 * z47) ∈ RL := hm_51 5 (by omega)
        have c_64 : E16 (20 + z46) (16 + 10 * z47) = .inl (kA 0, 6, .inl g3_51) := q6_51
        have m_65 : (20 + z46, 16 + 10 * z47) ∈ RL := hm_51 6 (by omega)
        have c_66 : E16 (20 + z46) (17 + 10 * z47) = .inl (kA 0, 6, .inl g4_51) := q7_51
        have m_67 : (20 + z46, 17 + 10 * z47) ∈ RL := hm_51 7 (by omega)
        refine px_get (D := D) (ci := 6) (v := .ref (ad (1 + d_51) 0)) (C := xR_Me) (T := xT_Me) (N := 6) hx hb hT xi_Me hown hK.1 hP m_53 c_52 rfl 1 (by decide) (hT _ k6d_22) (fun _ h9 => h9) rfl xd_De_peek_53 ?_
        obtain ⟨hm_68, fd_68, nm_68, sd_68, k0_68, k1_68, k2_68, k3_68, f0_68, f1_68, f2_68, f3_68, fe_68, fo_68, tr_68, op_68, hk0_68, hk1_68, hk2_68, hk3_68, q0_68, q1_68, q2_68, q3_68, q4_68, q5_68, q6_68, q7_68, q8_68, q9_68, q10_68, q11_68, q12_68, hg_68⟩ := id (hDIs d_51 (by omega))
        have c_69 : E16 (1 + d_51) 0 = .inr (7, [.int (nI d_51), .int fd_68, .int nm_68, .ref (ad (1 + d_51) 1), .ref (ad (1 + d_51) 9), .ref (ad (1 + d_51) 10), .ref (ad (1 + d_51) 2), .ref (ad (1 + d_51) 11), .ref (ad (1 + d_51) 12), .ref (ad (1 + d_51) 3), .ref (ad (1 + d_51) 4), .int sd_68]) := q0_68
        have m_70 : (1 + d_51, 0) ∈ RL := hm_68 0 (by omega)
        have c_71 : E16 (1 + d_51) 1 = .inr (8, [.ref (ad (1 + d_51) 5), .int (nI k0_68)]) := q1_68
        have m_72 : (1 + d_51, 1) ∈ RL := hm_68 1 (by omega)
        have c_73 : E16 (1 + d_51) 2 = .inr (8, [.ref (ad (1 + d_51) 6), .int (nI k1_68)]) := q2_68
        have m_74 : (1 + d_51, 2) ∈ RL := hm_68 2 (by omega)
        have c_75 : E16 (1 + d_51) 3 = .inr (8, [.ref (ad (1 + d_51) 7), .int (nI k2_68)]) := q3_68
        have m_76 : (1 + d_51, 3) ∈ RL := hm_68 3 (by omega)
        have c_77 : E16 (1 + d_51) 4 = .inr (8, [.ref (ad (1 + d_51) 8), .int (nI k3_68)]) := q4_68
        have m_78 : (1 + d_51, 4) ∈ RL := hm_68 4 (by omega)
        have c_79 : E16 (1 + d_51) 5 = .inl (kA 0, 6, .inl f0_68) := q5_68
        have m_80 : (1 + d_51, 5) ∈ RL := hm_68 5 (by omega)
        have c_81 : E16 (1 + d_51) 6 = .inl (kA 0, 5, .inl f1_68) := q6_68
        have m_82 : (1 + d_51, 6) ∈ RL := hm_68 6 (by omega)
        have c_83 : E16 (1 + d_51) 7 = .inl (kA 0, 3, .inl f2_68) := q7_68
        have m_84 : (1 + d_51, 7) ∈ RL := hm_68 7 (by omega)
        have c_85 : E16 (1 + d_51) 8 = .inl (kA 0, 3, .inl f3_68) := q8_68
        have m_86 : (1 + d_51, 8) ∈ RL := hm_68 8 (by omega)
        have c_87 : E16 (1 + d_51) 9 = .inl (kA 8, 6, .inr (.inr (.inr (.inr fe_68)))) := q9_68
        have m_88 : (1 + d_51, 9) ∈ RL := hm_68 9 (by omega)
        have c_89 : E16 (1 + d_51) 10 = .inl (kA 8, 6, .inr (.inr (.inr (.inr fo_68)))) := q10_68
        have m_90 : (1 + d_51, 10) ∈ RL := hm_68 10 (by omega)
        have c_91 : E16 (1 + d_51) 11 = .inl (kA 2, 5, .inl tr_68) := q11_68
        have m_92 : (1 + d_51, 11) ∈ RL := hm_68 11 (by omega)
        have c_93 : E16 (1 + d_51) 12 = .inl (kA 2, 5, .inl op_68) := q12_68
        have m_94 : (1 + d_51, 12) ∈ RL := hm_68 12 (by omega)
        have hg_68 : ∀ w9, w9 < k0_68 → fe_68 w9 = some (ad (1 + d_51) (20 + 3 * w9)) ∧ fo_68 w9 = some (ad (1 + d_51) (38 + 3 * w9)) ∧ GI kA (ad (1 + d_51)) (E16 (1 + d_51)) (fun o => (1 + d_51, o) ∈ RL) (20 + 3 * w9) (21 + 3 * w9) (22 + 3 * w9) ∧ GI kA (ad (1 + d_51)) (E16 (1 + d_51)) (fun o => (1 + d_51, o) ∈ RL) (38 + 3 * w9) (39 + 3 * w9) (40 + 3 * w9) := hg_68
        refine px_get (D := D) (ci := 7) (v := .ref (ad (1 + d_51) 1)) (C := xR_Ds) (T := xT_Ds) (N := 12) hx hb hT xi_Ds hown hK.1 hP m_70 c_69 rfl 3 (by decide) (hT _ k6d_23) (fun _ h9 => h9) rfl xd_De_peek_56 ?_
        refine lv_iload hx hb xd_De_peek_59 (lv_at hl 2 rfl) ?_
        have hFc := px_free hD hS hA
        refine va_calli (va_runV (As := [.int r13]) (rest := []) ⟨hx, hb, hml, hown, hT⟩ (xc_Na_holds l D kA H.size ad E16 RL (1 + d_51) 1 5 6 k0_68 f0_68 r13 m_72 c_71 m_80 c_79 (by first | assumption | omega) (by first | assumption | omega)) (cwV 1 hT (wT_V k6d_25 k6d_26 k6d_27 k6d_28 k6d_24) rfl rfl rfl (by decide +kernel) ⟨Nat.le_of_ble_eq_true rfl, Nat.le_of_ble_eq_true rfl⟩) (px_preV hK hP hD m_72 c_71 rfl) rfl rfl hl.1 rfl (lv_room (Nat.le_of_ble_eq_true rfl)) xd_De_peek_61 ⟨(Nat.le_of_ble_eq_true rfl), (Nat.le_of_ble_eq_true rfl)⟩) hS (fun q _ h => hFc q h) hFc (fun r95 u96 t H1 locs ht hvm hp97 hB hz1 hk1 hS => ?_)
        obtain ⟨hP1, hD1⟩ := hB
        rw [ht] at hP1
        have hD1 := hD1.weaken (fun _ _ _ h => hFc _ h)
        generalize H1 = H at hP1 hS ⊢
        have hP := hP1
        have hD := hD1
        have hP : va_P D xcl (rp ad E16 RL) H := hP
        have hD : va_D A (rp ad E16 RL) := hD
        rcases hp97 with ⟨rfl, z98, z99, z100⟩ | ⟨rfl, z101⟩
        · refine W.eq (g2 := F0 m 64 ls [.int 1]) rfl ?_
          refine lv_if_ne (tgt := 77) hx hb xd_De_peek_64 (by decide) (fun _ => ?_) (fun hc102 => absurd hc102 (by decide))
          refine lv_aload hx hb xd_De_peek_77 (lv_at hl 1 rfl) ?_
          refine lv_aload hx hb xd_De_peek_79 (lv_at hl 0 rfl) ?_
          refine lv_acmp_eq (rx := (some (ad (20 + z32) (10 + 10 * z33)))) (ry := (some (ad (20 + z46) (10 + 10 * z47)))) (tgt := 118) hx hb xd_De_peek_81 (by decide) (fun hc103 => ?_) (fun hc103 => ?_)
          · refine lv_iconst (v := 1) hx hb xd_De_peek_118 (by decide) ?_
            refine lv_goto (tgt := 123) hx hb xd_De_peek_119 (by decide) ?_
            refine W.widen (k := 1) (n := 6) (Nat.le_of_ble_eq_true rfl) (Nat.le_of_ble_eq_true rfl) ?_
            refine vx_ret ?_
            exact W.zret (v := 1) hx hb hr rfl (fun t ht hW => ⟨⟨1, E16, rfl, ⟨⟨wn17, hCI⟩, hF1⟩, by rw [ht]; exact hP, hD⟩, hS.F ht⟩) hS.2.2 xd_De_peek_123
          · refine lv_aload hx hb xd_De_peek_84 (lv_at hl 1 rfl) ?_
            obtain ⟨hm_104, d_104, rs_104, fr_104, g2_104, g3_104, g4_104, hd_104, hrs_104, q0_104, q1_104, q2_104, q3_104, q4_104, q5_104, q6_104, q7_104⟩ := id z35
            have c_105 : E16 (20 + z32) (10 + 10 * z33) = .inr (6, [.ref (ad (20 + z32) 0), .ref (ad (1 + d_104) 0), .ref (ad (20 + z32) (11 + 10 * z33)), .ref (ad (20 + z32) (12 + 10 * z33)), .ref (ad (20 + z32) (13 + 10 * z33)), .ref (ad (20 + z32) (14 + 10 * z33))]) := q0_104
            have m_106 : (20 + z32, 10 + 10 * z33) ∈ RL := hm_104 0 (by omega)
            have c_107 : E16 (20 + z32) (11 + 10 * z33) = .inl (kA 6, rs_104, .inr (.inr (.inr (.inr fr_104)))) := q1_104
            have m_108 : (20 + z32, 11 + 10 * z33) ∈ RL := hm_104 1 (by omega)
            have c_109 : E16 (20 + z32) (12 + 10 * z33) = .inr (10, [.ref (ad (20 + z32) (15 + 10 * z33))]) := q2_104
            have m_110 : (20 + z32, 12 + 10 * z33) ∈ RL := hm_104 2 (by omega)
            have c_111 : E16 (20 + z32) (13 + 10 * z33) = .inr (10, [.ref (ad (20 + z32) (16 + 10 * z33))]) := q3_104
            have m_112 : (20 + z32, 13 + 10 * z33) ∈ RL := hm_104 3 (by omega)
            have c_113 : E16 (20 + z32) (14 + 10 * z33) = .inr (10, [.ref (ad (20 + z32) (17 + 10 * z33))]) := q4_104
            have m_114 : (20 + z32, 14 + 10 * z33) ∈ RL := hm_104 4 (by omega)
            have c_115 : E16 (20 + z32) (15 + 10 * z33) = .inl (kA 0, 6, .inl g2_104) := q5_104
            have m_116 : (20 + z32, 15 + 10 * z33) ∈ RL := hm_104 5 (by omega)
            have c_117 : E16 (20 + z32) (16 + 10 * z33) = .inl (kA 0, 6, .inl g3_104) := q6_104
            have m_118 : (20 + z32, 16 + 10 * z33) ∈ RL := hm_104 6 (by omega)
            have c_119 : E16 (20 + z32) (17 + 10 * z33) = .inl (kA 0, 6, .inl g4_104) := q7_104
            have m_120 : (20 + z32, 17 + 10 * z33) ∈ RL := hm_104 7 (by omega)
            refine px_get (D := D) (ci := 6) (v := .ref (ad (20 + z32) (14 + 10 * z33))) (C := xR_Me) (T := xT_Me) (N := 6) hx hb hT xi_Me hown hK.1 hP m_106 c_105 rfl 5 (by decide) (hT _ k6d_44) (fun _ h9 => h9) rfl xd_De_peek_86 ?_
            refine lv_aload hx hb xd_De_peek_89 (lv_at hl 0 rfl) ?_
            obtain ⟨m0_121, m1_121, pv_121, op_121, mk_121, fm_121, hmk_121, hpv_121, q0_121, q1_121, hk_121⟩ := id (hLIs z46 (by omega))
            have c_122 : E16 (20 + z46) 0 = .inr (5, [.int (nI z46), pv_121, .ref (ad (20 + z46) 1), .int op_121]) := q0_121
            have m_123 : (20 + z46, 0) ∈ RL := m0_121
            have c_124 : E16 (20 + z46) 1 = .inl (kA 6, mk_121, .inr (.inr (.inr (.inr fm_121)))) := q1_121
            have m_125 : (20 + z46, 1) ∈ RL := m1_121
            have hFc := px_free hD hS hA
            refine va_calli (va_runV (As := [.ref (ad (20 + z46) (10 + 10 * z47))]) (rest := []) ⟨hx, hb, hml, hown, hT⟩ (xc_Re_marks l D kA H.size ad E16 RL (20 + z32) (14 + 10 * z33) (17 + 10 * z33) g4_104 z46 z47 d_51 pv_121 op_121 fd_68 nm_68 sd_68 m_114 c_113 m_120 c_119 m_53 c_52 m_123 c_122 m_70 c_69 (by first | assumption | omega)) (cwV 1 hT (wT_V k6d_46 k6d_47 k6d_48 k6d_49 k6d_45) rfl rfl rfl (by decide +kernel) ⟨Nat.le_of_ble_eq_true rfl, Nat.le_of_ble_eq_true rfl⟩) (px_preV hK hP hD m_114 c_113 rfl) rfl rfl hl.1 rfl (lv_room (Nat.le_of_ble_eq_true rfl)) xd_De_peek_91 ⟨(Nat.le_of_ble_eq_true rfl), (Nat.le_of_ble_eq_true rfl)⟩) hS (fun q _ h => hFc q h) hFc (fun r126 u127 t H1 locs ht hvm hp128 hB hz1 hk1 hS => ?_)
            obtain ⟨hP1, hD1⟩ := hB
            rw [ht] at hP1
            have hD1 := hD1.weaken (fun _ _ _ h => hFc _ h)
            generalize H1 = H at hP1 hS ⊢
            have hP := hP1
            have hD := hD1
            have hP : va_P D xcl (rp ad E16 RL) H := hP
            have hD : va_D A (rp ad E16 RL) := hD
            rcases hp128 with ⟨rfl, z129⟩ | ⟨rfl, z130⟩
            · refine W.eq (g2 := F0 m 94 ls [.int 1]) rfl ?_
              refine lv_if_eq (tgt := 122) hx hb xd_De_peek_94 (by decide) (fun hc131 => absurd hc131 (by decide)) (fun _ => ?_)
              refine lv_aload hx hb xd_De_peek_97 (lv_at hl 0 rfl) ?_
              refine px_get (D := D) (ci := 6) (v := .ref (ad (1 + d_51) 0)) (C := xR_Me) (T := xT_Me) (N := 6) hx hb hT xi_Me hown hK.1 hP m_53 c_52 rfl 1 (by decide) (hT _ k6d_22) (fun _ h9 => h9) rfl xd_De_peek_99 ?_
              refine lv_iload hx hb xd_De_peek_102 (lv_at hl 2 rfl) ?_
              refine lv_aload hx hb xd_De_peek_104 (lv_at hl 1 rfl) ?_
              refine px_get (D := D) (ci := 6) (v := .ref (ad (1 + d_104) 0)) (C := xR_Me) (T := xT_Me) (N := 6) hx hb hT xi_Me hown hK.1 hP m_106 c_105 rfl 1 (by decide) (hT _ k6d_22) (fun _ h9 => h9) rfl xd_De_peek_106 ?_
              obtain ⟨hm_132, fd_132, nm_132, sd_132, k0_132, k1_132, k2_132, k3_132, f0_132, f1_132, f2_132, f3_132, fe_132, fo_132, tr_132, op_132, hk0_132, hk1_132, hk2_132, hk3_132, q0_132, q1_132, q2_132, q3_132, q4_132, q5_132, q6_132, q7_132, q8_132, q9_132, q10_132, q11_132, q12_132, hg_132⟩ := id (hDIs d_104 (by omega))
              have c_133 : E16 (1 + d_104) 0 = .inr (7, [.int (nI d_104), .int fd_132, .int nm_132, .ref (ad (1 + d_104) 1), .ref (ad (1 + d_104) 9), .ref (ad (1 + d_104) 10), .ref (ad (1 + d_104) 2), .ref (ad (1 + d_104) 11), .ref (ad (1 + d_104) 12), .ref (ad (1 + d_104) 3), .ref (ad (1 + d_104) 4), .int sd_132]) := q0_132
              have m_134 : (1 + d_104, 0) ∈ RL := hm_132 0 (by omega)
              have c_135 : E16 (1 + d_104) 1 = .inr (8, [.ref (ad (1 + d_104) 5), .int (nI k0_132)]) := q1_132
              have m_136 : (1 + d_104, 1) ∈ RL := hm_132 1 (by omega)
              have c_137 : E16 (1 + d_104) 2 = .inr (8, [.ref (ad (1 + d_104) 6), .int (nI k1_132)]) := q2_132
              have m_138 : (1 + d_104, 2) ∈ RL := hm_132 2 (by omega)
              have c_139 : E16 (1 + d_104) 3 = .inr (8, [.ref (ad (1 + d_104) 7), .int (nI k2_132)]) := q3_132
              have m_140 : (1 + d_104, 3) ∈ RL := hm_132 3 (by omega)
              have c_141 : E16 (1 + d_104) 4 = .inr (8, [.ref (ad (1 + d_104) 8), .int (nI k3_132)]) := q4_132
              have m_142 : (1 + d_104, 4) ∈ RL := hm_132 4 (by omega)
              have c_143 : E16 (1 + d_104) 5 = .inl (kA 0, 6, .inl f0_132) := q5_132
              have m_144 : (1 + d_104, 5) ∈ RL := hm_132 5 (by omega)
              have c_145 : E16 (1 + d_104) 6 = .inl (kA 0, 5, .inl f1_132) := q6_132
              have m_146 : (1 + d_104, 6) ∈ RL := hm_132 6 (by omega)
              have c_147 : E16 (1 + d_104) 7 = .inl (kA 0, 3, .inl f2_132) := q7_132
              have m_148 : (1 + d_104, 7) ∈ RL := hm_132 7 (by omega)
              have c_149 : E16 (1 + d_104) 8 = .inl (kA 0, 3, .inl f3_132) := q8_132
              have m_150 : (1 + d_104, 8) ∈ RL := hm_132 8 (by omega)
              have c_151 : E16 (1 + d_104) 9 = .inl (kA 8, 6, .inr (.inr (.inr (.inr fe_132)))) := q9_132
              have m_152 : (1 + d_104, 9) ∈ RL := hm_132 9 (by omega)
              have c_153 : E16 (1 + d_104) 10 = .inl (kA 8, 6, .inr (.inr (.inr (.inr fo_132)))) := q10_132
              have m_154 : (1 + d_104, 10) ∈ RL := hm_132 10 (by omega)
              have c_155 : E16 (1 + d_104) 11 = .inl (kA 2, 5, .inl tr_132) := q11_132
              have m_156 : (1 + d_104, 11) ∈ RL := hm_132 11 (by omega)
              have c_157 : E16 (1 + d_104) 12 = .inl (kA 2, 5, .inl op_132) := q12_132
              have m_158 : (1 + d_104, 12) ∈ RL := hm_132 12 (by omega)
              have hg_132 : ∀ w9, w9 < k0_132 → fe_132 w9 = some (ad (1 + d_104) (20 + 3 * w9)) ∧ fo_132 w9 = some (ad (1 + d_104) (38 + 3 * w9)) ∧ GI kA (ad (1 + d_104)) (E16 (1 + d_104)) (fun o => (1 + d_104, o) ∈ RL) (20 + 3 * w9) (21 + 3 * w9) (22 + 3 * w9) ∧ GI kA (ad (1 + d_104)) (E16 (1 + d_104)) (fun o => (1 + d_104, o) ∈ RL) (38 + 3 * w9) (39 + 3 * w9) (40 + 3 * w9) := hg_132
              refine px_get (D := D) (ci := 7) (v := .int nm_132) (C := xR_Ds) (T := xT_Ds) (N := 12) hx hb hT xi_Ds hown hK.1 hP m_134 c_133 rfl 2 (by decide) (hT _ k6d_50) (fun _ h9 => h9) rfl xd_De_peek_109 ?_
              have hFc := px_free hD hS hA
              refine va_calli (va_runV (As := [.int r13, .int nm_132]) (rest := []) ⟨hx, hb, hml, hown, hT⟩ (xc_Ds_opensTo l D kA H.size ad E16 RL nd d_51 r13 nm_132 (by first | assumption | omega) (by first | assumption | omega)) (cwV 2 hT (wT_V k6d_52 k6d_53 k6d_54 k6d_55 k6d_51) rfl rfl rfl (by decide +kernel) ⟨Nat.le_of_ble_eq_true rfl, Nat.le_of_ble_eq_true rfl⟩) (px_preV hK hP hD m_70 c_69 rfl) rfl rfl hl.1 rfl (lv_room (Nat.le_of_ble_eq_true rfl)) xd_De_peek_112 ⟨(Nat.le_of_ble_eq_true rfl), (Nat.le_of_ble_eq_true rfl)⟩) hS (fun q _ h => hFc q h) hFc (fun r159 u160 t H1 locs ht hvm hp161 hB hz1 hk1 hS => ?_)
              obtain ⟨hP1, hD1⟩ := hB
              rw [ht] at hP1
              have hD1 := hD1.weaken (fun _ _ _ h => hFc _ h)
              generalize H1 = H at hP1 hS ⊢
              have hP := hP1
              have hD := hD1
              have hP : va_P D xcl (rp ad E16 RL) H := hP
              have hD : va_D A (rp ad E16 RL) := hD
              rcases hp161 with rfl | rfl
              · refine W.eq (g2 := F0 m 115 ls [.int 0]) rfl ?_
                refine lv_if_eq (tgt := 122) hx hb xd_De_peek_115 (by decide) (fun _ => ?_) (fun hc162 => absurd (by decide) hc162)
                refine lv_iconst (v := 0) hx hb xd_De_peek_122 (by decide) ?_
                refine W.widen (k := 1) (n := 6) (Nat.le_of_ble_eq_true rfl) (Nat.le_of_ble_eq_true rfl) ?_
                refine vx_ret ?_
                exact W.zret (v := 0) hx hb hr rfl (fun t ht hW => ⟨⟨0, E16, rfl, ⟨⟨wn17, hCI⟩, hF1⟩, by rw [ht]; exact hP, hD⟩, hS.F ht⟩) hS.2.2 xd_De_peek_123
              · refine W.eq (g2 := F0 m 115 ls [.int 1]) rfl ?_
                refine lv_if_eq (tgt := 122) hx hb xd_De_peek_115 (by decide) (fun hc163 => absurd hc163 (by decide)) (fun _ => ?_)
                refine lv_iconst (v := 1) hx hb xd_De_peek_118 (by decide) ?_
                refine lv_goto (tgt := 123) hx hb xd_De_peek_119 (by decide) ?_
                refine W.widen (k := 1) (n := 6) (Nat.le_of_ble_eq_true rfl) (Nat.le_of_ble_eq_true rfl) ?_
                refine vx_ret ?_
                exact W.zret (v := 1) hx hb hr rfl (fun t ht hW => ⟨⟨1, E16, rfl, ⟨⟨wn17, hCI⟩, hF1⟩, by rw [ht]; exact hP, hD⟩, hS.F ht⟩) hS.2.2 xd_De_peek_123
            · refine W.eq (g2 := F0 m 94 ls [.int 0]) rfl ?_
              refine lv_if_eq (tgt := 122) hx hb xd_De_peek_94 (by decide) (fun _ => ?_) (fun hc164 => absurd (by decide) hc164)
              refine lv_iconst (v := 0) hx hb xd_De_peek_122 (by decide) ?_
              refine W.widen (k := 1) (n := 6) (Nat.le_of_ble_eq_true rfl) (Nat.le_of_ble_eq_true rfl) ?_
              refine vx_ret ?_
              exact W.zret (v := 0) hx hb hr rfl (fun t ht hW => ⟨⟨0, E16, rfl, ⟨⟨wn17, hCI⟩, hF1⟩, by rw [ht]; exact hP, hD⟩, hS.F ht⟩) hS.2.2 xd_De_peek_123
        · refine W.eq (g2 := F0 m 64 ls [.int 0]) rfl ?_
          refine lv_if_ne (tgt := 77) hx hb xd_De_peek_64 (by decide) (fun hc165 => absurd (by decide) hc165) (fun _ => ?_)
          exact y_throwC (ik := 89) (is := 181) (wf := fun (u : Nat → Nat → va_E) => rp ad u RL) E16 (⟨⟨wn17, hCI⟩, hF1⟩) (Or.inr rfl) hx hb hlt hown hT hK k6d_38 k6d_39 hZ.2.2.2.1.2.2.2.2.2.2.2.2.2.2.2.2.2.2.2.2.2.2.2.1 hZ.1 hS hP hD (hl.1.trans hml.symm) xd_De_peek_67 xd_De_peek_70 xd_De_peek_71 xd_De_peek_73 xd_De_peek_76 htab (Nat.le_of_ble_eq_true rfl) (Nat.le_of_ble_eq_true rfl) (Nat.le_of_ble_eq_true rfl) (Nat.le_of_ble_eq_true rfl) hlocks (Nat.le_of_ble_eq_true rfl) (Nat.le_of_ble_eq_true rfl)
      · exact y_throwA (ik := 56) (is := 161) (wf := fun (u : Nat → Nat → va_E) => rp ad u RL) E16 (⟨⟨wn17, hCI⟩, hF1⟩) (Or.inl rfl) hx hb hlt hown hT hK k6d_20 k6d_21 hZ.2.2.2.1.2.2.2.2.2.2.2.2.2.2.2.2.2.2.2.2.2.1 hZ.1 hS hP hD (hl.1.trans hml.symm) xd_De_peek_41 xd_De_peek_44 xd_De_peek_45 xd_De_peek_47 xd_De_peek_50 htab (Nat.le_of_ble_eq_true rfl) (Nat.le_of_ble_eq_true rfl) (Nat.le_of_ble_eq_true rfl) (Nat.le_of_ble_eq_true rfl) hlocks (Nat.le_of_ble_eq_true rfl) (Nat.le_of_ble_eq_true rfl)
set_option maxHeartbeats 4000000 in
set_option maxRecDepth 100000 in
theorem xc_De_providerK (l : Launch) (hlt : l.stackTraces = false) (D : va_G) (kA : Nat → ClassId) (sz : Nat) (ad : Nat → Nat → Nat) (E : Nat → Nat → va_E) (RL : List (Nat × Nat)) (Z : zT) (g : Nat → Nat → Int32) (ml : Nat) (nd : Nat) (len : Nat) (wn : Nat) (cs : Nat) (ix : Int32) (kx : Int32) (hCI : CI kA ad E RL ml nd len wn cs) (hTX : ∀ i, i < len → eA (E 0 2) i = g 0 i) : vx_Met l xy_De_provider (.code xy_De_provider xb_De_provider 6 (some .int) :: wT) { frames := 6, cells := 1, slots := 6, locals := 82 } (va_Pc [.ref (ad 0 0), .int ix, .int kx] (xPreZ D kA sz (rp ad E RL) Z)) (va_Qi (fun (r : Int32) (u : Nat → Nat → va_E) => (∃ wn2, CI kA ad u RL ml nd 0 wn2 cs) ∧ F134 E u) (fun (u : Nat → Nat → va_E) t => va_P D xcl (rp ad u RL) t.heap ∧ va_D (va_A (rp ad E RL) sz) (rp ad u RL)) (va_A (rp ad E RL) sz)) (vx_X (fun (u : Nat → Nat → va_E) => (∃ wn2, CI kA ad u RL ml nd 0 wn2 cs) ∧ F134 E u) (fun E9 u t => (E9 = "java/lang/IllegalArgumentException") ∧ va_P D xcl (rp ad u RL) t.heap ∧ va_D (va_A (rp ad E RL) sz) (rp ad u RL)) (va_A (rp ad E RL) sz)) 1 6 (va_A (rp ad E RL) sz) := by
  refine vx_ofW (cc := xb_De_provider) (maxL := 6) (ret := (some .int)) (by decide) rfl ?_
  intro p e s m args below meth c s₁ B hml htab hv
  obtain ⟨rfl, ⟨hsz, hP, hK, hD0⟩, hZ⟩ := hv
  have hx := B.exec
  have hb := B.bytes
  have hr := B.returns
  have hT := x_hT B.pre
  have hown : s.vm.findClass xR_De = some m.cls := findClass_of_methodNamed B.named
  have hlocks := B.notSynchronized
  subst hsz
  have hD := hD0.self (sz := s.heap.size)
  generalize hAe : va_A (rp ad E RL) s.heap.size = A at hD hZ ⊢
  have hA : ∀ q : Nat, s.heap.size ≤ q → A q := fun q h => by rw [← hAe]; exact Or.inr h
  have hS : va_S A s.heap s.heap [] := va_S.rf
  have hl := lv_entry ([.ref (ad 0 0), .int ix, .int kx]) (n := 6) (Nat.le_of_ble_eq_true rfl)
  rw [lg_entry_eq]
  generalize (lg_sl ([.ref (ad 0 0), .int ix, .int kx]) ++ List.replicate (6 - (lg_sl ([.ref (ad 0 0), .int ix, .int kx])).length) Slot.unset).toArray = ls at hl ⊢
  have hl : lv_has ls 6 [(0, .ref (ad 0 0)), (1, .int ix), (2, .int kx)] := hl
  have hP : va_P D xcl (rp ad E RL) s.heap := hP
  obtain ⟨hmB, hDk, hLi, hSh, hCh, hLa, hDIs, hLIs⟩ := id hCI
  obtain ⟨lf_1, q_1⟩ := id (hDk)
  have c_2 : E 0 0 = .inr (0, [.ref (ad 0 1), .ref (ad 0 5), .ref (ad 0 7), .ref (ad 0 9), .int (nI ml), .int lf_1]) := q_1
  have m_3 : (0, 0) ∈ RL := hmB 0 (by omega)
  refine lv_aload_n hx hb xd_De_provider_0 rfl (lv_at hl 0 rfl) ?_
  refine px_get (D := D) (ci := 0) (v := .ref (ad 0 1)) (C := xR_De) (T := xT_De) (N := 6) hx hb hT xi_De hown hK.1 hP m_3 c_2 rfl 0 (by decide) (hT _ k6d_10) (fun _ h9 => h9) rfl xd_De_provider_1 ?_
  have hFc := px_free hD hS hA
  obtain ⟨tx_4, fb_4, fe_4, hl1_4, hw2_4, q1_4, q2_4, q3_4, q4_4, hws_4⟩ := id (hLi)
  have c_5 : E 0 1 = .inr (1, [.ref (ad 0 2), .ref (ad 0 3), .ref (ad 0 4), .int (nI len), .int (nI wn)]) := q1_4
  have m_6 : (0, 1) ∈ RL := hmB 1 (by omega)
  have c_7 : E 0 2 = .inl (kA 1, 40, .inl tx_4) := q2_4
  have m_8 : (0, 2) ∈ RL := hmB 2 (by omega)
  have c_9 : E 0 3 = .inl (kA 0, 20, .inl fb_4) := q3_4
  have m_10 : (0, 3) ∈ RL := hmB 3 (by omega)
  have c_11 : E 0 4 = .inl (kA 0, 20, .inl fe_4) := q4_4
  have m_12 : (0, 4) ∈ RL := hmB 4 (by omega)
  refine va_calli (va_runV (As := []) (rest := []) ⟨hx, hb, hml, hown, hT⟩ (xc_Li_takeNameX l D kA s.heap.size ad E RL g ml nd len wn cs (by first | assumption | omega) (by first | assumption | omega)) (cwV 0 hT (wT_V k6d_12 k6d_13 k6d_14 k6d_4 k6d_11) rfl rfl rfl (by decide +kernel) ⟨Nat.le_of_ble_eq_true rfl, Nat.le_of_ble_eq_true rfl⟩) (px_preV hK hP hD m_6 c_5 rfl) rfl rfl hl.1 rfl (lv_room (Nat.le_of_ble_eq_true rfl)) xd_De_provider_4 ⟨(Nat.le_of_ble_eq_true rfl), (Nat.le_of_ble_eq_true rfl)⟩) hS (fun q _ h => hFc q h) hFc (fun r13 u14 t H1 locs ht hvm hp15 hB hz1 hk1 hS => ?_)
  obtain ⟨hP1, hD1⟩ := hB
  rw [ht] at hP1
  have hD1 := hD1.weaken (fun _ _ _ h => hFc _ h)
  generalize H1 = H at hP1 hS ⊢
  have hP := hP1
  have hD := hD1
  obtain ⟨E16, rfl⟩ : ∃ z, z = u14 := ⟨_, rfl⟩
  have hP : va_P D xcl (rp ad E16 RL) H := hP
  have hD : va_D A (rp ad E16 RL) := hD
  obtain ⟨⟨wn17, hCI⟩, hF1, hr9⟩ := hp15
  have hCI : CI kA ad E16 RL ml nd 0 wn17 cs := hCI
  obtain ⟨hmB, hDk, hLi, hSh, hCh, hLa, hDIs, hLIs⟩ := id hCI
  obtain ⟨lf_18, q_18⟩ := id (hDk)
  have c_19 : E16 0 0 = .inr (0, [.ref (ad 0 1), .ref (ad 0 5), .ref (ad 0 7), .ref (ad 0 9), .int (nI ml), .int lf_18]) := q_18
  have m_20 : (0, 0) ∈ RL := hmB 0 (by omega)
  obtain ⟨fd_21, hnd_21, q5_21, q6_21, hds_21⟩ := id (hSh)
  have c_22 : E16 0 5 = .inr (2, [.ref (ad 0 6), .int (nI nd)]) := q5_21
  have m_23 : (0, 5) ∈ RL := hmB 5 (by omega)
  have c_24 : E16 0 6 = .inl (kA 4, 12, .inr (.inr (.inr (.inr fd_21)))) := q6_21
  have m_25 : (0, 6) ∈ RL := hmB 6 (by omega)
  obtain ⟨fl_26, hml_26, q9_26, hla_26⟩ := id (hLa)
  have c_27 : E16 0 9 = .inl (kA 5, 5, .inr (.inr (.inr (.inr fl_26)))) := q9_26
  have m_28 : (0, 9) ∈ RL := hmB 9 (by omega)
  refine lv_istore_n hx hb xd_De_provider_7 rfl hl (Nat.le_of_ble_eq_true rfl) rfl (fun ls hl => ?_)
  have hl : lv_has ls 6 [(3, .int r13), (0, .ref (ad 0 0)), (1, .int ix), (2, .int kx)] := hl
  refine lv_aload_n hx hb xd_De_provider_8 rfl (lv_at hl 1 rfl) ?_
  refine lv_iload_n hx hb xd_De_provider_9 rfl (lv_at hl 2 rfl) ?_
  have hFc := px_free hD hS hA
  refine va_callq (va_runV (As := [.int ix]) (rest := []) ⟨hx, hb, hml, hown, hT⟩ (xc_De_openLayer l D kA H.size ad E16 RL ml nd 0 wn17 cs ix (by first | assumption | omega)) (cwV 1 hT (wT_V k6d_57 k6d_58 k6d_59 k6d_19 k6d_56) rfl rfl rfl (by decide +kernel) ⟨Nat.le_of_ble_eq_true rfl, Nat.le_of_ble_eq_true rfl⟩) (px_preV hK hP hD m_20 c_19 rfl) rfl rfl hl.1 rfl (lv_room (Nat.le_of_ble_eq_true rfl)) xd_De_provider_10 ⟨(Nat.le_of_ble_eq_true rfl), (Nat.le_of_ble_eq_true rfl)⟩) hS (fun q _ h => hFc q h) hFc (fun r29 u30 t H1 locs ht hvm hp31 hB hz1 hk1 hS => ?_)
  obtain ⟨hP1, hD1⟩ := hB
  rw [ht] at hP1
  have hD1 := hD1.weaken (fun _ _ _ h => hFc _ h)
  generalize H1 = H at hP1 hS ⊢
  have hP := hP1
  have hD := hD1
  have hP : va_P D xcl (rp ad E16 RL) H := hP
  have hD : va_D A (rp ad E16 RL) := hD
  rcases hp31 with rfl | ⟨z32, z33, z34, rfl⟩
  · refine W.eq (g2 := F0 m 13 ls [.null]) rfl ?_
    refine lv_astoreN hx hb xd_De_provider_13 hl (Nat.le_of_ble_eq_true rfl) rfl (fun ls hl => ?_)
    have hl : lv_has ls 6 [(4, .null), (3, .int r13), (0, .ref (ad 0 0)), (1, .int ix), (2, .int kx)] := hl
    refine lv_aloadN hx hb xd_De_provider_15 (lv_at hl 0 rfl) ?_
    refine lv_ifnullN (tgt := 24) hx hb xd_De_provider_17 (by decide) ?_
    exact y_throwA (ik := 56) (is := 190) (wf := fun (u : Nat → Nat → va_E) => rp ad u RL) E16 (⟨⟨wn17, hCI⟩, hF1⟩) rfl hx hb hlt hown hT hK k6d_20 k6d_21 hZ.2.2.2.1.2.2.2.2.2.2.2.2.2.2.2.2.2.2.2.2.2.2.2.2 hZ.1 hS hP hD (hl.1.trans hml.symm) xd_De_provider_24 xd_De_provider_27 xd_De_provider_28 xd_De_provider_30 xd_De_provider_33 htab (Nat.le_of_ble_eq_true rfl) (Nat.le_of_ble_eq_true rfl) (Nat.le_of_ble_eq_true rfl) (Nat.le_of_ble_eq_true rfl) hlocks (Nat.le_of_ble_eq_true rfl) (Nat.le_of_ble_eq_true rfl)
  · refine W.eq (g2 := F0 m 13 ls [.ref (ad (20 + z32) 0)]) rfl ?_
    refine lv_astore hx hb xd_De_provider_13 hl (Nat.le_of_ble_eq_true rfl) rfl (fun ls hl => ?_)
    have hl : lv_has ls 6 [(4, .ref (ad (20 + z32) 0)), (3, .int r13), (0, .ref (ad 0 0)), (1, .int ix), (2, .int kx)] := hl
    refine lv_aload hx hb xd_De_provider_15 (lv_at hl 0 rfl) ?_
    refine lv_ifnull hx hb xd_De_provider_17 ?_
    refine lv_iload_n hx hb xd_De_provider_20 rfl (lv_at hl 1 rfl) ?_
    refine lv_if_ne (tgt := 34) hx hb xd_De_provider_21 (by decide) (fun hc35 => ?_) (fun hc35 => ?_)
    · refine lv_aload hx hb xd_De_provider_34 (lv_at hl 0 rfl) ?_
      refine lv_iload_n hx hb xd_De_provider_36 rfl (lv_at hl 1 rfl) ?_
      refine lv_iload_n hx hb xd_De_provider_37 rfl (lv_at hl 4 rfl) ?_
      have hFc := px_free hD hS hA
      obtain ⟨m0_36, m1_36, pv_36, op_36, mk_36, fm_36, hmk_36, hpv_36, q0_36, q1_36, hk_36⟩ := id (hLIs z32 (by omega))
      have c_37 : E16 (20 + z32) 0 = .inr (5, [.int (nI z32), pv_36, .ref (ad (20 + z32) 1), .int op_36]) := q0_36
      have m_38 : (20 + z32, 0) ∈ RL := m0_36
      have c_39 : E16 (20 + z32) 1 = .inl (kA 6, mk_36, .inr (.inr (.inr (.inr fm_36)))) := q1_36
      have m_40 : (20 + z32, 1) ∈ RL := m1_36
      refine va_callq (va_runV (As := [.int r13, .int kx]) (rest := []) ⟨hx, hb, hml, hown, hT⟩ (xc_Ly_providerOf l D kA H.size ad E16 RL nd ml z32 r13 kx (by first | assumption | omega) (by first | assumption | omega) (by first | assumption | omega) (by first | assumption | omega)) (cwV 2 hT (wT_V k6d_61 k6d_62 k6d_63 k6d_64 k6d_60) rfl rfl rfl (by decide +kernel) ⟨Nat.le_of_ble_eq_true rfl, Nat.le_of_ble_eq_true rfl⟩) (px_preV hK hP hD m_38 c_37 rfl) rfl rfl hl.1 rfl (lv_room (Nat.le_of_ble_eq_true rfl)) xd_De_provider_38 ⟨(Nat.le_of_ble_eq_true rfl), (Nat.le_of_ble_eq_true rfl)⟩) hS (fun q _ h => hFc q h) hFc (fun r41 u42 t H1 locs ht hvm hp43 hB hz1 hk1 hS => ?_)
      obtain ⟨hP1, hD1⟩ := hB
      rw [ht] at hP1
      have hD1 := hD1.weaken (fun _ _ _ h => hFc _ h)
      generalize H1 = H at hP1 hS ⊢
      have hP := hP1
      have hD := hD1
      have hP : va_P D xcl (rp ad E16 RL) H := hP
      have hD : va_D A (rp ad E16 RL) := hD
      rcases hp43 with rfl | ⟨z44, z45, z46, rfl, z47⟩
      · refine W.eq (g2 := F0 m 41 ls [.null]) rfl ?_
        refine lv_astoreN hx hb xd_De_provider_41 hl (Nat.le_of_ble_eq_true rfl) rfl (fun ls hl => ?_)
        have hl : lv_has ls 6 [(5, .null), (4, .ref (ad (20 + z32) 0)), (3, .int r13), (0, .ref (ad 0 0)), (1, .int ix), (2, .int kx)] := hl
        refine lv_aloadN hx hb xd_De_provider_43 (lv_at hl 0 rfl) ?_
        refine lv_ifnonnullN hx hb xd_De_provider_45 ?_
        refine lv_iconst (v := (-1)) hx hb xd_De_provider_48 (by decide) ?_
        refine lv_goto (tgt := 57) hx hb xd_De_provider_49 (by decide) ?_
        refine W.widen (k := 1) (n := 6) (Nat.le_of_ble_eq_true rfl) (Nat.le_of_ble_eq_true rfl) ?_
        refine vx_ret ?_
        exact W.iret (v := (-1)) hx hb hr (fun t ht hW => ⟨⟨(-1), E16, rfl, ⟨⟨wn17, hCI⟩, hF1⟩, by rw [ht]; exact hP, hD⟩, hS.F ht⟩) hS.2.2 xd_De_provider_57
      · refine W.eq (g2 := F0 m 41 ls [.ref (ad (20 + z44) (10 + 10 * z45))]) rfl ?_
        refine lv_astore hx hb xd_De_provider_41 hl (Nat.le_of_ble_eq_true rfl) rfl (fun ls hl => ?_)
        have hl : lv_has ls 6 [(5, .ref (ad (20 + z44) (10 + 10 * z45))), (4, .ref (ad (20 + z32) 0)), (3, .int r13), (0, .ref (ad 0 0)), (1, .int ix), (2, .int kx)] := hl
        refine lv_aload hx hb xd_De_provider_43 (lv_at hl 0 rfl) ?_
        refine lv_ifnonnull (tgt := 52) hx hb xd_De_provider_45 (by decide) ?_
        refine lv_aload hx hb xd_De_provider_52 (lv_at hl 0 rfl) ?_
        have hFc := px_free hD hS hA
        obtain ⟨hm_48, d_48, rs_48, fr_48, g2_48, g3_48, g4_48, hd_48, hrs_48, q0_48, q1_48, q2_48, q3_48, q4_48, q5_48, q6_48, q7_48⟩ := id z47
        have c_49 : E16 (20 + z44) (10 + 10 * z45) = .inr (6, [.ref (ad (20 + z44) 0), .ref (ad (1 + d_48) 0), .ref (ad (20 + z44) (11 + 10 * z45)), .ref (ad (20 + z44) (12 + 10 * z45)), .ref (ad (20 + z44) (13 + 10 * z45)), .ref (ad (20 + z44) (14 + 10 * z45))]) := q0_48
        have m_50 : (20 + z44, 10 + 10 * z45) ∈ RL := hm_48 0 (by omega)
        have c_51 : E16 (20 + z44) (11 + 10 * z45) = .inl (kA 6, rs_48, .inr (.inr (.inr (.inr fr_48)))) := q1_48
        have m_52 : (20 + z44, 11 + 10 * z45) ∈ RL := hm_48 1 (by omega)
        have c_53 : E16 (20 + z44) (12 + 10 * z45) = .inr (10, [.ref (ad (20 + z44) (15 + 10 * z45))]) := q2_48
        have m_54 : (20 + z44, 12 + 10 * z45) ∈ RL := hm_48 2 (by omega)
        have c_55 : E16 (20 + z44) (13 + 10 * z45) = .inr (10, [.ref (ad (20 + z44) (16 + 10 * z45))]) := q3_48
        have m_56 : (20 + z44, 13 + 10 * z45) ∈ RL := hm_48 3 (by omega)
        have c_57 : E16 (20 + z44) (14 + 10 * z45) = .inr (10, [.ref (ad (20 + z44) (17 + 10 * z45))]) := q4_48
        have m_58 : (20 + z44, 14 + 10 * z45) ∈ RL := hm_48 4 (by omega)
        have c_59 : E16 (20 + z44) (15 + 10 * z45) = .inl (kA 0, 6, .inl g2_48) := q5_48
        have m_60 : (20 + z44, 15 + 10 * z45) ∈ RL := hm_48 5 (by omega)
        have c_61 : E16 (20 + z44) (16 + 10 * z45) = .inl (kA 0, 6, .inl g3_48) := q6_48
        have m_62 : (20 + z44, 16 + 10 * z45) ∈ RL := hm_48 6 (by omega)
        have c_63 : E16 (20 + z44) (17 + 10 * z45) = .inl (kA 0, 6, .inl g4_48) := q7_48
        have m_64 : (20 + z44, 17 + 10 * z45) ∈ RL := hm_48 7 (by omega)
        refine va_calli (va_runV (As := []) (rest := []) ⟨hx, hb, hml, hown, hT⟩ (xc_Me_code l D kA H.size ad E16 RL nd ml z44 z45 (by first | assumption | omega) (by first | assumption | omega) (by first | assumption | omega) (by first | assumption | omega) (by first | assumption | omega)) (cwV 0 hT (wT_V k6d_30 k6d_31 k6d_32 k6d_33 k6d_29) rfl rfl rfl (by decide +kernel) ⟨Nat.le_of_ble_eq_true rfl, Nat.le_of_ble_eq_true rfl⟩) (px_preV hK hP hD m_50 c_49 rfl) rfl rfl hl.1 rfl (lv_room (Nat.le_of_ble_eq_true rfl)) xd_De_provider_54 ⟨(Nat.le_of_ble_eq_true rfl), (Nat.le_of_ble_eq_true rfl)⟩) hS (fun q _ h => hFc q h) hFc (fun r65 u66 t H1 locs ht hvm hp67 hB hz1 hk1 hS => ?_)
        obtain ⟨hP1, hD1⟩ := hB
        rw [ht] at hP1
        have hD1 := hD1.weaken (fun _ _ _ h => hFc _ h)
        generalize H1 = H at hP1 hS ⊢
        have hP := hP1
        have hD := hD1
        have hP : va_P D xcl (rp ad E16 RL) H := hP
        have hD : va_D A (rp ad E16 RL) := hD
        refine W.widen (k := 1) (n := 6) (Nat.le_of_ble_eq_true rfl) (Nat.le_of_ble_eq_true rfl) ?_
        refine vx_ret ?_
        exact W.iret (v := r65) hx hb hr (fun t ht hW => ⟨⟨r65, E16, rfl, ⟨⟨wn17, hCI⟩, hF1⟩, by rw [ht]; exact hP, hD⟩, hS.F ht⟩) hS.2.2 xd_De_provider_57
    · exact y_throwA (ik := 56) (is := 190) (wf := fun (u : Nat → Nat → va_E) => rp ad u RL) E16 (⟨⟨wn17, hCI⟩, hF1⟩) rfl hx hb hlt hown hT hK k6d_20 k6d_21 hZ.2.2.2.1.2.2.2.2.2.2.2.2.2.2.2.2.2.2.2.2.2.2.2.2 hZ.1 hS hP hD (hl.1.trans hml.symm) xd_De_provider_24 xd_De_provider_27 xd_De_provider_28 xd_De_provider_30 xd_De_provider_33 htab (Nat.le_of_ble_eq_true rfl) (Nat.le_of_ble_eq_true rfl) (Nat.le_of_ble_eq_true rfl) (Nat.le_of_ble_eq_true rfl) hlocks (Nat.le_of_ble_eq_true rfl) (Nat.le_of_ble_eq_true rfl)
set_option maxHeartbeats 4000000 in
set_option maxRecDepth 100000 in
theorem xc_De_lineX (l : Launch) (hlt : l.stackTraces = false) (D : va_G) (kA : Nat → ClassId) (sz : Nat) (ad : Nat → Nat → Nat) (E : Nat → Nat → va_E) (RL : List (Nat × Nat)) (Z : zT) (g : Nat → Nat → Int32) (ml : Nat) (nd : Nat) (len : Nat) (wn : Nat) (cs : Nat) (hCI : CI kA ad E RL ml nd len wn cs) (hTD : TDs g E nd) (hZI : ZI g nd) (hTX : ∀ i, i < len → eA (E 0 2) i = g 0 i) : vx_Met l xy_De_line (.code xy_De_line xb_De_line 2 (some .int) :: wT) { frames := 7, cells := 14, slots := 72, locals := 155 } (va_Pc [.ref (ad 0 0)] (xPreZ D kA sz (rp ad E RL) Z)) (va_Qi (fun (r : Int32) (u : (Nat → Nat → Nat) × (Nat → Nat → va_E) × List (Nat × Nat)) => (∃ wn2, CI kA u.1 u.2.1 u.2.2 ml (lnF (g 0) (w_all (g 0) len) nd g).1 0 wn2 cs) ∧ TDs (lnF (g 0) (w_all (g 0) len) nd g).2 u.2.1 (lnF (g 0) (w_all (g 0) len) nd g).1 ∧ u.1 0 0 = ad 0 0 ∧ FRL ml nd ad u.1 E u.2.1) (fun (u : (Nat → Nat → Nat) × (Nat → Nat → va_E) × List (Nat × Nat)) t => va_P D xcl (rp u.1 u.2.1 u.2.2) t.heap ∧ va_D (va_A (rp ad E RL) sz) (rp u.1 u.2.1 u.2.2)) (va_A (rp ad E RL) sz)) (vx_X (fun (u : (Nat → Nat → Nat) × (Nat → Nat → va_E) × List (Nat × Nat)) => (∃ wn2, CI kA u.1 u.2.1 u.2.2 ml (lnF (g 0) (w_all (g 0) len) nd g).1 0 wn2 cs) ∧ TDs (lnF (g 0) (w_all (g 0) len) nd g).2 u.2.1 (lnF (g 0) (w_all (g 0) len) nd g).1 ∧ u.1 0 0 = ad 0 0 ∧ FRL ml nd ad u.1 E u.2.1) (fun E9 u t => (E9 = "java/lang/IllegalArgumentException" ∨ E9 = "java/lang/IllegalStateException") ∧ va_P D xcl (rp u.1 u.2.1 u.2.2) t.heap ∧ va_D (va_A (rp ad E RL) sz) (rp u.1 u.2.1 u.2.2)) (va_A (rp ad E RL) sz)) 14 72 (va_A (rp ad E RL) sz) := by
  refine vx_ofW (cc := xb_De_line) (maxL := 2) (ret := (some .int)) (by decide) rfl ?_
  intro p e s m args below meth c s₁ B hml htab hv
  obtain ⟨rfl, ⟨hsz, hP, hK, hD0⟩, hZ⟩ := hv
  have hx := B.exec
  have hb := B.bytes
  have hr := B.returns
  have hT := x_hT B.pre
  have hown : s.vm.findClass xR_De = some m.cls := findClass_of_methodNamed B.named
  have hlocks := B.notSynchronized
  subst hsz
  have hD := hD0.self (sz := s.heap.size)
  generalize hAe : va_A (rp ad E RL) s.heap.size = A at hD hZ ⊢
  have hA : ∀ q : Nat, s.heap.size ≤ q → A q := fun q h => by rw [← hAe]; exact Or.inr h
  have hS : va_S A s.heap s.heap [] := va_S.rf
  have hl := lv_entry ([.ref (ad 0 0)]) (n := 2) (Nat.le_of_ble_eq_true rfl)
  rw [lg_entry_eq]
  generalize (lg_sl ([.ref (ad 0 0)]) ++ List.replicate (2 - (lg_sl ([.ref (ad 0 0)])).length) Slot.unset).toArray = ls at hl ⊢
  have hl : lv_has ls 2 [(0, .ref (ad 0 0))] := hl
  have hP : va_P D xcl (rp ad E RL) s.heap := hP
  obtain ⟨hmB, hDk, hLi, hSh, hCh, hLa, hDIs, hLIs⟩ := id hCI
  obtain ⟨lf_1, q_1⟩ := id (hDk)
  have c_2 : E 0 0 = .inr (0, [.ref (ad 0 1), .ref (ad 0 5), .ref (ad 0 7), .ref (ad 0 9), .int (nI ml), .int lf_1]) := q_1
  have m_3 : (0, 0) ∈ RL := hmB 0 (by omega)
  obtain ⟨tx_4, fb_4, fe_4, hl1_4, hw2_4, q1_4, q2_4, q3_4, q4_4, hws_4⟩ := id (hLi)
  have c_5 : E 0 1 = .inr (1, [.ref (ad 0 2), .ref (ad 0 3), .ref (ad 0 4), .int (nI len), .int (nI wn)]) := q1_4
  have m_6 : (0, 1) ∈ RL := hmB 1 (by omega)
  have c_7 : E 0 2 = .inl (kA 1, 40, .inl tx_4) := q2_4
  have m_8 : (0, 2) ∈ RL := hmB 2 (by omega)
  have c_9 : E 0 3 = .inl (kA 0, 20, .inl fb_4) := q3_4
  have m_10 : (0, 3) ∈ RL := hmB 3 (by omega)
  have c_11 : E 0 4 = .inl (kA 0, 20, .inl fe_4) := q4_4
  have m_12 : (0, 4) ∈ RL := hmB 4 (by omega)
  obtain ⟨fd_13, hnd_13, q5_13, q6_13, hds_13⟩ := id (hSh)
  have c_14 : E 0 5 = .inr (2, [.ref (ad 0 6), .int (nI nd)]) := q5_13
  have m_15 : (0, 5) ∈ RL := hmB 5 (by omega)
  have c_16 : E 0 6 = .inl (kA 4, 12, .inr (.inr (.inr (.inr fd_13)))) := q6_13
  have m_17 : (0, 6) ∈ RL := hmB 6 (by omega)
  obtain ⟨cf_18, pv_18, fc_18, hcs_18, hpv_18, q7_18, q8_18, hfc_18⟩ := id (hCh)
  have c_19 : E 0 7 = .inr (3, [.ref (ad 0 5), .ref (ad 0 8), .int (nI cs), .int cf_18, pv_18]) := q7_18
  have m_20 : (0, 7) ∈ RL := hmB 7 (by omega)
  have c_21 : E 0 8 = .inl (kA 4, 12, .inr (.inr (.inr (.inr fc_18)))) := q8_18
  have m_22 : (0, 8) ∈ RL := hmB 8 (by omega)
  obtain ⟨fl_23, hml_23, q9_23, hla_23⟩ := id (hLa)
  have c_24 : E 0 9 = .inl (kA 5, 5, .inr (.inr (.inr (.inr fl_23)))) := q9_23
  have m_25 : (0, 9) ∈ RL := hmB 9 (by omega)
  refine lv_aload_n hx hb xd_De_line_0 rfl (lv_at hl 0 rfl) ?_
  refine px_get (D := D) (ci := 0) (v := .ref (ad 0 1)) (C := xR_De) (T := xT_De) (N := 6) hx hb hT xi_De hown hK.1 hP m_3 c_2 rfl 0 (by decide) (hT _ k6d_10) (fun _ h9 => h9) rfl xd_De_line_1 ?_
  have hFc := px_free hD hS hA
  refine va_callv (va_runV (As := []) (rest := []) ⟨hx, hb, hml, hown, hT⟩ (xc_Li_takeX l D kA s.heap.size ad E RL len wn tx_4 fb_4 fe_4 m_6 c_5 m_8 c_7 m_10 c_9 m_12 c_11 (by first | assumption | omega)) (cwV 0 hT (wT_V k6d_65 k6d_2 k6d_3 k6d_4 k6d_0) rfl rfl rfl (by decide +kernel) ⟨Nat.le_of_ble_eq_true rfl, Nat.le_of_ble_eq_true rfl⟩) (px_preV hK hP hD m_6 c_5 rfl) rfl rfl hl.1 rfl (lv_room (Nat.le_of_ble_eq_true rfl)) xd_De_line_4 ⟨(Nat.le_of_ble_eq_true rfl), (Nat.le_of_ble_eq_true rfl)⟩) hS (fun q _ h => hFc q h) hFc (fun u27 t H1 locs ht hvm hp28 hB hz1 hk1 hS => ?_)
  obtain ⟨hP1, hD1⟩ := hB
  rw [ht] at hP1
  have hD1 := hD1.weaken (fun _ _ _ h => hFc _ h)
  generalize H1 = H at hP1 hS ⊢
  have hP := hP1
  have hD := hD1
  obtain ⟨E29, rfl⟩ : ∃ z, z = u27 := ⟨_, rfl⟩
  obtain ⟨w30, w31, w32, hp37, p_33, p_34, p_35, p_36⟩ := hp28
  have p_33 : E29 0 1 = .inr (1, [.ref (ad 0 2), .ref (ad 0 3), .ref (ad 0 4), .int 0, .int (nI w30)]) := p_33
  have p_34 : E29 0 3 = .inl (kA 0, 20, .inl w31) := p_34
  have p_35 : E29 0 4 = .inl (kA 0, 20, .inl w32) := p_35
  have p_36 : (∀ b2 o2, ¬ (b2 = 0 ∧ o2 = 1) → ¬ (b2 = 0 ∧ o2 = 3) → ¬ (b2 = 0 ∧ o2 = 4) → E29 b2 o2 = E b2 o2) := p_36
  have c_38 : E29 0 0 = .inr (0, [.ref (ad 0 1), .ref (ad 0 5), .ref (ad 0 7), .ref (ad 0 9), .int (nI ml), .int lf_1]) := (p_36 0 0 (by omega) (by omega) (by omega)).trans c_2
  have c_39 : E29 0 2 = .inl (kA 1, 40, .inl tx_4) := (p_36 0 2 (by omega) (by omega) (by omega)).trans c_7
  have c_40 : E29 0 5 = .inr (2, [.ref (ad 0 6), .int (nI nd)]) := (p_36 0 5 (by omega) (by omega) (by omega)).trans c_14
  have c_41 : E29 0 6 = .inl (kA 4, 12, .inr (.inr (.inr (.inr fd_13)))) := (p_36 0 6 (by omega) (by omega) (by omega)).trans c_16
  have c_42 : E29 0 7 = .inr (3, [.ref (ad 0 5), .ref (ad 0 8), .int (nI cs), .int cf_18, pv_18]) := (p_36 0 7 (by omega) (by omega) (by omega)).trans c_19
  have c_43 : E29 0 8 = .inl (kA 4, 12, .inr (.inr (.inr (.inr fc_18)))) := (p_36 0 8 (by omega) (by omega) (by omega)).trans c_21
  have c_44 : E29 0 9 = .inl (kA 5, 5, .inr (.inr (.inr (.inr fl_23)))) := (p_36 0 9 (by omega) (by omega) (by omega)).trans c_24
  have hP : va_P D xcl (rp ad E29 RL) H := hP
  have hD : va_D A (rp ad E29 RL) := hD
  obtain ⟨hw20, hWP, hTQ1, hTQ2⟩ := hp37
  obtain ⟨wl, hwl⟩ : ∃ z, z = w_all (g 0) len := ⟨_, rfl⟩
  have htx9 : ∀ j, j < len → tx_4 j = g 0 j := fun j hj => by
    have q := hTX j hj
    rw [← (show E29 0 2 = E 0 2 from by show E29 0 2 = _; rw [p_36 0 2 (by omega) (by omega) (by omega)]), c_39] at q; exact q
  have hwx : w_all tx_4 len = wl := by rw [hwl]; exact w_all_congr htx9
  rw [hwx] at hTQ1 hTQ2
  have hLW : LW g E29 len wl := LW_mk hwl (by omega) c_39 p_34 p_35 htx9 hTQ2
  have c1w : E29 0 1 = .inr (1, [.ref (ad 0 2), .ref (ad 0 3), .ref (ad 0 4), .int 0, .int (nI (wl.length))]) := by rw [← hTQ1]; exact p_33
  have hF1 : F134 E E29 := fun b2 o2 h19 h29 h39 => by show E29 b2 o2 = _; rw [p_36 b2 o2 (by omega) (by omega) (by omega)]
  have hTD1 : TDs g E29 nd := TDs_same (fun d9 hd9 => fun2 fun o9 => hF1 (1 + d9) o9 (by omega) (by omega) (by omega)) hTD
  have hCI : CI kA ad E29 RL ml nd 0 wl.length cs := ⟨hmB, ⟨lf_1, c_38⟩, ⟨tx_4, w31, w32, (by omega), (by omega), c1w, c_39, p_34, p_35, (by rw [← hTQ1]; exact hWP)⟩, ⟨fd_13, (by omega), c_40, c_41, hds_13⟩, ⟨cf_18, pv_18, fc_18, (by omega), hpv_18, c_42, c_43, hfc_18⟩, ⟨fl_23, (by omega), c_44, hla_23⟩, (DIs_same (fun d9 hd9 => fun2 fun o9 => by show E29 (1 + d9) o9 = _; rw [p_36 (1 + d9) o9 (by omega) (by omega) (by omega)]) (fun _ _ => rfl) (fun _ h9 => h9) hDIs), (LIs_same (Nat.le_refl _) (fun n9 hn9 => fun2 fun o9 => by show E29 (20 + n9) o9 = _; rw [p_36 (20 + n9) o9 (by omega) (by omega) (by omega)]) (fun _ _ => rfl) (fun _ _ => rfl) (fun _ h9 => h9) hLIs)⟩
  obtain ⟨hmB, hDk, hLi, hSh, hCh, hLa, hDIs, hLIs⟩ := id hCI
  obtain ⟨lf_45, q_45⟩ := id (hDk)
  have c_46 : E29 0 0 = .inr (0, [.ref (ad 0 1), .ref (ad 0 5), .ref (ad 0 7), .ref (ad 0 9), .int (nI ml), .int lf_45]) := q_45
  have m_47 : (0, 0) ∈ RL := hmB 0 (by omega)
  obtain ⟨tx_48, fb_48, fe_48, hl1_48, hw2_48, q1_48, q2_48, q3_48, q4_48, hws_48⟩ := id (hLi)
  have c_49 : E29 0 1 = .inr (1, [.ref (ad 0 2), .ref (ad 0 3), .ref (ad 0 4), .int (nI 0), .int (nI (wl.length))]) := q1_48
  have m_50 : (0, 1) ∈ RL := hmB 1 (by omega)
  have c_51 : E29 0 2 = .inl (kA 1, 40, .inl tx_48) := q2_48
  have m_52 : (0, 2) ∈ RL := hmB 2 (by omega)
  have c_53 : E29 0 3 = .inl (kA 0, 20, .inl fb_48) := q3_48
  have m_54 : (0, 3) ∈ RL := hmB 3 (by omega)
  have c_55 : E29 0 4 = .inl (kA 0, 20, .inl fe_48) := q4_48
  have m_56 : (0, 4) ∈ RL := hmB 4 (by omega)
  obtain ⟨fd_57, hnd_57, q5_57, q6_57, hds_57⟩ := id (hSh)
  have c_58 : E29 0 5 = .inr (2, [.ref (ad 0 6), .int (nI nd)]) := q5_57
  have m_59 : (0, 5) ∈ RL := hmB 5 (by omega)
  have c_60 : E29 0 6 = .inl (kA 4, 12, .inr (.inr (.inr (.inr fd_57)))) := q6_57
  have m_61 : (0, 6) ∈ RL := hmB 6 (by omega)
  refine lv_aload_n hx hb xd_De_line_7 rfl (lv_at hl 0 rfl) ?_
  refine px_get (D := D) (ci := 0) (v := .ref (ad 0 5)) (C := xR_De) (T := xT_De) (N := 6) hx hb hT xi_De hown hK.1 hP m_47 c_46 rfl 1 (by decide) (hT _ k6d_66) (fun _ h9 => h9) rfl xd_De_line_8 ?_
  refine lv_aload_n hx hb xd_De_line_11 rfl (lv_at hl 0 rfl) ?_
  refine px_get (D := D) (ci := 0) (v := .ref (ad 0 1)) (C := xR_De) (T := xT_De) (N := 6) hx hb hT xi_De hown hK.1 hP m_47 c_46 rfl 0 (by decide) (hT _ k6d_10) (fun _ h9 => h9) rfl xd_De_line_12 ?_
  have hFc := px_free hD hS hA
  refine va_calli (va_runV (As := [.ref (ad 0 1)]) (rest := []) ⟨hx, hb, hml, hown, hT⟩ (xc_Sh_acceptX l D kA H.size ad E29 RL Z g ml nd 0 len wl cs (by first | assumption | omega) hLW hTD1 (by first | assumption | omega)) (cwV 1 hT (wT_V k6d_68 k6d_69 k6d_70 k6d_71 k6d_67) rfl rfl rfl (by decide +kernel) ⟨Nat.le_of_ble_eq_true rfl, Nat.le_of_ble_eq_true rfl⟩) (px_preVZ hK hP hD m_59 c_58 rfl hFc (hZ.kept hS)) rfl rfl hl.1 rfl (lv_room (Nat.le_of_ble_eq_true rfl)) xd_De_line_15 ⟨(Nat.le_of_ble_eq_true rfl), (Nat.le_of_ble_eq_true rfl)⟩) hS (fun q _ h => hFc q h) hFc (fun r62 u63 t H1 locs ht hvm hp64 hB hz1 hk1 hS => ?_)
  obtain ⟨hP1, hD1⟩ := hB
  rw [ht] at hP1
  have hD1 := hD1.weaken (fun _ _ _ h => hFc _ h)
  generalize H1 = H at hP1 hS ⊢
  have hP := hP1
  have hD := hD1
  obtain ⟨ad65, E66, RL67⟩ := u63
  have hl := lv_sub hl [] rfl
  have hl : lv_has ls 2 [] := hl
  have hP : va_P D xcl (rp ad65 E66 RL67) H := hP
  have hD : va_D A (rp ad65 E66 RL67) := hD
  obtain ⟨hCI, hTD2, hA00, hF2⟩ := hp64
  have hFc := FRL_c hF1 hF2
  refine lv_istore_n hx hb xd_De_line_18 rfl hl (Nat.le_of_ble_eq_true rfl) rfl (fun ls hl => ?_)
  have hl : lv_has ls 2 [(1, .int r62)] := hl
  refine lv_iload_n hx hb xd_De_line_19 rfl (lv_at hl 0 rfl) ?_
  refine lv_iconst (v := (-1)) hx hb xd_De_line_20 (by decide) ?_
  refine lv_icmp_ne (tgt := 34) hx hb xd_De_line_21 (by decide) (fun hc68 => ?_) (fun hc68 => ?_)
  · refine lv_iload_n hx hb xd_De_line_34 rfl (lv_at hl 0 rfl) ?_
    refine lv_bipush (v := (-2)) hx hb xd_De_line_35 (by decide) ?_
    refine lv_icmp_ne (tgt := 50) hx hb xd_De_line_37 (by decide) (fun hc69 => ?_) (fun hc69 => ?_)
    · refine lv_iload_n hx hb xd_De_line_50 rfl (lv_at hl 0 rfl) ?_
      refine W.widen (k := 14) (n := 72) (Nat.le_of_ble_eq_true rfl) (Nat.le_of_ble_eq_true rfl) ?_
      refine vx_ret ?_
      exact W.iret (v := r62) hx hb hr (fun t ht hW => ⟨⟨r62, (ad65, E66, RL67), rfl, (by rw [← hwl]; exact ⟨⟨wl.length, hCI⟩, hTD2, hA00, hFc⟩), by rw [ht]; exact hP, hD⟩, hS.F ht⟩) hS.2.2 xd_De_line_51
    · exact y_throwB (ik := 63) (is := 65) (wf := fun (u : (Nat → Nat → Nat) × (Nat → Nat → va_E) × List (Nat × Nat)) => rp u.1 u.2.1 u.2.2) (ad65, E66, RL67) (by rw [← hwl]; exact ⟨⟨wl.length, hCI⟩, hTD2, hA00, hFc⟩) (Or.inr rfl) hx hb hlt hown hT hK k6d_72 k6d_73 hZ.2.2.2.1.2.2.2.2.2.2.2.2.2.2.2.2.2.1 hZ.1 hS hP hD (hl.1.trans hml.symm) xd_De_line_40 xd_De_line_43 xd_De_line_44 xd_De_line_46 xd_De_line_49 htab (Nat.le_of_ble_eq_true rfl) (Nat.le_of_ble_eq_true rfl) (Nat.le_of_ble_eq_true rfl) (Nat.le_of_ble_eq_true rfl) hlocks (Nat.le_of_ble_eq_true rfl) (Nat.le_of_ble_eq_true rfl)
  · exact y_throwA (ik := 56) (is := 58) (wf := fun (u : (Nat → Nat → Nat) × (Nat → Nat → va_E) × List (Nat × Nat)) => rp u.1 u.2.1 u.2.2) (ad65, E66, RL67) (by rw [← hwl]; exact ⟨⟨wl.length, hCI⟩, hTD2, hA00, hFc⟩) (Or.inl rfl) hx hb hlt hown hT hK k6d_20 k6d_21 hZ.2.2.2.1.2.2.2.2.2.2.2.2.2.2.2.2.1 hZ.1 hS hP hD (hl.1.trans hml.symm) xd_De_line_24 xd_De_line_27 xd_De_line_28 xd_De_line_30 xd_De_line_33 htab (Nat.le_of_ble_eq_true rfl) (Nat.le_of_ble_eq_true rfl) (Nat.le_of_ble_eq_true rfl) (Nat.le_of_ble_eq_true rfl) hlocks (Nat.le_of_ble_eq_true rfl) (Nat.le_of_ble_eq_true rfl)
