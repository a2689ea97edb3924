theorem k6d_0 : (Cond.code xy_Li_take xb_Li_take 3 none) ∈ wT := wT_t (List.mem_append_left _ (List.mem_of_getElem? (i := 190) rfl)) rfl
theorem k6d_1 : (Cond.methodLink "LayerDesk$Line" 27 xy_Li_take) ∈ wT := wT_t (List.mem_append_right _ (List.mem_append_right _ (List.mem_append_right _ (List.mem_append_left _ (List.mem_of_getElem? (i := 43) rfl))))) rfl
theorem k6d_2 : (Cond.instanceMethod xy_Li_take) ∈ wT := wT_t (List.mem_append_left _ (List.mem_of_getElem? (i := 188) rfl)) rfl
theorem k6d_3 : (Cond.selects "LayerDesk$Line" xy_Li_take xy_Li_take) ∈ wT := wT_t (List.mem_append_left _ (List.mem_of_getElem? (i := 189) rfl)) rfl
theorem k6d_4 : (Cond.initialized "LayerDesk$Line") ∈ wT := wT_t (List.mem_append_left _ (List.mem_of_getElem? (i := 2) rfl)) rfl
theorem k6d_5 : (Cond.fieldLink "LayerDesk$Line" 24 "LayerDesk$Line" "words" "I") ∈ wT := wT_t (List.mem_append_left _ (List.mem_of_getElem? (i := 40) rfl)) rfl
theorem k6d_6 : (Cond.code xy_Li_nameAt xb_Li_nameAt 4 (some .int)) ∈ wT := wT_t (List.mem_append_right _ (List.mem_append_left _ (List.mem_of_getElem? (i := 17) rfl))) rfl
theorem k6d_7 : (Cond.methodLink "LayerDesk$Line" 30 xy_Li_nameAt) ∈ wT := wT_t (List.mem_append_right _ (List.mem_append_right _ (List.mem_append_right _ (List.mem_append_left _ (List.mem_of_getElem? (i := 44) rfl))))) rfl
theorem k6d_8 : (Cond.instanceMethod xy_Li_nameAt) ∈ wT := wT_t (List.mem_append_right _ (List.mem_append_left _ (List.mem_of_getElem? (i := 15) rfl))) rfl
theorem k6d_9 : (Cond.selects "LayerDesk$Line" xy_Li_nameAt xy_Li_nameAt) ∈ wT := wT_t (List.mem_append_right _ (List.mem_append_left _ (List.mem_of_getElem? (i := 16) rfl))) rfl
theorem k6d_10 : (Cond.fieldLink "LayerDesk" 10 "LayerDesk" "written" "LLayerDesk$Line;") ∈ wT := wT_t (List.mem_append_left _ (List.mem_of_getElem? (i := 99) rfl)) rfl
theorem k6d_11 : (Cond.code xy_Li_takeName xb_Li_takeName 1 (some .int)) ∈ wT := wT_t (List.mem_append_right _ (List.mem_append_right _ (List.mem_append_right _ (List.mem_append_left _ (List.mem_of_getElem? (i := 42) rfl))))) rfl
theorem k6d_12 : (Cond.methodLink "LayerDesk" 158 xy_Li_takeName) ∈ wT := wT_t (List.mem_append_right _ (List.mem_append_right _ (List.mem_append_right _ (List.mem_append_left _ (List.mem_of_getElem? (i := 39) rfl))))) rfl
theorem k6d_13 : (Cond.instanceMethod xy_Li_takeName) ∈ wT := wT_t (List.mem_append_right _ (List.mem_append_right _ (List.mem_append_right _ (List.mem_append_left _ (List.mem_of_getElem? (i := 40) rfl))))) rfl
theorem k6d_14 : (Cond.selects "LayerDesk$Line" xy_Li_takeName xy_Li_takeName) ∈ wT := wT_t (List.mem_append_right _ (List.mem_append_right _ (List.mem_append_right _ (List.mem_append_left _ (List.mem_of_getElem? (i := 41) rfl))))) rfl
theorem k6d_15 : (Cond.code xy_De_memberAt xb_De_memberAt 4 (some (.object "LayerDesk$Member"))) ∈ wT := wT_t (List.mem_append_left _ (List.mem_of_getElem? (i := 161) rfl)) rfl
theorem k6d_16 : (Cond.methodLink "LayerDesk" 132 xy_De_memberAt) ∈ wT := wT_t (List.mem_append_left _ (List.mem_of_getElem? (i := 158) rfl)) rfl
theorem k6d_17 : (Cond.instanceMethod xy_De_memberAt) ∈ wT := wT_t (List.mem_append_left _ (List.mem_of_getElem? (i := 160) rfl)) rfl
theorem k6d_18 : (Cond.selects "LayerDesk" xy_De_memberAt xy_De_memberAt) ∈ wT := wT_s (q := (xy_De_memberAt, 6)) (by decide +kernel) rfl
theorem k6d_19 : (Cond.initialized "LayerDesk") ∈ wT := wT_t (List.mem_append_left _ (List.mem_of_getElem? (i := 1) rfl)) rfl
theorem k6d_20 : (Cond.classLink "LayerDesk" 56 "java/lang/IllegalArgumentException") ∈ wT := wT_t (List.mem_append_right _ (List.mem_append_left _ (List.mem_of_getElem? (i := 205) rfl))) rfl
theorem k6d_21 : (Cond.initialized "java/lang/IllegalArgumentException") ∈ wT := wT_t (List.mem_append_left _ (List.mem_of_getElem? (i := 16) rfl)) rfl
theorem k6d_22 : (Cond.fieldLink "LayerDesk" 136 "LayerDesk$Member" "descriptor" "LLayerDesk$Descriptor;") ∈ wT := wT_t (List.mem_append_right _ (List.mem_append_right _ (List.mem_append_left _ (List.mem_of_getElem? (i := 185) rfl)))) rfl
theorem k6d_23 : (Cond.fieldLink "LayerDesk" 163 "LayerDesk$Descriptor" "packages" "LLayerDesk$Names;") ∈ wT := wT_t (List.mem_append_right _ (List.mem_append_left _ (List.mem_of_getElem? (i := 63) rfl))) rfl
theorem k6d_24 : (Cond.code xy_Na_holds xb_Na_holds 2 (some .boolean)) ∈ wT := wT_t (List.mem_append_right _ (List.mem_append_left _ (List.mem_of_getElem? (i := 123) rfl))) rfl
theorem k6d_25 : (Cond.methodLink "LayerDesk" 167 xy_Na_holds) ∈ wT := wT_t (List.mem_append_right _ (List.mem_append_right _ (List.mem_append_right _ (List.mem_append_left _ (List.mem_of_getElem? (i := 46) rfl))))) rfl
theorem k6d_26 : (Cond.instanceMethod xy_Na_holds) ∈ wT := wT_t (List.mem_append_right _ (List.mem_append_left _ (List.mem_of_getElem? (i := 121) rfl))) rfl
theorem k6d_27 : (Cond.selects "LayerDesk$Names" xy_Na_holds xy_Na_holds) ∈ wT := wT_t (List.mem_append_right _ (List.mem_append_left _ (List.mem_of_getElem? (i := 122) rfl))) rfl
theorem k6d_28 : (Cond.initialized "LayerDesk$Names") ∈ wT := wT_t (List.mem_append_left _ (List.mem_of_getElem? (i := 11) rfl)) rfl
theorem k6d_29 : (Cond.code xy_Me_code xb_Me_code 1 (some .int)) ∈ wT := wT_t (List.mem_append_right _ (List.mem_append_right _ (List.mem_append_right _ (List.mem_append_left _ (List.mem_of_getElem? (i := 52) rfl))))) rfl
theorem k6d_30 : (Cond.methodLink "LayerDesk" 178 xy_Me_code) ∈ wT := wT_t (List.mem_append_right _ (List.mem_append_right _ (List.mem_append_right _ (List.mem_append_left _ (List.mem_of_getElem? (i := 49) rfl))))) rfl
theorem k6d_31 : (Cond.instanceMethod xy_Me_code) ∈ wT := wT_t (List.mem_append_right _ (List.mem_append_right _ (List.mem_append_right _ (List.mem_append_left _ (List.mem_of_getElem? (i := 50) rfl))))) rfl
theorem k6d_32 : (Cond.selects "LayerDesk$Member" xy_Me_code xy_Me_code) ∈ wT := wT_t (List.mem_append_right _ (List.mem_append_right _ (List.mem_append_right _ (List.mem_append_left _ (List.mem_of_getElem? (i := 51) rfl))))) rfl
theorem k6d_33 : (Cond.initialized "LayerDesk$Member") ∈ wT := wT_t (List.mem_append_left _ (List.mem_of_getElem? (i := 20) rfl)) rfl
theorem k6d_38 : (Cond.classLink "LayerDesk" 89 "java/util/NoSuchElementException") ∈ wT := wT_t (List.mem_append_right _ (List.mem_append_right _ (List.mem_append_left _ (List.mem_of_getElem? (i := 94) rfl)))) rfl
theorem k6d_39 : (Cond.initialized "java/util/NoSuchElementException") ∈ wT := wT_t (List.mem_append_left _ (List.mem_of_getElem? (i := 18) rfl)) rfl
theorem k6d_40 : (Cond.code xy_De_memberOf xb_De_memberOf 4 (some (.object "LayerDesk$Member"))) ∈ wT := wT_t (List.mem_append_left _ (List.mem_of_getElem? (i := 169) rfl)) rfl
theorem k6d_41 : (Cond.methodLink "LayerDesk" 145 xy_De_memberOf) ∈ wT := wT_t (List.mem_append_left _ (List.mem_of_getElem? (i := 166) rfl)) rfl
theorem k6d_42 : (Cond.instanceMethod xy_De_memberOf) ∈ wT := wT_t (List.mem_append_left _ (List.mem_of_getElem? (i := 168) rfl)) rfl
theorem k6d_43 : (Cond.selects "LayerDesk" xy_De_memberOf xy_De_memberOf) ∈ wT := wT_s (q := (xy_De_memberOf, 6)) (by decide +kernel) rfl
theorem k6d_44 : (Cond.fieldLink "LayerDesk" 148 "LayerDesk$Member" "reading" "LLayerDesk$Reach;") ∈ wT := wT_t (List.mem_append_right _ (List.mem_append_right _ (List.mem_append_left _ (List.mem_of_getElem? (i := 192) rfl)))) rfl
theorem k6d_45 : (Cond.code xy_Re_marks xb_Re_marks 2 (some .boolean)) ∈ wT := wT_t (List.mem_append_left _ (List.mem_of_getElem? (i := 177) rfl)) rfl
theorem k6d_46 : (Cond.methodLink "LayerDesk" 152 xy_Re_marks) ∈ wT := wT_t (List.mem_append_left _ (List.mem_of_getElem? (i := 174) rfl)) rfl
theorem k6d_47 : (Cond.instanceMethod xy_Re_marks) ∈ wT := wT_t (List.mem_append_left _ (List.mem_of_getElem? (i := 175) rfl)) rfl
theorem k6d_48 : (Cond.selects "LayerDesk$Reach" xy_Re_marks xy_Re_marks) ∈ wT := wT_t (List.mem_append_left _ (List.mem_of_getElem? (i := 176) rfl)) rfl
theorem k6d_49 : (Cond.initialized "LayerDesk$Reach") ∈ wT := wT_t (List.mem_append_left _ (List.mem_of_getElem? (i := 21) rfl)) rfl
theorem k6d_50 : (Cond.fieldLink "LayerDesk" 183 "LayerDesk$Descriptor" "name" "I") ∈ wT := wT_t (List.mem_append_right _ (List.mem_append_left _ (List.mem_of_getElem? (i := 59) rfl))) rfl
theorem k6d_51 : (Cond.code xy_Ds_opensTo xb_Ds_opensTo 4 (some .boolean)) ∈ wT := wT_t (List.mem_append_right _ (List.mem_append_right _ (List.mem_append_right _ (List.mem_append_left _ (List.mem_of_getElem? (i := 64) rfl))))) rfl
theorem k6d_52 : (Cond.methodLink "LayerDesk" 186 xy_Ds_opensTo) ∈ wT := wT_t (List.mem_append_right _ (List.mem_append_right _ (List.mem_append_right _ (List.mem_append_left _ (List.mem_of_getElem? (i := 61) rfl))))) rfl
theorem k6d_53 : (Cond.instanceMethod xy_Ds_opensTo) ∈ wT := wT_t (List.mem_append_right _ (List.mem_append_right _ (List.mem_append_right _ (List.mem_append_left _ (List.mem_of_getElem? (i := 62) rfl))))) rfl
theorem k6d_54 : (Cond.selects "LayerDesk$Descriptor" xy_Ds_opensTo xy_Ds_opensTo) ∈ wT := wT_t (List.mem_append_right _ (List.mem_append_right _ (List.mem_append_right _ (List.mem_append_left _ (List.mem_of_getElem? (i := 63) rfl))))) rfl
theorem k6d_55 : (Cond.initialized "LayerDesk$Descriptor") ∈ wT := wT_t (List.mem_append_left _ (List.mem_of_getElem? (i := 10) rfl)) rfl
theorem k6d_56 : (Cond.code xy_De_openLayer xb_De_openLayer 3 (some (.object "LayerDesk$Layer"))) ∈ wT := wT_t (List.mem_append_left _ (List.mem_of_getElem? (i := 137) rfl)) rfl
theorem k6d_57 : (Cond.methodLink "LayerDesk" 68 xy_De_openLayer) ∈ wT := wT_t (List.mem_append_left _ (List.mem_of_getElem? (i := 134) rfl)) rfl
theorem k6d_58 : (Cond.instanceMethod xy_De_openLayer) ∈ wT := wT_t (List.mem_append_left _ (List.mem_of_getElem? (i := 136) rfl)) rfl
theorem k6d_59 : (Cond.selects "LayerDesk" xy_De_openLayer xy_De_openLayer) ∈ wT := wT_s (q := (xy_De_openLayer, 6)) (by decide +kernel) rfl
theorem k6d_60 : (Cond.code xy_Ly_providerOf xb_Ly_providerOf 6 (some (.object "LayerDesk$Member"))) ∈ wT := wT_t (List.mem_append_right _ (List.mem_append_right _ (List.mem_append_right _ (List.mem_append_left _ (List.mem_of_getElem? (i := 76) rfl))))) rfl
theorem k6d_61 : (Cond.methodLink "LayerDesk" 192 xy_Ly_providerOf) ∈ wT := wT_t (List.mem_append_right _ (List.mem_append_right _ (List.mem_append_right _ (List.mem_append_left _ (List.mem_of_getElem? (i := 73) rfl))))) rfl
theorem k6d_62 : (Cond.instanceMethod xy_Ly_providerOf) ∈ wT := wT_t (List.mem_append_right _ (List.mem_append_right _ (List.mem_append_right _ (List.mem_append_left _ (List.mem_of_getElem? (i := 74) rfl))))) rfl
theorem k6d_63 : (Cond.selects "LayerDesk$Layer" xy_Ly_providerOf xy_Ly_providerOf) ∈ wT := wT_t (List.mem_append_right _ (List.mem_append_right _ (List.mem_append_right _ (List.mem_append_left _ (List.mem_of_getElem? (i := 75) rfl))))) rfl
theorem k6d_64 : (Cond.initialized "LayerDesk$Layer") ∈ wT := wT_t (List.mem_append_left _ (List.mem_of_getElem? (i := 19) rfl)) rfl
theorem k6d_65 : (Cond.methodLink "LayerDesk" 49 xy_Li_take) ∈ wT := wT_t (List.mem_append_left _ (List.mem_of_getElem? (i := 187) rfl)) rfl
theorem k6d_66 : (Cond.fieldLink "LayerDesk" 19 "LayerDesk" "shelf" "LLayerDesk$Shelf;") ∈ wT := wT_t (List.mem_append_left _ (List.mem_of_getElem? (i := 100) rfl)) rfl
theorem k6d_67 : (Cond.code xy_Sh_accept xb_Sh_accept 2 (some .int)) ∈ wT := wT_t (List.mem_append_left _ (List.mem_of_getElem? (i := 194) rfl)) rfl
theorem k6d_68 : (Cond.methodLink "LayerDesk" 52 xy_Sh_accept) ∈ wT := wT_t (List.mem_append_left _ (List.mem_of_getElem? (i := 191) rfl)) rfl
theorem k6d_69 : (Cond.instanceMethod xy_Sh_accept) ∈ wT := wT_t (List.mem_append_left _ (List.mem_of_getElem? (i := 192) rfl)) rfl
theorem k6d_70 : (Cond.selects "LayerDesk$Shelf" xy_Sh_accept xy_Sh_accept) ∈ wT := wT_t (List.mem_append_left _ (List.mem_of_getElem? (i := 193) rfl)) rfl
theorem k6d_71 : (Cond.initialized "LayerDesk$Shelf") ∈ wT := wT_t (List.mem_append_left _ (List.mem_of_getElem? (i := 3) rfl)) rfl
theorem k6d_72 : (Cond.classLink "LayerDesk" 63 "java/lang/IllegalStateException") ∈ wT := wT_t (List.mem_append_right _ (List.mem_append_right _ (List.mem_append_left _ (List.mem_of_getElem? (i := 32) rfl)))) rfl
theorem k6d_73 : (Cond.initialized "java/lang/IllegalStateException") ∈ wT := wT_t (List.mem_append_left _ (List.mem_of_getElem? (i := 17) rfl)) rfl
set_option maxHeartbeats 4000000 in
set_option maxRecDepth 100000 in
theorem xc_Li_takeNameX (l : Launch) (D : va_G) (kA : Nat → ClassId) (sz : Nat) (ad : Nat → Nat → Nat) (E : Nat → Nat → va_E) (RL : List (Nat × Nat)) (g : Nat → Nat → Int32) (ml : Nat) (nd : Nat) (len : Nat) (wn : Nat) (cs : Nat) (hCI : CI kA ad E RL ml nd len wn cs) (hTX : ∀ i, i < len → eA (E 0 2) i = g 0 i) : Met l xy_Li_takeName (.code xy_Li_takeName xb_Li_takeName 1 (some .int) :: wT) { frames := 1, cells := 0, slots := 0, locals := 23 } (va_Pc [.ref (ad 0 1)] (xPre D kA sz (rp ad E RL))) (va_Qi (fun (r : Int32) (u : Nat → Nat → va_E) => (∃ wn2, CI kA ad u RL ml nd 0 wn2 cs) ∧ F134 E u ∧ r = (cif ((w_all (g 0) len).length = 1) (wN (g 0) (w_all (g 0) len) 0) 0)) (fun (u : Nat → Nat → va_E) t => va_P D xcl (rp ad u RL) t.heap ∧ va_D (va_A (rp ad E RL) sz) (rp ad u RL)) (va_A (rp ad E RL) sz)) 0 0 (va_A (rp ad E RL) sz) := by
  refine Met.ofW (cc := xb_Li_takeName) (maxL := 1) (ret := (some .int)) (by decide) rfl ?_
  intro p e s m args below meth c s₁ B hml hv
  obtain ⟨rfl, hsz, hP, hK, hD0⟩ := hv
  have hx := B.exec
  have hb := B.bytes
  have hr := B.returns
  have hT := x_hT B.pre
  have hown : s.vm.findClass xR_Li = some m.cls := findClass_of_methodNamed B.named
  have hlocks := B.notSynchronized
  subst hsz
  have hD := hD0.self (sz := s.heap.size)
  generalize hAe : va_A (rp ad E RL) s.heap.size = A at hD ⊢
  have hA : ∀ q : Nat, s.heap.size ≤ q → A q := fun q h => by rw [← hAe]; exact Or.inr h
  have hS : va_S A s.heap s.heap [] := va_S.rf
  have hl := lv_entry ([.ref (ad 0 1)]) (n := 1) (Nat.le_of_ble_eq_true rfl)
  rw [lg_entry_eq]
  generalize (lg_sl ([.ref (ad 0 1)]) ++ List.replicate (1 - (lg_sl ([.ref (ad 0 1)])).length) Slot.unset).toArray = ls at hl ⊢
  have hl : lv_has ls 1 [(0, .ref (ad 0 1))] := hl
  have hP : va_P D xcl (rp ad E RL) s.heap := hP
  obtain ⟨hmB, hDk, hLi, hSh, hCh, hLa, hDIs, hLIs⟩ := id hCI
  obtain ⟨lf_1, q_1⟩ := id (hDk)
  have c_2 : E 0 0 = .inr (0, [.ref (ad 0 1), .ref (ad 0 5), .ref (ad 0 7), .ref (ad 0 9), .int (nI ml), .int lf_1]) := q_1
  have m_3 : (0, 0) ∈ RL := hmB 0 (by decide)
  obtain ⟨tx_4, fb_4, fe_4, hl1_4, hw2_4, q1_4, q2_4, q3_4, q4_4, hws_4⟩ := id (hLi)
  have c_5 : E 0 1 = .inr (1, [.ref (ad 0 2), .ref (ad 0 3), .ref (ad 0 4), .int (nI len), .int (nI wn)]) := q1_4
  have m_6 : (0, 1) ∈ RL := hmB 1 (by decide)
  have c_7 : E 0 2 = .inl (kA 1, 40, .inl tx_4) := q2_4
  have m_8 : (0, 2) ∈ RL := hmB 2 (by decide)
  have c_9 : E 0 3 = .inl (kA 0, 20, .inl fb_4) := q3_4
  have m_10 : (0, 3) ∈ RL := hmB 3 (by decide)
  have c_11 : E 0 4 = .inl (kA 0, 20, .inl fe_4) := q4_4
  have m_12 : (0, 4) ∈ RL := hmB 4 (by decide)
  obtain ⟨fd_13, hnd_13, q5_13, q6_13, hds_13⟩ := id (hSh)
  have c_14 : E 0 5 = .inr (2, [.ref (ad 0 6), .int (nI nd)]) := q5_13
  have m_15 : (0, 5) ∈ RL := hmB 5 (by decide)
  have c_16 : E 0 6 = .inl (kA 4, 12, .inr (.inr (.inr (.inr fd_13)))) := q6_13
  have m_17 : (0, 6) ∈ RL := hmB 6 (by decide)
  obtain ⟨cf_18, pv_18, fc_18, hcs_18, hpv_18, q7_18, q8_18, hfc_18⟩ := id (hCh)
  have c_19 : E 0 7 = .inr (3, [.ref (ad 0 5), .ref (ad 0 8), .int (nI cs), .int cf_18, pv_18]) := q7_18
  have m_20 : (0, 7) ∈ RL := hmB 7 (by decide)
  have c_21 : E 0 8 = .inl (kA 4, 12, .inr (.inr (.inr (.inr fc_18)))) := q8_18
  have m_22 : (0, 8) ∈ RL := hmB 8 (by decide)
  obtain ⟨fl_23, hml_23, q9_23, hla_23⟩ := id (hLa)
  have c_24 : E 0 9 = .inl (kA 5, 5, .inr (.inr (.inr (.inr fl_23)))) := q9_23
  have m_25 : (0, 9) ∈ RL := hmB 9 (by decide)
  refine lv_aload_n hx hb xd_Li_takeName_0 rfl (lv_at hl 0 rfl) ?_
  have hFc := px_free hD hS hA
  refine va_callv (va_runV (As := []) (rest := []) ⟨hx, hb, hml, hown, hT⟩ (xc_Li_takeX l D kA s.heap.size ad E RL len wn tx_4 fb_4 fe_4 m_6 c_5 m_8 c_7 m_10 c_9 m_12 c_11 (by first | assumption | omega)) (cwV 0 hT (wT_V k6d_1 k6d_2 k6d_3 k6d_4 k6d_0) rfl rfl rfl (by decide +kernel) ⟨Nat.le_of_ble_eq_true rfl, Nat.le_of_ble_eq_true rfl⟩) (px_preV hK hP hD m_6 c_5 rfl) rfl rfl hl.1 rfl (lv_room (Nat.le_of_ble_eq_true rfl)) xd_Li_takeName_1 ⟨(Nat.le_of_ble_eq_true rfl), (Nat.le_of_ble_eq_true rfl)⟩) hS (fun q _ h => hFc q h) hFc (fun u27 t H1 locs ht hvm hp28 hB hz1 hk1 hS => ?_)
  obtain ⟨hP1, hD1⟩ := hB
  rw [ht] at hP1
  have hD1 := hD1.weaken (fun _ _ _ h => hFc _ h)
  generalize H1 = H at hP1 hS ⊢
  have hP := hP1
  have hD := hD1
  obtain ⟨E29, rfl⟩ : ∃ z, z = u27 := ⟨_, rfl⟩
  obtain ⟨w30, w31, w32, hp37, p_33, p_34, p_35, p_36⟩ := hp28
  have p_33 : E29 0 1 = .inr (1, [.ref (ad 0 2), .ref (ad 0 3), .ref (ad 0 4), .int 0, .int (nI w30)]) := p_33
  have p_34 : E29 0 3 = .inl (kA 0, 20, .inl w31) := p_34
  have p_35 : E29 0 4 = .inl (kA 0, 20, .inl w32) := p_35
  have p_36 : (∀ b2 o2, ¬ (b2 = 0 ∧ o2 = 1) → ¬ (b2 = 0 ∧ o2 = 3) → ¬ (b2 = 0 ∧ o2 = 4) → E29 b2 o2 = E b2 o2) := p_36
  have c_38 : E29 0 0 = .inr (0, [.ref (ad 0 1), .ref (ad 0 5), .ref (ad 0 7), .ref (ad 0 9), .int (nI ml), .int lf_1]) := (p_36 0 0 (fun q9 => absurd q9.2 (by decide)) (fun q9 => absurd q9.2 (by decide)) (fun q9 => absurd q9.2 (by decide))).trans c_2
  have c_39 : E29 0 2 = .inl (kA 1, 40, .inl tx_4) := (p_36 0 2 (fun q9 => absurd q9.2 (by decide)) (fun q9 => absurd q9.2 (by decide)) (fun q9 => absurd q9.2 (by decide))).trans c_7
  have c_40 : E29 0 5 = .inr (2, [.ref (ad 0 6), .int (nI nd)]) := (p_36 0 5 (fun q9 => absurd q9.2 (by decide)) (fun q9 => absurd q9.2 (by decide)) (fun q9 => absurd q9.2 (by decide))).trans c_14
  have c_41 : E29 0 6 = .inl (kA 4, 12, .inr (.inr (.inr (.inr fd_13)))) := (p_36 0 6 (fun q9 => absurd q9.2 (by decide)) (fun q9 => absurd q9.2 (by decide)) (fun q9 => absurd q9.2 (by decide))).trans c_16
  have c_42 : E29 0 7 = .inr (3, [.ref (ad 0 5), .ref (ad 0 8), .int (nI cs), .int cf_18, pv_18]) := (p_36 0 7 (fun q9 => absurd q9.2 (by decide)) (fun q9 => absurd q9.2 (by decide)) (fun q9 => absurd q9.2 (by decide))).trans c_19
  have c_43 : E29 0 8 = .inl (kA 4, 12, .inr (.inr (.inr (.inr fc_18)))) := (p_36 0 8 (fun q9 => absurd q9.2 (by decide)) (fun q9 => absurd q9.2 (by decide)) (fun q9 => absurd q9.2 (by decide))).trans c_21
  have c_44 : E29 0 9 = .inl (kA 5, 5, .inr (.inr (.inr (.inr fl_23)))) := (p_36 0 9 (fun q9 => absurd q9.2 (by decide)) (fun q9 => absurd q9.2 (by decide)) (fun q9 => absurd q9.2 (by decide))).trans c_24
  have hP : va_P D xcl (rp ad E29 RL) H := hP
  have hD : va_D A (rp ad E29 RL) := hD
  obtain ⟨hw20, hWP, hTQ1, hTQ2⟩ := hp37
  obtain ⟨wl, hwl⟩ : ∃ z, z = w_all (g 0) len := ⟨_, rfl⟩
  have htx9 : ∀ j, j < len → tx_4 j = g 0 j := fun j hj => by
    have q := hTX j hj
    rw [← (show E29 0 2 = E 0 2 from by show E29 0 2 = _; rw [p_36 0 2 (by omega) (by omega) (by omega)]), c_39] at q; exact q
  have hwx : w_all tx_4 len = wl := by rw [hwl]; exact w_all_congr htx9
  rw [hwx] at hTQ1 hTQ2
  have hLW : LW g E29 len wl := LW_mk hwl (by omega) c_39 p_34 p_35 htx9 hTQ2
  have c1w : E29 0 1 = .inr (1, [.ref (ad 0 2), .ref (ad 0 3), .ref (ad 0 4), .int 0, .int (nI (wl.length))]) := by rw [← hTQ1]; exact p_33
  have hF1 : F134 E E29 := fun b2 o2 h19 h29 h39 => by show E29 b2 o2 = _; rw [p_36 b2 o2 (by omega) (by omega) (by omega)]
  have hCI : CI kA ad E29 RL ml nd 0 wl.length cs := ⟨hmB, ⟨lf_1, c_38⟩, ⟨tx_4, w31, w32, (by omega), (by omega), c1w, c_39, p_34, p_35, (by rw [← hTQ1]; exact hWP)⟩, ⟨fd_13, (by omega), c_40, c_41, hds_13⟩, ⟨cf_18, pv_18, fc_18, (by omega), hpv_18, c_42, c_43, hfc_18⟩, ⟨fl_23, (by omega), c_44, hla_23⟩, (DIs_same (fun d9 hd9 => fun2 fun o9 => by show E29 (1 + d9) o9 = _; rw [p_36 (1 + d9) o9 (by omega) (by omega) (by omega)]) (fun _ _ => rfl) (fun _ h9 => h9) hDIs), (LIs_same (Nat.le_refl _) (fun n9 hn9 => fun2 fun o9 => by show E29 (20 + n9) o9 = _; rw [p_36 (20 + n9) o9 (by omega) (by omega) (by omega)]) (fun _ _ => rfl) (fun _ _ => rfl) (fun _ h9 => h9) hLIs)⟩
  obtain ⟨hmB, hDk, hLi, hSh, hCh, hLa, hDIs, hLIs⟩ := id hCI
  obtain ⟨tx_45, fb_45, fe_45, hl1_45, hw2_45, q1_45, q2_45, q3_45, q4_45, hws_45⟩ := id (hLi)
  have c_46 : E29 0 1 = .inr (1, [.ref (ad 0 2), .ref (ad 0 3), .ref (ad 0 4), .int (nI 0), .int (nI (wl.length))]) := q1_45
  have m_47 : (0, 1) ∈ RL := hmB 1 (by decide)
  have c_48 : E29 0 2 = .inl (kA 1, 40, .inl tx_45) := q2_45
  have m_49 : (0, 2) ∈ RL := hmB 2 (by decide)
  have c_50 : E29 0 3 = .inl (kA 0, 20, .inl fb_45) := q3_45
  have m_51 : (0, 3) ∈ RL := hmB 3 (by decide)
  have c_52 : E29 0 4 = .inl (kA 0, 20, .inl fe_45) := q4_45
  have m_53 : (0, 4) ∈ RL := hmB 4 (by decide)
  refine lv_aload_n hx hb xd_Li_takeName_4 rfl (lv_at hl 0 rfl) ?_
  refine px_get (D := D) (ci := 1) (v := .int (nI (wl.length))) (C := xR_Li) (T := xT_Li) (N := 5) hx hb hT xi_Li hown hK.1 hP m_47 c_46 rfl 4 (by decide) (hT _ k6d_5) (fun _ h9 => h9) rfl xd_Li_takeName_5 ?_
  refine lv_iconst (v := 1) hx hb xd_Li_takeName_8 (by decide) ?_
  refine xn_ne (a := wl.length) (b := 1) (tgt := 20) hx hb xd_Li_takeName_9 (by decide) (by omega) (by omega) (fun hc54 => ?_) (fun hc54 => ?_)
  · refine lv_iconst (v := 0) hx hb xd_Li_takeName_20 (by decide) ?_
    exact W.iret (v := 0) hx hb hr (fun t ht hW => ⟨⟨0, E29, rfl, ⟨⟨wl.length, hCI⟩, hF1, (by rw [← hwl, cif_neg (by omega)])⟩, by rw [ht]; exact hP, hD⟩, hS.F ht⟩) hS.2.2 xd_Li_takeName_21
  · refine lv_aload_n hx hb xd_Li_takeName_12 rfl (lv_at hl 0 rfl) ?_
    refine lv_iconst (v := 0) hx hb xd_Li_takeName_13 (by decide) ?_
    have hFc := px_free hD hS hA
    refine va_calli (va_runV (As := [.int 0]) (rest := []) ⟨hx, hb, hml, hown, hT⟩ (xc_Li_nameAtX l D kA H.size ad E29 RL g ml nd 0 len wl cs 0 (by first | assumption | omega) hLW (by first | assumption | omega)) (cwV 1 hT (wT_V k6d_7 k6d_8 k6d_9 k6d_4 k6d_6) rfl rfl rfl (by decide +kernel) ⟨Nat.le_of_ble_eq_true rfl, Nat.le_of_ble_eq_true rfl⟩) (px_preV hK hP hD m_47 c_46 rfl) rfl rfl hl.1 rfl (lv_room (Nat.le_of_ble_eq_true rfl)) xd_Li_takeName_14 ⟨(Nat.le_of_ble_eq_true rfl), (Nat.le_of_ble_eq_true rfl)⟩) hS (fun q _ h => hFc q h) hFc (fun r55 u56 t H1 locs ht hvm hp57 hB hz1 hk1 hS => ?_)
    obtain ⟨hP1, hD1⟩ := hB
    rw [ht] at hP1
    have hD1 := hD1.weaken (fun _ _ _ h => hFc _ h)
    generalize H1 = H at hP1 hS ⊢
    have hP := hP1
    have hD := hD1
    have hP : va_P D xcl (rp ad E29 RL) H := hP
    have hD : va_D A (rp ad E29 RL) := hD
    refine lv_goto (tgt := 21) hx hb xd_Li_takeName_17 (by decide) ?_
    exact W.iret (v := r55) hx hb hr (fun t ht hW => ⟨⟨r55, E29, rfl, ⟨⟨wl.length, hCI⟩, hF1, (by rw [← hwl, cif_pos (by omega)]; exact hp57)⟩, by rw [ht]; exact hP, hD⟩, hS.F ht⟩) hS.2.2 xd_Li_takeName_21
set_option maxHeartbeats 4000000 in
set_option maxRecDepth 100000 in
theorem xc_De_peekK (l : Launch) (hlt : l.stackTraces = false) (D : va_G) (kA : Nat → ClassId) (sz : Nat) (ad : Nat → Nat → Nat) (E : Nat → Nat → va_E) (RL : List (Nat × Nat)) (Z : zT) (g : Nat → Nat → Int32) (ml : Nat) (nd : Nat) (len : Nat) (wn : Nat) (cs : Nat) (ix : Int32) (kx : Int32) (tx : Int32) (dx : Int32) (hCI : CI kA ad E RL ml nd len wn cs) (hTX : ∀ i, i < len → eA (E 0 2) i = g 0 i) : vx_Met l xy_De_peek (.code xy_De_peek xb_De_peek 8 (some .boolean) :: wT) { frames := 6, cells := 1, slots := 6, locals := 82 } (va_Pc [.ref (ad 0 0), .int ix, .int kx, .int tx, .int dx] (xPreZ D kA sz (rp ad E RL) Z)) (va_Qi (fun (r : Int32) (u : Nat → Nat → va_E) => (∃ wn2, CI kA ad u RL ml nd 0 wn2 cs) ∧ F134 E u) (fun (u : Nat → Nat → va_E) t => va_P D xcl (rp ad u RL) t.heap ∧ va_D (va_A (rp ad E RL) sz) (rp ad u RL)) (va_A (rp ad E RL) sz)) (vx_X (fun (u : Nat → Nat → va_E) => (∃ wn2, CI kA ad u RL ml nd 0 wn2 cs) ∧ F134 E u) (fun E9 u t => (E9 = "java/lang/IllegalArgumentException" ∨ E9 = "java/util/NoSuchElementException") ∧ va_P D xcl (rp ad u RL) t.heap ∧ va_D (va_A (rp ad E RL) sz) (rp ad u RL)) (va_A (rp ad E RL) sz)) 1 6 (va_A (rp ad E RL) sz) := by
  refine vx_ofW (cc := xb_De_peek) (maxL := 8) (ret := (some .boolean)) (by decide) rfl ?_
  intro p e s m args below meth c s₁ B hml htab hv
  obtain ⟨rfl, ⟨hsz, hP, hK, hD0⟩, hZ⟩ := hv
  have hx := B.exec
  have hb := B.bytes
  have hr := B.returns
  have hT := x_hT B.pre
  have hown : s.vm.findClass xR_De = some m.cls := findClass_of_methodNamed B.named
  have hlocks := B.notSynchronized
  subst hsz
  have hD := hD0.self (sz := s.heap.size)
  generalize hAe : va_A (rp ad E RL) s.heap.size = A at hD hZ ⊢
  have hA : ∀ q : Nat, s.heap.size ≤ q → A q := fun q h => by rw [← hAe]; exact Or.inr h
  have hS : va_S A s.heap s.heap [] := va_S.rf
  have hl := lv_entry ([.ref (ad 0 0), .int ix, .int kx, .int tx, .int dx]) (n := 8) (Nat.le_of_ble_eq_true rfl)
  rw [lg_entry_eq]
  generalize (lg_sl ([.ref (ad 0 0), .int ix, .int kx, .int tx, .int dx]) ++ List.replicate (8 - (lg_sl ([.ref (ad 0 0), .int ix, .int kx, .int tx, .int dx])).length) Slot.unset).toArray = ls at hl ⊢
  have hl : lv_has ls 8 [(0, .ref (ad 0 0)), (1, .int ix), (2, .int kx), (3, .int tx), (4, .int dx)] := hl
  have hP : va_P D xcl (rp ad E RL) s.heap := hP
  obtain ⟨hmB, hDk, hLi, hSh, hCh, hLa, hDIs, hLIs⟩ := id hCI
  obtain ⟨lf_1, q_1⟩ := id (hDk)
  have c_2 : E 0 0 = .inr (0, [.ref (ad 0 1), .ref (ad 0 5), .ref (ad 0 7), .ref (ad 0 9), .int (nI ml), .int lf_1]) := q_1
  have m_3 : (0, 0) ∈ RL := hmB 0 (by decide)
  refine lv_aload_n hx hb xd_De_peek_0 rfl (lv_at hl 0 rfl) ?_
  refine px_get (D := D) (ci := 0) (v := .ref (ad 0 1)) (C := xR_De) (T := xT_De) (N := 6) hx hb hT xi_De hown hK.1 hP m_3 c_2 rfl 0 (by decide) (hT _ k6d_10) (fun _ h9 => h9) rfl xd_De_peek_1 ?_
  have hFc := px_free hD hS hA
  obtain ⟨tx_4, fb_4, fe_4, hl1_4, hw2_4, q1_4, q2_4, q3_4, q4_4, hws_4⟩ := id (hLi)
  have c_5 : E 0 1 = .inr (1, [.ref (ad 0 2), .ref (ad 0 3), .ref (ad 0 4), .int (nI len), .int (nI wn)]) := q1_4
  have m_6 : (0, 1) ∈ RL := hmB 1 (by decide)
  have c_7 : E 0 2 = .inl (kA 1, 40, .inl tx_4) := q2_4
  have m_8 : (0, 2) ∈ RL := hmB 2 (by decide)
  have c_9 : E 0 3 = .inl (kA 0, 20, .inl fb_4) := q3_4
  have m_10 : (0, 3) ∈ RL := hmB 3 (by decide)
  have c_11 : E 0 4 = .inl (kA 0, 20, .inl fe_4) := q4_4
  have m_12 : (0, 4) ∈ RL := hmB 4 (by decide)
  refine va_calli (va_runV (As := []) (rest := []) ⟨hx, hb, hml, hown, hT⟩ (xc_Li_takeNameX l D kA s.heap.size ad E RL g ml nd len wn cs (by first | assumption | omega) (by first | assumption | omega)) (cwV 0 hT (wT_V k6d_12 k6d_13 k6d_14 k6d_4 k6d_11) rfl rfl rfl (by decide +kernel) ⟨Nat.le_of_ble_eq_true rfl, Nat.le_of_ble_eq_true rfl⟩) (px_preV hK hP hD m_6 c_5 rfl) rfl rfl hl.1 rfl (lv_room (Nat.le_of_ble_eq_true rfl)) xd_De_peek_4 ⟨(Nat.le_of_ble_eq_true rfl), (Nat.le_of_ble_eq_true rfl)⟩) hS (fun q _ h => hFc q h) hFc (fun r13 u14 t H1 locs ht hvm hp15 hB hz1 hk1 hS => ?_)
  obtain ⟨hP1, hD1⟩ := hB
  rw [ht] at hP1
  have hD1 := hD1.weaken (fun _ _ _ h => hFc _ h)
  generalize H1 = H at hP1 hS ⊢
  have hP := hP1
  have hD := hD1
  obtain ⟨E16, rfl⟩ : ∃ z, z = u14 := ⟨_, rfl⟩
  have hP : va_P D xcl (rp ad E16 RL) H := hP
  have hD : va_D A (rp ad E16 RL) := hD
  obtain ⟨⟨wn17, hCI⟩, hF1, hr9⟩ := hp15
  have hCI : CI kA ad E16 RL ml nd 0 wn17 cs := hCI
  obtain ⟨hmB, hDk, hLi, hSh, hCh, hLa, hDIs, hLIs⟩ := id hCI
  obtain ⟨lf_18, q_18⟩ := id (hDk)
  have c_19 : E16 0 0 = .inr (0, [.ref (ad 0 1), .ref (ad 0 5), .ref (ad 0 7), .ref (ad 0 9), .int (nI ml), .int lf_18]) := q_18
  have m_20 : (0, 0) ∈ RL := hmB 0 (by decide)
  obtain ⟨fd_21, hnd_21, q5_21, q6_21, hds_21⟩ := id (hSh)
  have c_22 : E16 0 5 = .inr (2, [.ref (ad 0 6), .int (nI nd)]) := q5_21
  have m_23 : (0, 5) ∈ RL := hmB 5 (by decide)
  have c_24 : E16 0 6 = .inl (kA 4, 12, .inr (.inr (.inr (.inr fd_21)))) := q6_21
  have m_25 : (0, 6) ∈ RL := hmB 6 (by decide)
  obtain ⟨fl_26, hml_26, q9_26, hla_26⟩ := id (hLa)
  have c_27 : E16 0 9 = .inl (kA 5, 5, .inr (.inr (.inr (.inr fl_26)))) := q9_26
  have m_28 : (0, 9) ∈ RL := hmB 9 (by decide)
  refine lv_istore hx hb xd_De_peek_7 hl (Nat.le_of_ble_eq_true rfl) rfl (fun ls hl => ?_)
  have hl : lv_has ls 8 [(5, .int r13), (0, .ref (ad 0 0)), (1, .int ix), (2, .int kx), (3, .int tx), (4, .int dx)] := hl
  refine lv_aload_n hx hb xd_De_peek_9 rfl (lv_at hl 1 rfl) ?_
  refine lv_iload_n hx hb xd_De_peek_10 rfl (lv_at hl 2 rfl) ?_
  refine lv_iload_n hx hb xd_De_peek_11 rfl (lv_at hl 3 rfl) ?_
  have hFc := px_free hD hS hA
  refine va_callq (va_runV (As := [.int ix, .int kx]) (rest := []) ⟨hx, hb, hml, hown, hT⟩ (xc_De_memberAt l D kA H.size ad E16 RL ml nd 0 wn17 cs ix kx (by first | assumption | omega)) (cwV 2 hT (wT_V k6d_16 k6d_17 k6d_18 k6d_19 k6d_15) rfl rfl rfl (by decide +kernel) ⟨Nat.le_of_ble_eq_true rfl, Nat.le_of_ble_eq_true rfl⟩) (px_preV hK hP hD m_20 c_19 rfl) rfl rfl hl.1 rfl (lv_room (Nat.le_of_ble_eq_true rfl)) xd_De_peek_12 ⟨(Nat.le_of_ble_eq_true rfl), (Nat.le_of_ble_eq_true rfl)⟩) hS (fun q _ h => hFc q h) hFc (fun r29 u30 t H1 locs ht hvm hp31 hB hz1 hk1 hS => ?_)
  obtain ⟨hP1, hD1⟩ := hB
  rw [ht] at hP1
  have hD1 := hD1.weaken (fun _ _ _ h => hFc _ h)
  generalize H1 = H at hP1 hS ⊢
  have hP := hP1
  have hD := hD1
  have hP : va_P D xcl (rp ad E16 RL) H := hP
  have hD : va_D A (rp ad E16 RL) := hD
  rcases hp31 with rfl | ⟨z32, z33, z34, rfl, z35⟩
  · refine W.eq (g2 := F0 m 15 ls [.null]) rfl ?_
    refine lv_astoreN hx hb xd_De_peek_15 hl (Nat.le_of_ble_eq_true rfl) rfl (fun ls hl => ?_)
    have hl : lv_has ls 8 [(6, .null), (5, .int r13), (0, .ref (ad 0 0)), (1, .int ix), (2, .int kx), (3, .int tx), (4, .int dx)] := hl
    refine lv_aload_n hx hb xd_De_peek_17 rfl (lv_at hl 2 rfl) ?_
    refine lv_iload_n hx hb xd_De_peek_18 rfl (lv_at hl 5 rfl) ?_
    refine lv_iload hx hb xd_De_peek_19 (lv_at hl 6 rfl) ?_
    have hFc := px_free hD hS hA
    refine va_callq (va_runV (As := [.int tx, .int dx]) (rest := []) ⟨hx, hb, hml, hown, hT⟩ (xc_De_memberOf l D kA H.size ad E16 RL ml nd 0 wn17 cs tx dx (by first | assumption | omega)) (cwV 2 hT (wT_V k6d_41 k6d_42 k6d_43 k6d_19 k6d_40) rfl rfl rfl (by decide +kernel) ⟨Nat.le_of_ble_eq_true rfl, Nat.le_of_ble_eq_true rfl⟩) (px_preV hK hP hD m_20 c_19 rfl) rfl rfl hl.1 rfl (lv_room (Nat.le_of_ble_eq_true rfl)) xd_De_peek_21 ⟨(Nat.le_of_ble_eq_true rfl), (Nat.le_of_ble_eq_true rfl)⟩) hS (fun q _ h => hFc q h) hFc (fun r36 u37 t H1 locs ht hvm hp38 hB hz1 hk1 hS => ?_)
    obtain ⟨hP1, hD1⟩ := hB
    rw [ht] at hP1
    have hD1 := hD1.weaken (fun _ _ _ h => hFc _ h)
    generalize H1 = H at hP1 hS ⊢
    have hP := hP1
    have hD := hD1
    have hP : va_P D xcl (rp ad E16 RL) H := hP
    have hD : va_D A (rp ad E16 RL) := hD
    rcases hp38 with rfl | ⟨z39, z40, z41, rfl, z42⟩
    · refine W.eq (g2 := F0 m 24 ls [.null]) rfl ?_
      refine lv_astoreN hx hb xd_De_peek_24 hl (Nat.le_of_ble_eq_true rfl) rfl (fun ls hl => ?_)
      have hl : lv_has ls 8 [(7, .null), (6, .null), (5, .int r13), (0, .ref (ad 0 0)), (1, .int ix), (2, .int kx), (3, .int tx), (4, .int dx)] := hl
      refine lv_aloadN hx hb xd_De_peek_26 (lv_at hl 1 rfl) ?_
      refine lv_ifnullN (tgt := 41) hx hb xd_De_peek_28 (by decide) ?_
      exact y_throwA (ik := 56) (is := 161) (wf := fun (u : Nat → Nat → va_E) => rp ad u RL) E16 (⟨⟨wn17, hCI⟩, hF1⟩) (Or.inl rfl) hx hb hlt hown hT hK k6d_20 k6d_21 hZ.2.2.2.1.2.2.2.2.2.2.2.2.2.2.2.2.2.2.2.2.2.1 hZ.1 hS hP hD (hl.1.trans hml.symm) xd_De_peek_41 xd_De_peek_44 xd_De_peek_45 xd_De_peek_47 xd_De_peek_50 htab (Nat.le_of_ble_eq_true rfl) (Nat.le_of_ble_eq_true rfl) (Nat.le_of_ble_eq_true rfl) (Nat.le_of_ble_eq_true rfl) hlocks (Nat.le_of_ble_eq_true rfl) (Nat.le_of_ble_eq_true rfl)
    · refine W.eq (g2 := F0 m 24 ls [.ref (ad (20 + z39) (10 + 10 * z40))]) rfl ?_
      refine lv_astore hx hb xd_De_peek_24 hl (Nat.le_of_ble_eq_true rfl) rfl (fun ls hl => ?_)
      have hl : lv_has ls 8 [(7, .ref (ad (20 + z39) (10 + 10 * z40))), (6, .null), (5, .int r13), (0, .ref (ad 0 0)), (1, .int ix), (2, .int kx), (3, .int tx), (4, .int dx)] := hl
      refine lv_aloadN hx hb xd_De_peek_26 (lv_at hl 1 rfl) ?_
      refine lv_ifnullN (tgt := 41) hx hb xd_De_peek_28 (by decide) ?_
      exact y_throwA (ik := 56) (is := 161) (wf := fun (u : Nat → Nat → va_E) => rp ad u RL) E16 (⟨⟨wn17, hCI⟩, hF1⟩) (Or.inl rfl) hx hb hlt hown hT hK k6d_20 k6d_21 hZ.2.2.2.1.2.2.2.2.2.2.2.2.2.2.2.2.2.2.2.2.2.1 hZ.1 hS hP hD (hl.1.trans hml.symm) xd_De_peek_41 xd_De_peek_44 xd_De_peek_45 xd_De_peek_47 xd_De_peek_50 htab (Nat.le_of_ble_eq_true rfl) (Nat.le_of_ble_eq_true rfl) (Nat.le_of_ble_eq_true rfl) (Nat.le_of_ble_eq_true rfl) hlocks (Nat.le_of_ble_eq_true rfl) (Nat.le_of_ble_eq_true rfl)
  · refine W.eq (g2 := F0 m 15 ls [.ref (ad (20 + z32) (10 + 10 * z33))]) rfl ?_
    refine lv_astore hx hb xd_De_peek_15 hl (Nat.le_of_ble_eq_true rfl) rfl (fun ls hl => ?_)
    have hl : lv_has ls 8 [(6, .ref (ad (20 + z32) (10 + 10 * z33))), (5, .int r13), (0, .ref (ad 0 0)), (1, .int ix), (2, .int kx), (3, .int tx), (4, .int dx)] := hl
    refine lv_aload_n hx hb xd_De_peek_17 rfl (lv_at hl 2 rfl) ?_
    refine lv_iload_n hx hb xd_De_peek_18 rfl (lv_at hl 5 rfl) ?_
    refine lv_iload hx hb xd_De_peek_19 (lv_at hl 6 rfl) ?_
    have hFc := px_free hD hS hA
    refine va_callq (va_runV (As := [.int tx, .int dx]) (rest := []) ⟨hx, hb, hml, hown, hT⟩ (xc_De_memberOf l D kA H.size ad E16 RL ml nd 0 wn17 cs tx dx (by first | assumption | omega)) (cwV 2 hT (wT_V k6d_41 k6d_42 k6d_43 k6d_19 k6d_40) rfl rfl rfl (by decide +kernel) ⟨Nat.le_of_ble_eq_true rfl, Nat.le_of_ble_eq_true rfl⟩) (px_preV hK hP hD m_20 c_19 rfl) rfl rfl hl.1 rfl (lv_room (Nat.le_of_ble_eq_true rfl)) xd_De_peek_21 ⟨(Nat.le_of_ble_eq_true rfl), (Nat.le_of_ble_eq_true rfl)⟩) hS (fun q _ h => hFc q h) hFc (fun r43 u44 t H1 locs ht hvm hp45 hB hz1 hk1 hS => ?_)
    obtain ⟨hP1, hD1⟩ := hB
    rw [ht] at hP1
    have hD1 := hD1.weaken (fun _ _ _ h => hFc _ h)
    generalize H1 = H at hP1 hS ⊢
    have hP := hP1
    have hD := hD1
    have hP : va_P D xcl (rp ad E16 RL) H := hP
    have hD : va_D A (rp ad E16 RL) := hD
    rcases hp45 with rfl | ⟨z46, z47, z48, rfl, z49⟩
    · refine W.eq (g2 := F0 m 24 ls [.null]) rfl ?_
      refine lv_astoreN hx hb xd_De_peek_24 hl (Nat.le_of_ble_eq_true rfl) rfl (fun ls hl => ?_)
      have hl : lv_has ls 8 [(7, .null), (6, .ref (ad (20 + z32) (10 + 10 * z33))), (5, .int r13), (0, .ref (ad 0 0)), (1, .int ix), (2, .int kx), (3, .int tx), (4, .int dx)] := hl
      refine lv_aload hx hb xd_De_peek_26 (lv_at hl 1 rfl) ?_
      refine lv_ifnull hx hb xd_De_peek_28 ?_
      refine lv_aloadN hx hb xd_De_peek_31 (lv_at hl 0 rfl) ?_
      refine lv_ifnullN (tgt := 41) hx hb xd_De_peek_33 (by decide) ?_
      exact y_throwA (ik := 56) (is := 161) (wf := fun (u : Nat → Nat → va_E) => rp ad u RL) E16 (⟨⟨wn17, hCI⟩, hF1⟩) (Or.inl rfl) hx hb hlt hown hT hK k6d_20 k6d_21 hZ.2.2.2.1.2.2.2.2.2.2.2.2.2.2.2.2.2.2.2.2.2.1 hZ.1 hS hP hD (hl.1.trans hml.symm) xd_De_peek_41 xd_De_peek_44 xd_De_peek_45 xd_De_peek_47 xd_De_peek_50 htab (Nat.le_of_ble_eq_true rfl) (Nat.le_of_ble_eq_true rfl) (Nat.le_of_ble_eq_true rfl) (Nat.le_of_ble_eq_true rfl) hlocks (Nat.le_of_ble_eq_true rfl) (Nat.le_of_ble_eq_true rfl)
    · refine W.eq (g2 := F0 m 24 ls [.ref (ad (20 + z46) (10 + 10 * z47))]) rfl ?_
      refine lv_astore hx hb xd_De_peek_24 hl (Nat.le_of_ble_eq_true rfl) rfl (fun ls hl => ?_)
      have hl : lv_has ls 8 [(7, .ref (ad (20 + z46) (10 + 10 * z47))), (6, .ref (ad (20 + z32) (10 + 10 * z33))), (5, .int r13), (0, .ref (ad 0 0)), (1, .int ix), (2, .int kx), (3, .int tx), (4, .int dx)] := hl
      refine lv_aload hx hb xd_De_peek_26 (lv_at hl 1 rfl) ?_
      refine lv_ifnull hx hb xd_De_peek_28 ?_
      refine lv_aload hx hb xd_De_peek_31 (lv_at hl 0 rfl) ?_
      refine lv_ifnull hx hb xd_De_peek_33 ?_
      refine lv_iload hx hb xd_De_peek_36 (lv_at hl 2 rfl) ?_
      refine lv_if_ne (tgt := 51) hx hb xd_De_peek_38 (by decide) (fun hc50 => ?_) (fun hc50 => ?_)
      · refine lv_aload hx hb xd_De_peek_51 (lv_at hl 0 rfl) ?_
        obtain ⟨hm_51, d_51, rs_51, fr_51, g2_51, g3_51, g4_51, hd_51, hrs_51, q0_51, q1_51, q2_51, q3_51, q4_51, q5_51, q6_51, q7_51⟩ := id z49
        have c_52 : E16 (20 + z46) (10 + 10 * z47) = .inr (6, [.ref (ad (20 + z46) 0), .ref (ad (1 + d_51) 0), .ref (ad (20 + z46) (11 + 10 * z47)), .ref (ad (20 + z46) (12 + 10 * z47)), .ref (ad (20 + z46) (13 + 10 * z47)), .ref (ad (20 + z46) (14 + 10 * z47))]) := q0_51
        have m_53 : (20 + z46, 10 + 10 * z47) ∈ RL := hm_51 0 (by decide)
        have c_54 : E16 (20 + z46) (11 + 10 * z47) = .inl (kA 6, rs_51, .inr (.inr (.inr (.inr fr_51)))) := q1_51
        have m_55 : (20 + z46, 11 + 10 * z47) ∈ RL := hm_51 1 (by decide)
        have c_56 : E16 (20 + z46) (12 + 10 * z47) = .inr (10, [.ref (ad (20 + z46) (15 + 10 * z47))]) := q2_51
        have m_57 : (20 + z46, 12 + 10 * z47) ∈ RL := hm_51 2 (by decide)
        have c_58 : E16 (20 + z46) (13 + 10 * z47) = .inr (10, [.ref (ad (20 + z46) (16 + 10 * z47))]) := q3_51
        have m_59 : (20 + z46, 13 + 10 * z47) ∈ RL := hm_51 3 (by decide)
        have c_60 : E16 (20 + z46) (14 + 10 * z47) = .inr (10, [.ref (ad (20 + z46) (17 + 10 * z47))]) := q4_51
        have m_61 : (20 + z46, 14 + 10 * z47) ∈ RL := hm_51 4 (by decide)
        have c_62 : E16 (20 + z46) (15 + 10 * z47) = .inl (kA 0, 6, .inl g2_51) := q5_51
        have m_63 : (20 + z46, 15 + 10 * z47) ∈ RL := hm_51 5 (by decide)
        have c_64 : E16 (20 + z46) (16 + 10 * z47) = .inl (kA 0, 6, .inl g3_51) := q6_51
        have m_65 : (20 + z46, 16 + 10 * z47) ∈ RL := hm_51 6 (by decide)
        have c_66 : E16 (20 + z46) (17 + 10 * z47) = .inl (kA 0, 6, .inl g4_51) := q7_51
        have m_67 : (20 + z46, 17 + 10 * z47) ∈ RL := hm_51 7 (by decide)
        refine px_get (D := D) (ci := 6) (v := .ref (ad (1 + d_51) 0)) (C := xR_Me) (T := xT_Me) (N := 6) hx hb hT xi_Me hown hK.1 hP m_53 c_52 rfl 1 (by decide) (hT _ k6d_22) (fun _ h9 => h9) rfl xd_De_peek_53 ?_
        obtain ⟨hm_68, fd_68, nm_68, sd_68, k0_68, k1_68, k2_68, k3_68, f0_68, f1_68, f2_68, f3_68, fe_68, fo_68, tr_68, op_68, hk0_68, hk1_68, hk2_68, hk3_68, q0_68, q1_68, q2_68, q3_68, q4_68, q5_68, q6_68, q7_68, q8_68, q9_68, q10_68, q11_68, q12_68, hg_68⟩ := id (hDIs d_51 (by omega))
        have c_69 : E16 (1 + d_51) 0 = .inr (7, [.int (nI d_51), .int fd_68, .int nm_68, .ref (ad (1 + d_51) 1), .ref (ad (1 + d_51) 9), .ref (ad (1 + d_51) 10), .ref (ad (1 + d_51) 2), .ref (ad (1 + d_51) 11), .ref (ad (1 + d_51) 12), .ref (ad (1 + d_51) 3), .ref (ad (1 + d_51) 4), .int sd_68]) := q0_68
        have m_70 : (1 + d_51, 0) ∈ RL := hm_68 0 (by decide)
        have c_71 : E16 (1 + d_51) 1 = .inr (8, [.ref (ad (1 + d_51) 5), .int (nI k0_68)]) := q1_68
        have m_72 : (1 + d_51, 1) ∈ RL := hm_68 1 (by decide)
        have c_73 : E16 (1 + d_51) 2 = .inr (8, [.ref (ad (1 + d_51) 6), .int (nI k1_68)]) := q2_68
        have m_74 : (1 + d_51, 2) ∈ RL := hm_68 2 (by decide)
        have c_75 : E16 (1 + d_51) 3 = .inr (8, [.ref (ad (1 + d_51) 7), .int (nI k2_68)]) := q3_68
        have m_76 : (1 + d_51, 3) ∈ RL := hm_68 3 (by decide)
        have c_77 : E16 (1 + d_51) 4 = .inr (8, [.ref (ad (1 + d_51) 8), .int (nI k3_68)]) := q4_68
        have m_78 : (1 + d_51, 4) ∈ RL := hm_68 4 (by decide)
        have c_79 : E16 (1 + d_51) 5 = .inl (kA 0, 6, .inl f0_68) := q5_68
        have m_80 : (1 + d_51, 5) ∈ RL := hm_68 5 (by decide)
        have c_81 : E16 (1 + d_51) 6 = .inl (kA 0, 5, .inl f1_68) := q6_68
        have m_82 : (1 + d_51, 6) ∈ RL := hm_68 6 (by decide)
        have c_83 : E16 (1 + d_51) 7 = .inl (kA 0, 3, .inl f2_68) := q7_68
        have m_84 : (1 + d_51, 7) ∈ RL := hm_68 7 (by decide)
        have c_85 : E16 (1 + d_51) 8 = .inl (kA 0, 3, .inl f3_68) := q8_68
        have m_86 : (1 + d_51, 8) ∈ RL := hm_68 8 (by decide)
        have c_87 : E16 (1 + d_51) 9 = .inl (kA 8, 6, .inr (.inr (.inr (.inr fe_68)))) := q9_68
        have m_88 : (1 + d_51, 9) ∈ RL := hm_68 9 (by decide)
        have c_89 : E16 (1 + d_51) 10 = .inl (kA 8, 6, .inr (.inr (.inr (.inr fo_68)))) := q10_68
        have m_90 : (1 + d_51, 10) ∈ RL := hm_68 10 (by decide)
        have c_91 : E16 (1 + d_51) 11 = .inl (kA 2, 5, .inl tr_68) := q11_68
        have m_92 : (1 + d_51, 11) ∈ RL := hm_68 11 (by decide)
        have c_93 : E16 (1 + d_51) 12 = .inl (kA 2, 5, .inl op_68) := q12_68
        have m_94 : (1 + d_51, 12) ∈ RL := hm_68 12 (by decide)
        have hg_68 : ∀ w9, w9 < k0_68 → fe_68 w9 = some (ad (1 + d_51) (20 + 3 * w9)) ∧ fo_68 w9 = some (ad (1 + d_51) (38 + 3 * w9)) ∧ GI kA (ad (1 + d_51)) (E16 (1 + d_51)) (fun o => (1 + d_51, o) ∈ RL) (20 + 3 * w9) (21 + 3 * w9) (22 + 3 * w9) ∧ GI kA (ad (1 + d_51)) (E16 (1 + d_51)) (fun o => (1 + d_51, o) ∈ RL) (38 + 3 * w9) (39 + 3 * w9) (40 + 3 * w9) := hg_68
        refine px_get (D := D) (ci := 7) (v := .ref (ad (1 + d_51) 1)) (C := xR_Ds) (T := xT_Ds) (N := 12) hx hb hT xi_Ds hown hK.1 hP m_70 c_69 rfl 3 (by decide) (hT _ k6d_23) (fun _ h9 => h9) rfl xd_De_peek_56 ?_
        refine lv_iload hx hb xd_De_peek_59 (lv_at hl 2 rfl) ?_
        have hFc := px_free hD hS hA
        refine va_calli (va_runV (As := [.int r13]) (rest := []) ⟨hx, hb, hml, hown, hT⟩ (xc_Na_holds l D kA H.size ad E16 RL (1 + d_51) 1 5 6 k0_68 f0_68 r13 m_72 c_71 m_80 c_79 (by first | assumption | omega) (by first | assumption | omega)) (cwV 1 hT (wT_V k6d_25 k6d_26 k6d_27 k6d_28 k6d_24) rfl rfl rfl (by decide +kernel) ⟨Nat.le_of_ble_eq_true rfl, Nat.le_of_ble_eq_true rfl⟩) (px_preV hK hP hD m_72 c_71 rfl) rfl rfl hl.1 rfl (lv_room (Nat.le_of_ble_eq_true rfl)) xd_De_peek_61 ⟨(Nat.le_of_ble_eq_true rfl), (Nat.le_of_ble_eq_true rfl)⟩) hS (fun q _ h => hFc q h) hFc (fun r95 u96 t H1 locs ht hvm hp97 hB hz1 hk1 hS => ?_)
        obtain ⟨hP1, hD1⟩ := hB
        rw [ht] at hP1
        have hD1 := hD1.weaken (fun _ _ _ h => hFc _ h)
        generalize H1 = H at hP1 hS ⊢
        have hP := hP1
        have hD := hD1
        have hP : va_P D xcl (rp ad E16 RL) H := hP
        have hD : va_D A (rp ad E16 RL) := hD
        rcases hp97 with ⟨rfl, z98, z99, z100⟩ | ⟨rfl, z101⟩
        · refine W.eq (g2 := F0 m 64 ls [.int 1]) rfl ?_
          refine lv_if_ne (tgt := 77) hx hb xd_De_peek_64 (by decide) (fun _ => ?_) (fun hc102 => absurd hc102 (by decide))
          refine lv_aload hx hb xd_De_peek_77 (lv_at hl 1 rfl) ?_
          refine lv_aload hx hb xd_De_peek_79 (lv_at hl 0 rfl) ?_
          refine lv_acmp_eq (rx := (some (ad (20 + z32) (10 + 10 * z33)))) (ry := (some (ad (20 + z46) (10 + 10 * z47)))) (tgt := 118) hx hb xd_De_peek_81 (by decide) (fun hc103 => ?_) (fun hc103 => ?_)
          · refine lv_iconst (v := 1) hx hb xd_De_peek_118 (by decide) ?_
            refine lv_goto (tgt := 123) hx hb xd_De_peek_119 (by decide) ?_
            refine W.widen (k := 1) (n := 6) (Nat.le_of_ble_eq_true rfl) (Nat.le_of_ble_eq_true rfl) ?_
            refine vx_ret ?_
            exact W.zret (v := 1) hx hb hr rfl (fun t ht hW => ⟨⟨1, E16, rfl, ⟨⟨wn17, hCI⟩, hF1⟩, by rw [ht]; exact hP, hD⟩, hS.F ht⟩) hS.2.2 xd_De_peek_123
          · refine lv_aload hx hb xd_De_peek_84 (lv_at hl 1 rfl) ?_
            obtain ⟨hm_104, d_104, rs_104, fr_104, g2_104, g3_104, g4_104, hd_104, hrs_104, q0_104, q1_104, q2_104, q3_104, q4_104, q5_104, q6_104, q7_104⟩ := id z35
            have c_105 : E16 (20 + z32) (10 + 10 * z33) = .inr (6, [.ref (ad (20 + z32) 0), .ref (ad (1 + d_104) 0), .ref (ad (20 + z32) (11 + 10 * z33)), .ref (ad (20 + z32) (12 + 10 * z33)), .ref (ad (20 + z32) (13 + 10 * z33)), .ref (ad (20 + z32) (14 + 10 * z33))]) := q0_104
            have m_106 : (20 + z32, 10 + 10 * z33) ∈ RL := hm_104 0 (by decide)
            have c_107 : E16 (20 + z32) (11 + 10 * z33) = .inl (kA 6, rs_104, .inr (.inr (.inr (.inr fr_104)))) := q1_104
            have m_108 : (20 + z32, 11 + 10 * z33) ∈ RL := hm_104 1 (by decide)
            have c_109 : E16 (20 + z32) (12 + 10 * z33) = .inr (10, [.ref (ad (20 + z32) (15 + 10 * z33))]) := q2_104
            have m_110 : (20 + z32, 12 + 10 * z33) ∈ RL := hm_104 2 (by decide)
            have c_111 : E16 (20 + z32) (13 + 10 * z33) = .inr (10, [.ref (ad (20 + z32) (16 + 10 * z33))]) := q3_104
            have m_112 : (20 + z32, 13 + 10 * z33) ∈ RL := hm_104 3 (by decide)
            have c_113 : E16 (20 + z32) (14 + 10 * z33) = .inr (10, [.ref (ad (20 + z32) (17 + 10 * z33))]) := q4_104
            have m_114 : (20 + z32, 14 + 10 * z33) ∈ RL := hm_104 4 (by decide)
            have c_115 : E16 (20 + z32) (15 + 10 * z33) = .inl (kA 0, 6, .inl g2_104) := q5_104
            have m_116 : (20 + z32, 15 + 10 * z33) ∈ RL := hm_104 5 (by decide)
            have c_117 : E16 (20 + z32) (16 + 10 * z33) = .inl (kA 0, 6, .inl g3_104) := q6_104
            have m_118 : (20 + z32, 16 + 10 * z33) ∈ RL := hm_104 6 (by decide)
            have c_119 : E16 (20 + z32) (17 + 10 * z33) = .inl (kA 0, 6, .inl g4_104) := q7_104
            have m_120 : (20 + z32, 17 + 10 * z33) ∈ RL := hm_104 7 (by decide)
            refine px_get (D := D) (ci := 6) (v := .ref (ad (20 + z32) (14 + 10 * z33))) (C := xR_Me) (T := xT_Me) (N := 6) hx hb hT xi_Me hown hK.1 hP m_106 c_105 rfl 5 (by decide) (hT _ k6d_44) (fun _ h9 => h9) rfl xd_De_peek_86 ?_
            refine lv_aload hx hb xd_De_peek_89 (lv_at hl 0 rfl) ?_
            obtain ⟨m0_121, m1_121, pv_121, op_121, mk_121, fm_121, hmk_121, hpv_121, q0_121, q1_121, hk_121⟩ := id (hLIs z46 (by omega))
            have c_122 : E16 (20 + z46) 0 = .inr (5, [.int (nI z46), pv_121, .ref (ad (20 + z46) 1), .int op_121]) := q0_121
            have m_123 : (20 + z46, 0) ∈ RL := m0_121
            have c_124 : E16 (20 + z46) 1 = .inl (kA 6, mk_121, .inr (.inr (.inr (.inr fm_121)))) := q1_121
            have m_125 : (20 + z46, 1) ∈ RL := m1_121
            have hFc := px_free hD hS hA
            refine va_calli (va_runV (As := [.ref (ad (20 + z46) (10 + 10 * z47))]) (rest := []) ⟨hx, hb, hml, hown, hT⟩ (xc_Re_marks l D kA H.size ad E16 RL (20 + z32) (14 + 10 * z33) (17 + 10 * z33) g4_104 z46 z47 d_51 pv_121 op_121 fd_68 nm_68 sd_68 m_114 c_113 m_120 c_119 m_53 c_52 m_123 c_122 m_70 c_69 (by first | assumption | omega)) (cwV 1 hT (wT_V k6d_46 k6d_47 k6d_48 k6d_49 k6d_45) rfl rfl rfl (by decide +kernel) ⟨Nat.le_of_ble_eq_true rfl, Nat.le_of_ble_eq_true rfl⟩) (px_preV hK hP hD m_114 c_113 rfl) rfl rfl hl.1 rfl (lv_room (Nat.le_of_ble_eq_true rfl)) xd_De_peek_91 ⟨(Nat.le_of_ble_eq_true rfl), (Nat.le_of_ble_eq_true rfl)⟩) hS (fun q _ h => hFc q h) hFc (fun r126 u127 t H1 locs ht hvm hp128 hB hz1 hk1 hS => ?_)
            obtain ⟨hP1, hD1⟩ := hB
            rw [ht] at hP1
            have hD1 := hD1.weaken (fun _ _ _ h => hFc _ h)
            generalize H1 = H at hP1 hS ⊢
            have hP := hP1
            have hD := hD1
            have hP : va_P D xcl (rp ad E16 RL) H := hP
            have hD : va_D A (rp ad E16 RL) := hD
            rcases hp128 with ⟨rfl, z129⟩ | ⟨rfl, z130⟩
            · refine W.eq (g2 := F0 m 94 ls [.int 1]) rfl ?_
              refine lv_if_eq (tgt := 122) hx hb xd_De_peek_94 (by decide) (fun hc131 => absurd hc131 (by decide)) (fun _ => ?_)
              refine lv_aload hx hb xd_De_peek_97 (lv_at hl 0 rfl) ?_
              refine px_get (D := D) (ci := 6) (v := .ref (ad (1 + d_51) 0)) (C := xR_Me) (T := xT_Me) (N := 6) hx hb hT xi_Me hown hK.1 hP m_53 c_52 rfl 1 (by decide) (hT _ k6d_22) (fun _ h9 => h9) rfl xd_De_peek_99 ?_
              refine lv_iload hx hb xd_De_peek_102 (lv_at hl 2 rfl) ?_
              refine lv_aload hx hb xd_De_peek_104 (lv_at hl 1 rfl) ?_
              refine px_get (D := D) (ci := 6) (v := .ref (ad (1 + d_104) 0)) (C := xR_Me) (T := xT_Me) (N := 6) hx hb hT xi_Me hown hK.1 hP m_106 c_105 rfl 1 (by decide) (hT _ k6d_22) (fun _ h9 => h9) rfl xd_De_peek_106 ?_
              obtain ⟨hm_132, fd_132, nm_132, sd_132, k0_132, k1_132, k2_132, k3_132, f0_132, f1_132, f2_132, f3_132, fe_132, fo_132, tr_132, op_132, hk0_132, hk1_132, hk2_132, hk3_132, q0_132, q1_132, q2_132, q3_132, q4_132, q5_132, q6_132, q7_132, q8_132, q9_132, q10_132, q11_132, q12_132, hg_132⟩ := id (hDIs d_104 (by omega))
              have c_133 : E16 (1 + d_104) 0 = .inr (7, [.int (nI d_104), .int fd_132, .int nm_132, .ref (ad (1 + d_104) 1), .ref (ad (1 + d_104) 9), .ref (ad (1 + d_104) 10), .ref (ad (1 + d_104) 2), .ref (ad (1 + d_104) 11), .ref (ad (1 + d_104) 12), .ref (ad (1 + d_104) 3), .ref (ad (1 + d_104) 4), .int sd_132]) := q0_132
              have m_134 : (1 + d_104, 0) ∈ RL := hm_132 0 (by decide)
              have c_135 : E16 (1 + d_104) 1 = .inr (8, [.ref (ad (1 + d_104) 5), .int (nI k0_132)]) := q1_132
              have m_136 : (1 + d_104, 1) ∈ RL := hm_132 1 (by decide)
              have c_137 : E16 (1 + d_104) 2 = .inr (8, [.ref (ad (1 + d_104) 6), .int (nI k1_132)]) := q2_132
              have m_138 : (1 + d_104, 2) ∈ RL := hm_132 2 (by decide)
              have c_139 : E16 (1 + d_104) 3 = .inr (8, [.ref (ad (1 + d_104) 7), .int (nI k2_132)]) := q3_132
              have m_140 : (1 + d_104, 3) ∈ RL := hm_132 3 (by decide)
              have c_141 : E16 (1 + d_104) 4 = .inr (8, [.ref (ad (1 + d_104) 8), .int (nI k3_132)]) := q4_132
              have m_142 : (1 + d_104, 4) ∈ RL := hm_132 4 (by decide)
              have c_143 : E16 (1 + d_104) 5 = .inl (kA 0, 6, .inl f0_132) := q5_132
              have m_144 : (1 + d_104, 5) ∈ RL := hm_132 5 (by decide)
              have c_145 : E16 (1 + d_104) 6 = .inl (kA 0, 5, .inl f1_132) := q6_132
              have m_146 : (1 + d_104, 6) ∈ RL := hm_132 6 (by decide)
              have c_147 : E16 (1 + d_104) 7 = .inl (kA 0, 3, .inl f2_132) := q7_132
              have m_148 : (1 + d_104, 7) ∈ RL := hm_132 7 (by decide)
              have c_149 : E16 (1 + d_104) 8 = .inl (kA 0, 3, .inl f3_132) := q8_132
              have m_150 : (1 + d_104, 8) ∈ RL := hm_132 8 (by decide)
              have c_151 : E16 (1 + d_104) 9 = .inl (kA 8, 6, .inr (.inr (.inr (.inr fe_132)))) := q9_132
              have m_152 : (1 + d_104, 9) ∈ RL := hm_132 9 (by decide)
              have c_153 : E16 (1 + d_104) 10 = .inl (kA 8, 6, .inr (.inr (.inr (.inr fo_132)))) := q10_132
              have m_154 : (1 + d_104, 10) ∈ RL := hm_132 10 (by decide)
              have c_155 : E16 (1 + d_104) 11 = .inl (kA 2, 5, .inl tr_132) := q11_132
              have m_156 : (1 + d_104, 11) ∈ RL := hm_132 11 (by decide)
              have c_157 : E16 (1 + d_104) 12 = .inl (kA 2, 5, .inl op_132) := q12_132
              have m_158 : (1 + d_104, 12) ∈ RL := hm_132 12 (by decide)
              have hg_132 : ∀ w9, w9 < k0_132 → fe_132 w9 = some (ad (1 + d_104) (20 + 3 * w9)) ∧ fo_132 w9 = some (ad (1 + d_104) (38 + 3 * w9)) ∧ GI kA (ad (1 + d_104)) (E16 (1 + d_104)) (fun o => (1 + d_104, o) ∈ RL) (20 + 3 * w9) (21 + 3 * w9) (22 + 3 * w9) ∧ GI kA (ad (1 + d_104)) (E16 (1 + d_104)) (fun o => (1 + d_104, o) ∈ RL) (38 + 3 * w9) (39 + 3 * w9) (40 + 3 * w9) := hg_132
              refine px_get (D := D) (ci := 7) (v := .int nm_132) (C := xR_Ds) (T := xT_Ds) (N := 12) hx hb hT xi_Ds hown hK.1 hP m_134 c_133 rfl 2 (by decide) (hT _ k6d_50) (fun _ h9 => h9) rfl xd_De_peek_109 ?_
              have hFc := px_free hD hS hA
              refine va_calli (va_runV (As := [.int r13, .int nm_132]) (rest := []) ⟨hx, hb, hml, hown, hT⟩ (xc_Ds_opensTo l D kA H.size ad E16 RL nd d_51 r13 nm_132 (by first | assumption | omega) (by first | assumption | omega)) (cwV 2 hT (wT_V k6d_52 k6d_53 k6d_54 k6d_55 k6d_51) rfl rfl rfl (by decide +kernel) ⟨Nat.le_of_ble_eq_true rfl, Nat.le_of_ble_eq_true rfl⟩) (px_preV hK hP hD m_70 c_69 rfl) rfl rfl hl.1 rfl (lv_room (Nat.le_of_ble_eq_true rfl)) xd_De_peek_112 ⟨(Nat.le_of_ble_eq_true rfl), (Nat.le_of_ble_eq_true rfl)⟩) hS (fun q _ h => hFc q h) hFc (fun r159 u160 t H1 locs ht hvm hp161 hB hz1 hk1 hS => ?_)
              obtain ⟨hP1, hD1⟩ := hB
              rw [ht] at hP1
              have hD1 := hD1.weaken (fun _ _ _ h => hFc _ h)
              generalize H1 = H at hP1 hS ⊢
              have hP := hP1
              have hD := hD1
              have hP : va_P D xcl (rp ad E16 RL) H := hP
              have hD : va_D A (rp ad E16 RL) := hD
              rcases hp161 with rfl | rfl
              · refine W.eq (g2 := F0 m 115 ls [.int 0]) rfl ?_
                refine lv_if_eq (tgt := 122) hx hb xd_De_peek_115 (by decide) (fun _ => ?_) (fun hc162 => absurd (by decide) hc162)
                refine lv_iconst (v := 0) hx hb xd_De_peek_122 (by decide) ?_
                refine W.widen (k := 1) (n := 6) (Nat.le_of_ble_eq_true rfl) (Nat.le_of_ble_eq_true rfl) ?_
                refine vx_ret ?_
                exact W.zret (v := 0) hx hb hr rfl (fun t ht hW => ⟨⟨0, E16, rfl, ⟨⟨wn17, hCI⟩, hF1⟩, by rw [ht]; exact hP, hD⟩, hS.F ht⟩) hS.2.2 xd_De_peek_123
              · refine W.eq (g2 := F0 m 115 ls [.int 1]) rfl ?_
                refine lv_if_eq (tgt := 122) hx hb xd_De_peek_115 (by decide) (fun hc163 => absurd hc163 (by decide)) (fun _ => ?_)
                refine lv_iconst (v := 1) hx hb xd_De_peek_118 (by decide) ?_
                refine lv_goto (tgt := 123) hx hb xd_De_peek_119 (by decide) ?_
                refine W.widen (k := 1) (n := 6) (Nat.le_of_ble_eq_true rfl) (Nat.le_of_ble_eq_true rfl) ?_
                refine vx_ret ?_
                exact W.zret (v := 1) hx hb hr rfl (fun t ht hW => ⟨⟨1, E16, rfl, ⟨⟨wn17, hCI⟩, hF1⟩, by rw [ht]; exact hP, hD⟩, hS.F ht⟩) hS.2.2 xd_De_peek_123
            · refine W.eq (g2 := F0 m 94 ls [.int 0]) rfl ?_
              refine lv_if_eq (tgt := 122) hx hb xd_De_peek_94 (by decide) (fun _ => ?_) (fun hc164 => absurd (by decide) hc164)
              refine lv_iconst (v := 0) hx hb xd_De_peek_122 (by decide) ?_
              refine W.widen (k := 1) (n := 6) (Nat.le_of_ble_eq_true rfl) (Nat.le_of_ble_eq_true rfl) ?_
              refine vx_ret ?_
              exact W.zret (v := 0) hx hb hr rfl (fun t ht hW => ⟨⟨0, E16, rfl, ⟨⟨wn17, hCI⟩, hF1⟩, by rw [ht]; exact hP, hD⟩, hS.F ht⟩) hS.2.2 xd_De_peek_123
        · refine W.eq (g2 := F0 m 64 ls [.int 0]) rfl ?_
          refine lv_if_ne (tgt := 77) hx hb xd_De_peek_64 (by decide) (fun hc165 => absurd (by decide) hc165) (fun _ => ?_)
          exact y_throwC (ik := 89) (is := 181) (wf := fun (u : Nat → Nat → va_E) => rp ad u RL) E16 (⟨⟨wn17, hCI⟩, hF1⟩) (Or.inr rfl) hx hb hlt hown hT hK k6d_38 k6d_39 hZ.2.2.2.1.2.2.2.2.2.2.2.2.2.2.2.2.2.2.2.2.2.2.2.1 hZ.1 hS hP hD (hl.1.trans hml.symm) xd_De_peek_67 xd_De_peek_70 xd_De_peek_71 xd_De_peek_73 xd_De_peek_76 htab (Nat.le_of_ble_eq_true rfl) (Nat.le_of_ble_eq_true rfl) (Nat.le_of_ble_eq_true rfl) (Nat.le_of_ble_eq_true rfl) hlocks (Nat.le_of_ble_eq_true rfl) (Nat.le_of_ble_eq_true rfl)
      · exact y_throwA (ik := 56) (is := 161) (wf := fun (u : Nat → Nat → va_E) => rp ad u RL) E16 (⟨⟨wn17, hCI⟩, hF1⟩) (Or.inl rfl) hx hb hlt hown hT hK k6d_20 k6d_21 hZ.2.2.2.1.2.2.2.2.2.2.2.2.2.2.2.2.2.2.2.2.2.1 hZ.1 hS hP hD (hl.1.trans hml.symm) xd_De_peek_41 xd_De_peek_44 xd_De_peek_45 xd_De_peek_47 xd_De_peek_50 htab (Nat.le_of_ble_eq_true rfl) (Nat.le_of_ble_eq_true rfl) (Nat.le_of_ble_eq_true rfl) (Nat.le_of_ble_eq_true rfl) hlocks (Nat.le_of_ble_eq_true rfl) (Nat.le_of_ble_eq_true rfl)
set_option maxHeartbeats 4000000 in
set_option maxRecDepth 100000 in
theorem xc_De_providerK (l : Launch) (hlt : l.stackTraces = false) (D : va_G) (kA : Nat → ClassId) (sz : Nat) (ad : Nat → Nat → Nat) (E : Nat → Nat → va_E) (RL : List (Nat × Nat)) (Z : zT) (g : Nat → Nat → Int32) (ml : Nat) (nd : Nat) (len : Nat) (wn : Nat) (cs : Nat) (ix : Int32) (kx : Int32) (hCI : CI kA ad E RL ml nd len wn cs) (hTX : ∀ i, i < len → eA (E 0 2) i = g 0 i) : vx_Met l xy_De_provider (.code xy_De_provider xb_De_provider 6 (some .int) :: wT) { frames := 6, cells := 1, slots := 6, locals := 82 } (va_Pc [.ref (ad 0 0), .int ix, .int kx] (xPreZ D kA sz (rp ad E RL) Z)) (va_Qi (fun (r : Int32) (u : Nat → Nat → va_E) => (∃ wn2, CI kA ad u RL ml nd 0 wn2 cs) ∧ F134 E u) (fun (u : Nat → Nat → va_E) t => va_P D xcl (rp ad u RL) t.heap ∧ va_D (va_A (rp ad E RL) sz) (rp ad u RL)) (va_A (rp ad E RL) sz)) (vx_X (fun (u : Nat → Nat → va_E) => (∃ wn2, CI kA ad u RL ml nd 0 wn2 cs) ∧ F134 E u) (fun E9 u t => (E9 = "java/lang/IllegalArgumentException") ∧ va_P D xcl (rp ad u RL) t.heap ∧ va_D (va_A (rp ad E RL) sz) (rp ad u RL)) (va_A (rp ad E RL) sz)) 1 6 (va_A (rp ad E RL) sz) := by
  refine vx_ofW (cc := xb_De_provider) (maxL := 6) (ret := (some .int)) (by decide) rfl ?_
  intro p e s m args below meth c s₁ B hml htab hv
  obtain ⟨rfl, ⟨hsz, hP, hK, hD0⟩, hZ⟩ := hv
  have hx := B.exec
  have hb := B.bytes
  have hr := B.returns
  have hT := x_hT B.pre
  have hown : s.vm.findClass xR_De = some m.cls := findClass_of_methodNamed B.named
  have hlocks := B.notSynchronized
  subst hsz
  have hD := hD0.self (sz := s.heap.size)
  generalize hAe : va_A (rp ad E RL) s.heap.size = A at hD hZ ⊢
  have hA : ∀ q : Nat, s.heap.size ≤ q → A q := fun q h => by rw [← hAe]; exact Or.inr h
  have hS : va_S A s.heap s.heap [] := va_S.rf
  have hl := lv_entry ([.ref (ad 0 0), .int ix, .int kx]) (n := 6) (Nat.le_of_ble_eq_true rfl)
  rw [lg_entry_eq]
  generalize (lg_sl ([.ref (ad 0 0), .int ix, .int kx]) ++ List.replicate (6 - (lg_sl ([.ref (ad 0 0), .int ix, .int kx])).length) Slot.unset).toArray = ls at hl ⊢
  have hl : lv_has ls 6 [(0, .ref (ad 0 0)), (1, .int ix), (2, .int kx)] := hl
  have hP : va_P D xcl (rp ad E RL) s.heap := hP
  obtain ⟨hmB, hDk, hLi, hSh, hCh, hLa, hDIs, hLIs⟩ := id hCI
  obtain ⟨lf_1, q_1⟩ := id (hDk)
  have c_2 : E 0 0 = .inr (0, [.ref (ad 0 1), .ref (ad 0 5), .ref (ad 0 7), .ref (ad 0 9), .int (nI ml), .int lf_1]) := q_1
  have m_3 : (0, 0) ∈ RL := hmB 0 (by decide)
  refine lv_aload_n hx hb xd_De_provider_0 rfl (lv_at hl 0 rfl) ?_
  refine px_get (D := D) (ci := 0) (v := .ref (ad 0 1)) (C := xR_De) (T := xT_De) (N := 6) hx hb hT xi_De hown hK.1 hP m_3 c_2 rfl 0 (by decide) (hT _ k6d_10) (fun _ h9 => h9) rfl xd_De_provider_1 ?_
  have hFc := px_free hD hS hA
  obtain ⟨tx_4, fb_4, fe_4, hl1_4, hw2_4, q1_4, q2_4, q3_4, q4_4, hws_4⟩ := id (hLi)
  have c_5 : E 0 1 = .inr (1, [.ref (ad 0 2), .ref (ad 0 3), .ref (ad 0 4), .int (nI len), .int (nI wn)]) := q1_4
  have m_6 : (0, 1) ∈ RL := hmB 1 (by decide)
  have c_7 : E 0 2 = .inl (kA 1, 40, .inl tx_4) := q2_4
  have m_8 : (0, 2) ∈ RL := hmB 2 (by decide)
  have c_9 : E 0 3 = .inl (kA 0, 20, .inl fb_4) := q3_4
  have m_10 : (0, 3) ∈ RL := hmB 3 (by decide)
  have c_11 : E 0 4 = .inl (kA 0, 20, .inl fe_4) := q4_4
  have m_12 : (0, 4) ∈ RL := hmB 4 (by decide)
  refine va_calli (va_runV (As := []) (rest := []) ⟨hx, hb, hml, hown, hT⟩ (xc_Li_takeNameX l D kA s.heap.size ad E RL g ml nd len wn cs (by first | assumption | omega) (by first | assumption | omega)) (cwV 0 hT (wT_V k6d_12 k6d_13 k6d_14 k6d_4 k6d_11) rfl rfl rfl (by decide +kernel) ⟨Nat.le_of_ble_eq_true rfl, Nat.le_of_ble_eq_true rfl⟩) (px_preV hK hP hD m_6 c_5 rfl) rfl rfl hl.1 rfl (lv_room (Nat.le_of_ble_eq_true rfl)) xd_De_provider_4 ⟨(Nat.le_of_ble_eq_true rfl), (Nat.le_of_ble_eq_true rfl)⟩) hS (fun q _ h => hFc q h) hFc (fun r13 u14 t H1 locs ht hvm hp15 hB hz1 hk1 hS => ?_)
  obtain ⟨hP1, hD1⟩ := hB
  rw [ht] at hP1
  have hD1 := hD1.weaken (fun _ _ _ h => hFc _ h)
  generalize H1 = H at hP1 hS ⊢
  have hP := hP1
  have hD := hD1
  obtain ⟨E16, rfl⟩ : ∃ z, z = u14 := ⟨_, rfl⟩
  have hP : va_P D xcl (rp ad E16 RL) H := hP
  have hD : va_D A (rp ad E16 RL) := hD
  obtain ⟨⟨wn17, hCI⟩, hF1, hr9⟩ := hp15
  have hCI : CI kA ad E16 RL ml nd 0 wn17 cs := hCI
  obtain ⟨hmB, hDk, hLi, hSh, hCh, hLa, hDIs, hLIs⟩ := id hCI
  obtain ⟨lf_18, q_18⟩ := id (hDk)
  have c_19 : E16 0 0 = .inr (0, [.ref (ad 0 1), .ref (ad 0 5), .ref (ad 0 7), .ref (ad 0 9), .int (nI ml), .int lf_18]) := q_18
  have m_20 : (0, 0) ∈ RL := hmB 0 (by decide)
  obtain ⟨fd_21, hnd_21, q5_21, q6_21, hds_21⟩ := id (hSh)
  have c_22 : E16 0 5 = .inr (2, [.ref (ad 0 6), .int (nI nd)]) := q5_21
  have m_23 : (0, 5) ∈ RL := hmB 5 (by decide)
  have c_24 : E16 0 6 = .inl (kA 4, 12, .inr (.inr (.inr (.inr fd_21)))) := q6_21
  have m_25 : (0, 6) ∈ RL := hmB 6 (by decide)
  obtain ⟨fl_26, hml_26, q9_26, hla_26⟩ := id (hLa)
  have c_27 : E16 0 9 = .inl (kA 5, 5, .inr (.inr (.inr (.inr fl_26)))) := q9_26
  have m_28 : (0, 9) ∈ RL := hmB 9 (by decide)
  refine lv_istore_n hx hb xd_De_provider_7 rfl hl (Nat.le_of_ble_eq_true rfl) rfl (fun ls hl => ?_)
  have hl : lv_has ls 6 [(3, .int r13), (0, .ref (ad 0 0)), (1, .int ix), (2, .int kx)] := hl
  refine lv_aload_n hx hb xd_De_provider_8 rfl (lv_at hl 1 rfl) ?_
  refine lv_iload_n hx hb xd_De_provider_9 rfl (lv_at hl 2 rfl) ?_
  have hFc := px_free hD hS hA
  refine va_callq (va_runV (As := [.int ix]) (rest := []) ⟨hx, hb, hml, hown, hT⟩ (xc_De_openLayer l D kA H.size ad E16 RL ml nd 0 wn17 cs ix (by first | assumption | omega)) (cwV 1 hT (wT_V k6d_57 k6d_58 k6d_59 k6d_19 k6d_56) rfl rfl rfl (by decide +kernel) ⟨Nat.le_of_ble_eq_true rfl, Nat.le_of_ble_eq_true rfl⟩) (px_preV hK hP hD m_20 c_19 rfl) rfl rfl hl.1 rfl (lv_room (Nat.le_of_ble_eq_true rfl)) xd_De_provider_10 ⟨(Nat.le_of_ble_eq_true rfl), (Nat.le_of_ble_eq_true rfl)⟩) hS (fun q _ h => hFc q h) hFc (fun r29 u30 t H1 locs ht hvm hp31 hB hz1 hk1 hS => ?_)
  obtain ⟨hP1, hD1⟩ := hB
  rw [ht] at hP1
  have hD1 := hD1.weaken (fun _ _ _ h => hFc _ h)
  generalize H1 = H at hP1 hS ⊢
  have hP := hP1
  have hD := hD1
  have hP : va_P D xcl (rp ad E16 RL) H := hP
  have hD : va_D A (rp ad E16 RL) := hD
  rcases hp31 with rfl | ⟨z32, z33, z34, rfl⟩
  · refine W.eq (g2 := F0 m 13 ls [.null]) rfl ?_
    refine lv_astoreN hx hb xd_De_provider_13 hl (Nat.le_of_ble_eq_true rfl) rfl (fun ls hl => ?_)
    have hl : lv_has ls 6 [(4, .null), (3, .int r13), (0, .ref (ad 0 0)), (1, .int ix), (2, .int kx)] := hl
    refine lv_aloadN hx hb xd_De_provider_15 (lv_at hl 0 rfl) ?_
    refine lv_ifnullN (tgt := 24) hx hb xd_De_provider_17 (by decide) ?_
    exact y_throwA (ik := 56) (is := 190) (wf := fun (u : Nat → Nat → va_E) => rp ad u RL) E16 (⟨⟨wn17, hCI⟩, hF1⟩) rfl hx hb hlt hown hT hK k6d_20 k6d_21 hZ.2.2.2.1.2.2.2.2.2.2.2.2.2.2.2.2.2.2.2.2.2.2.2.2 hZ.1 hS hP hD (hl.1.trans hml.symm) xd_De_provider_24 xd_De_provider_27 xd_De_provider_28 xd_De_provider_30 xd_De_provider_33 htab (Nat.le_of_ble_eq_true rfl) (Nat.le_of_ble_eq_true rfl) (Nat.le_of_ble_eq_true rfl) (Nat.le_of_ble_eq_true rfl) hlocks (Nat.le_of_ble_eq_true rfl) (Nat.le_of_ble_eq_true rfl)
  · refine W.eq (g2 := F0 m 13 ls [.ref (ad (20 + z32) 0)]) rfl ?_
    refine lv_astore hx hb xd_De_provider_13 hl (Nat.le_of_ble_eq_true rfl) rfl (fun ls hl => ?_)
    have hl : lv_has ls 6 [(4, .ref (ad (20 + z32) 0)), (3, .int r13), (0, .ref (ad 0 0)), (1, .int ix), (2, .int kx)] := hl
    refine lv_aload hx hb xd_De_provider_15 (lv_at hl 0 rfl) ?_
    refine lv_ifnull hx hb xd_De_provider_17 ?_
    refine lv_iload_n hx hb xd_De_provider_20 rfl (lv_at hl 1 rfl) ?_
    refine lv_if_ne (tgt := 34) hx hb xd_De_provider_21 (by decide) (fun hc35 => ?_) (fun hc35 => ?_)
    · refine lv_aload hx hb xd_De_provider_34 (lv_at hl 0 rfl) ?_
      refine lv_iload_n hx hb xd_De_provider_36 rfl (lv_at hl 1 rfl) ?_
      refine lv_iload_n hx hb xd_De_provider_37 rfl (lv_at hl 4 rfl) ?_
      have hFc := px_free hD hS hA
      obtain ⟨m0_36, m1_36, pv_36, op_36, mk_36, fm_36, hmk_36, hpv_36, q0_36, q1_36, hk_36⟩ := id (hLIs z32 (by omega))
      have c_37 : E16 (20 + z32) 0 = .inr (5, [.int (nI z32), pv_36, .ref (ad (20 + z32) 1), .int op_36]) := q0_36
      have m_38 : (20 + z32, 0) ∈ RL := m0_36
      have c_39 : E16 (20 + z32) 1 = .inl (kA 6, mk_36, .inr (.inr (.inr (.inr fm_36)))) := q1_36
      have m_40 : (20 + z32, 1) ∈ RL := m1_36
      refine va_callq (va_runV (As := [.int r13, .int kx]) (rest := []) ⟨hx, hb, hml, hown, hT⟩ (xc_Ly_providerOf l D kA H.size ad E16 RL nd ml z32 r13 kx (by first | assumption | omega) (by first | assumption | omega) (by first | assumption | omega) (by first | assumption | omega)) (cwV 2 hT (wT_V k6d_61 k6d_62 k6d_63 k6d_64 k6d_60) rfl rfl rfl (by decide +kernel) ⟨Nat.le_of_ble_eq_true rfl, Nat.le_of_ble_eq_true rfl⟩) (px_preV hK hP hD m_38 c_37 rfl) rfl rfl hl.1 rfl (lv_room (Nat.le_of_ble_eq_true rfl)) xd_De_provider_38 ⟨(Nat.le_of_ble_eq_true rfl), (Nat.le_of_ble_eq_true rfl)⟩) hS (fun q _ h => hFc q h) hFc (fun r41 u42 t H1 locs ht hvm hp43 hB hz1 hk1 hS => ?_)
      obtain ⟨hP1, hD1⟩ := hB
      rw [ht] at hP1
      have hD1 := hD1.weaken (fun _ _ _ h => hFc _ h)
      generalize H1 = H at hP1 hS ⊢
      have hP := hP1
      have hD := hD1
      have hP : va_P D xcl (rp ad E16 RL) H := hP
      have hD : va_D A (rp ad E16 RL) := hD
      rcases hp43 with rfl | ⟨z44, z45, z46, rfl, z47⟩
      · refine W.eq (g2 := F0 m 41 ls [.null]) rfl ?_
        refine lv_astoreN hx hb xd_De_provider_41 hl (Nat.le_of_ble_eq_true rfl) rfl (fun ls hl => ?_)
        have hl : lv_has ls 6 [(5, .null), (4, .ref (ad (20 + z32) 0)), (3, .int r13), (0, .ref (ad 0 0)), (1, .int ix), (2, .int kx)] := hl
        refine lv_aloadN hx hb xd_De_provider_43 (lv_at hl 0 rfl) ?_
        refine lv_ifnonnullN hx hb xd_De_provider_45 ?_
        refine lv_iconst (v := (-1)) hx hb xd_De_provider_48 (by decide) ?_
        refine lv_goto (tgt := 57) hx hb xd_De_provider_49 (by decide) ?_
        refine W.widen (k := 1) (n := 6) (Nat.le_of_ble_eq_true rfl) (Nat.le_of_ble_eq_true rfl) ?_
        refine vx_ret ?_
        exact W.iret (v := (-1)) hx hb hr (fun t ht hW => ⟨⟨(-1), E16, rfl, ⟨⟨wn17, hCI⟩, hF1⟩, by rw [ht]; exact hP, hD⟩, hS.F ht⟩) hS.2.2 xd_De_provider_57
      · refine W.eq (g2 := F0 m 41 ls [.ref (ad (20 + z44) (10 + 10 * z45))]) rfl ?_
        refine lv_astore hx hb xd_De_provider_41 hl (Nat.le_of_ble_eq_true rfl) rfl (fun ls hl => ?_)
        have hl : lv_has ls 6 [(5, .ref (ad (20 + z44) (10 + 10 * z45))), (4, .ref (ad (20 + z32) 0)), (3, .int r13), (0, .ref (ad 0 0)), (1, .int ix), (2, .int kx)] := hl
        refine lv_aload hx hb xd_De_provider_43 (lv_at hl 0 rfl) ?_
        refine lv_ifnonnull (tgt := 52) hx hb xd_De_provider_45 (by decide) ?_
        refine lv_aload hx hb xd_De_provider_52 (lv_at hl 0 rfl) ?_
        have hFc := px_free hD hS hA
        obtain ⟨hm_48, d_48, rs_48, fr_48, g2_48, g3_48, g4_48, hd_48, hrs_48, q0_48, q1_48, q2_48, q3_48, q4_48, q5_48, q6_48, q7_48⟩ := id z47
        have c_49 : E16 (20 + z44) (10 + 10 * z45) = .inr (6, [.ref (ad (20 + z44) 0), .ref (ad (1 + d_48) 0), .ref (ad (20 + z44) (11 + 10 * z45)), .ref (ad (20 + z44) (12 + 10 * z45)), .ref (ad (20 + z44) (13 + 10 * z45)), .ref (ad (20 + z44) (14 + 10 * z45))]) := q0_48
        have m_50 : (20 + z44, 10 + 10 * z45) ∈ RL := hm_48 0 (by decide)
        have c_51 : E16 (20 + z44) (11 + 10 * z45) = .inl (kA 6, rs_48, .inr (.inr (.inr (.inr fr_48)))) := q1_48
        have m_52 : (20 + z44, 11 + 10 * z45) ∈ RL := hm_48 1 (by decide)
        have c_53 : E16 (20 + z44) (12 + 10 * z45) = .inr (10, [.ref (ad (20 + z44) (15 + 10 * z45))]) := q2_48
        have m_54 : (20 + z44, 12 + 10 * z45) ∈ RL := hm_48 2 (by decide)
        have c_55 : E16 (20 + z44) (13 + 10 * z45) = .inr (10, [.ref (ad (20 + z44) (16 + 10 * z45))]) := q3_48
        have m_56 : (20 + z44, 13 + 10 * z45) ∈ RL := hm_48 3 (by decide)
        have c_57 : E16 (20 + z44) (14 + 10 * z45) = .inr (10, [.ref (ad (20 + z44) (17 + 10 * z45))]) := q4_48
        have m_58 : (20 + z44, 14 + 10 * z45) ∈ RL := hm_48 4 (by decide)
        have c_59 : E16 (20 + z44) (15 + 10 * z45) = .inl (kA 0, 6, .inl g2_48) := q5_48
        have m_60 : (20 + z44, 15 + 10 * z45) ∈ RL := hm_48 5 (by decide)
        have c_61 : E16 (20 + z44) (16 + 10 * z45) = .inl (kA 0, 6, .inl g3_48) := q6_48
        have m_62 : (20 + z44, 16 + 10 * z45) ∈ RL := hm_48 6 (by decide)
        have c_63 : E16 (20 + z44) (17 + 10 * z45) = .inl (kA 0, 6, .inl g4_48) := q7_48
        have m_64 : (20 + z44, 17 + 10 * z45) ∈ RL := hm_48 7 (by decide)
        refine va_calli (va_runV (As := []) (rest := []) ⟨hx, hb, hml, hown, hT⟩ (xc_Me_code l D kA H.size ad E16 RL nd ml z44 z45 (by first | assumption | omega) (by first | assumption | omega) (by first | assumption | omega) (by first | assumption | omega) (by first | assumption | omega)) (cwV 0 hT (wT_V k6d_30 k6d_31 k6d_32 k6d_33 k6d_29) rfl rfl rfl (by decide +kernel) ⟨Nat.le_of_ble_eq_true rfl, Nat.le_of_ble_eq_true rfl⟩) (px_preV hK hP hD m_50 c_49 rfl) rfl rfl hl.1 rfl (lv_room (Nat.le_of_ble_eq_true rfl)) xd_De_provider_54 ⟨(Nat.le_of_ble_eq_true rfl), (Nat.le_of_ble_eq_true rfl)⟩) hS (fun q _ h => hFc q h) hFc (fun r65 u66 t H1 locs ht hvm hp67 hB hz1 hk1 hS => ?_)
        obtain ⟨hP1, hD1⟩ := hB
        rw [ht] at hP1
        have hD1 := hD1.weaken (fun _ _ _ h => hFc _ h)
        generalize H1 = H at hP1 hS ⊢
        have hP := hP1
        have hD := hD1
        have hP : va_P D xcl (rp ad E16 RL) H := hP
        have hD : va_D A (rp ad E16 RL) := hD
        refine W.widen (k := 1) (n := 6) (Nat.le_of_ble_eq_true rfl) (Nat.le_of_ble_eq_true rfl) ?_
        refine vx_ret ?_
        exact W.iret (v := r65) hx hb hr (fun t ht hW => ⟨⟨r65, E16, rfl, ⟨⟨wn17, hCI⟩, hF1⟩, by rw [ht]; exact hP, hD⟩, hS.F ht⟩) hS.2.2 xd_De_provider_57
    · exact y_throwA (ik := 56) (is := 190) (wf := fun (u : Nat → Nat → va_E) => rp ad u RL) E16 (⟨⟨wn17, hCI⟩, hF1⟩) rfl hx hb hlt hown hT hK k6d_20 k6d_21 hZ.2.2.2.1.2.2.2.2.2.2.2.2.2.2.2.2.2.2.2.2.2.2.2.2 hZ.1 hS hP hD (hl.1.trans hml.symm) xd_De_provider_24 xd_De_provider_27 xd_De_provider_28 xd_De_provider_30 xd_De_provider_33 htab (Nat.le_of_ble_eq_true rfl) (Nat.le_of_ble_eq_true rfl) (Nat.le_of_ble_eq_true rfl) (Nat.le_of_ble_eq_true rfl) hlocks (Nat.le_of_ble_eq_true rfl) (Nat.le_of_ble_eq_true rfl)
set_option maxHeartbeats 4000000 in
set_option maxRecDepth 100000 in
theorem xc_De_lineX (l : Launch) (hlt : l.stackTraces = false) (D : va_G) (kA : Nat → ClassId) (sz : Nat) (ad : Nat → Nat → Nat) (E : Nat → Nat → va_E) (RL : List (Nat × Nat)) (Z : zT) (g : Nat → Nat → Int32) (ml : Nat) (nd : Nat) (len : Nat) (wn : Nat) (cs : Nat) (hCI : CI kA ad E RL ml nd len wn cs) (hTD : TDs g E nd) (hZI : ZI g nd) (hTX : ∀ i, i < len → eA (E 0 2) i = g 0 i) : vx_Met l xy_De_line (.code xy_De_line xb_De_line 2 (some .int) :: wT) { frames := 7, cells := 14, slots := 72, locals := 155 } (va_Pc [.ref (ad 0 0)] (xPreZ D kA sz (rp ad E RL) Z)) (va_Qi (fun (r : Int32) (u : (Nat → Nat → Nat) × (Nat → Nat → va_E) × List (Nat × Nat)) => (∃ wn2, CI kA u.1 u.2.1 u.2.2 ml (lnF (g 0) (w_all (g 0) len) nd g).1 0 wn2 cs) ∧ TDs (lnF (g 0) (w_all (g 0) len) nd g).2 u.2.1 (lnF (g 0) (w_all (g 0) len) nd g).1 ∧ u.1 0 0 = ad 0 0 ∧ FRL ml nd ad u.1 E u.2.1) (fun (u : (Nat → Nat → Nat) × (Nat → Nat → va_E) × List (Nat × Nat)) t => va_P D xcl (rp u.1 u.2.1 u.2.2) t.heap ∧ va_D (va_A (rp ad E RL) sz) (rp u.1 u.2.1 u.2.2)) (va_A (rp ad E RL) sz)) (vx_X (fun (u : (Nat → Nat → Nat) × (Nat → Nat → va_E) × List (Nat × Nat)) => (∃ wn2, CI kA u.1 u.2.1 u.2.2 ml (lnF (g 0) (w_all (g 0) len) nd g).1 0 wn2 cs) ∧ TDs (lnF (g 0) (w_all (g 0) len) nd g).2 u.2.1 (lnF (g 0) (w_all (g 0) len) nd g).1 ∧ u.1 0 0 = ad 0 0 ∧ FRL ml nd ad u.1 E u.2.1) (fun E9 u t => (E9 = "java/lang/IllegalArgumentException" ∨ E9 = "java/lang/IllegalStateException") ∧ va_P D xcl (rp u.1 u.2.1 u.2.2) t.heap ∧ va_D (va_A (rp ad E RL) sz) (rp u.1 u.2.1 u.2.2)) (va_A (rp ad E RL) sz)) 14 72 (va_A (rp ad E RL) sz) := by
  refine vx_ofW (cc := xb_De_line) (maxL := 2) (ret := (some .int)) (by decide) rfl ?_
  intro p e s m args below meth c s₁ B hml htab hv
  obtain ⟨rfl, ⟨hsz, hP, hK, hD0⟩, hZ⟩ := hv
  have hx := B.exec
  have hb := B.bytes
  have hr := B.returns
  have hT := x_hT B.pre
  have hown : s.vm.findClass xR_De = some m.cls := findClass_of_methodNamed B.named
  have hlocks := B.notSynchronized
  subst hsz
  have hD := hD0.self (sz := s.heap.size)
  generalize hAe : va_A (rp ad E RL) s.heap.size = A at hD hZ ⊢
  have hA : ∀ q : Nat, s.heap.size ≤ q → A q := fun q h => by rw [← hAe]; exact Or.inr h
  have hS : va_S A s.heap s.heap [] := va_S.rf
  have hl := lv_entry ([.ref (ad 0 0)]) (n := 2) (Nat.le_of_ble_eq_true rfl)
  rw [lg_entry_eq]
  generalize (lg_sl ([.ref (ad 0 0)]) ++ List.replicate (2 - (lg_sl ([.ref (ad 0 0)])).length) Slot.unset).toArray = ls at hl ⊢
  have hl : lv_has ls 2 [(0, .ref (ad 0 0))] := hl
  have hP : va_P D xcl (rp ad E RL) s.heap := hP
  obtain ⟨hmB, hDk, hLi, hSh, hCh, hLa, hDIs, hLIs⟩ := id hCI
  obtain ⟨lf_1, q_1⟩ := id (hDk)
  have c_2 : E 0 0 = .inr (0, [.ref (ad 0 1), .ref (ad 0 5), .ref (ad 0 7), .ref (ad 0 9), .int (nI ml), .int lf_1]) := q_1
  have m_3 : (0, 0) ∈ RL := hmB 0 (by decide)
  obtain ⟨tx_4, fb_4, fe_4, hl1_4, hw2_4, q1_4, q2_4, q3_4, q4_4, hws_4⟩ := id (hLi)
  have c_5 : E 0 1 = .inr (1, [.ref (ad 0 2), .ref (ad 0 3), .ref (ad 0 4), .int (nI len), .int (nI wn)]) := q1_4
  have m_6 : (0, 1) ∈ RL := hmB 1 (by decide)
  have c_7 : E 0 2 = .inl (kA 1, 40, .inl tx_4) := q2_4
  have m_8 : (0, 2) ∈ RL := hmB 2 (by decide)
  have c_9 : E 0 3 = .inl (kA 0, 20, .inl fb_4) := q3_4
  have m_10 : (0, 3) ∈ RL := hmB 3 (by decide)
  have c_11 : E 0 4 = .inl (kA 0, 20, .inl fe_4) := q4_4
  have m_12 : (0, 4) ∈ RL := hmB 4 (by decide)
  obtain ⟨fd_13, hnd_13, q5_13, q6_13, hds_13⟩ := id (hSh)
  have c_14 : E 0 5 = .inr (2, [.ref (ad 0 6), .int (nI nd)]) := q5_13
  have m_15 : (0, 5) ∈ RL := hmB 5 (by decide)
  have c_16 : E 0 6 = .inl (kA 4, 12, .inr (.inr (.inr (.inr fd_13)))) := q6_13
  have m_17 : (0, 6) ∈ RL := hmB 6 (by decide)
  obtain ⟨cf_18, pv_18, fc_18, hcs_18, hpv_18, q7_18, q8_18, hfc_18⟩ := id (hCh)
  have c_19 : E 0 7 = .inr (3, [.ref (ad 0 5), .ref (ad 0 8), .int (nI cs), .int cf_18, pv_18]) := q7_18
  have m_20 : (0, 7) ∈ RL := hmB 7 (by decide)
  have c_21 : E 0 8 = .inl (kA 4, 12, .inr (.inr (.inr (.inr fc_18)))) := q8_18
  have m_22 : (0, 8) ∈ RL := hmB 8 (by decide)
  obtain ⟨fl_23, hml_23, q9_23, hla_23⟩ := id (hLa)
  have c_24 : E 0 9 = .inl (kA 5, 5, .inr (.inr (.inr (.inr fl_23)))) := q9_23
  have m_25 : (0, 9) ∈ RL := hmB 9 (by decide)
  refine lv_aload_n hx hb xd_De_line_0 rfl (lv_at hl 0 rfl) ?_
  refine px_get (D := D) (ci := 0) (v := .ref (ad 0 1)) (C := xR_De) (T := xT_De) (N := 6) hx hb hT xi_De hown hK.1 hP m_3 c_2 rfl 0 (by decide) (hT _ k6d_10) (fun _ h9 => h9) rfl xd_De_line_1 ?_
  have hFc := px_free hD hS hA
  refine va_callv (va_runV (As := []) (rest := []) ⟨hx, hb, hml, hown, hT⟩ (xc_Li_takeX l D kA s.heap.size ad E RL len wn tx_4 fb_4 fe_4 m_6 c_5 m_8 c_7 m_10 c_9 m_12 c_11 (by first | assumption | omega)) (cwV 0 hT (wT_V k6d_65 k6d_2 k6d_3 k6d_4 k6d_0) rfl rfl rfl (by decide +kernel) ⟨Nat.le_of_ble_eq_true rfl, Nat.le_of_ble_eq_true rfl⟩) (px_preV hK hP hD m_6 c_5 rfl) rfl rfl hl.1 rfl (lv_room (Nat.le_of_ble_eq_true rfl)) xd_De_line_4 ⟨(Nat.le_of_ble_eq_true rfl), (Nat.le_of_ble_eq_true rfl)⟩) hS (fun q _ h => hFc q h) hFc (fun u27 t H1 locs ht hvm hp28 hB hz1 hk1 hS => ?_)
  obtain ⟨hP1, hD1⟩ := hB
  rw [ht] at hP1
  have hD1 := hD1.weaken (fun _ _ _ h => hFc _ h)
  generalize H1 = H at hP1 hS ⊢
  have hP := hP1
  have hD := hD1
  obtain ⟨E29, rfl⟩ : ∃ z, z = u27 := ⟨_, rfl⟩
  obtain ⟨w30, w31, w32, hp37, p_33, p_34, p_35, p_36⟩ := hp28
  have p_33 : E29 0 1 = .inr (1, [.ref (ad 0 2), .ref (ad 0 3), .ref (ad 0 4), .int 0, .int (nI w30)]) := p_33
  have p_34 : E29 0 3 = .inl (kA 0, 20, .inl w31) := p_34
  have p_35 : E29 0 4 = .inl (kA 0, 20, .inl w32) := p_35
  have p_36 : (∀ b2 o2, ¬ (b2 = 0 ∧ o2 = 1) → ¬ (b2 = 0 ∧ o2 = 3) → ¬ (b2 = 0 ∧ o2 = 4) → E29 b2 o2 = E b2 o2) := p_36
  have c_38 : E29 0 0 = .inr (0, [.ref (ad 0 1), .ref (ad 0 5), .ref (ad 0 7), .ref (ad 0 9), .int (nI ml), .int lf_1]) := (p_36 0 0 (fun q9 => absurd q9.2 (by decide)) (fun q9 => absurd q9.2 (by decide)) (fun q9 => absurd q9.2 (by decide))).trans c_2
  have c_39 : E29 0 2 = .inl (kA 1, 40, .inl tx_4) := (p_36 0 2 (fun q9 => absurd q9.2 (by decide)) (fun q9 => absurd q9.2 (by decide)) (fun q9 => absurd q9.2 (by decide))).trans c_7
  have c_40 : E29 0 5 = .inr (2, [.ref (ad 0 6), .int (nI nd)]) := (p_36 0 5 (fun q9 => absurd q9.2 (by decide)) (fun q9 => absurd q9.2 (by decide)) (fun q9 => absurd q9.2 (by decide))).trans c_14
  have c_41 : E29 0 6 = .inl (kA 4, 12, .inr (.inr (.inr (.inr fd_13)))) := (p_36 0 6 (fun q9 => absurd q9.2 (by decide)) (fun q9 => absurd q9.2 (by decide)) (fun q9 => absurd q9.2 (by decide))).trans c_16
  have c_42 : E29 0 7 = .inr (3, [.ref (ad 0 5), .ref (ad 0 8), .int (nI cs), .int cf_18, pv_18]) := (p_36 0 7 (fun q9 => absurd q9.2 (by decide)) (fun q9 => absurd q9.2 (by decide)) (fun q9 => absurd q9.2 (by decide))).trans c_19
  have c_43 : E29 0 8 = .inl (kA 4, 12, .inr (.inr (.inr (.inr fc_18)))) := (p_36 0 8 (fun q9 => absurd q9.2 (by decide)) (fun q9 => absurd q9.2 (by decide)) (fun q9 => absurd q9.2 (by decide))).trans c_21
  have c_44 : E29 0 9 = .inl (kA 5, 5, .inr (.inr (.inr (.inr fl_23)))) := (p_36 0 9 (fun q9 => absurd q9.2 (by decide)) (fun q9 => absurd q9.2 (by decide)) (fun q9 => absurd q9.2 (by decide))).trans c_24
  have hP : va_P D xcl (rp ad E29 RL) H := hP
  have hD : va_D A (rp ad E29 RL) := hD
  obtain ⟨hw20, hWP, hTQ1, hTQ2⟩ := hp37
  obtain ⟨wl, hwl⟩ : ∃ z, z = w_all (g 0) len := ⟨_, rfl⟩
  have htx9 : ∀ j, j < len → tx_4 j = g 0 j := fun j hj => by
    have q := hTX j hj
    rw [← (show E29 0 2 = E 0 2 from by show E29 0 2 = _; rw [p_36 0 2 (by omega) (by omega) (by omega)]), c_39] at q; exact q
  have hwx : w_all tx_4 len = wl := by rw [hwl]; exact w_all_congr htx9
  rw [hwx] at hTQ1 hTQ2
  have hLW : LW g E29 len wl := LW_mk hwl (by omega) c_39 p_34 p_35 htx9 hTQ2
  have c1w : E29 0 1 = .inr (1, [.ref (ad 0 2), .ref (ad 0 3), .ref (ad 0 4), .int 0, .int (nI (wl.length))]) := by rw [← hTQ1]; exact p_33
  have hF1 : F134 E E29 := fun b2 o2 h19 h29 h39 => by show E29 b2 o2 = _; rw [p_36 b2 o2 (by omega) (by omega) (by omega)]
  have hTD1 : TDs g E29 nd := TDs_same (fun d9 hd9 => fun2 fun o9 => hF1 (1 + d9) o9 (by omega) (by omega) (by omega)) hTD
  have hCI : CI kA ad E29 RL ml nd 0 wl.length cs := ⟨hmB, ⟨lf_1, c_38⟩, ⟨tx_4, w31, w32, (by omega), (by omega), c1w, c_39, p_34, p_35, (by rw [← hTQ1]; exact hWP)⟩, ⟨fd_13, (by omega), c_40, c_41, hds_13⟩, ⟨cf_18, pv_18, fc_18, (by omega), hpv_18, c_42, c_43, hfc_18⟩, ⟨fl_23, (by omega), c_44, hla_23⟩, (DIs_same (fun d9 hd9 => fun2 fun o9 => by show E29 (1 + d9) o9 = _; rw [p_36 (1 + d9) o9 (by omega) (by omega) (by omega)]) (fun _ _ => rfl) (fun _ h9 => h9) hDIs), (LIs_same (Nat.le_refl _) (fun n9 hn9 => fun2 fun o9 => by show E29 (20 + n9) o9 = _; rw [p_36 (20 + n9) o9 (by omega) (by omega) (by omega)]) (fun _ _ => rfl) (fun _ _ => rfl) (fun _ h9 => h9) hLIs)⟩
  obtain ⟨hmB, hDk, hLi, hSh, hCh, hLa, hDIs, hLIs⟩ := id hCI
  obtain ⟨lf_45, q_45⟩ := id (hDk)
  have c_46 : E29 0 0 = .inr (0, [.ref (ad 0 1), .ref (ad 0 5), .ref (ad 0 7), .ref (ad 0 9), .int (nI ml), .int lf_45]) := q_45
  have m_47 : (0, 0) ∈ RL := hmB 0 (by decide)
  obtain ⟨tx_48, fb_48, fe_48, hl1_48, hw2_48, q1_48, q2_48, q3_48, q4_48, hws_48⟩ := id (hLi)
  have c_49 : E29 0 1 = .inr (1, [.ref (ad 0 2), .ref (ad 0 3), .ref (ad 0 4), .int (nI 0), .int (nI (wl.length))]) := q1_48
  have m_50 : (0, 1) ∈ RL := hmB 1 (by decide)
  have c_51 : E29 0 2 = .inl (kA 1, 40, .inl tx_48) := q2_48
  have m_52 : (0, 2) ∈ RL := hmB 2 (by decide)
  have c_53 : E29 0 3 = .inl (kA 0, 20, .inl fb_48) := q3_48
  have m_54 : (0, 3) ∈ RL := hmB 3 (by decide)
  have c_55 : E29 0 4 = .inl (kA 0, 20, .inl fe_48) := q4_48
  have m_56 : (0, 4) ∈ RL := hmB 4 (by decide)
  obtain ⟨fd_57, hnd_57, q5_57, q6_57, hds_57⟩ := id (hSh)
  have c_58 : E29 0 5 = .inr (2, [.ref (ad 0 6), .int (nI nd)]) := q5_57
  have m_59 : (0, 5) ∈ RL := hmB 5 (by decide)
  have c_60 : E29 0 6 = .inl (kA 4, 12, .inr (.inr (.inr (.inr fd_57)))) := q6_57
  have m_61 : (0, 6) ∈ RL := hmB 6 (by decide)
  refine lv_aload_n hx hb xd_De_line_7 rfl (lv_at hl 0 rfl) ?_
  refine px_get (D := D) (ci := 0) (v := .ref (ad 0 5)) (C := xR_De) (T := xT_De) (N := 6) hx hb hT xi_De hown hK.1 hP m_47 c_46 rfl 1 (by decide) (hT _ k6d_66) (fun _ h9 => h9) rfl xd_De_line_8 ?_
  refine lv_aload_n hx hb xd_De_line_11 rfl (lv_at hl 0 rfl) ?_
  refine px_get (D := D) (ci := 0) (v := .ref (ad 0 1)) (C := xR_De) (T := xT_De) (N := 6) hx hb hT xi_De hown hK.1 hP m_47 c_46 rfl 0 (by decide) (hT _ k6d_10) (fun _ h9 => h9) rfl xd_De_line_12 ?_
  have hFc := px_free hD hS hA
  refine va_calli (va_runV (As := [.ref (ad 0 1)]) (rest := []) ⟨hx, hb, hml, hown, hT⟩ (xc_Sh_acceptX l D kA H.size ad E29 RL Z g ml nd 0 len wl cs (by first | assumption | omega) hLW hTD1 (by first | assumption | omega)) (cwV 1 hT (wT_V k6d_68 k6d_69 k6d_70 k6d_71 k6d_67) rfl rfl rfl (by decide +kernel) ⟨Nat.le_of_ble_eq_true rfl, Nat.le_of_ble_eq_true rfl⟩) (px_preVZ hK hP hD m_59 c_58 rfl hFc (hZ.kept hS)) rfl rfl hl.1 rfl (lv_room (Nat.le_of_ble_eq_true rfl)) xd_De_line_15 ⟨(Nat.le_of_ble_eq_true rfl), (Nat.le_of_ble_eq_true rfl)⟩) hS (fun q _ h => hFc q h) hFc (fun r62 u63 t H1 locs ht hvm hp64 hB hz1 hk1 hS => ?_)
  obtain ⟨hP1, hD1⟩ := hB
  rw [ht] at hP1
  have hD1 := hD1.weaken (fun _ _ _ h => hFc _ h)
  generalize H1 = H at hP1 hS ⊢
  have hP := hP1
  have hD := hD1
  obtain ⟨ad65, E66, RL67⟩ := u63
  have hl := lv_sub hl [] rfl
  have hl : lv_has ls 2 [] := hl
  have hP : va_P D xcl (rp ad65 E66 RL67) H := hP
  have hD : va_D A (rp ad65 E66 RL67) := hD
  obtain ⟨hCI, hTD2, hA00, hF2⟩ := hp64
  have hFc := FRL_c hF1 hF2
  refine lv_istore_n hx hb xd_De_line_18 rfl hl (Nat.le_of_ble_eq_true rfl) rfl (fun ls hl => ?_)
  have hl : lv_has ls 2 [(1, .int r62)] := hl
  refine lv_iload_n hx hb xd_De_line_19 rfl (lv_at hl 0 rfl) ?_
  refine lv_iconst (v := (-1)) hx hb xd_De_line_20 (by decide) ?_
  refine lv_icmp_ne (tgt := 34) hx hb xd_De_line_21 (by decide) (fun hc68 => ?_) (fun hc68 => ?_)
  · refine lv_iload_n hx hb xd_De_line_34 rfl (lv_at hl 0 rfl) ?_
    refine lv_bipush (v := (-2)) hx hb xd_De_line_35 (by decide) ?_
    refine lv_icmp_ne (tgt := 50) hx hb xd_De_line_37 (by decide) (fun hc69 => ?_) (fun hc69 => ?_)
    · refine lv_iload_n hx hb xd_De_line_50 rfl (lv_at hl 0 rfl) ?_
      refine W.widen (k := 14) (n := 72) (Nat.le_of_ble_eq_true rfl) (Nat.le_of_ble_eq_true rfl) ?_
      refine vx_ret ?_
      exact W.iret (v := r62) hx hb hr (fun t ht hW => ⟨⟨r62, (ad65, E66, RL67), rfl, (by rw [← hwl]; exact ⟨⟨wl.length, hCI⟩, hTD2, hA00, hFc⟩), by rw [ht]; exact hP, hD⟩, hS.F ht⟩) hS.2.2 xd_De_line_51
    · exact y_throwB (ik := 63) (is := 65) (wf := fun (u : (Nat → Nat → Nat) × (Nat → Nat → va_E) × List (Nat × Nat)) => rp u.1 u.2.1 u.2.2) (ad65, E66, RL67) (by rw [← hwl]; exact ⟨⟨wl.length, hCI⟩, hTD2, hA00, hFc⟩) (Or.inr rfl) hx hb hlt hown hT hK k6d_72 k6d_73 hZ.2.2.2.1.2.2.2.2.2.2.2.2.2.2.2.2.2.1 hZ.1 hS hP hD (hl.1.trans hml.symm) xd_De_line_40 xd_De_line_43 xd_De_line_44 xd_De_line_46 xd_De_line_49 htab (Nat.le_of_ble_eq_true rfl) (Nat.le_of_ble_eq_true rfl) (Nat.le_of_ble_eq_true rfl) (Nat.le_of_ble_eq_true rfl) hlocks (Nat.le_of_ble_eq_true rfl) (Nat.le_of_ble_eq_true rfl)
  · exact y_throwA (ik := 56) (is := 58) (wf := fun (u : (Nat → Nat → Nat) × (Nat → Nat → va_E) × List (Nat × Nat)) => rp u.1 u.2.1 u.2.2) (ad65, E66, RL67) (by rw [← hwl]; exact ⟨⟨wl.length, hCI⟩, hTD2, hA00, hFc⟩) (Or.inl rfl) hx hb hlt hown hT hK k6d_20 k6d_21 hZ.2.2.2.1.2.2.2.2.2.2.2.2.2.2.2.2.1 hZ.1 hS hP hD (hl.1.trans hml.symm) xd_De_line_24 xd_De_line_27 xd_De_line_28 xd_De_line_30 xd_De_line_33 htab (Nat.le_of_ble_eq_true rfl) (Nat.le_of_ble_eq_true rfl) (Nat.le_of_ble_eq_true rfl) (Nat.le_of_ble_eq_true rfl) hlocks (Nat.le_of_ble_eq_true rfl) (Nat.le_of_ble_eq_true rfl)
theorem fin_iff {fi : Int32} : (¬ fi < 0 ∧ ¬ 1 < fi) ↔ (fi = 0 ∨ fi = 1) := by
  constructor
  · intro ⟨h1, h2⟩
    have h1 := Int32.not_lt.mp h1
    have h2 := Int32.not_lt.mp h2
    have e1 := Int32.le_iff_toInt_le.mp h1
    have e2 := Int32.le_iff_toInt_le.mp h2
    have z0 : (0 : Int32).toInt = 0 := by decide
    have z1 : (1 : Int32).toInt = 1 := by decide
    rw [z0] at e1
    rw [z1] at e2
    rcases (show fi.toInt = 0 ∨ fi.toInt = 1 by omega) with q | q
    · exact Or.inl (Int32.toInt.inj (q.trans z0.symm))
    · exact Or.inr (Int32.toInt.inj (q.trans z1.symm))
  · rintro (h | h)
    · rw [h]; decide
    · rw [h]; decide
def FRX (ml nd : Nat) (ad ad' : Nat → Nat → Nat) (E E' : Nat → Nat → va_E) : Prop := (∀ n, n < ml → E' (20 + n) = E (20 + n)) ∧ (∀ n, n < ml → ad' (20 + n) 0 = ad (20 + n) 0) ∧ (∀ d, d < nd → E' (1 + d) = E (1 + d)) ∧ ∀ d, d < nd → ad' (1 + d) 0 = ad (1 + d) 0
theorem FRX_tr {ml nd : Nat} {ad ad1 ad2 : Nat → Nat → Nat} {E E1 E2 : Nat → Nat → va_E} (h : FRX ml nd ad ad1 E E1) (h2 : FRX ml nd ad1 ad2 E1 E2) : FRX ml nd ad ad2 E E2 := ⟨fun n hn => (h2.1 n hn).trans (h.1 n hn), fun n hn => (h2.2.1 n hn).trans (h.2.1 n hn), fun d hd => (h2.2.2.1 d hd).trans (h.2.2.1 d hd), fun d hd => (h2.2.2.2 d hd).trans (h.2.2.2 d hd)⟩
theorem FRX_B {ml nd : Nat} {ad : Nat → Nat → Nat} {E E' : Nat → Nat → va_E} (h : ∀ b o, ¬ b = 0 → E' b o = E b o) : FRX ml nd ad ad E E' := ⟨fun n _ => fun2 fun o => h (20 + n) o (by omega), fun _ _ => rfl, fun d _ => fun2 fun o => h (1 + d) o (by omega), fun _ _ => rfl⟩
theorem FRX_78 {ml nd : Nat} {ad : Nat → Nat → Nat} {E E' : Nat → Nat → va_E} (h : F78 E E') : FRX ml nd ad ad E E' := FRX_B (fun b o hb => h b o (by omega) (by omega))
theorem FRX_D {ml nd : Nat} {ad ad' : Nat → Nat → Nat} {E E' : Nat → Nat → va_E} (hnd : nd ≤ 12) (h : ∀ b o, ¬ b = 20 + ml → E' b o = E b o) (h2 : ∀ b o, ¬ b = 20 + ml → ad' b o = ad b o) : FRX ml nd ad ad' E E' := ⟨fun n _ => fun2 fun o => h (20 + n) o (by omega), fun n _ => h2 (20 + n) 0 (by omega), fun d _ => fun2 fun o => h (1 + d) o (by omega), fun d _ => h2 (1 + d) 0 (by omega)⟩
theorem gDr_mc {g : gT} {ml lq : Nat} {L : List Nat} (h : L.length ≤ 12) : mcv (gDr g ml lq L) ml = L.length := by
  unfold mcv
  rw [gDr_20, pk_us, iN_nI (by omega)]
theorem NZ_gDr {g : gT} {nd ml lq : Nat} {L : List Nat} (h : NZ g nd) : NZ (gDr g ml lq L) nd := fun d hd => by
  rw [gDr_o (by decide) (by decide) (by decide) (by decide)]; exact h d hd
theorem ND_gDr {g : gT} {nd ml lq : Nat} {L : List Nat} (hk : LKP g ml) (hG : GL nd L) (hnd : nd ≤ 12) (hl : L.length ≤ 12) (h : NDq g ml) : NDq (gDr g ml lq L) (ml + 1) := fun la hla a b ha hb e => by
  by_cases q : la = ml
  · subst q
    rw [gDr_mc hl] at ha hb
    rw [gDr_md hG hnd ha, gDr_md hG hnd hb] at e
    exact getD_inj hG.2 ha hb e
  · obtain ⟨e1, _, e3⟩ := VQ_gDr (lq := lq) (L := L) hk la (by omega)
    rw [e1] at ha hb
    rw [(e3 a ha).1, (e3 b hb).1] at e
    exact h la (by omega) a b ha hb e
theorem UQ_gDr {g : gT} {kA : Nat → ClassId} {ad : Nat → Nat → Nat} {E : Nat → Nat → va_E} {RL : List (Nat × Nat)} {nd ml lq : Nat} {L : List Nat} (hnd : nd ≤ 12) (hI : LIs kA ad E RL nd (ml + 1)) (hT : TLas (gDr g ml lq L) ad E nd (ml + 1)) (h : ∀ d, d < nd → UQ1 g d) : ∀ la, la < ml + 1 → ∀ k, k < mcv (gDr g ml lq L) la → UQ1 (gDr g ml lq L) (mdv (gDr g ml lq L) la k) := fun la hla k hk => by
  have q : mdv (gDr g ml lq L) la k < nd := by
    obtain ⟨_, _, q3, q4⟩ := hT la hla
    have q5 := LIs_12 hI la hla
    unfold mcv at hk
    rw [q3, iN_nI (by omega)] at hk
    obtain ⟨d, q6, q7, _⟩ := q4 k hk
    unfold mdv
    rw [q7, iN_nI (by omega)]; exact q6
  generalize mdv (gDr g ml lq L) la k = d at q
  have z := h d q
  unfold UQ1
  rw [gDr_o (j := 5) (by decide) (by decide) (by decide) (by decide), gDr_o (j := 6) (by decide) (by decide) (by decide) (by decide)]
  exact z
def yN (g : gT) (wl : List (Nat × Nat)) (nd ml : Nat) (fi pa : Int32) : Prop := ok1 g (g 0) wl ml fi pa ∧ ∃ Lx, aF (adG g nd fi (iN (pa + 1))) [] (nmL (g 0) wl wl.length 0) = (false, Lx)
def yL (g : gT) (wl : List (Nat × Nat)) (nd ml : Nat) (fi pa bi : Int32) (L : List Nat) : Prop := ok1 g (g 0) wl ml fi pa ∧ ∃ L1, aF (adG g nd fi (iN (pa + 1))) [] (nmL (g 0) wl wl.length 0) = (true, L1) ∧ L = cif (¬ bi = 0) (bIt (bUg g nd fi (iN (pa + 1))) g (iN (pa + 1)) 13 L1) L1 ∧ GL nd L
noncomputable def yW (g : gT) (ml : Nat) (pa : Int32) (L : List Nat) : Nat := rsW (gDr g ml (iN (pa + 1)) L) ml L.length
theorem k6e_0 : (Cond.fieldLink "LayerDesk" 42 "LayerDesk" "latestFault" "I") ∈ wT := wT_t (List.mem_append_left _ (List.mem_of_getElem? (i := 104) rfl)) rfl
theorem k6e_1 : (Cond.fieldLink "LayerDesk" 10 "LayerDesk" "written" "LLayerDesk$Line;") ∈ wT := wT_t (List.mem_append_left _ (List.mem_of_getElem? (i := 99) rfl)) rfl
theorem k6e_2 : (Cond.code xy_Li_take xb_Li_take 3 none) ∈ wT := wT_t (List.mem_append_left _ (List.mem_of_getElem? (i := 190) rfl)) rfl
theorem k6e_3 : (Cond.methodLink "LayerDesk" 49 xy_Li_take) ∈ wT := wT_t (List.mem_append_left _ (List.mem_of_getElem? (i := 187) rfl)) rfl
theorem k6e_4 : (Cond.instanceMethod xy_Li_take) ∈ wT := wT_t (List.mem_append_left _ (List.mem_of_getElem? (i := 188) rfl)) rfl
theorem k6e_5 : (Cond.selects "LayerDesk$Line" xy_Li_take xy_Li_take) ∈ wT := wT_t (List.mem_append_left _ (List.mem_of_getElem? (i := 189) rfl)) rfl
theorem k6e_6 : (Cond.initialized "LayerDesk$Line") ∈ wT := wT_t (List.mem_append_left _ (List.mem_of_getElem? (i := 2) rfl)) rfl
theorem k6e_7 : (Cond.fieldLink "LayerDesk" 28 "LayerDesk" "chooser" "LLayerDesk$Chooser;") ∈ wT := wT_t (List.mem_append_left _ (List.mem_of_getElem? (i := 101) rfl)) rfl
theorem k6e_8 : (Cond.fieldLink "LayerDesk" 38 "LayerDesk" "made" "I") ∈ wT := wT_t (List.mem_append_left _ (List.mem_of_getElem? (i := 103) rfl)) rfl
theorem k6e_9 : (Cond.code xy_Ch_draft xb_Ch_draft 4 (some (.object "LayerDesk$Layer"))) ∈ wT := wT_t (List.mem_append_right _ (List.mem_append_right _ (List.mem_append_left _ (List.mem_of_getElem? (i := 130) rfl)))) rfl
theorem k6e_10 : (Cond.methodLink "LayerDesk" 97 xy_Ch_draft) ∈ wT := wT_t (List.mem_append_right _ (List.mem_append_right _ (List.mem_append_left _ (List.mem_of_getElem? (i := 127) rfl)))) rfl
theorem k6e_11 : (Cond.instanceMethod xy_Ch_draft) ∈ wT := wT_t (List.mem_append_right _ (List.mem_append_right _ (List.mem_append_left _ (List.mem_of_getElem? (i := 128) rfl)))) rfl
theorem k6e_12 : (Cond.selects "LayerDesk$Chooser" xy_Ch_draft xy_Ch_draft) ∈ wT := wT_t (List.mem_append_right _ (List.mem_append_right _ (List.mem_append_left _ (List.mem_of_getElem? (i := 129) rfl)))) rfl
theorem k6e_13 : (Cond.initialized "LayerDesk$Chooser") ∈ wT := wT_t (List.mem_append_left _ (List.mem_of_getElem? (i := 4) rfl)) rfl
theorem k6e_14 : (Cond.code xy_De_faultOf xb_De_faultOf 2 (some .int)) ∈ wT := wT_t (List.mem_append_right _ (List.mem_append_right _ (List.mem_append_right _ (List.mem_append_left _ (List.mem_of_getElem? (i := 3) rfl))))) rfl
theorem k6e_15 : (Cond.methodLink "LayerDesk" 100 xy_De_faultOf) ∈ wT := wT_t (List.mem_append_right _ (List.mem_append_right _ (List.mem_append_right _ (List.mem_append_left _ (List.mem_of_getElem? (i := 0) rfl))))) rfl
theorem k6e_16 : (Cond.instanceMethod xy_De_faultOf) ∈ wT := wT_t (List.mem_append_right _ (List.mem_append_right _ (List.mem_append_right _ (List.mem_append_left _ (List.mem_of_getElem? (i := 2) rfl))))) rfl
theorem k6e_17 : (Cond.selects "LayerDesk" xy_De_faultOf xy_De_faultOf) ∈ wT := wT_s (q := (xy_De_faultOf, 6)) (by decide +kernel) rfl
theorem k6e_18 : (Cond.initialized "LayerDesk") ∈ wT := wT_t (List.mem_append_left _ (List.mem_of_getElem? (i := 1) rfl)) rfl
theorem k6e_19 : (Cond.code xy_De_keep xb_De_keep 3 none) ∈ wT := wT_t (List.mem_append_right _ (List.mem_append_right _ (List.mem_append_right _ (List.mem_append_left _ (List.mem_of_getElem? (i := 31) rfl))))) rfl
theorem k6e_20 : (Cond.methodLink "LayerDesk" 106 xy_De_keep) ∈ wT := wT_t (List.mem_append_right _ (List.mem_append_right _ (List.mem_append_right _ (List.mem_append_left _ (List.mem_of_getElem? (i := 28) rfl))))) rfl
theorem k6e_21 : (Cond.instanceMethod xy_De_keep) ∈ wT := wT_t (List.mem_append_right _ (List.mem_append_right _ (List.mem_append_right _ (List.mem_append_left _ (List.mem_of_getElem? (i := 30) rfl))))) rfl
theorem k6e_22 : (Cond.selects "LayerDesk" xy_De_keep xy_De_keep) ∈ wT := wT_s (q := (xy_De_keep, 6)) (by decide +kernel) rfl
theorem k6e_23 : (Cond.fieldLink "LayerDesk" 110 "LayerDesk$Layer" "number" "I") ∈ wT := wT_t (List.mem_append_right _ (List.mem_append_right _ (List.mem_append_left _ (List.mem_of_getElem? (i := 141) rfl)))) rfl
theorem k6e_24 : (Cond.classLink "LayerDesk" 63 "java/lang/IllegalStateException") ∈ wT := wT_t (List.mem_append_right _ (List.mem_append_right _ (List.mem_append_left _ (List.mem_of_getElem? (i := 32) rfl)))) rfl
theorem k6e_25 : (Cond.initialized "java/lang/IllegalStateException") ∈ wT := wT_t (List.mem_append_left _ (List.mem_of_getElem? (i := 17) rfl)) rfl
theorem k6e_26 : (Cond.code xy_Ch_begin xb_Ch_begin 3 none) ∈ wT := wT_t (List.mem_append_right _ (List.mem_append_right _ (List.mem_append_left _ (List.mem_of_getElem? (i := 68) rfl)))) rfl
theorem k6e_27 : (Cond.methodLink "LayerDesk" 82 xy_Ch_begin) ∈ wT := wT_t (List.mem_append_right _ (List.mem_append_right _ (List.mem_append_left _ (List.mem_of_getElem? (i := 65) rfl)))) rfl
theorem k6e_28 : (Cond.instanceMethod xy_Ch_begin) ∈ wT := wT_t (List.mem_append_right _ (List.mem_append_right _ (List.mem_append_left _ (List.mem_of_getElem? (i := 66) rfl)))) rfl
theorem k6e_29 : (Cond.selects "LayerDesk$Chooser" xy_Ch_begin xy_Ch_begin) ∈ wT := wT_t (List.mem_append_right _ (List.mem_append_right _ (List.mem_append_left _ (List.mem_of_getElem? (i := 67) rfl)))) rfl
theorem k6e_30 : (Cond.code xy_De_addRoots xb_De_addRoots 2 (some .boolean)) ∈ wT := wT_t (List.mem_append_right _ (List.mem_append_right _ (List.mem_append_left _ (List.mem_of_getElem? (i := 72) rfl)))) rfl
theorem k6e_31 : (Cond.methodLink "LayerDesk" 86 xy_De_addRoots) ∈ wT := wT_t (List.mem_append_right _ (List.mem_append_right _ (List.mem_append_left _ (List.mem_of_getElem? (i := 69) rfl)))) rfl
theorem k6e_32 : (Cond.instanceMethod xy_De_addRoots) ∈ wT := wT_t (List.mem_append_right _ (List.mem_append_right _ (List.mem_append_left _ (List.mem_of_getElem? (i := 71) rfl)))) rfl
theorem k6e_33 : (Cond.selects "LayerDesk" xy_De_addRoots xy_De_addRoots) ∈ wT := wT_s (q := (xy_De_addRoots, 6)) (by decide +kernel) rfl
theorem k6e_34 : (Cond.code xy_Ch_bind xb_Ch_bind 3 none) ∈ wT := wT_t (List.mem_append_right _ (List.mem_append_right _ (List.mem_append_left _ (List.mem_of_getElem? (i := 113) rfl)))) rfl
theorem k6e_35 : (Cond.methodLink "LayerDesk" 94 xy_Ch_bind) ∈ wT := wT_t (List.mem_append_right _ (List.mem_append_right _ (List.mem_append_left _ (List.mem_of_getElem? (i := 110) rfl)))) rfl
theorem k6e_36 : (Cond.instanceMethod xy_Ch_bind) ∈ wT := wT_t (List.mem_append_right _ (List.mem_append_right _ (List.mem_append_left _ (List.mem_of_getElem? (i := 111) rfl)))) rfl
theorem k6e_37 : (Cond.selects "LayerDesk$Chooser" xy_Ch_bind xy_Ch_bind) ∈ wT := wT_t (List.mem_append_right _ (List.mem_append_right _ (List.mem_append_left _ (List.mem_of_getElem? (i := 112) rfl)))) rfl
theorem k6e_38 : (Cond.classLink "LayerDesk" 89 "java/util/NoSuchElementException") ∈ wT := wT_t (List.mem_append_right _ (List.mem_append_right _ (List.mem_append_left _ (List.mem_of_getElem? (i := 94) rfl)))) rfl
theorem k6e_39 : (Cond.initialized "java/util/NoSuchElementException") ∈ wT := wT_t (List.mem_append_left _ (List.mem_of_getElem? (i := 18) rfl)) rfl
theorem k6e_40 : (Cond.code xy_De_openLayer xb_De_openLayer 3 (some (.object "LayerDesk$Layer"))) ∈ wT := wT_t (List.mem_append_left _ (List.mem_of_getElem? (i := 137) rfl)) rfl
theorem k6e_41 : (Cond.methodLink "LayerDesk" 68 xy_De_openLayer) ∈ wT := wT_t (List.mem_append_left _ (List.mem_of_getElem? (i := 134) rfl)) rfl
theorem k6e_42 : (Cond.instanceMethod xy_De_openLayer) ∈ wT := wT_t (List.mem_append_left _ (List.mem_of_getElem? (i := 136) rfl)) rfl
theorem k6e_43 : (Cond.selects "LayerDesk" xy_De_openLayer xy_De_openLayer) ∈ wT := wT_s (q := (xy_De_openLayer, 6)) (by decide +kernel) rfl
theorem k6e_44 : (Cond.code xy_De_rootsAreNames xb_De_rootsAreNames 2 (some .boolean)) ∈ wT := wT_t (List.mem_append_right _ (List.mem_append_right _ (List.mem_append_left _ (List.mem_of_getElem? (i := 59) rfl)))) rfl
theorem k6e_45 : (Cond.methodLink "LayerDesk" 72 xy_De_rootsAreNames) ∈ wT := wT_t (List.mem_append_right _ (List.mem_append_right _ (List.mem_append_left _ (List.mem_of_getElem? (i := 56) rfl)))) rfl
theorem k6e_46 : (Cond.instanceMethod xy_De_rootsAreNames) ∈ wT := wT_t (List.mem_append_right _ (List.mem_append_right _ (List.mem_append_left _ (List.mem_of_getElem? (i := 58) rfl)))) rfl
theorem k6e_47 : (Cond.selects "LayerDesk" xy_De_rootsAreNames xy_De_rootsAreNames) ∈ wT := wT_s (q := (xy_De_rootsAreNames, 6)) (by decide +kernel) rfl
theorem k6e_48 : (Cond.code xy_Sh_isFinder xb_Sh_isFinder 1 (some .boolean)) ∈ wT := wT_t (List.mem_append_right _ (List.mem_append_right _ (List.mem_append_left _ (List.mem_of_getElem? (i := 63) rfl)))) rfl
theorem k6e_49 : (Cond.methodLink "LayerDesk" 76 xy_Sh_isFinder) ∈ wT := wT_t (List.mem_append_right _ (List.mem_append_right _ (List.mem_append_left _ (List.mem_of_getElem? (i := 61) rfl)))) rfl
theorem k6e_50 : (Cond.static xy_Sh_isFinder) ∈ wT := wT_t (List.mem_append_right _ (List.mem_append_right _ (List.mem_append_left _ (List.mem_of_getElem? (i := 62) rfl)))) rfl
theorem k6e_51 : (Cond.initialized "LayerDesk$Shelf") ∈ wT := wT_t (List.mem_append_left _ (List.mem_of_getElem? (i := 3) rfl)) rfl
theorem k6e_52 : (Cond.classLink "LayerDesk" 56 "java/lang/IllegalArgumentException") ∈ wT := wT_t (List.mem_append_right _ (List.mem_append_left _ (List.mem_of_getElem? (i := 205) rfl))) rfl
theorem k6e_53 : (Cond.initialized "java/lang/IllegalArgumentException") ∈ wT := wT_t (List.mem_append_left _ (List.mem_of_getElem? (i := 16) rfl)) rfl
set_option maxHeartbeats 4000000 in
set_option maxRecDepth 100000 in
theorem xc_Sh_isFinderX (l : Launch) (D : va_G) (kA : Nat → ClassId) (sz : Nat) (ad : Nat → Nat → Nat) (E : Nat → Nat → va_E) (RL : List (Nat × Nat)) (fi : Int32) : Met l xy_Sh_isFinder (.code xy_Sh_isFinder xb_Sh_isFinder 1 (some .boolean) :: wT) { frames := 0, cells := 0, slots := 0, locals := 0 } (va_Pc [.int fi] (xPre D kA sz (rp ad E RL))) (va_Qi (fun (r : Int32) (u : Unit) => (r = 1 ∧ (fi = 0 ∨ fi = 1)) ∨ (r = 0 ∧ ¬ fi = 0 ∧ ¬ fi = 1)) (fun (u : Unit) t => va_P D xcl (rp ad E RL) t.heap ∧ va_D (va_A (rp ad E RL) sz) (rp ad E RL)) (va_A (rp ad E RL) sz)) 0 0 (va_A (rp ad E RL) sz) := by
  refine Met.ofW (cc := xb_Sh_isFinder) (maxL := 1) (ret := (some .boolean)) (by decide) rfl ?_
  intro p e s m args below meth c s₁ B hml hv
  obtain ⟨rfl, hsz, hP, hK, hD0⟩ := hv
  have hx := B.exec
  have hb := B.bytes
  have hr := B.returns
  have hT := x_hT B.pre
  have hown : s.vm.findClass xR_Sh = some m.cls := findClass_of_methodNamed B.named
  have hlocks := B.notSynchronized
  subst hsz
  have hD := hD0.self (sz := s.heap.size)
  generalize hAe : va_A (rp ad E RL) s.heap.size = A at hD ⊢
  have hA : ∀ q : Nat, s.heap.size ≤ q → A q := fun q h => by rw [← hAe]; exact Or.inr h
  have hS : va_S A s.heap s.heap [] := va_S.rf
  have hl := lv_entry ([.int fi]) (n := 1) (Nat.le_of_ble_eq_true rfl)
  rw [lg_entry_eq]
  generalize (lg_sl ([.int fi]) ++ List.replicate (1 - (lg_sl ([.int fi])).length) Slot.unset).toArray = ls at hl ⊢
  have hl : lv_has ls 1 [(0, .int fi)] := hl
  have hP : va_P D xcl (rp ad E RL) s.heap := hP
  refine lv_iload_n hx hb xd_Sh_isFinder_0 rfl (lv_at hl 0 rfl) ?_
  refine lv_if_eq (tgt := 9) hx hb xd_Sh_isFinder_1 (by decide) (fun hc1 => ?_) (fun hc1 => ?_)
  · refine lv_iconst (v := 1) hx hb xd_Sh_isFinder_9 (by decide) ?_
    refine lv_goto (tgt := 14) hx hb xd_Sh_isFinder_10 (by decide) ?_
    exact W.zret (v := 1) hx hb hr rfl (fun t ht hW => ⟨⟨1, (), rfl, Or.inl ⟨rfl, Or.inl hc1⟩, by rw [ht]; exact hP, hD⟩, hS.F ht⟩) hS.2.2 xd_Sh_isFinder_14
  · refine lv_iload_n hx hb xd_Sh_isFinder_4 rfl (lv_at hl 0 rfl) ?_
    refine lv_iconst (v := 1) hx hb xd_Sh_isFinder_5 (by decide) ?_
    refine lv_icmp_ne (tgt := 13) hx hb xd_Sh_isFinder_6 (by decide) (fun hc2 => ?_) (fun hc2 => ?_)
    · refine lv_iconst (v := 0) hx hb xd_Sh_isFinder_13 (by decide) ?_
      exact W.zret (v := 0) hx hb hr rfl (fun t ht hW => ⟨⟨0, (), rfl, Or.inr ⟨rfl, hc1, hc2⟩, by rw [ht]; exact hP, hD⟩, hS.F ht⟩) hS.2.2 xd_Sh_isFinder_14
    · refine lv_iconst (v := 1) hx hb xd_Sh_isFinder_9 (by decide) ?_
      refine lv_goto (tgt := 14) hx hb xd_Sh_isFinder_10 (by decide) ?_
      exact W.zret (v := 1) hx hb hr rfl (fun t ht hW => ⟨⟨1, (), rfl, Or.inl ⟨rfl, Or.inr hc2⟩, by rw [ht]; exact hP, hD⟩, hS.F ht⟩) hS.2.2 xd_Sh_isFinder_14
set_option maxHeartbeats 4000000 in
set_option maxRecDepth 100000 in
theorem xc_De_layerX (l : Launch) (hlt : l.stackTraces = false) (D : va_G) (kA : Nat → ClassId) (sz : Nat) (ad : Nat → Nat → Nat) (E : Nat → Nat → va_E) (RL : List (Nat × Nat)) (Z : zT) (g : Nat → Nat → Int32) (ml : Nat) (nd : Nat) (len : Nat) (wn : Nat) (cs : Nat) (fi : Int32) (px : Int32) (bi : Int32) (hCI : CI kA ad E RL ml nd len wn cs) (hTD : TDs g E nd) (hTL : TLas g ad E nd ml) (hCB : CBs g E ml) (hTX : ∀ i, i < len → eA (E 0 2) i = g 0 i) (hNZ : NZ g nd) (hUQ : ∀ d, d < nd → UQ1 g d) (hND : NDq g ml) : vx_Met l xy_De_layer (.code xy_De_layer xb_De_layer 7 (some .int) :: wT) { frames := 23, cells := 101, slots := 430, locals := 1284 } (va_Pc [.ref (ad 0 0), .int fi, .int px, .int bi] (xPreZ D kA sz (rp ad E RL) Z)) (va_Qi (fun (r : Int32) (u : (Nat → Nat → Nat) × (Nat → Nat → va_E) × List (Nat × Nat)) => (r = nI ml ∧ ml < 5 ∧ u.1 0 0 = ad 0 0 ∧ eI (u.2.1 0 0) 5 = 0) ∧ ∃ L9 wn2 cs2, yL g (w_all (g 0) len) nd ml fi px bi L9 ∧ yW g ml px L9 = 0 ∧ CI kA u.1 u.2.1 u.2.2 (ml + 1) nd 0 wn2 cs2 ∧ TDs (gKl (gDr g ml (iN (px + 1)) L9) L9) u.2.1 nd ∧ TLas (gDr g ml (iN (px + 1)) L9) u.1 u.2.1 nd (ml + 1) ∧ CBs (gDr g ml (iN (px + 1)) L9) u.2.1 (ml + 1) ∧ RBs (gDr g ml (iN (px + 1)) L9) u.2.1 ml ∧ (∀ n9, n9 < ml → u.2.1 (20 + n9) = E (20 + n9)) ∧ (∀ n9, n9 < ml → u.1 (20 + n9) 0 = ad (20 + n9) 0) ∧ ∀ d9, d9 < nd → u.1 (1 + d9) 0 = ad (1 + d9) 0) (fun (u : (Nat → Nat → Nat) × (Nat → Nat → va_E) × List (Nat × Nat)) t => va_P D xcl (rp u.1 u.2.1 u.2.2) t.heap ∧ va_D (va_A (rp ad E RL) sz) (rp u.1 u.2.1 u.2.2)) (va_A (rp ad E RL) sz)) (vx_X (fun (u : (Nat → Nat → Nat) × (Nat → Nat → va_E) × List (Nat × Nat)) => ((∃ wn2 cs2, CI kA u.1 u.2.1 u.2.2 ml nd 0 wn2 cs2) ∧ u.1 0 0 = ad 0 0 ∧ FRX ml nd ad u.1 E u.2.1) ∧ ((¬ ok1 g (g 0) (w_all (g 0) len) ml fi px ∧ eI (u.2.1 0 0) 5 = 0) ∨ (yN g (w_all (g 0) len) nd ml fi px ∧ eI (u.2.1 0 0) 5 = 0) ∨ ∃ L9, yL g (w_all (g 0) len) nd ml fi px bi L9 ∧ ¬ yW g ml px L9 = 0 ∧ eI (u.2.1 0 0) 5 = nI (yW g ml px L9))) (fun E9 u t => ((E9 = "java/lang/IllegalArgumentException" ∧ ¬ ok1 g (g 0) (w_all (g 0) len) ml fi px) ∨ (E9 = "java/util/NoSuchElementException" ∧ yN g (w_all (g 0) len) nd ml fi px) ∨ (E9 = "java/lang/IllegalStateException" ∧ ∃ L9, yL g (w_all (g 0) len) nd ml fi px bi L9 ∧ ¬ yW g ml px L9 = 0)) ∧ va_P D xcl (rp u.1 u.2.1 u.2.2) t.heap ∧ va_D (va_A (rp ad E RL) sz) (rp u.1 u.2.1 u.2.2)) (va_A (rp ad E RL) sz)) 101 430 (va_A (rp ad E RL) sz) := by
  refine vx_ofW (cc := xb_De_layer) (maxL := 7) (ret := (some .int)) (by decide) rfl ?_
  intro p e s m args below meth c s₁ B hml htab hv
  obtain ⟨rfl, ⟨hsz, hP, hK, hD0⟩, hZ⟩ := hv
  have hx := B.exec
  have hb := B.bytes
  have hr := B.returns
  have hT := x_hT B.pre
  have hown : s.vm.findClass xR_De = some m.cls := findClass_of_methodNamed B.named
  have hlocks := B.notSynchronized
  subst hsz
  have hD := hD0.self (sz := s.heap.size)
  generalize hAe : va_A (rp ad E RL) s.heap.size = A at hD hZ ⊢
  have hA : ∀ q : Nat, s.heap.size ≤ q → A q := fun q h => by rw [← hAe]; exact Or.inr h
  have hS : va_S A s.heap s.heap [] := va_S.rf
  have hl := lv_entry ([.ref (ad 0 0), .int fi, .int px, .int bi]) (n := 7) (Nat.le_of_ble_eq_true rfl)
  rw [lg_entry_eq]
  generalize (lg_sl ([.ref (ad 0 0), .int fi, .int px, .int bi]) ++ List.replicate (7 - (lg_sl ([.ref (ad 0 0), .int fi, .int px, .int bi])).length) Slot.unset).toArray = ls at hl ⊢
  have hl : lv_has ls 7 [(0, .ref (ad 0 0)), (1, .int fi), (2, .int px), (3, .int bi)] := hl
  have hP : va_P D xcl (rp ad E RL) s.heap := hP
  obtain ⟨hmB, hDk, hLi, hSh, hCh, hLa, hDIs, hLIs⟩ := id hCI
  obtain ⟨lf_1, q_1⟩ := id (hDk)
  have c_2 : E 0 0 = .inr (0, [.ref (ad 0 1), .ref (ad 0 5), .ref (ad 0 7), .ref (ad 0 9), .int (nI ml), .int lf_1]) := q_1
  have m_3 : (0, 0) ∈ RL := hmB 0 (by decide)
  obtain ⟨tx_4, fb_4, fe_4, hl1_4, hw2_4, q1_4, q2_4, q3_4, q4_4, hws_4⟩ := id (hLi)
  have c_5 : E 0 1 = .inr (1, [.ref (ad 0 2), .ref (ad 0 3), .ref (ad 0 4), .int (nI len), .int (nI wn)]) := q1_4
  have m_6 : (0, 1) ∈ RL := hmB 1 (by decide)
  have c_7 : E 0 2 = .inl (kA 1, 40, .inl tx_4) := q2_4
  have m_8 : (0, 2) ∈ RL := hmB 2 (by decide)
  have c_9 : E 0 3 = .inl (kA 0, 20, .inl fb_4) := q3_4
  have m_10 : (0, 3) ∈ RL := hmB 3 (by decide)
  have c_11 : E 0 4 = .inl (kA 0, 20, .inl fe_4) := q4_4
  have m_12 : (0, 4) ∈ RL := hmB 4 (by decide)
  obtain ⟨fd_13, hnd_13, q5_13, q6_13, hds_13⟩ := id (hSh)
  have c_14 : E 0 5 = .inr (2, [.ref (ad 0 6), .int (nI nd)]) := q5_13
  have m_15 : (0, 5) ∈ RL := hmB 5 (by decide)
  have c_16 : E 0 6 = .inl (kA 4, 12, .inr (.inr (.inr (.inr fd_13)))) := q6_13
  have m_17 : (0, 6) ∈ RL := hmB 6 (by decide)
  obtain ⟨cf_18, pv_18, fc_18, hcs_18, hpv_18, q7_18, q8_18, hfc_18⟩ := id (hCh)
  have c_19 : E 0 7 = .inr (3, [.ref (ad 0 5), .ref (ad 0 8), .int (nI cs), .int cf_18, pv_18]) := q7_18
  have m_20 : (0, 7) ∈ RL := hmB 7 (by decide)
  have c_21 : E 0 8 = .inl (kA 4, 12, .inr (.inr (.inr (.inr fc_18)))) := q8_18
  have m_22 : (0, 8) ∈ RL := hmB 8 (by decide)
  obtain ⟨fl_23, hml_23, q9_23, hla_23⟩ := id (hLa)
  have c_24 : E 0 9 = .inl (kA 5, 5, .inr (.inr (.inr (.inr fl_23)))) := q9_23
  have m_25 : (0, 9) ∈ RL := hmB 9 (by decide)
  refine lv_aload_n hx hb xd_De_layer_0 rfl (lv_at hl 0 rfl) ?_
  refine lv_iconst (v := 0) hx hb xd_De_layer_1 (by decide) ?_
  refine px_put (D := D) (ci := 0) (v := .int 0) (ty := .int) (C := xR_De) (T := xT_De) (N := 6) hx hb hT xi_De xt_De xt_De_ok xn_De hown hK.1 hP hD hS m_3 c_2 rfl 5 (by decide) (hT _ k6e_0) (fun _ h9 => h9) rfl (by decide +kernel) rfl rfl (Nat.le_of_ble_eq_true rfl) xd_De_layer_2 (fun H locs hP hD hS => ?_)
  have hP : va_P D xcl (rp ad (up2 E 0 0 (.inr (0, [.ref (ad 0 1), .ref (ad 0 5), .ref (ad 0 7), .ref (ad 0 9), .int (nI ml), .int 0]))) RL) H := hP
  have hD : va_D A (rp ad (up2 E 0 0 (.inr (0, [.ref (ad 0 1), .ref (ad 0 5), .ref (ad 0 7), .ref (ad 0 9), .int (nI ml), .int 0]))) RL) := hD
  generalize hE27 : up2 E 0 0 (.inr (0, [.ref (ad 0 1), .ref (ad 0 5), .ref (ad 0 7), .ref (ad 0 9), .int (nI ml), .int 0])) = E26 at hP hD
  have fE28 : ∀ b2 o2, ¬ (b2 = 0 ∧ o2 = 0) → E26 b2 o2 = E b2 o2 := fun b2 o2 h9 => by rw [← hE27]; exact up2_ne (nr_or h9)
  have c_29 : E26 0 0 = .inr (0, [.ref (ad 0 1), .ref (ad 0 5), .ref (ad 0 7), .ref (ad 0 9), .int (nI ml), .int 0]) := by rw [← hE27]; exact up2_eq
  have c_30 : E26 0 1 = .inr (1, [.ref (ad 0 2), .ref (ad 0 3), .ref (ad 0 4), .int (nI len), .int (nI wn)]) := (fE28 0 1 (fun q9 => absurd q9.2 (by decide))).trans c_5
  have c_31 : E26 0 2 = .inl (kA 1, 40, .inl tx_4) := (fE28 0 2 (fun q9 => absurd q9.2 (by decide))).trans c_7
  have c_32 : E26 0 3 = .inl (kA 0, 20, .inl fb_4) := (fE28 0 3 (fun q9 => absurd q9.2 (by decide))).trans c_9
  have c_33 : E26 0 4 = .inl (kA 0, 20, .inl fe_4) := (fE28 0 4 (fun q9 => absurd q9.2 (by decide))).trans c_11
  have c_34 : E26 0 5 = .inr (2, [.ref (ad 0 6), .int (nI nd)]) := (fE28 0 5 (fun q9 => absurd q9.2 (by decide))).trans c_14
  have c_35 : E26 0 6 = .inl (kA 4, 12, .inr (.inr (.inr (.inr fd_13)))) := (fE28 0 6 (fun q9 => absurd q9.2 (by decide))).trans c_16
  have c_36 : E26 0 7 = .inr (3, [.ref (ad 0 5), .ref (ad 0 8), .int (nI cs), .int cf_18, pv_18]) := (fE28 0 7 (fun q9 => absurd q9.2 (by decide))).trans c_19
  have c_37 : E26 0 8 = .inl (kA 4, 12, .inr (.inr (.inr (.inr fc_18)))) := (fE28 0 8 (fun q9 => absurd q9.2 (by decide))).trans c_21
  have c_38 : E26 0 9 = .inl (kA 5, 5, .inr (.inr (.inr (.inr fl_23)))) := (fE28 0 9 (fun q9 => absurd q9.2 (by decide))).trans c_24
  refine lv_aload_n hx hb xd_De_layer_5 rfl (lv_at hl 0 rfl) ?_
  refine px_get (D := D) (ci := 0) (v := .ref (ad 0 1)) (C := xR_De) (T := xT_De) (N := 6) hx hb hT xi_De hown hK.1 hP m_3 c_29 rfl 0 (by decide) (hT _ k6e_1) (fun _ h9 => h9) rfl xd_De_layer_6 ?_
  have hFc := px_free hD hS hA
  refine va_callv (va_runV (As := []) (rest := []) ⟨hx, hb, hml, hown, hT⟩ (xc_Li_takeX l D kA H.size ad E26 RL len wn tx_4 fb_4 fe_4 m_6 c_30 m_8 c_31 m_10 c_32 m_12 c_33 (by first | assumption | omega)) (cwV 0 hT (wT_V k6e_3 k6e_4 k6e_5 k6e_6 k6e_2) rfl rfl rfl (by decide +kernel) ⟨Nat.le_of_ble_eq_true rfl, Nat.le_of_ble_eq_true rfl⟩) (px_preV hK hP hD m_6 c_30 rfl) rfl rfl hl.1 rfl (lv_room (Nat.le_of_ble_eq_true rfl)) xd_De_layer_9 ⟨(Nat.le_of_ble_eq_true rfl), (Nat.le_of_ble_eq_true rfl)⟩) hS (fun q _ h => hFc q h) hFc (fun u40 t H1 locs ht hvm hp41 hB hz1 hk1 hS => ?_)
  obtain ⟨hP1, hD1⟩ := hB
  rw [ht] at hP1
  have hD1 := hD1.weaken (fun _ _ _ h => hFc _ h)
  generalize H1 = H at hP1 hS ⊢
  have hP := hP1
  have hD := hD1
  obtain ⟨E42, rfl⟩ : ∃ z, z = u40 := ⟨_, rfl⟩
  obtain ⟨w43, w44, w45, hp50, p_46, p_47, p_48, p_49⟩ := hp41
  have p_46 : E42 0 1 = .inr (1, [.ref (ad 0 2), .ref (ad 0 3), .ref (ad 0 4), .int 0, .int (nI w43)]) := p_46
  have p_47 : E42 0 3 = .inl (kA 0, 20, .inl w44) := p_47
  have p_48 : E42 0 4 = .inl (kA 0, 20, .inl w45) := p_48
  have p_49 : (∀ b2 o2, ¬ (b2 = 0 ∧ o2 = 1) → ¬ (b2 = 0 ∧ o2 = 3) → ¬ (b2 = 0 ∧ o2 = 4) → E42 b2 o2 = E26 b2 o2) := p_49
  have c_51 : E42 0 0 = .inr (0, [.ref (ad 0 1), .ref (ad 0 5), .ref (ad 0 7), .ref (ad 0 9), .int (nI ml), .int 0]) := (p_49 0 0 (fun q9 => absurd q9.2 (by decide)) (fun q9 => absurd q9.2 (by decide)) (fun q9 => absurd q9.2 (by decide))).trans c_29
  have c_52 : E42 0 2 = .inl (kA 1, 40, .inl tx_4) := (p_49 0 2 (fun q9 => absurd q9.2 (by decide)) (fun q9 => absurd q9.2 (by decide)) (fun q9 => absurd q9.2 (by decide))).trans c_31
  have c_53 : E42 0 5 = .inr (2, [.ref (ad 0 6), .int (nI nd)]) := (p_49 0 5 (fun q9 => absurd q9.2 (by decide)) (fun q9 => absurd q9.2 (by decide)) (fun q9 => absurd q9.2 (by decide))).trans c_34
  have c_54 : E42 0 6 = .inl (kA 4, 12, .inr (.inr (.inr (.inr fd_13)))) := (p_49 0 6 (fun q9 => absurd q9.2 (by decide)) (fun q9 => absurd q9.2 (by decide)) (fun q9 => absurd q9.2 (by decide))).trans c_35
  have c_55 : E42 0 7 = .inr (3, [.ref (ad 0 5), .ref (ad 0 8), .int (nI cs), .int cf_18, pv_18]) := (p_49 0 7 (fun q9 => absurd q9.2 (by decide)) (fun q9 => absurd q9.2 (by decide)) (fun q9 => absurd q9.2 (by decide))).trans c_36
  have c_56 : E42 0 8 = .inl (kA 4, 12, .inr (.inr (.inr (.inr fc_18)))) := (p_49 0 8 (fun q9 => absurd q9.2 (by decide)) (fun q9 => absurd q9.2 (by decide)) (fun q9 => absurd q9.2 (by decide))).trans c_37
  have c_57 : E42 0 9 = .inl (kA 5, 5, .inr (.inr (.inr (.inr fl_23)))) := (p_49 0 9 (fun q9 => absurd q9.2 (by decide)) (fun q9 => absurd q9.2 (by decide)) (fun q9 => absurd q9.2 (by decide))).trans c_38
  have hP : va_P D xcl (rp ad E42 RL) H := hP
  have hD : va_D A (rp ad E42 RL) := hD
  obtain ⟨hw20, hWP, hTQ1, hTQ2⟩ := hp50
  obtain ⟨wl, hwl⟩ : ∃ z, z = w_all (g 0) len := ⟨_, rfl⟩
  have htx9 : ∀ j, j < len → tx_4 j = g 0 j := fun j hj => by
    have q := hTX j hj
    rw [← (show E42 0 2 = E 0 2 from by show E42 0 2 = _; rw [p_49 0 2 (by omega) (by omega) (by omega), fE28 0 2 (by omega)]), c_52] at q; exact q
  have hwx : w_all tx_4 len = wl := by rw [hwl]; exact w_all_congr htx9
  rw [hwx] at hTQ1 hTQ2
  have hLW : LW g E42 len wl := LW_mk hwl (by omega) c_52 p_47 p_48 htx9 hTQ2
  have c1w : E42 0 1 = .inr (1, [.ref (ad 0 2), .ref (ad 0 3), .ref (ad 0 4), .int 0, .int (nI (wl.length))]) := by rw [← hTQ1]; exact p_46
  have hB0 : ∀ b2 o2, ¬ b2 = 0 → E42 b2 o2 = E b2 o2 := fun b2 o2 h9 => by show E42 b2 o2 = _; rw [p_49 b2 o2 (by omega) (by omega) (by omega), fE28 b2 o2 (by omega)]
  have hTD1 : TDs g E42 nd := TDs_same (fun d9 hd9 => fun2 fun o9 => hB0 (1 + d9) o9 (by omega)) hTD
  have hTL1 : TLas g ad E42 nd ml := TLas_same (Nat.le_refl _) (fun n9 hn9 => fun2 fun o9 => hB0 (20 + n9) o9 (by omega)) (fun _ _ => rfl) (fun _ _ => rfl) hTL
  have hCB1 : CBs g E42 ml := CBs_same (fun la o9 hla => hB0 (20 + la) o9 (by omega)) hCB
  have hFX1 : FRX ml nd ad ad E E42 := FRX_B hB0
  have h051 : eI (E42 0 0) 5 = 0 := by rw [c_51]; rfl
  have hCI : CI kA ad E42 RL ml nd 0 wl.length cs := ⟨hmB, ⟨0, c_51⟩, ⟨tx_4, w44, w45, (by omega), (by omega), c1w, c_52, p_47, p_48, (by rw [← hTQ1]; exact hWP)⟩, ⟨fd_13, (by omega), c_53, c_54, hds_13⟩, ⟨cf_18, pv_18, fc_18, (by omega), hpv_18, c_55, c_56, hfc_18⟩, ⟨fl_23, (by omega), c_57, hla_23⟩, (DIs_same (fun d9 hd9 => fun2 fun o9 => by show E42 (1 + d9) o9 = _; rw [p_49 (1 + d9) o9 (by omega) (by omega) (by omega), fE28 (1 + d9) o9 (by omega)]) (fun _ _ => rfl) (fun _ h9 => h9) hDIs), (LIs_same (Nat.le_refl _) (fun n9 hn9 => fun2 fun o9 => by show E42 (20 + n9) o9 = _; rw [p_49 (20 + n9) o9 (by omega) (by omega) (by omega), fE28 (20 + n9) o9 (by omega)]) (fun _ _ => rfl) (fun _ _ => rfl) (fun _ h9 => h9) hLIs)⟩
  obtain ⟨hmB, hDk, hLi, hSh, hCh, hLa, hDIs, hLIs⟩ := id hCI
  obtain ⟨lf_58, q_58⟩ := id (hDk)
  have c_59 : E42 0 0 = .inr (0, [.ref (ad 0 1), .ref (ad 0 5), .ref (ad 0 7), .ref (ad 0 9), .int (nI ml), .int lf_58]) := q_58
  have m_60 : (0, 0) ∈ RL := hmB 0 (by decide)
  obtain ⟨tx_61, fb_61, fe_61, hl1_61, hw2_61, q1_61, q2_61, q3_61, q4_61, hws_61⟩ := id (hLi)
  have c_62 : E42 0 1 = .inr (1, [.ref (ad 0 2), .ref (ad 0 3), .ref (ad 0 4), .int (nI 0), .int (nI (wl.length))]) := q1_61
  have m_63 : (0, 1) ∈ RL := hmB 1 (by decide)
  have c_64 : E42 0 2 = .inl (kA 1, 40, .inl tx_61) := q2_61
  have m_65 : (0, 2) ∈ RL := hmB 2 (by decide)
  have c_66 : E42 0 3 = .inl (kA 0, 20, .inl fb_61) := q3_61
  have m_67 : (0, 3) ∈ RL := hmB 3 (by decide)
  have c_68 : E42 0 4 = .inl (kA 0, 20, .inl fe_61) := q4_61
  have m_69 : (0, 4) ∈ RL := hmB 4 (by decide)
  obtain ⟨fd_70, hnd_70, q5_70, q6_70, hds_70⟩ := id (hSh)
  have c_71 : E42 0 5 = .inr (2, [.ref (ad 0 6), .int (nI nd)]) := q5_70
  have m_72 : (0, 5) ∈ RL := hmB 5 (by decide)
  have c_73 : E42 0 6 = .inl (kA 4, 12, .inr (.inr (.inr (.inr fd_70)))) := q6_70
  have m_74 : (0, 6) ∈ RL := hmB 6 (by decide)
  obtain ⟨cf_75, pv_75, fc_75, hcs_75, hpv_75, q7_75, q8_75, hfc_75⟩ := id (hCh)
  have c_76 : E42 0 7 = .inr (3, [.ref (ad 0 5), .ref (ad 0 8), .int (nI cs), .int cf_75, pv_75]) := q7_75
  have m_77 : (0, 7) ∈ RL := hmB 7 (by decide)
  have c_78 : E42 0 8 = .inl (kA 4, 12, .inr (.inr (.inr (.inr fc_75)))) := q8_75
  have m_79 : (0, 8) ∈ RL := hmB 8 (by decide)
  obtain ⟨fl_80, hml_80, q9_80, hla_80⟩ := id (hLa)
  have c_81 : E42 0 9 = .inl (kA 5, 5, .inr (.inr (.inr (.inr fl_80)))) := q9_80
  have m_82 : (0, 9) ∈ RL := hmB 9 (by decide)
  refine xjoin (D := D) (cl := xcl) (A := A) (H0 := s.heap) (σ := Nat) (ml := 7) 65 (fun (y : Nat) => [(4, (lyv ad y)), (3, .int bi), (2, .int px), (1, .int fi), (0, .ref (ad 0 0))]) (fun (y : Nat) => []) (fun (y : Nat) => rp ad E42 RL) (fun (y : Nat) => (y ≤ ml) ∧ (ok1 g (g 0) wl ml fi px) ∧ (iN (px + 1) = y)) ?_ (fun jn83 => ?_)
  · intro a9 ls H locs hl hP hD hS hI
    obtain ⟨y, rfl⟩ : ∃ z, z = a9 := ⟨_, rfl⟩
    obtain ⟨hy, hok, hyq9⟩ := hI
    have hy : y ≤ ml := hy
    have hok : ok1 g (g 0) wl ml fi px := hok
    have hyq9 : iN (px + 1) = y := hyq9
    have hl : lv_has ls 7 [(4, (lyv ad y)), (3, .int bi), (2, .int px), (1, .int fi), (0, .ref (ad 0 0))] := hl
    have hP : va_P D xcl (rp ad E42 RL) H := hP
    have hD : va_D A (rp ad E42 RL) := hD
    refine xjoin (D := D) (cl := xcl) (A := A) (H0 := s.heap) (σ := (Nat → Nat → va_E) × List Nat × List Nat) (ml := 7) 103 (fun (Ej9, L1, L7) => [(0, .ref (ad 0 0))]) (fun (Ej9, L1, L7) => []) (fun (Ej9, L1, L7) => rp ad Ej9 RL) (fun (Ej9, L1, L7) => (CI kA ad Ej9 RL ml nd 0 wl.length L7.length) ∧ (CX ad Ej9 nd fi y L7) ∧ (F78 E42 Ej9) ∧ (aF (adG g nd fi y) [] (nmL (g 0) wl wl.length 0) = (true, L1)) ∧ (L7 = cif (¬ bi = 0) (bIt (bUg g nd fi y) g y 13 L1) L1)) ?_ (fun jn84 => ?_)
    · intro a9 ls H locs hl hP hD hS hI
      obtain ⟨Ej9, L1, L7⟩ := a9
      obtain ⟨hCI, hCX7, hF7, hN1, hL7⟩ := hI
      have hCI : CI kA ad Ej9 RL ml nd 0 wl.length L7.length := hCI
      have hCX7 : CX ad Ej9 nd fi y L7 := hCX7
      have hF7 : F78 E42 Ej9 := hF7
      have hN1 : aF (adG g nd fi y) [] (nmL (g 0) wl wl.length 0) = (true, L1) := hN1
      have hL7 : L7 = cif (¬ bi = 0) (bIt (bUg g nd fi y) g y 13 L1) L1 := hL7
      have hl : lv_has ls 7 [(0, .ref (ad 0 0))] := hl
      have hP : va_P D xcl (rp ad Ej9 RL) H := hP
      have hD : va_D A (rp ad Ej9 RL) := hD
      have hTD7 : TDs g Ej9 nd := TDs_78 hF7 hTD1
      have hTL7 : TLas g ad Ej9 nd ml := TLas_78 hF7 hTL1
      have hCB7 : CBs g Ej9 ml := CBs_same (fun la o9 hla => hF7 (20 + la) o9 (by omega) (by omega)) hCB1
      have hFX7 : FRX ml nd ad ad E Ej9 := FRX_tr hFX1 (FRX_78 hF7)
      obtain ⟨hmB, hDk, hLi, hSh, hCh, hLa, hDIs, hLIs⟩ := id hCI
      obtain ⟨lf_85, q_85⟩ := id (hDk)
      have c_86 : Ej9 0 0 = .inr (0, [.ref (ad 0 1), .ref (ad 0 5), .ref (ad 0 7), .ref (ad 0 9), .int (nI ml), .int lf_85]) := q_85
      have m_87 : (0, 0) ∈ RL := hmB 0 (by decide)
      obtain ⟨fd_88, hnd_88, q5_88, q6_88, hds_88⟩ := id (hSh)
      have c_89 : Ej9 0 5 = .inr (2, [.ref (ad 0 6), .int (nI nd)]) := q5_88
      have m_90 : (0, 5) ∈ RL := hmB 5 (by decide)
      have c_91 : Ej9 0 6 = .inl (kA 4, 12, .inr (.inr (.inr (.inr fd_88)))) := q6_88
      have m_92 : (0, 6) ∈ RL := hmB 6 (by decide)
      obtain ⟨cf_93, pv_93, fc_93, hcs_93, hpv_93, q7_93, q8_93, hfc_93⟩ := id (hCh)
      have c_94 : Ej9 0 7 = .inr (3, [.ref (ad 0 5), .ref (ad 0 8), .int (nI (L7.length)), .int cf_93, pv_93]) := q7_93
      have m_95 : (0, 7) ∈ RL := hmB 7 (by decide)
      have c_96 : Ej9 0 8 = .inl (kA 4, 12, .inr (.inr (.inr (.inr fc_93)))) := q8_93
      have m_97 : (0, 8) ∈ RL := hmB 8 (by decide)
      obtain ⟨fl_98, hml_98, q9_98, hla_98⟩ := id (hLa)
      have c_99 : Ej9 0 9 = .inl (kA 5, 5, .inr (.inr (.inr (.inr fl_98)))) := q9_98
      have m_100 : (0, 9) ∈ RL := hmB 9 (by decide)
      have hnd12 : nd ≤ 12 := by omega
      have hml5 : ml ≤ 5 := by omega
      have hGL7 := hCX7.2.2.2
      have hln7 := GL_len hGL7
      have hLKP7 : LKP g ml := LKP_L (by omega) hnd12 hLIs hTL7
      have hyL : yL g wl nd ml fi px bi L7 := ⟨hok, L1, (by rw [hyq9]; exact hN1), (by rw [hyq9]; exact hL7), hGL7⟩
      refine lv_aload_n hx hb xd_De_layer_103 rfl (lv_at hl 0 rfl) ?_
      refine px_get (D := D) (ci := 0) (v := .ref (ad 0 7)) (C := xR_De) (T := xT_De) (N := 6) hx hb hT xi_De hown hK.1 hP m_87 c_86 rfl 2 (by decide) (hT _ k6e_7) (fun _ h9 => h9) rfl xd_De_layer_104 ?_
      refine lv_aload_n hx hb xd_De_layer_107 rfl (lv_at hl 0 rfl) ?_
      refine px_get (D := D) (ci := 0) (v := .int (nI ml)) (C := xR_De) (T := xT_De) (N := 6) hx hb hT xi_De hown hK.1 hP m_87 c_86 rfl 4 (by decide) (hT _ k6e_8) (fun _ h9 => h9) rfl xd_De_layer_108 ?_
      have hFc := px_free hD hS hA
      refine va_callq (va_runV (As := [.int (nI ml)]) (rest := []) ⟨hx, hb, hml, hown, hT⟩ (xc_Ch_draftX l D kA H.size ad Ej9 RL g ml nd 0 wl.length fi y L7 (by first | assumption | omega) hCX7 hTD7 hTL7 hy hCB7) (cwV 1 hT (wT_V k6e_10 k6e_11 k6e_12 k6e_13 k6e_9) rfl rfl rfl (by decide +kernel) ⟨Nat.le_of_ble_eq_true rfl, Nat.le_of_ble_eq_true rfl⟩) (px_preV hK hP hD m_95 c_94 rfl) rfl rfl hl.1 rfl (lv_room (Nat.le_of_ble_eq_true rfl)) xd_De_layer_111 ⟨(Nat.le_of_ble_eq_true rfl), (Nat.le_of_ble_eq_true rfl)⟩) hS (fun q _ h => hFc q h) hFc (fun r101 u102 t H1 locs ht hvm hp103 hB hz1 hk1 hS => ?_)
      obtain ⟨hP1, hD1⟩ := hB
      rw [ht] at hP1
      have hD1 := hD1.weaken (fun _ _ _ h => hFc _ h)
      generalize H1 = H at hP1 hS ⊢
      have hP := hP1
      have hD := hD1
      obtain ⟨ad104, E105, RL106⟩ := u102
      obtain ⟨hp110, p_107, p_108, p_109⟩ := hp103
      have p_107 : (∀ b2 o2, ¬ (b2 = 20 + ml) → E105 b2 o2 = Ej9 b2 o2) := p_107
      have p_108 : (∀ b2 o2, ¬ (b2 = 20 + ml) → ad104 b2 o2 = ad b2 o2) := p_108
      have p_109 : (∀ x ∈ RL, x ∈ RL106) := p_109
      have nb_111 : ¬ (0 = 20 + ml) := by omega
      have hl : lv_has ls 7 [(0, .ref (ad104 0 0))] := by
        rw [p_108 0 0 nb_111]; exact hl
      have m_112 : (0, 0) ∈ RL106 := p_109 _ m_87
      have m_113 : (0, 5) ∈ RL106 := p_109 _ m_90
      have m_114 : (0, 6) ∈ RL106 := p_109 _ m_92
      have m_115 : (0, 7) ∈ RL106 := p_109 _ m_95
      have m_116 : (0, 8) ∈ RL106 := p_109 _ m_97
      have m_117 : (0, 9) ∈ RL106 := p_109 _ m_100
      have c_118 : E105 0 0 = .inr (0, [.ref (ad104 0 1), .ref (ad104 0 5), .ref (ad104 0 7), .ref (ad104 0 9), .int (nI ml), .int lf_85]) := by rw [p_107 0 0 nb_111, p_108 0 1 nb_111, p_108 0 5 nb_111, p_108 0 7 nb_111, p_108 0 9 nb_111]; exact c_86
      have c_119 : E105 0 5 = .inr (2, [.ref (ad104 0 6), .int (nI nd)]) := by rw [p_107 0 5 nb_111, p_108 0 6 nb_111]; exact c_89
      have c_120 : E105 0 6 = .inl (kA 4, 12, .inr (.inr (.inr (.inr fd_88)))) := by rw [p_107 0 6 nb_111]; exact c_91
      have c_121 : E105 0 7 = .inr (3, [.ref (ad104 0 5), .ref (ad104 0 8), .int (nI (L7.length)), .int cf_93, pv_93]) := by rw [p_107 0 7 nb_111, p_108 0 5 nb_111, p_108 0 8 nb_111]; exact c_94
      have c_122 : E105 0 8 = .inl (kA 4, 12, .inr (.inr (.inr (.inr fc_93)))) := by rw [p_107 0 8 nb_111]; exact c_96
      have c_123 : E105 0 9 = .inl (kA 5, 5, .inr (.inr (.inr (.inr fl_98)))) := by rw [p_107 0 9 nb_111]; exact c_99
      have hP : va_P D xcl (rp ad104 E105 RL106) H := hP
      have hD : va_D A (rp ad104 E105 RL106) := hD
      rcases hp110 with ⟨⟨rfl, z124, z125⟩, z126, z127, z128, z129⟩
      · refine W.eq (g2 := F0 m 114 ls [.ref (ad104 (20 + ml) 0)]) rfl ?_
        have hA00 : ad104 0 0 = ad 0 0 := by show ad104 0 0 = _; rw [p_108 0 0 (by omega)]
        have hDE : ∀ b2 o2, ¬ b2 = 20 + ml → E105 b2 o2 = Ej9 b2 o2 := fun b2 o2 h9 => by show E105 b2 o2 = _; rw [p_107 b2 o2 (by omega)]
        have hDA : ∀ b2 o2, ¬ b2 = 20 + ml → ad104 b2 o2 = ad b2 o2 := fun b2 o2 h9 => by show ad104 b2 o2 = _; rw [p_108 b2 o2 (by omega)]
        have hFXd : FRX ml nd ad ad104 E E105 := FRX_tr hFX7 (FRX_D hnd12 hDE hDA)
        have hCI : CI kA ad104 E105 RL106 ml nd 0 wl.length L7.length := z124
        have hLI : LI kA ad104 E105 RL106 nd ml := z125
        have hTLd : TLas (gDr g ml y L7) ad104 E105 nd (ml + 1) := z126
        have hCBd : CBs (gDr g ml y L7) E105 (ml + 1) := z127
        have hLBd : LBs (gDr g ml y L7) E105 ml := z128
        have hRBd : RBs (gDr g ml y L7) E105 ml := z129
        have hTDd0 : TDs g E105 nd := TDs_same (fun d9 hd9 => fun2 fun o9 => hDE (1 + d9) o9 (by omega)) hTD7
        obtain ⟨hmB, hDk, hLi, hSh, hCh, hLa, hDIs, hLIs⟩ := id hCI
        obtain ⟨lf_130, q_130⟩ := id (hDk)
        have c_131 : E105 0 0 = .inr (0, [.ref (ad104 0 1), .ref (ad104 0 5), .ref (ad104 0 7), .ref (ad104 0 9), .int (nI ml), .int lf_130]) := q_130
        have m_132 : (0, 0) ∈ RL106 := hmB 0 (by decide)
        obtain ⟨tx_133, fb_133, fe_133, hl1_133, hw2_133, q1_133, q2_133, q3_133, q4_133, hws_133⟩ := id (hLi)
        have c_134 : E105 0 1 = .inr (1, [.ref (ad104 0 2), .ref (ad104 0 3), .ref (ad104 0 4), .int (nI 0), .int (nI (wl.length))]) := q1_133
        have m_135 : (0, 1) ∈ RL106 := hmB 1 (by decide)
        have c_136 : E105 0 2 = .inl (kA 1, 40, .inl tx_133) := q2_133
        have m_137 : (0, 2) ∈ RL106 := hmB 2 (by decide)
        have c_138 : E105 0 3 = .inl (kA 0, 20, .inl fb_133) := q3_133
        have m_139 : (0, 3) ∈ RL106 := hmB 3 (by decide)
        have c_140 : E105 0 4 = .inl (kA 0, 20, .inl fe_133) := q4_133
        have m_141 : (0, 4) ∈ RL106 := hmB 4 (by decide)
        obtain ⟨fd_142, hnd_142, q5_142, q6_142, hds_142⟩ := id (hSh)
        have c_143 : E105 0 5 = .inr (2, [.ref (ad104 0 6), .int (nI nd)]) := q5_142
        have m_144 : (0, 5) ∈ RL106 := hmB 5 (by decide)
        have c_145 : E105 0 6 = .inl (kA 4, 12, .inr (.inr (.inr (.inr fd_142)))) := q6_142
        have m_146 : (0, 6) ∈ RL106 := hmB 6 (by decide)
        obtain ⟨cf_147, pv_147, fc_147, hcs_147, hpv_147, q7_147, q8_147, hfc_147⟩ := id (hCh)
        have c_148 : E105 0 7 = .inr (3, [.ref (ad104 0 5), .ref (ad104 0 8), .int (nI (L7.length)), .int cf_147, pv_147]) := q7_147
        have m_149 : (0, 7) ∈ RL106 := hmB 7 (by decide)
        have c_150 : E105 0 8 = .inl (kA 4, 12, .inr (.inr (.inr (.inr fc_147)))) := q8_147
        have m_151 : (0, 8) ∈ RL106 := hmB 8 (by decide)
        obtain ⟨fl_152, hml_152, q9_152, hla_152⟩ := id (hLa)
        have c_153 : E105 0 9 = .inl (kA 5, 5, .inr (.inr (.inr (.inr fl_152)))) := q9_152
        have m_154 : (0, 9) ∈ RL106 := hmB 9 (by decide)
        have hTDd : TDs (gDr g ml y L7) E105 nd := TDs_gDr hDIs hTDd0
        have hNZd : NZ (gDr g ml y L7) nd := NZ_gDr hNZ
        have hNDd : NDq (gDr g ml y L7) (ml + 1) := ND_gDr hLKP7 hGL7 hnd12 (by omega) hND
        have hUd := UQ_gDr hnd12 (LIs_add hLIs hLI) hTLd hUQ
        have hmcd : mcv (gDr g ml y L7) ml = L7.length := gDr_mc (by omega)
        refine lv_astore hx hb xd_De_layer_114 hl (Nat.le_of_ble_eq_true rfl) rfl (fun ls hl => ?_)
        have hl : lv_has ls 7 [(6, .ref (ad104 (20 + ml) 0)), (0, .ref (ad104 0 0))] := hl
        refine lv_aload_n hx hb xd_De_layer_116 rfl (lv_at hl 1 rfl) ?_
        refine lv_aload_n hx hb xd_De_layer_117 rfl (lv_at hl 1 rfl) ?_
        refine lv_aload hx hb xd_De_layer_118 (lv_at hl 0 rfl) ?_
        have hFc := px_free hD hS hA
        refine va_calli (va_runV (As := [.ref (ad104 (20 + ml) 0)]) (rest := [.ref (ad104 0 0)]) ⟨hx, hb, hml, hown, hT⟩ (xc_De_faultOfX l D kA H.size ad104 E105 RL106 (gDr g ml y L7) ml nd 0 wl.length L7.length (by first | assumption | omega) hLI hTDd hTLd hLBd hRBd hNZd hNDd hUd) (cwV 1 hT (wT_V k6e_15 k6e_16 k6e_17 k6e_18 k6e_14) rfl rfl rfl (by decide +kernel) ⟨Nat.le_of_ble_eq_true rfl, Nat.le_of_ble_eq_true rfl⟩) (px_preV hK hP hD m_132 c_131 rfl) rfl rfl hl.1 rfl (lv_room (Nat.le_of_ble_eq_true rfl)) xd_De_layer_120 ⟨(Nat.le_of_ble_eq_true rfl), (Nat.le_of_ble_eq_true rfl)⟩) hS (fun q _ h => hFc q h) hFc (fun r155 u156 t H1 locs ht hvm hp157 hB hz1 hk1 hS => ?_)
        obtain ⟨hP1, hD1⟩ := hB
        rw [ht] at hP1
        have hD1 := hD1.weaken (fun _ _ _ h => hFc _ h)
        generalize H1 = H at hP1 hS ⊢
        have hP := hP1
        have hD := hD1
        have hP : va_P D xcl (rp ad104 E105 RL106) H := hP
        have hD : va_D A (rp ad104 E105 RL106) := hD
        have hfo : r155 = nI (rsW (gDr g ml y L7) ml L7.length) := by rw [← hmcd]; exact hp157
        refine px_put (D := D) (ci := 0) (v := .int r155) (ty := .int) (C := xR_De) (T := xT_De) (N := 6) hx hb hT xi_De xt_De xt_De_ok xn_De hown hK.1 hP hD hS m_132 c_131 rfl 5 (by decide) (hT _ k6e_0) (fun _ h9 => h9) rfl (by decide +kernel) rfl rfl (Nat.le_of_ble_eq_true rfl) xd_De_layer_123 (fun H locs hP hD hS => ?_)
        have hP : va_P D xcl (rp ad104 (up2 E105 0 0 (.inr (0, [.ref (ad104 0 1), .ref (ad104 0 5), .ref (ad104 0 7), .ref (ad104 0 9), .int (nI ml), .int r155]))) RL106) H := hP
        have hD : va_D A (rp ad104 (up2 E105 0 0 (.inr (0, [.ref (ad104 0 1), .ref (ad104 0 5), .ref (ad104 0 7), .ref (ad104 0 9), .int (nI ml), .int r155]))) RL106) := hD
        generalize hE159 : up2 E105 0 0 (.inr (0, [.ref (ad104 0 1), .ref (ad104 0 5), .ref (ad104 0 7), .ref (ad104 0 9), .int (nI ml), .int r155])) = E158 at hP hD
        have fE160 : ∀ b2 o2, ¬ (b2 = 0 ∧ o2 = 0) → E158 b2 o2 = E105 b2 o2 := fun b2 o2 h9 => by rw [← hE159]; exact up2_ne (nr_or h9)
        have c_161 : E158 0 0 = .inr (0, [.ref (ad104 0 1), .ref (ad104 0 5), .ref (ad104 0 7), .ref (ad104 0 9), .int (nI ml), .int r155]) := by rw [← hE159]; exact up2_eq
        have c_162 : E158 0 1 = .inr (1, [.ref (ad104 0 2), .ref (ad104 0 3), .ref (ad104 0 4), .int (nI 0), .int (nI (wl.length))]) := (fE160 0 1 (fun q9 => absurd q9.2 (by decide))).trans c_134
        have c_163 : E158 0 2 = .inl (kA 1, 40, .inl tx_133) := (fE160 0 2 (fun q9 => absurd q9.2 (by decide))).trans c_136
        have c_164 : E158 0 3 = .inl (kA 0, 20, .inl fb_133) := (fE160 0 3 (fun q9 => absurd q9.2 (by decide))).trans c_138
        have c_165 : E158 0 4 = .inl (kA 0, 20, .inl fe_133) := (fE160 0 4 (fun q9 => absurd q9.2 (by decide))).trans c_140
        have c_166 : E158 0 5 = .inr (2, [.ref (ad104 0 6), .int (nI nd)]) := (fE160 0 5 (fun q9 => absurd q9.2 (by decide))).trans c_143
        have c_167 : E158 0 6 = .inl (kA 4, 12, .inr (.inr (.inr (.inr fd_142)))) := (fE160 0 6 (fun q9 => absurd q9.2 (by decide))).trans c_145
        have c_168 : E158 0 7 = .inr (3, [.ref (ad104 0 5), .ref (ad104 0 8), .int (nI (L7.length)), .int cf_147, pv_147]) := (fE160 0 7 (fun q9 => absurd q9.2 (by decide))).trans c_148
        have c_169 : E158 0 8 = .inl (kA 4, 12, .inr (.inr (.inr (.inr fc_147)))) := (fE160 0 8 (fun q9 => absurd q9.2 (by decide))).trans c_150
        have c_170 : E158 0 9 = .inl (kA 5, 5, .inr (.inr (.inr (.inr fl_152)))) := (fE160 0 9 (fun q9 => absurd q9.2 (by decide))).trans c_153
        have hB1 : ∀ b2 o2, ¬ b2 = 0 → E158 b2 o2 = E105 b2 o2 := fun b2 o2 h9 => by show E158 b2 o2 = _; rw [fE160 b2 o2 (by omega)]
        have hTDe : TDs (gDr g ml y L7) E158 nd := TDs_same (fun d9 hd9 => fun2 fun o9 => hB1 (1 + d9) o9 (by omega)) hTDd
        have hTLe : TLas (gDr g ml y L7) ad104 E158 nd (ml + 1) := TLas_same (Nat.le_refl _) (fun n9 hn9 => fun2 fun o9 => hB1 (20 + n9) o9 (by omega)) (fun _ _ => rfl) (fun _ _ => rfl) hTLd
        have hCBe : CBs (gDr g ml y L7) E158 (ml + 1) := CBs_same (fun la o9 hla => hB1 (20 + la) o9 (by omega)) hCBd
        have hRBe : RBs (gDr g ml y L7) E158 ml := fun k9 hk9 t9 ht9 => by rw [hB1 (20 + ml) (17 + 10 * k9) (by omega)]; exact hRBd k9 hk9 t9 ht9
        have hFXe : FRX ml nd ad ad104 E E158 := FRX_tr hFXd (FRX_B hB1)
        have h05e : eI (E158 0 0) 5 = r155 := by rw [c_161]; rfl
        have hLI : LI kA ad104 E158 RL106 nd ml := LI_same (Nat.le_refl _) (fun2 fun o9 => by show E158 (20 + ml) o9 = _; rw [fE160 (20 + ml) o9 (by omega)]) rfl (fun _ _ => rfl) (fun _ _ => rfl) (fun _ h => h) hLI
        have hCI : CI kA ad104 E158 RL106 ml nd 0 wl.length L7.length := ⟨hmB, ⟨r155, c_161⟩, ⟨tx_133, fb_133, fe_133, (by omega), (by omega), c_162, c_163, c_164, c_165, hws_133⟩, ⟨fd_142, (by omega), c_166, c_167, hds_142⟩, ⟨cf_147, pv_147, fc_147, (by omega), hpv_147, c_168, c_169, hfc_147⟩, ⟨fl_152, (by omega), c_170, hla_152⟩, (DIs_same (fun d9 hd9 => fun2 fun o9 => by show E158 (1 + d9) o9 = _; rw [fE160 (1 + d9) o9 (by omega)]) (fun _ _ => rfl) (fun _ h9 => h9) hDIs), (LIs_same (Nat.le_refl _) (fun n9 hn9 => fun2 fun o9 => by show E158 (20 + n9) o9 = _; rw [fE160 (20 + n9) o9 (by omega)]) (fun _ _ => rfl) (fun _ _ => rfl) (fun _ h9 => h9) hLIs)⟩
        obtain ⟨hmB, hDk, hLi, hSh, hCh, hLa, hDIs, hLIs⟩ := id hCI
        have m_00 : (0, 0) ∈ RL106 := hmB 0 (by omega)
        refine lv_aload_n hx hb xd_De_layer_126 rfl (lv_at hl 1 rfl) ?_
        refine px_get (D := D) (ci := 0) (v := .int r155) (C := xR_De) (T := xT_De) (N := 6) hx hb hT xi_De hown hK.1 hP m_00 c_161 rfl 5 (by decide) (hT _ k6e_0) (fun _ h9 => h9) rfl xd_De_layer_127 ?_
        refine lv_if_eq (tgt := 143) hx hb xd_De_layer_130 (by decide) (fun hc171 => ?_) (fun hc171 => ?_)
        · have hrs0 : rsW (gDr g ml y L7) ml L7.length = 0 := by
            have q := hc171
            rw [hfo] at q
            have q2 := rsW_le (g := (gDr g ml y L7)) (nl := ml) (md := L7.length)
            exact nI_inj (b := 0) (by omega) (by omega) q
          have hne5 := rsW_0 hrs0
          refine lv_aload_n hx hb xd_De_layer_143 rfl (lv_at hl 1 rfl) ?_
          refine lv_aload hx hb xd_De_layer_144 (lv_at hl 0 rfl) ?_
          have hFc := px_free hD hS hA
          refine va_callv (va_runV (As := [.ref (ad104 (20 + ml) 0)]) (rest := []) ⟨hx, hb, hml, hown, hT⟩ (xc_De_keepX l D kA H.size ad104 E158 RL106 (gDr g ml y L7) ml nd 0 wl.length L7.length L7 (by first | assumption | omega) hLI (by omega) hTDe hTLe hmcd (fun k9 hk9 => gDr_md hGL7 hnd12 hk9)) (cwV 1 hT (wT_V k6e_20 k6e_21 k6e_22 k6e_18 k6e_19) rfl rfl rfl (by decide +kernel) ⟨Nat.le_of_ble_eq_true rfl, Nat.le_of_ble_eq_true rfl⟩) (px_preV hK hP hD m_00 c_161 rfl) rfl rfl hl.1 rfl (lv_room (Nat.le_of_ble_eq_true rfl)) xd_De_layer_146 ⟨(Nat.le_of_ble_eq_true rfl), (Nat.le_of_ble_eq_true rfl)⟩) hS (fun q _ h => hFc q h) hFc (fun u173 t H1 locs ht hvm hp174 hB hz1 hk1 hS => ?_)
          obtain ⟨hP1, hD1⟩ := hB
          rw [ht] at hP1
          have hD1 := hD1.weaken (fun _ _ _ h => hFc _ h)
          generalize H1 = H at hP1 hS ⊢
          have hP := hP1
          have hD := hD1
          obtain ⟨E175, rfl⟩ : ∃ z, z = u173 := ⟨_, rfl⟩
          have hP : va_P D xcl (rp ad104 E175 RL106) H := hP
          have hD : va_D A (rp ad104 E175 RL106) := hD
          obtain ⟨hCI, hTDk, hLyK, h05k⟩ := hp174
          have hCI : CI kA ad104 E175 RL106 (ml + 1) nd 0 wl.length L7.length := hCI
          have hLyK : ∀ n9, n9 < ml + 1 → E175 (20 + n9) = E158 (20 + n9) := hLyK
          have hTLk : TLas (gDr g ml y L7) ad104 E175 nd (ml + 1) := TLas_same (Nat.le_refl _) hLyK (fun _ _ => rfl) (fun _ _ => rfl) hTLe
          have hCBk : CBs (gDr g ml y L7) E175 (ml + 1) := CBs_same (fun la o9 hla => by rw [hLyK la hla]) hCBe
          have hRBk : RBs (gDr g ml y L7) E175 ml := fun k9 hk9 t9 ht9 => by rw [hLyK ml (by omega)]; exact hRBe k9 hk9 t9 ht9
          have h05z : eI (E175 0 0) 5 = 0 := h05k.trans (h05e.trans hc171)
          obtain ⟨hmB, hDk, hLi, hSh, hCh, hLa, hDIs, hLIs⟩ := id hCI
          obtain ⟨fd_176, hnd_176, q5_176, q6_176, hds_176⟩ := id (hSh)
          have c_177 : E175 0 5 = .inr (2, [.ref (ad104 0 6), .int (nI nd)]) := q5_176
          have m_178 : (0, 5) ∈ RL106 := hmB 5 (by decide)
          have c_179 : E175 0 6 = .inl (kA 4, 12, .inr (.inr (.inr (.inr fd_176)))) := q6_176
          have m_180 : (0, 6) ∈ RL106 := hmB 6 (by decide)
          obtain ⟨fl_181, hml_181, q9_181, hla_181⟩ := id (hLa)
          have c_182 : E175 0 9 = .inl (kA 5, 5, .inr (.inr (.inr (.inr fl_181)))) := q9_181
          have m_183 : (0, 9) ∈ RL106 := hmB 9 (by decide)
          refine lv_aload hx hb xd_De_layer_149 (lv_at hl 0 rfl) ?_
          obtain ⟨m0_184, m1_184, pv_184, op_184, mk_184, fm_184, hmk_184, hpv_184, q0_184, q1_184, hk_184⟩ := id (hLIs ml (by omega))
          have c_185 : E175 (20 + ml) 0 = .inr (5, [.int (nI ml), pv_184, .ref (ad104 (20 + ml) 1), .int op_184]) := q0_184
          have m_186 : (20 + ml, 0) ∈ RL106 := m0_184
          have c_187 : E175 (20 + ml) 1 = .inl (kA 6, mk_184, .inr (.inr (.inr (.inr fm_184)))) := q1_184
          have m_188 : (20 + ml, 1) ∈ RL106 := m1_184
          refine px_get (D := D) (ci := 5) (v := .int (nI ml)) (C := xR_Ly) (T := xT_Ly) (N := 4) hx hb hT xi_Ly hown hK.1 hP m_186 c_185 rfl 0 (by decide) (hT _ k6e_23) (fun _ h9 => h9) rfl xd_De_layer_151 ?_
          refine W.widen (k := 101) (n := 430) (Nat.le_of_ble_eq_true rfl) (Nat.le_of_ble_eq_true rfl) ?_
          refine vx_ret ?_
          exact W.iret (v := (nI ml)) hx hb hr (fun t ht hW => ⟨⟨(nI ml), (ad104, E175, RL106), rfl, ⟨⟨rfl, by omega, hA00, h05z⟩, L7, wl.length, L7.length, (by rw [← hwl]; exact hyL), (by unfold yW; rw [hyq9]; exact hrs0), hCI, (by rw [hyq9]; exact hTDk), (by rw [hyq9]; exact hTLk), (by rw [hyq9]; exact hCBk), (by rw [hyq9]; exact hRBk), (fun n9 hn9 => (hLyK n9 (by omega)).trans (hFXe.1 n9 hn9)), hFXe.2.1, hFXe.2.2.2⟩, by rw [ht]; exact hP, hD⟩, hS.F ht⟩) hS.2.2 xd_De_layer_154
        · have hyW : ¬ yW g ml px L7 = 0 := fun q => hc171 (by rw [hfo]; unfold yW at q; rw [hyq9] at q; rw [q]; rfl)
          exact y_throwB (ik := 63) (is := 104) (wf := fun (u : (Nat → Nat → Nat) × (Nat → Nat → va_E) × List (Nat × Nat)) => rp u.1 u.2.1 u.2.2) (ad104, E158, RL106) (⟨⟨⟨wl.length, L7.length, hCI⟩, hA00, hFXe⟩, Or.inr (Or.inr ⟨L7, (by rw [← hwl]; exact hyL), hyW, (by rw [h05e, hfo]; unfold yW; rw [hyq9])⟩)⟩) (Or.inr (Or.inr ⟨rfl, L7, (by rw [← hwl]; exact hyL), hyW⟩)) hx hb hlt hown hT hK k6e_24 k6e_25 hZ.2.2.2.1.2.2.2.2.2.2.2.2.2.2.2.2.2.2.2.2.1 hZ.1 hS hP hD (hl.1.trans hml.symm) xd_De_layer_133 xd_De_layer_136 xd_De_layer_137 xd_De_layer_139 xd_De_layer_142 htab (Nat.le_of_ble_eq_true rfl) (Nat.le_of_ble_eq_true rfl) (Nat.le_of_ble_eq_true rfl) (Nat.le_of_ble_eq_true rfl) hlocks (Nat.le_of_ble_eq_true rfl) (Nat.le_of_ble_eq_true rfl)
    rcases (show y = 0 ∨ ∃ yq, y = yq + 1 from by rcases Nat.eq_zero_or_pos y with q | q; exact Or.inl q; exact Or.inr ⟨y - 1, by omega⟩) with hyq | ⟨yq, hyq⟩
    · rw [lyv_0 hyq] at hl
      have hl : lv_has ls 7 [(4, .null), (3, .int bi), (2, .int px), (1, .int fi), (0, .ref (ad 0 0))] := hl
      refine lv_aload_n hx hb xd_De_layer_65 rfl (lv_at hl 4 rfl) ?_
      refine px_get (D := D) (ci := 0) (v := .ref (ad 0 7)) (C := xR_De) (T := xT_De) (N := 6) hx hb hT xi_De hown hK.1 hP m_60 c_59 rfl 2 (by decide) (hT _ k6e_7) (fun _ h9 => h9) rfl xd_De_layer_66 ?_
      refine lv_iload_n hx hb xd_De_layer_69 rfl (lv_at hl 3 rfl) ?_
      refine lv_aloadN hx hb xd_De_layer_70 (lv_at hl 0 rfl) ?_
      have hFc := px_free hD hS hA
      refine va_callv (va_runV (As := [.int fi, .null]) (rest := []) ⟨hx, hb, hml, hown, hT⟩ (xc_Ch_beginN l D kA H.size ad E42 RL cs cf_75 pv_75 fi m_77 c_76) (cwV 2 hT (wT_V k6e_27 k6e_28 k6e_29 k6e_13 k6e_26) rfl rfl rfl (by decide +kernel) ⟨Nat.le_of_ble_eq_true rfl, Nat.le_of_ble_eq_true rfl⟩) (px_preV hK hP hD m_77 c_76 rfl) rfl rfl hl.1 rfl (lv_room (Nat.le_of_ble_eq_true rfl)) xd_De_layer_72 ⟨(Nat.le_of_ble_eq_true rfl), (Nat.le_of_ble_eq_true rfl)⟩) hS (fun q _ h => hFc q h) hFc (fun u190 t H1 locs ht hvm hp191 hB hz1 hk1 hS => ?_)
      obtain ⟨hP1, hD1⟩ := hB
      rw [ht] at hP1
      have hD1 := hD1.weaken (fun _ _ _ h => hFc _ h)
      generalize H1 = H at hP1 hS ⊢
      have hP := hP1
      have hD := hD1
      obtain ⟨E192, rfl⟩ : ∃ z, z = u190 := ⟨_, rfl⟩
      obtain ⟨hp195, p_193, p_194⟩ := hp191
      have p_193 : E192 0 7 = .inr (3, [.ref (ad 0 5), .ref (ad 0 8), .int 0, .int fi, .null]) := p_193
      have p_194 : (∀ b2 o2, ¬ (b2 = 0 ∧ o2 = 7) → E192 b2 o2 = E42 b2 o2) := p_194
      have c_196 : E192 0 0 = .inr (0, [.ref (ad 0 1), .ref (ad 0 5), .ref (ad 0 7), .ref (ad 0 9), .int (nI ml), .int lf_58]) := (p_194 0 0 (fun q9 => absurd q9.2 (by decide))).trans c_59
      have c_197 : E192 0 1 = .inr (1, [.ref (ad 0 2), .ref (ad 0 3), .ref (ad 0 4), .int (nI 0), .int (nI (wl.length))]) := (p_194 0 1 (fun q9 => absurd q9.2 (by decide))).trans c_62
      have c_198 : E192 0 2 = .inl (kA 1, 40, .inl tx_61) := (p_194 0 2 (fun q9 => absurd q9.2 (by decide))).trans c_64
      have c_199 : E192 0 3 = .inl (kA 0, 20, .inl fb_61) := (p_194 0 3 (fun q9 => absurd q9.2 (by decide))).trans c_66
      have c_200 : E192 0 4 = .inl (kA 0, 20, .inl fe_61) := (p_194 0 4 (fun q9 => absurd q9.2 (by decide))).trans c_68
      have c_201 : E192 0 5 = .inr (2, [.ref (ad 0 6), .int (nI nd)]) := (p_194 0 5 (fun q9 => absurd q9.2 (by decide))).trans c_71
      have c_202 : E192 0 6 = .inl (kA 4, 12, .inr (.inr (.inr (.inr fd_70)))) := (p_194 0 6 (fun q9 => absurd q9.2 (by decide))).trans c_73
      have c_203 : E192 0 8 = .inl (kA 4, 12, .inr (.inr (.inr (.inr fc_75)))) := (p_194 0 8 (fun q9 => absurd q9.2 (by decide))).trans c_78
      have c_204 : E192 0 9 = .inl (kA 5, 5, .inr (.inr (.inr (.inr fl_80)))) := (p_194 0 9 (fun q9 => absurd q9.2 (by decide))).trans c_81
      have hP : va_P D xcl (rp ad E192 RL) H := hP
      have hD : va_D A (rp ad E192 RL) := hD
      have hCX0 : CX ad E192 nd fi y [] := ⟨by rw [p_193]; rfl, by rw [p_193, lyv_0 hyq]; rfl, fun k9 hk9 => absurd hk9 (Nat.not_lt_zero _), GL_nil⟩
      have hF65 : F78 E42 E192 := fun b2 o2 h79 h89 => by show E192 b2 o2 = _; rw [p_194 b2 o2 (by omega)]
      have hTD2 : TDs g E192 nd := TDs_78 hF65 hTD1
      have hTL2 : TLas g ad E192 nd ml := TLas_78 hF65 hTL1
      have hLW2 : LW g E192 len wl := LW_78 hF65 hLW
      have hCI : CI kA ad E192 RL ml nd 0 wl.length 0 := ⟨hmB, ⟨lf_58, c_196⟩, ⟨tx_61, fb_61, fe_61, (by omega), (by omega), c_197, c_198, c_199, c_200, hws_61⟩, ⟨fd_70, (by omega), c_201, c_202, hds_70⟩, ⟨fi, .null, fc_75, (by omega), (Or.inl rfl), p_193, c_203, (fun k9 hk9 => absurd hk9 (by omega))⟩, ⟨fl_80, (by omega), c_204, hla_80⟩, (DIs_same (fun d9 hd9 => fun2 fun o9 => by show E192 (1 + d9) o9 = _; rw [p_194 (1 + d9) o9 (by omega)]) (fun _ _ => rfl) (fun _ h9 => h9) hDIs), (LIs_same (Nat.le_refl _) (fun n9 hn9 => fun2 fun o9 => by show E192 (20 + n9) o9 = _; rw [p_194 (20 + n9) o9 (by omega)]) (fun _ _ => rfl) (fun _ _ => rfl) (fun _ h9 => h9) hLIs)⟩
      obtain ⟨hmB, hDk, hLi, hSh, hCh, hLa, hDIs, hLIs⟩ := id hCI
      refine lv_aload_n hx hb xd_De_layer_75 rfl (lv_at hl 4 rfl) ?_
      have hFc := px_free hD hS hA
      obtain ⟨lf_205, q_205⟩ := id (hDk)
      have c_206 : E192 0 0 = .inr (0, [.ref (ad 0 1), .ref (ad 0 5), .ref (ad 0 7), .ref (ad 0 9), .int (nI ml), .int lf_205]) := q_205
      have m_207 : (0, 0) ∈ RL := hmB 0 (by decide)
      refine va_calli (va_runV (As := []) (rest := []) ⟨hx, hb, hml, hown, hT⟩ (xc_De_addRootsX l D kA H.size ad E192 RL g ml nd 0 len wl fi y ([]) (by first | assumption | omega) hCX0 hTD2 hTL2 hy hLW2) (cwV 0 hT (wT_V k6e_31 k6e_32 k6e_33 k6e_18 k6e_30) rfl rfl rfl (by decide +kernel) ⟨Nat.le_of_ble_eq_true rfl, Nat.le_of_ble_eq_true rfl⟩) (px_preV hK hP hD m_207 c_206 rfl) rfl rfl hl.1 rfl (lv_room (Nat.le_of_ble_eq_true rfl)) xd_De_layer_76 ⟨(Nat.le_of_ble_eq_true rfl), (Nat.le_of_ble_eq_true rfl)⟩) hS (fun q _ h => hFc q h) hFc (fun r208 u209 t H1 locs ht hvm hp210 hB hz1 hk1 hS => ?_)
      obtain ⟨hP1, hD1⟩ := hB
      rw [ht] at hP1
      have hD1 := hD1.weaken (fun _ _ _ h => hFc _ h)
      generalize H1 = H at hP1 hS ⊢
      have hP := hP1
      have hD := hD1
      obtain ⟨E211, rfl⟩ : ∃ z, z = u209 := ⟨_, rfl⟩
      have hP : va_P D xcl (rp ad E211 RL) H := hP
      have hD : va_D A (rp ad E211 RL) := hD
      obtain ⟨L1, hCI, hCX1, hF76, hres⟩ := hp210
      have hCI : CI kA ad E211 RL ml nd 0 wl.length L1.length := hCI
      have hF2 : F78 E42 E211 := F78_tr hF65 hF76
      have hTD3 : TDs g E211 nd := TDs_78 hF2 hTD1
      have hTL3 : TLas g ad E211 nd ml := TLas_78 hF2 hTL1
      have hFX2 : FRX ml nd ad ad E E211 := FRX_tr hFX1 (FRX_78 hF2)
      have h052 : eI (E211 0 0) 5 = 0 := by rw [hF2 0 0 (by omega) (by omega)]; exact h051
      obtain ⟨hmB, hDk, hLi, hSh, hCh, hLa, hDIs, hLIs⟩ := id hCI
      obtain ⟨cf_212, pv_212, fc_212, hcs_212, hpv_212, q7_212, q8_212, hfc_212⟩ := id (hCh)
      have c_213 : E211 0 7 = .inr (3, [.ref (ad 0 5), .ref (ad 0 8), .int (nI (L1.length)), .int cf_212, pv_212]) := q7_212
      have m_214 : (0, 7) ∈ RL := hmB 7 (by decide)
      have c_215 : E211 0 8 = .inl (kA 4, 12, .inr (.inr (.inr (.inr fc_212)))) := q8_212
      have m_216 : (0, 8) ∈ RL := hmB 8 (by decide)
      rcases hres with ⟨rfl, hok9⟩ | ⟨rfl, hok9⟩
      · have hok8 := hok9
        refine lv_if_ne (tgt := 92) hx hb xd_De_layer_79 (by decide) (fun _ => ?_) (fun hc217 => absurd hc217 (by decide))
        refine lv_iload_n hx hb xd_De_layer_92 rfl (lv_at hl 1 rfl) ?_
        refine lv_if_eq (tgt := 103) hx hb xd_De_layer_93 (by decide) (fun hc218 => ?_) (fun hc218 => ?_)
        · exact jn84 (E211, L1, L1) _ _ _ (lv_sub hl [4] rfl) hP hD hS ⟨(show CI kA ad E211 RL ml nd 0 wl.length L1.length from hCI), (show CX ad E211 nd fi y L1 from hCX1), (show F78 E42 E211 from hF2), (show aF (adG g nd fi y) [] (nmL (g 0) wl wl.length 0) = (true, L1) from hok9), (show L1 = cif (¬ bi = 0) (bIt (bUg g nd fi y) g y 13 L1) L1 from (cif_neg (fun q => q hc218)).symm)⟩
        · refine lv_aload_n hx hb xd_De_layer_96 rfl (lv_at hl 4 rfl) ?_
          obtain ⟨lf_219, q_219⟩ := id (hDk)
          have c_220 : E211 0 0 = .inr (0, [.ref (ad 0 1), .ref (ad 0 5), .ref (ad 0 7), .ref (ad 0 9), .int (nI ml), .int lf_219]) := q_219
          have m_221 : (0, 0) ∈ RL := hmB 0 (by decide)
          refine px_get (D := D) (ci := 0) (v := .ref (ad 0 7)) (C := xR_De) (T := xT_De) (N := 6) hx hb hT xi_De hown hK.1 hP m_221 c_220 rfl 2 (by decide) (hT _ k6e_7) (fun _ h9 => h9) rfl xd_De_layer_97 ?_
          have hFc := px_free hD hS hA
          refine va_callv (va_runV (As := []) (rest := []) ⟨hx, hb, hml, hown, hT⟩ (xc_Ch_bindX l D kA H.size ad E211 RL g ml nd 0 wl.length fi y L1 (by first | assumption | omega) hCX1 hTD3 hTL3 hy) (cwV 0 hT (wT_V k6e_35 k6e_36 k6e_37 k6e_13 k6e_34) rfl rfl rfl (by decide +kernel) ⟨Nat.le_of_ble_eq_true rfl, Nat.le_of_ble_eq_true rfl⟩) (px_preV hK hP hD m_214 c_213 rfl) rfl rfl hl.1 rfl (lv_room (Nat.le_of_ble_eq_true rfl)) xd_De_layer_100 ⟨(Nat.le_of_ble_eq_true rfl), (Nat.le_of_ble_eq_true rfl)⟩) hS (fun q _ h => hFc q h) hFc (fun u223 t H1 locs ht hvm hp224 hB hz1 hk1 hS => ?_)
          obtain ⟨hP1, hD1⟩ := hB
          rw [ht] at hP1
          have hD1 := hD1.weaken (fun _ _ _ h => hFc _ h)
          generalize H1 = H at hP1 hS ⊢
          have hP := hP1
          have hD := hD1
          obtain ⟨E225, rfl⟩ : ∃ z, z = u223 := ⟨_, rfl⟩
          have hP : va_P D xcl (rp ad E225 RL) H := hP
          have hD : va_D A (rp ad E225 RL) := hD
          obtain ⟨L2, hCI, hCX2, hF9, hsp9⟩ := hp224
          have hCI : CI kA ad E225 RL ml nd 0 wl.length L2.length := hCI
          have hF2b : F78 E42 E225 := F78_tr hF2 hF9
          obtain ⟨hmB, hDk, hLi, hSh, hCh, hLa, hDIs, hLIs⟩ := id hCI
          exact jn84 (E225, L1, L2) _ _ _ (lv_sub hl [4] rfl) hP hD hS ⟨(show CI kA ad E225 RL ml nd 0 wl.length L2.length from hCI), (show CX ad E225 nd fi y L2 from hCX2), (show F78 E42 E225 from hF2b), (show aF (adG g nd fi y) [] (nmL (g 0) wl wl.length 0) = (true, L1) from hok9), (show L2 = cif (¬ bi = 0) (bIt (bUg g nd fi y) g y 13 L1) L1 from by rw [cif_pos hc218, hsp9])⟩
      · have hok8 := hok9
        refine lv_if_ne (tgt := 92) hx hb xd_De_layer_79 (by decide) (fun hc226 => absurd (by decide) hc226) (fun _ => ?_)
        exact y_throwC (ik := 89) (is := 91) (wf := fun (u : (Nat → Nat → Nat) × (Nat → Nat → va_E) × List (Nat × Nat)) => rp u.1 u.2.1 u.2.2) (ad, E211, RL) (⟨⟨⟨wl.length, L1.length, hCI⟩, rfl, hFX2⟩, Or.inr (Or.inl ⟨(by rw [← hwl]; exact ⟨hok, L1, (by rw [hyq9]; exact hok9)⟩), h052⟩)⟩) (Or.inr (Or.inl ⟨rfl, (by rw [← hwl]; exact ⟨hok, L1, (by rw [hyq9]; exact hok9)⟩)⟩)) hx hb hlt hown hT hK k6e_38 k6e_39 hZ.2.2.2.1.2.2.2.2.2.2.2.2.2.2.2.2.2.2.2.1 hZ.1 hS hP hD (hl.1.trans hml.symm) xd_De_layer_82 xd_De_layer_85 xd_De_layer_86 xd_De_layer_88 xd_De_layer_91 htab (Nat.le_of_ble_eq_true rfl) (Nat.le_of_ble_eq_true rfl) (Nat.le_of_ble_eq_true rfl) (Nat.le_of_ble_eq_true rfl) hlocks (Nat.le_of_ble_eq_true rfl) (Nat.le_of_ble_eq_true rfl)
    · rw [lyv_s hyq] at hl
      have hl : lv_has ls 7 [(4, .ref (ad (20 + yq) 0)), (3, .int bi), (2, .int px), (1, .int fi), (0, .ref (ad 0 0))] := hl
      refine lv_aload_n hx hb xd_De_layer_65 rfl (lv_at hl 4 rfl) ?_
      refine px_get (D := D) (ci := 0) (v := .ref (ad 0 7)) (C := xR_De) (T := xT_De) (N := 6) hx hb hT xi_De hown hK.1 hP m_60 c_59 rfl 2 (by decide) (hT _ k6e_7) (fun _ h9 => h9) rfl xd_De_layer_66 ?_
      refine lv_iload_n hx hb xd_De_layer_69 rfl (lv_at hl 3 rfl) ?_
      refine lv_aload hx hb xd_De_layer_70 (lv_at hl 0 rfl) ?_
      have hFc := px_free hD hS hA
      refine va_callv (va_runV (As := [.int fi, .ref (ad (20 + yq) 0)]) (rest := []) ⟨hx, hb, hml, hown, hT⟩ (xc_Ch_beginR l D kA H.size ad E42 RL cs cf_75 pv_75 fi (ad (20 + yq) 0) m_77 c_76) (cwV 2 hT (wT_V k6e_27 k6e_28 k6e_29 k6e_13 k6e_26) rfl rfl rfl (by decide +kernel) ⟨Nat.le_of_ble_eq_true rfl, Nat.le_of_ble_eq_true rfl⟩) (px_preV hK hP hD m_77 c_76 rfl) rfl rfl hl.1 rfl (lv_room (Nat.le_of_ble_eq_true rfl)) xd_De_layer_72 ⟨(Nat.le_of_ble_eq_true rfl), (Nat.le_of_ble_eq_true rfl)⟩) hS (fun q _ h => hFc q h) hFc (fun u228 t H1 locs ht hvm hp229 hB hz1 hk1 hS => ?_)
      obtain ⟨hP1, hD1⟩ := hB
      rw [ht] at hP1
      have hD1 := hD1.weaken (fun _ _ _ h => hFc _ h)
      generalize H1 = H at hP1 hS ⊢
      have hP := hP1
      have hD := hD1
      obtain ⟨E230, rfl⟩ : ∃ z, z = u228 := ⟨_, rfl⟩
      obtain ⟨hp233, p_231, p_232⟩ := hp229
      have p_231 : E230 0 7 = .inr (3, [.ref (ad 0 5), .ref (ad 0 8), .int 0, .int fi, .ref (ad (20 + yq) 0)]) := p_231
      have p_232 : (∀ b2 o2, ¬ (b2 = 0 ∧ o2 = 7) → E230 b2 o2 = E42 b2 o2) := p_232
      have c_234 : E230 0 0 = .inr (0, [.ref (ad 0 1), .ref (ad 0 5), .ref (ad 0 7), .ref (ad 0 9), .int (nI ml), .int lf_58]) := (p_232 0 0 (fun q9 => absurd q9.2 (by decide))).trans c_59
      have c_235 : E230 0 1 = .inr (1, [.ref (ad 0 2), .ref (ad 0 3), .ref (ad 0 4), .int (nI 0), .int (nI (wl.length))]) := (p_232 0 1 (fun q9 => absurd q9.2 (by decide))).trans c_62
      have c_236 : E230 0 2 = .inl (kA 1, 40, .inl tx_61) := (p_232 0 2 (fun q9 => absurd q9.2 (by decide))).trans c_64
      have c_237 : E230 0 3 = .inl (kA 0, 20, .inl fb_61) := (p_232 0 3 (fun q9 => absurd q9.2 (by decide))).trans c_66
      have c_238 : E230 0 4 = .inl (kA 0, 20, .inl fe_61) := (p_232 0 4 (fun q9 => absurd q9.2 (by decide))).trans c_68
      have c_239 : E230 0 5 = .inr (2, [.ref (ad 0 6), .int (nI nd)]) := (p_232 0 5 (fun q9 => absurd q9.2 (by decide))).trans c_71
      have c_240 : E230 0 6 = .inl (kA 4, 12, .inr (.inr (.inr (.inr fd_70)))) := (p_232 0 6 (fun q9 => absurd q9.2 (by decide))).trans c_73
      have c_241 : E230 0 8 = .inl (kA 4, 12, .inr (.inr (.inr (.inr fc_75)))) := (p_232 0 8 (fun q9 => absurd q9.2 (by decide))).trans c_78
      have c_242 : E230 0 9 = .inl (kA 5, 5, .inr (.inr (.inr (.inr fl_80)))) := (p_232 0 9 (fun q9 => absurd q9.2 (by decide))).trans c_81
      have hP : va_P D xcl (rp ad E230 RL) H := hP
      have hD : va_D A (rp ad E230 RL) := hD
      have hCX0 : CX ad E230 nd fi y [] := ⟨by rw [p_231]; rfl, by rw [p_231, lyv_s hyq]; rfl, fun k9 hk9 => absurd hk9 (Nat.not_lt_zero _), GL_nil⟩
      have hF65 : F78 E42 E230 := fun b2 o2 h79 h89 => by show E230 b2 o2 = _; rw [p_232 b2 o2 (by omega)]
      have hTD2 : TDs g E230 nd := TDs_78 hF65 hTD1
      have hTL2 : TLas g ad E230 nd ml := TLas_78 hF65 hTL1
      have hLW2 : LW g E230 len wl := LW_78 hF65 hLW
      have hCI : CI kA ad E230 RL ml nd 0 wl.length 0 := ⟨hmB, ⟨lf_58, c_234⟩, ⟨tx_61, fb_61, fe_61, (by omega), (by omega), c_235, c_236, c_237, c_238, hws_61⟩, ⟨fd_70, (by omega), c_239, c_240, hds_70⟩, ⟨fi, (.ref (ad (20 + yq) 0)), fc_75, (by omega), (Or.inr ⟨yq, by omega, rfl⟩), p_231, c_241, (fun k9 hk9 => absurd hk9 (by omega))⟩, ⟨fl_80, (by omega), c_242, hla_80⟩, (DIs_same (fun d9 hd9 => fun2 fun o9 => by show E230 (1 + d9) o9 = _; rw [p_232 (1 + d9) o9 (by omega)]) (fun _ _ => rfl) (fun _ h9 => h9) hDIs), (LIs_same (Nat.le_refl _) (fun n9 hn9 => fun2 fun o9 => by show E230 (20 + n9) o9 = _; rw [p_232 (20 + n9) o9 (by omega)]) (fun _ _ => rfl) (fun _ _ => rfl) (fun _ h9 => h9) hLIs)⟩
      obtain ⟨hmB, hDk, hLi, hSh, hCh, hLa, hDIs, hLIs⟩ := id hCI
      refine lv_aload_n hx hb xd_De_layer_75 rfl (lv_at hl 4 rfl) ?_
      have hFc := px_free hD hS hA
      obtain ⟨lf_243, q_243⟩ := id (hDk)
      have c_244 : E230 0 0 = .inr (0, [.ref (ad 0 1), .ref (ad 0 5), .ref (ad 0 7), .ref (ad 0 9), .int (nI ml), .int lf_243]) := q_243
      have m_245 : (0, 0) ∈ RL := hmB 0 (by decide)
      refine va_calli (va_runV (As := []) (rest := []) ⟨hx, hb, hml, hown, hT⟩ (xc_De_addRootsX l D kA H.size ad E230 RL g ml nd 0 len wl fi y ([]) (by first | assumption | omega) hCX0 hTD2 hTL2 hy hLW2) (cwV 0 hT (wT_V k6e_31 k6e_32 k6e_33 k6e_18 k6e_30) rfl rfl rfl (by decide +kernel) ⟨Nat.le_of_ble_eq_true rfl, Nat.le_of_ble_eq_true rfl⟩) (px_preV hK hP hD m_245 c_244 rfl) rfl rfl hl.1 rfl (lv_room (Nat.le_of_ble_eq_true rfl)) xd_De_layer_76 ⟨(Nat.le_of_ble_eq_true rfl), (Nat.le_of_ble_eq_true rfl)⟩) hS (fun q _ h => hFc q h) hFc (fun r246 u247 t H1 locs ht hvm hp248 hB hz1 hk1 hS => ?_)
      obtain ⟨hP1, hD1⟩ := hB
      rw [ht] at hP1
      have hD1 := hD1.weaken (fun _ _ _ h => hFc _ h)
      generalize H1 = H at hP1 hS ⊢
      have hP := hP1
      have hD := hD1
      obtain ⟨E249, rfl⟩ : ∃ z, z = u247 := ⟨_, rfl⟩
      have hP : va_P D xcl (rp ad E249 RL) H := hP
      have hD : va_D A (rp ad E249 RL) := hD
      obtain ⟨L1, hCI, hCX1, hF76, hres⟩ := hp248
      have hCI : CI kA ad E249 RL ml nd 0 wl.length L1.length := hCI
      have hF2 : F78 E42 E249 := F78_tr hF65 hF76
      have hTD3 : TDs g E249 nd := TDs_78 hF2 hTD1
      have hTL3 : TLas g ad E249 nd ml := TLas_78 hF2 hTL1
      have hFX2 : FRX ml nd ad ad E E249 := FRX_tr hFX1 (FRX_78 hF2)
      have h052 : eI (E249 0 0) 5 = 0 := by rw [hF2 0 0 (by omega) (by omega)]; exact h051
      obtain ⟨hmB, hDk, hLi, hSh, hCh, hLa, hDIs, hLIs⟩ := id hCI
      obtain ⟨cf_250, pv_250, fc_250, hcs_250, hpv_250, q7_250, q8_250, hfc_250⟩ := id (hCh)
      have c_251 : E249 0 7 = .inr (3, [.ref (ad 0 5), .ref (ad 0 8), .int (nI (L1.length)), .int cf_250, pv_250]) := q7_250
      have m_252 : (0, 7) ∈ RL := hmB 7 (by decide)
      have c_253 : E249 0 8 = .inl (kA 4, 12, .inr (.inr (.inr (.inr fc_250)))) := q8_250
      have m_254 : (0, 8) ∈ RL := hmB 8 (by decide)
      rcases hres with ⟨rfl, hok9⟩ | ⟨rfl, hok9⟩
      · have hok8 := hok9
        refine lv_if_ne (tgt := 92) hx hb xd_De_layer_79 (by decide) (fun _ => ?_) (fun hc255 => absurd hc255 (by decide))
        refine lv_iload_n hx hb xd_De_layer_92 rfl (lv_at hl 1 rfl) ?_
        refine lv_if_eq (tgt := 103) hx hb xd_De_layer_93 (by decide) (fun hc256 => ?_) (fun hc256 => ?_)
        · exact jn84 (E249, L1, L1) _ _ _ (lv_sub hl [4] rfl) hP hD hS ⟨(show CI kA ad E249 RL ml nd 0 wl.length L1.length from hCI), (show CX ad E249 nd fi y L1 from hCX1), (show F78 E42 E249 from hF2), (show aF (adG g nd fi y) [] (nmL (g 0) wl wl.length 0) = (true, L1) from hok9), (show L1 = cif (¬ bi = 0) (bIt (bUg g nd fi y) g y 13 L1) L1 from (cif_neg (fun q => q hc256)).symm)⟩
        · refine lv_aload_n hx hb xd_De_layer_96 rfl (lv_at hl 4 rfl) ?_
          obtain ⟨lf_257, q_257⟩ := id (hDk)
          have c_258 : E249 0 0 = .inr (0, [.ref (ad 0 1), .ref (ad 0 5), .ref (ad 0 7), .ref (ad 0 9), .int (nI ml), .int lf_257]) := q_257
          have m_259 : (0, 0) ∈ RL := hmB 0 (by decide)
          refine px_get (D := D) (ci := 0) (v := .ref (ad 0 7)) (C := xR_De) (T := xT_De) (N := 6) hx hb hT xi_De hown hK.1 hP m_259 c_258 rfl 2 (by decide) (hT _ k6e_7) (fun _ h9 => h9) rfl xd_De_layer_97 ?_
          have hFc := px_free hD hS hA
          refine va_callv (va_runV (As := []) (rest := []) ⟨hx, hb, hml, hown, hT⟩ (xc_Ch_bindX l D kA H.size ad E249 RL g ml nd 0 wl.length fi y L1 (by first | assumption | omega) hCX1 hTD3 hTL3 hy) (cwV 0 hT (wT_V k6e_35 k6e_36 k6e_37 k6e_13 k6e_34) rfl rfl rfl (by decide +kernel) ⟨Nat.le_of_ble_eq_true rfl, Nat.le_of_ble_eq_true rfl⟩) (px_preV hK hP hD m_252 c_251 rfl) rfl rfl hl.1 rfl (lv_room (Nat.le_of_ble_eq_true rfl)) xd_De_layer_100 ⟨(Nat.le_of_ble_eq_true rfl), (Nat.le_of_ble_eq_true rfl)⟩) hS (fun q _ h => hFc q h) hFc (fun u261 t H1 locs ht hvm hp262 hB hz1 hk1 hS => ?_)
          obtain ⟨hP1, hD1⟩ := hB
          rw [ht] at hP1
          have hD1 := hD1.weaken (fun _ _ _ h => hFc _ h)
          generalize H1 = H at hP1 hS ⊢
          have hP := hP1
          have hD := hD1
          obtain ⟨E263, rfl⟩ : ∃ z, z = u261 := ⟨_, rfl⟩
          have hP : va_P D xcl (rp ad E263 RL) H := hP
          have hD : va_D A (rp ad E263 RL) := hD
          obtain ⟨L2, hCI, hCX2, hF9, hsp9⟩ := hp262
          have hCI : CI kA ad E263 RL ml nd 0 wl.length L2.length := hCI
          have hF2b : F78 E42 E263 := F78_tr hF2 hF9
          obtain ⟨hmB, hDk, hLi, hSh, hCh, hLa, hDIs, hLIs⟩ := id hCI
          exact jn84 (E263, L1, L2) _ _ _ (lv_sub hl [4] rfl) hP hD hS ⟨(show CI kA ad E263 RL ml nd 0 wl.length L2.length from hCI), (show CX ad E263 nd fi y L2 from hCX2), (show F78 E42 E263 from hF2b), (show aF (adG g nd fi y) [] (nmL (g 0) wl wl.length 0) = (true, L1) from hok9), (show L2 = cif (¬ bi = 0) (bIt (bUg g nd fi y) g y 13 L1) L1 from by rw [cif_pos hc256, hsp9])⟩
      · have hok8 := hok9
        refine lv_if_ne (tgt := 92) hx hb xd_De_layer_79 (by decide) (fun hc264 => absurd (by decide) hc264) (fun _ => ?_)
        exact y_throwC (ik := 89) (is := 91) (wf := fun (u : (Nat → Nat → Nat) × (Nat → Nat → va_E) × List (Nat × Nat)) => rp u.1 u.2.1 u.2.2) (ad, E249, RL) (⟨⟨⟨wl.length, L1.length, hCI⟩, rfl, hFX2⟩, Or.inr (Or.inl ⟨(by rw [← hwl]; exact ⟨hok, L1, (by rw [hyq9]; exact hok9)⟩), h052⟩)⟩) (Or.inr (Or.inl ⟨rfl, (by rw [← hwl]; exact ⟨hok, L1, (by rw [hyq9]; exact hok9)⟩)⟩)) hx hb hlt hown hT hK k6e_38 k6e_39 hZ.2.2.2.1.2.2.2.2.2.2.2.2.2.2.2.2.2.2.2.1 hZ.1 hS hP hD (hl.1.trans hml.symm) xd_De_layer_82 xd_De_layer_85 xd_De_layer_86 xd_De_layer_88 xd_De_layer_91 htab (Nat.le_of_ble_eq_true rfl) (Nat.le_of_ble_eq_true rfl) (Nat.le_of_ble_eq_true rfl) (Nat.le_of_ble_eq_true rfl) hlocks (Nat.le_of_ble_eq_true rfl) (Nat.le_of_ble_eq_true rfl)
  refine lv_aload_n hx hb xd_De_layer_12 rfl (lv_at hl 0 rfl) ?_
  refine lv_iload_n hx hb xd_De_layer_13 rfl (lv_at hl 2 rfl) ?_
  have hFc := px_free hD hS hA
  refine va_callq (va_runV (As := [.int px]) (rest := []) ⟨hx, hb, hml, hown, hT⟩ (xc_De_openLayerX l D kA H.size ad E42 RL g ml nd 0 wl.length cs px (by first | assumption | omega) hTL1) (cwV 1 hT (wT_V k6e_41 k6e_42 k6e_43 k6e_18 k6e_40) rfl rfl rfl (by decide +kernel) ⟨Nat.le_of_ble_eq_true rfl, Nat.le_of_ble_eq_true rfl⟩) (px_preV hK hP hD m_60 c_59 rfl) rfl rfl hl.1 rfl (lv_room (Nat.le_of_ble_eq_true rfl)) xd_De_layer_14 ⟨(Nat.le_of_ble_eq_true rfl), (Nat.le_of_ble_eq_true rfl)⟩) hS (fun q _ h => hFc q h) hFc (fun r265 u266 t H1 locs ht hvm hp267 hB hz1 hk1 hS => ?_)
  obtain ⟨hP1, hD1⟩ := hB
  rw [ht] at hP1
  have hD1 := hD1.weaken (fun _ _ _ h => hFc _ h)
  generalize H1 = H at hP1 hS ⊢
  have hP := hP1
  have hD := hD1
  have hP : va_P D xcl (rp ad E42 RL) H := hP
  have hD : va_D A (rp ad E42 RL) := hD
  rcases hp267 with ⟨rfl, z268⟩ | ⟨z269, z270, z271, z272, rfl⟩
  · refine W.eq (g2 := F0 m 17 ls [.null]) rfl ?_
    refine lv_astoreN hx hb xd_De_layer_17 hl (Nat.le_of_ble_eq_true rfl) rfl (fun ls hl => ?_)
    have hl : lv_has ls 7 [(4, .null), (0, .ref (ad 0 0)), (1, .int fi), (2, .int px), (3, .int bi)] := hl
    refine lv_iload_n hx hb xd_De_layer_19 rfl (lv_at hl 3 rfl) ?_
    refine lv_iconst (v := (-1)) hx hb xd_De_layer_20 (by decide) ?_
    refine lv_icmp_eq (tgt := 29) hx hb xd_De_layer_21 (by decide) (fun hc273 => ?_) (fun hc273 => ?_)
    · refine lv_iconst (v := 1) hx hb xd_De_layer_29 (by decide) ?_
      refine lv_goto (tgt := 34) hx hb xd_De_layer_30 (by decide) ?_
      refine lv_istore hx hb xd_De_layer_34 hl (Nat.le_of_ble_eq_true rfl) rfl (fun ls hl => ?_)
      have hl : lv_has ls 7 [(5, .int 1), (4, .null), (0, .ref (ad 0 0)), (1, .int fi), (2, .int px), (3, .int bi)] := hl
      refine lv_aload_n hx hb xd_De_layer_36 rfl (lv_at hl 2 rfl) ?_
      have hFc := px_free hD hS hA
      refine va_calli (va_runV (As := []) (rest := []) ⟨hx, hb, hml, hown, hT⟩ (xc_De_rootsAreNamesX l D kA H.size ad E42 RL g ml nd 0 len wl cs (by first | assumption | omega) hLW) (cwV 0 hT (wT_V k6e_45 k6e_46 k6e_47 k6e_18 k6e_44) rfl rfl rfl (by decide +kernel) ⟨Nat.le_of_ble_eq_true rfl, Nat.le_of_ble_eq_true rfl⟩) (px_preV hK hP hD m_60 c_59 rfl) rfl rfl hl.1 rfl (lv_room (Nat.le_of_ble_eq_true rfl)) xd_De_layer_37 ⟨(Nat.le_of_ble_eq_true rfl), (Nat.le_of_ble_eq_true rfl)⟩) hS (fun q _ h => hFc q h) hFc (fun r274 u275 t H1 locs ht hvm hp276 hB hz1 hk1 hS => ?_)
      obtain ⟨hP1, hD1⟩ := hB
      rw [ht] at hP1
      have hD1 := hD1.weaken (fun _ _ _ h => hFc _ h)
      generalize H1 = H at hP1 hS ⊢
      have hP := hP1
      have hD := hD1
      have hP : va_P D xcl (rp ad E42 RL) H := hP
      have hD : va_D A (rp ad E42 RL) := hD
      rcases hp276 with ⟨rfl, z277⟩ | ⟨rfl, z278⟩
      · refine W.eq (g2 := F0 m 40 ls [.int 1]) rfl ?_
        refine lv_if_eq (tgt := 55) hx hb xd_De_layer_40 (by decide) (fun hc279 => absurd hc279 (by decide)) (fun _ => ?_)
        refine lv_iload_n hx hb xd_De_layer_43 rfl (lv_at hl 3 rfl) ?_
        have hFc := px_free hD hS hA
        refine va_calli (va_runS (As := [.int fi]) (rest := []) ⟨hx, hb, hml, hown, hT⟩ (xc_Sh_isFinderX l D kA H.size ad E42 RL fi) (va_cwS 1 hT (wT_S k6e_49 k6e_50 k6e_51 k6e_48) rfl rfl rfl (by decide +kernel) ⟨Nat.le_of_ble_eq_true rfl, Nat.le_of_ble_eq_true rfl⟩) (x_preS hK hP hD) rfl rfl hl.1 rfl (lv_room (Nat.le_of_ble_eq_true rfl)) xd_De_layer_44 ⟨(Nat.le_of_ble_eq_true rfl), (Nat.le_of_ble_eq_true rfl)⟩) hS (fun q _ h => hFc q h) hFc (fun r280 u281 t H1 locs ht hvm hp282 hB hz1 hk1 hS => ?_)
        obtain ⟨hP1, hD1⟩ := hB
        rw [ht] at hP1
        have hD1 := hD1.weaken (fun _ _ _ h => hFc _ h)
        generalize H1 = H at hP1 hS ⊢
        have hP := hP1
        have hD := hD1
        have hP : va_P D xcl (rp ad E42 RL) H := hP
        have hD : va_D A (rp ad E42 RL) := hD
        rcases hp282 with ⟨rfl, z283⟩ | ⟨rfl, z284, z285⟩
        · refine W.eq (g2 := F0 m 47 ls [.int 1]) rfl ?_
          refine lv_if_eq (tgt := 55) hx hb xd_De_layer_47 (by decide) (fun hc286 => absurd hc286 (by decide)) (fun _ => ?_)
          refine lv_iload hx hb xd_De_layer_50 (lv_at hl 0 rfl) ?_
          refine lv_if_ne (tgt := 65) hx hb xd_De_layer_52 (by decide) (fun _ => ?_) (fun hc287 => absurd hc287 (by decide))
          exact jn83 0 _ _ _ (lv_sub hl [1, 5, 4, 3, 2] rfl) hP hD hS ⟨(show 0 ≤ ml from by first | assumption | omega), (show ok1 g (g 0) wl ml fi px from ⟨z277.1.1, z277.1.2, z277.2, fin_iff.mpr z283, Or.inl hc273⟩), (show iN (px + 1) = 0 from (by rw [hc273]; exact lq_m1))⟩
        · refine W.eq (g2 := F0 m 47 ls [.int 0]) rfl ?_
          refine lv_if_eq (tgt := 55) hx hb xd_De_layer_47 (by decide) (fun _ => ?_) (fun hc288 => absurd (by decide) hc288)
          exact y_throwA (ik := 56) (is := 80) (wf := fun (u : (Nat → Nat → Nat) × (Nat → Nat → va_E) × List (Nat × Nat)) => rp u.1 u.2.1 u.2.2) (ad, E42, RL) (⟨⟨⟨wl.length, cs, hCI⟩, rfl, hFX1⟩, Or.inl ⟨(by rw [← hwl]; exact (fun q => (fin_iff.mp q.2.2.2.1).elim z284 z285)), h051⟩⟩) (Or.inl ⟨rfl, (by rw [← hwl]; exact (fun q => (fin_iff.mp q.2.2.2.1).elim z284 z285))⟩) hx hb hlt hown hT hK k6e_52 k6e_53 hZ.2.2.2.1.2.2.2.2.2.2.2.2.2.2.2.2.2.2.1 hZ.1 hS hP hD (hl.1.trans hml.symm) xd_De_layer_55 xd_De_layer_58 xd_De_layer_59 xd_De_layer_61 xd_De_layer_64 htab (Nat.le_of_ble_eq_true rfl) (Nat.le_of_ble_eq_true rfl) (Nat.le_of_ble_eq_true rfl) (Nat.le_of_ble_eq_true rfl) hlocks (Nat.le_of_ble_eq_true rfl) (Nat.le_of_ble_eq_true rfl)
      · refine W.eq (g2 := F0 m 40 ls [.int 0]) rfl ?_
        refine lv_if_eq (tgt := 55) hx hb xd_De_layer_40 (by decide) (fun _ => ?_) (fun hc289 => absurd (by decide) hc289)
        exact y_throwA (ik := 56) (is := 80) (wf := fun (u : (Nat → Nat → Nat) × (Nat → Nat → va_E) × List (Nat × Nat)) => rp u.1 u.2.1 u.2.2) (ad, E42, RL) (⟨⟨⟨wl.length, cs, hCI⟩, rfl, hFX1⟩, Or.inl ⟨(by rw [← hwl]; exact (fun q => z278 ⟨⟨q.1, q.2.1⟩, q.2.2.1⟩)), h051⟩⟩) (Or.inl ⟨rfl, (by rw [← hwl]; exact (fun q => z278 ⟨⟨q.1, q.2.1⟩, q.2.2.1⟩))⟩) hx hb hlt hown hT hK k6e_52 k6e_53 hZ.2.2.2.1.2.2.2.2.2.2.2.2.2.2.2.2.2.2.1 hZ.1 hS hP hD (hl.1.trans hml.symm) xd_De_layer_55 xd_De_layer_58 xd_De_layer_59 xd_De_layer_61 xd_De_layer_64 htab (Nat.le_of_ble_eq_true rfl) (Nat.le_of_ble_eq_true rfl) (Nat.le_of_ble_eq_true rfl) (Nat.le_of_ble_eq_true rfl) hlocks (Nat.le_of_ble_eq_true rfl) (Nat.le_of_ble_eq_true rfl)
    · refine lv_aloadN hx hb xd_De_layer_24 (lv_at hl 0 rfl) ?_
      refine lv_ifnullN (tgt := 33) hx hb xd_De_layer_26 (by decide) ?_
      refine lv_iconst (v := 0) hx hb xd_De_layer_33 (by decide) ?_
      refine lv_istore hx hb xd_De_layer_34 hl (Nat.le_of_ble_eq_true rfl) rfl (fun ls hl => ?_)
      have hl : lv_has ls 7 [(5, .int 0), (4, .null), (0, .ref (ad 0 0)), (1, .int fi), (2, .int px), (3, .int bi)] := hl
      refine lv_aload_n hx hb xd_De_layer_36 rfl (lv_at hl 2 rfl) ?_
      have hFc := px_free hD hS hA
      refine va_calli (va_runV (As := []) (rest := []) ⟨hx, hb, hml, hown, hT⟩ (xc_De_rootsAreNamesX l D kA H.size ad E42 RL g ml nd 0 len wl cs (by first | assumption | omega) hLW) (cwV 0 hT (wT_V k6e_45 k6e_46 k6e_47 k6e_18 k6e_44) rfl rfl rfl (by decide +kernel) ⟨Nat.le_of_ble_eq_true rfl, Nat.le_of_ble_eq_true rfl⟩) (px_preV hK hP hD m_60 c_59 rfl) rfl rfl hl.1 rfl (lv_room (Nat.le_of_ble_eq_true rfl)) xd_De_layer_37 ⟨(Nat.le_of_ble_eq_true rfl), (Nat.le_of_ble_eq_true rfl)⟩) hS (fun q _ h => hFc q h) hFc (fun r290 u291 t H1 locs ht hvm hp292 hB hz1 hk1 hS => ?_)
      obtain ⟨hP1, hD1⟩ := hB
      rw [ht] at hP1
      have hD1 := hD1.weaken (fun _ _ _ h => hFc _ h)
      generalize H1 = H at hP1 hS ⊢
      have hP := hP1
      have hD := hD1
      have hP : va_P D xcl (rp ad E42 RL) H := hP
      have hD : va_D A (rp ad E42 RL) := hD
      rcases hp292 with ⟨rfl, z293⟩ | ⟨rfl, z294⟩
      · refine W.eq (g2 := F0 m 40 ls [.int 1]) rfl ?_
        refine lv_if_eq (tgt := 55) hx hb xd_De_layer_40 (by decide) (fun hc295 => absurd hc295 (by decide)) (fun _ => ?_)
        refine lv_iload_n hx hb xd_De_layer_43 rfl (lv_at hl 3 rfl) ?_
        have hFc := px_free hD hS hA
        refine va_calli (va_runS (As := [.int fi]) (rest := []) ⟨hx, hb, hml, hown, hT⟩ (xc_Sh_isFinderX l D kA H.size ad E42 RL fi) (va_cwS 1 hT (wT_S k6e_49 k6e_50 k6e_51 k6e_48) rfl rfl rfl (by decide +kernel) ⟨Nat.le_of_ble_eq_true rfl, Nat.le_of_ble_eq_true rfl⟩) (x_preS hK hP hD) rfl rfl hl.1 rfl (lv_room (Nat.le_of_ble_eq_true rfl)) xd_De_layer_44 ⟨(Nat.le_of_ble_eq_true rfl), (Nat.le_of_ble_eq_true rfl)⟩) hS (fun q _ h => hFc q h) hFc (fun r296 u297 t H1 locs ht hvm hp298 hB hz1 hk1 hS => ?_)
        obtain ⟨hP1, hD1⟩ := hB
        rw [ht] at hP1
        have hD1 := hD1.weaken (fun _ _ _ h => hFc _ h)
        generalize H1 = H at hP1 hS ⊢
        have hP := hP1
        have hD := hD1
        have hP : va_P D xcl (rp ad E42 RL) H := hP
        have hD : va_D A (rp ad E42 RL) := hD
        rcases hp298 with ⟨rfl, z299⟩ | ⟨rfl, z300, z301⟩
        · refine W.eq (g2 := F0 m 47 ls [.int 1]) rfl ?_
          refine lv_if_eq (tgt := 55) hx hb xd_De_layer_47 (by decide) (fun hc302 => absurd hc302 (by decide)) (fun _ => ?_)
          refine lv_iload hx hb xd_De_layer_50 (lv_at hl 0 rfl) ?_
          refine lv_if_ne (tgt := 65) hx hb xd_De_layer_52 (by decide) (fun hc303 => absurd (by decide) hc303) (fun _ => ?_)
          exact y_throwA (ik := 56) (is := 80) (wf := fun (u : (Nat → Nat → Nat) × (Nat → Nat → va_E) × List (Nat × Nat)) => rp u.1 u.2.1 u.2.2) (ad, E42, RL) (⟨⟨⟨wl.length, cs, hCI⟩, rfl, hFX1⟩, Or.inl ⟨(by rw [← hwl]; exact (fun q => q.2.2.2.2.elim hc273 z268)), h051⟩⟩) (Or.inl ⟨rfl, (by rw [← hwl]; exact (fun q => q.2.2.2.2.elim hc273 z268))⟩) hx hb hlt hown hT hK k6e_52 k6e_53 hZ.2.2.2.1.2.2.2.2.2.2.2.2.2.2.2.2.2.2.1 hZ.1 hS hP hD (hl.1.trans hml.symm) xd_De_layer_55 xd_De_layer_58 xd_De_layer_59 xd_De_layer_61 xd_De_layer_64 htab (Nat.le_of_ble_eq_true rfl) (Nat.le_of_ble_eq_true rfl) (Nat.le_of_ble_eq_true rfl) (Nat.le_of_ble_eq_true rfl) hlocks (Nat.le_of_ble_eq_true rfl) (Nat.le_of_ble_eq_true rfl)
        · refine W.eq (g2 := F0 m 47 ls [.int 0]) rfl ?_
          refine lv_if_eq (tgt := 55) hx hb xd_De_layer_47 (by decide) (fun _ => ?_) (fun hc304 => absurd (by decide) hc304)
          exact y_throwA (ik := 56) (is := 80) (wf := fun (u : (Nat → Nat → Nat) × (Nat → Nat → va_E) × List (Nat × Nat)) => rp u.1 u.2.1 u.2.2) (ad, E42, RL) (⟨⟨⟨wl.length, cs, hCI⟩, rfl, hFX1⟩, Or.inl ⟨(by rw [← hwl]; exact (fun q => (fin_iff.mp q.2.2.2.1).elim z300 z301)), h051⟩⟩) (Or.inl ⟨rfl, (by rw [← hwl]; exact (fun q => (fin_iff.mp q.2.2.2.1).elim z300 z301))⟩) hx hb hlt hown hT hK k6e_52 k6e_53 hZ.2.2.2.1.2.2.2.2.2.2.2.2.2.2.2.2.2.2.1 hZ.1 hS hP hD (hl.1.trans hml.symm) xd_De_layer_55 xd_De_layer_58 xd_De_layer_59 xd_De_layer_61 xd_De_layer_64 htab (Nat.le_of_ble_eq_true rfl) (Nat.le_of_ble_eq_true rfl) (Nat.le_of_ble_eq_true rfl) (Nat.le_of_ble_eq_true rfl) hlocks (Nat.le_of_ble_eq_true rfl) (Nat.le_of_ble_eq_true rfl)
      · refine W.eq (g2 := F0 m 40 ls [.int 0]) rfl ?_
        refine lv_if_eq (tgt := 55) hx hb xd_De_layer_40 (by decide) (fun _ => ?_) (fun hc305 => absurd (by decide) hc305)
        exact y_throwA (ik := 56) (is := 80) (wf := fun (u : (Nat → Nat → Nat) × (Nat → Nat → va_E) × List (Nat × Nat)) => rp u.1 u.2.1 u.2.2) (ad, E42, RL) (⟨⟨⟨wl.length, cs, hCI⟩, rfl, hFX1⟩, Or.inl ⟨(by rw [← hwl]; exact (fun q => z294 ⟨⟨q.1, q.2.1⟩, q.2.2.1⟩)), h051⟩⟩) (Or.inl ⟨rfl, (by rw [← hwl]; exact (fun q => z294 ⟨⟨q.1, q.2.1⟩, q.2.2.1⟩))⟩) hx hb hlt hown hT hK k6e_52 k6e_53 hZ.2.2.2.1.2.2.2.2.2.2.2.2.2.2.2.2.2.2.1 hZ.1 hS hP hD (hl.1.trans hml.symm) xd_De_layer_55 xd_De_layer_58 xd_De_layer_59 xd_De_layer_61 xd_De_layer_64 htab (Nat.le_of_ble_eq_true rfl) (Nat.le_of_ble_eq_true rfl) (Nat.le_of_ble_eq_true rfl) (Nat.le_of_ble_eq_true rfl) hlocks (Nat.le_of_ble_eq_true rfl) (Nat.le_of_ble_eq_true rfl)
  · refine W.eq (g2 := F0 m 17 ls [.ref (ad (20 + z269) 0)]) rfl ?_
    refine lv_astore hx hb xd_De_layer_17 hl (Nat.le_of_ble_eq_true rfl) rfl (fun ls hl => ?_)
    have hl : lv_has ls 7 [(4, .ref (ad (20 + z269) 0)), (0, .ref (ad 0 0)), (1, .int fi), (2, .int px), (3, .int bi)] := hl
    refine lv_iload_n hx hb xd_De_layer_19 rfl (lv_at hl 3 rfl) ?_
    refine lv_iconst (v := (-1)) hx hb xd_De_layer_20 (by decide) ?_
    refine lv_icmp_eq (tgt := 29) hx hb xd_De_layer_21 (by decide) (fun hc306 => ?_) (fun hc306 => ?_)
    · refine lv_iconst (v := 1) hx hb xd_De_layer_29 (by decide) ?_
      refine lv_goto (tgt := 34) hx hb xd_De_layer_30 (by decide) ?_
      refine lv_istore hx hb xd_De_layer_34 hl (Nat.le_of_ble_eq_true rfl) rfl (fun ls hl => ?_)
      have hl : lv_has ls 7 [(5, .int 1), (4, .ref (ad (20 + z269) 0)), (0, .ref (ad 0 0)), (1, .int fi), (2, .int px), (3, .int bi)] := hl
      refine lv_aload_n hx hb xd_De_layer_36 rfl (lv_at hl 2 rfl) ?_
      have hFc := px_free hD hS hA
      refine va_calli (va_runV (As := []) (rest := []) ⟨hx, hb, hml, hown, hT⟩ (xc_De_rootsAreNamesX l D kA H.size ad E42 RL g ml nd 0 len wl cs (by first | assumption | omega) hLW) (cwV 0 hT (wT_V k6e_45 k6e_46 k6e_47 k6e_18 k6e_44) rfl rfl rfl (by decide +kernel) ⟨Nat.le_of_ble_eq_true rfl, Nat.le_of_ble_eq_true rfl⟩) (px_preV hK hP hD m_60 c_59 rfl) rfl rfl hl.1 rfl (lv_room (Nat.le_of_ble_eq_true rfl)) xd_De_layer_37 ⟨(Nat.le_of_ble_eq_true rfl), (Nat.le_of_ble_eq_true rfl)⟩) hS (fun q _ h => hFc q h) hFc (fun r307 u308 t H1 locs ht hvm hp309 hB hz1 hk1 hS => ?_)
      obtain ⟨hP1, hD1⟩ := hB
      rw [ht] at hP1
      have hD1 := hD1.weaken (fun _ _ _ h => hFc _ h)
      generalize H1 = H at hP1 hS ⊢
      have hP := hP1
      have hD := hD1
      have hP : va_P D xcl (rp ad E42 RL) H := hP
      have hD : va_D A (rp ad E42 RL) := hD
      rcases hp309 with ⟨rfl, z310⟩ | ⟨rfl, z311⟩
      · refine W.eq (g2 := F0 m 40 ls [.int 1]) rfl ?_
        refine lv_if_eq (tgt := 55) hx hb xd_De_layer_40 (by decide) (fun hc312 => absurd hc312 (by decide)) (fun _ => ?_)
        refine lv_iload_n hx hb xd_De_layer_43 rfl (lv_at hl 3 rfl) ?_
        have hFc := px_free hD hS hA
        refine va_calli (va_runS (As := [.int fi]) (rest := []) ⟨hx, hb, hml, hown, hT⟩ (xc_Sh_isFinderX l D kA H.size ad E42 RL fi) (va_cwS 1 hT (wT_S k6e_49 k6e_50 k6e_51 k6e_48) rfl rfl rfl (by decide +kernel) ⟨Nat.le_of_ble_eq_true rfl, Nat.le_of_ble_eq_true rfl⟩) (x_preS hK hP hD) rfl rfl hl.1 rfl (lv_room (Nat.le_of_ble_eq_true rfl)) xd_De_layer_44 ⟨(Nat.le_of_ble_eq_true rfl), (Nat.le_of_ble_eq_true rfl)⟩) hS (fun q _ h => hFc q h) hFc (fun r313 u314 t H1 locs ht hvm hp315 hB hz1 hk1 hS => ?_)
        obtain ⟨hP1, hD1⟩ := hB
        rw [ht] at hP1
        have hD1 := hD1.weaken (fun _ _ _ h => hFc _ h)
        generalize H1 = H at hP1 hS ⊢
        have hP := hP1
        have hD := hD1
        have hP : va_P D xcl (rp ad E42 RL) H := hP
        have hD : va_D A (rp ad E42 RL) := hD
        rcases hp315 with ⟨rfl, z316⟩ | ⟨rfl, z317, z318⟩
        · refine W.eq (g2 := F0 m 47 ls [.int 1]) rfl ?_
          refine lv_if_eq (tgt := 55) hx hb xd_De_layer_47 (by decide) (fun hc319 => absurd hc319 (by decide)) (fun _ => ?_)
          refine lv_iload hx hb xd_De_layer_50 (lv_at hl 0 rfl) ?_
          refine lv_if_ne (tgt := 65) hx hb xd_De_layer_52 (by decide) (fun _ => ?_) (fun hc320 => absurd hc320 (by decide))
          exact jn83 (z269 + 1) _ _ _ (lv_sub hl [1, 5, 4, 3, 2] rfl) hP hD hS ⟨(show (z269 + 1) ≤ ml from by first | assumption | omega), (show ok1 g (g 0) wl ml fi px from ⟨z310.1.1, z310.1.2, z310.2, fin_iff.mpr z316, Or.inr ⟨z269, z270, z271, z272⟩⟩), (show iN (px + 1) = (z269 + 1) from (by rw [z271]; exact lq_la (by omega)))⟩
        · refine W.eq (g2 := F0 m 47 ls [.int 0]) rfl ?_
          refine lv_if_eq (tgt := 55) hx hb xd_De_layer_47 (by decide) (fun _ => ?_) (fun hc321 => absurd (by decide) hc321)
          exact y_throwA (ik := 56) (is := 80) (wf := fun (u : (Nat → Nat → Nat) × (Nat → Nat → va_E) × List (Nat × Nat)) => rp u.1 u.2.1 u.2.2) (ad, E42, RL) (⟨⟨⟨wl.length, cs, hCI⟩, rfl, hFX1⟩, Or.inl ⟨(by rw [← hwl]; exact (fun q => (fin_iff.mp q.2.2.2.1).elim z317 z318)), h051⟩⟩) (Or.inl ⟨rfl, (by rw [← hwl]; exact (fun q => (fin_iff.mp q.2.2.2.1).elim z317 z318))⟩) hx hb hlt hown hT hK k6e_52 k6e_53 hZ.2.2.2.1.2.2.2.2.2.2.2.2.2.2.2.2.2.2.1 hZ.1 hS hP hD (hl.1.trans hml.symm) xd_De_layer_55 xd_De_layer_58 xd_De_layer_59 xd_De_layer_61 xd_De_layer_64 htab (Nat.le_of_ble_eq_true rfl) (Nat.le_of_ble_eq_true rfl) (Nat.le_of_ble_eq_true rfl) (Nat.le_of_ble_eq_true rfl) hlocks (Nat.le_of_ble_eq_true rfl) (Nat.le_of_ble_eq_true rfl)
      · refine W.eq (g2 := F0 m 40 ls [.int 0]) rfl ?_
        refine lv_if_eq (tgt := 55) hx hb xd_De_layer_40 (by decide) (fun _ => ?_) (fun hc322 => absurd (by decide) hc322)
        exact y_throwA (ik := 56) (is := 80) (wf := fun (u : (Nat → Nat → Nat) × (Nat → Nat → va_E) × List (Nat × Nat)) => rp u.1 u.2.1 u.2.2) (ad, E42, RL) (⟨⟨⟨wl.length, cs, hCI⟩, rfl, hFX1⟩, Or.inl ⟨(by rw [← hwl]; exact (fun q => z311 ⟨⟨q.1, q.2.1⟩, q.2.2.1⟩)), h051⟩⟩) (Or.inl ⟨rfl, (by rw [← hwl]; exact (fun q => z311 ⟨⟨q.1, q.2.1⟩, q.2.2.1⟩))⟩) hx hb hlt hown hT hK k6e_52 k6e_53 hZ.2.2.2.1.2.2.2.2.2.2.2.2.2.2.2.2.2.2.1 hZ.1 hS hP hD (hl.1.trans hml.symm) xd_De_layer_55 xd_De_layer_58 xd_De_layer_59 xd_De_layer_61 xd_De_layer_64 htab (Nat.le_of_ble_eq_true rfl) (Nat.le_of_ble_eq_true rfl) (Nat.le_of_ble_eq_true rfl) (Nat.le_of_ble_eq_true rfl) hlocks (Nat.le_of_ble_eq_true rfl) (Nat.le_of_ble_eq_true rfl)
    · refine lv_aload hx hb xd_De_layer_24 (lv_at hl 0 rfl) ?_
      refine lv_ifnull hx hb xd_De_layer_26 ?_
      refine lv_iconst (v := 1) hx hb xd_De_layer_29 (by decide) ?_
      refine lv_goto (tgt := 34) hx hb xd_De_layer_30 (by decide) ?_
      refine lv_istore hx hb xd_De_layer_34 hl (Nat.le_of_ble_eq_true rfl) rfl (fun ls hl => ?_)
      have hl : lv_has ls 7 [(5, .int 1), (4, .ref (ad (20 + z269) 0)), (0, .ref (ad 0 0)), (1, .int fi), (2, .int px), (3, .int bi)] := hl
      refine lv_aload_n hx hb xd_De_layer_36 rfl (lv_at hl 2 rfl) ?_
      have hFc := px_free hD hS hA
      refine va_calli (va_runV (As := []) (rest := []) ⟨hx, hb, hml, hown, hT⟩ (xc_De_rootsAreNamesX l D kA H.size ad E42 RL g ml nd 0 len wl cs (by first | assumption | omega) hLW) (cwV 0 hT (wT_V k6e_45 k6e_46 k6e_47 k6e_18 k6e_44) rfl rfl rfl (by decide +kernel) ⟨Nat.le_of_ble_eq_true rfl, Nat.le_of_ble_eq_true rfl⟩) (px_preV hK hP hD m_60 c_59 rfl) rfl rfl hl.1 rfl (lv_room (Nat.le_of_ble_eq_true rfl)) xd_De_layer_37 ⟨(Nat.le_of_ble_eq_true rfl), (Nat.le_of_ble_eq_true rfl)⟩) hS (fun q _ h => hFc q h) hFc (fun r323 u324 t H1 locs ht hvm hp325 hB hz1 hk1 hS => ?_)
      obtain ⟨hP1, hD1⟩ := hB
      rw [ht] at hP1
      have hD1 := hD1.weaken (fun _ _ _ h => hFc _ h)
      generalize H1 = H at hP1 hS ⊢
      have hP := hP1
      have hD := hD1
      have hP : va_P D xcl (rp ad E42 RL) H := hP
      have hD : va_D A (rp ad E42 RL) := hD
      rcases hp325 with ⟨rfl, z326⟩ | ⟨rfl, z327⟩
      · refine W.eq (g2 := F0 m 40 ls [.int 1]) rfl ?_
        refine lv_if_eq (tgt := 55) hx hb xd_De_layer_40 (by decide) (fun hc328 => absurd hc328 (by decide)) (fun _ => ?_)
        refine lv_iload_n hx hb xd_De_layer_43 rfl (lv_at hl 3 rfl) ?_
        have hFc := px_free hD hS hA
        refine va_calli (va_runS (As := [.int fi]) (rest := []) ⟨hx, hb, hml, hown, hT⟩ (xc_Sh_isFinderX l D kA H.size ad E42 RL fi) (va_cwS 1 hT (wT_S k6e_49 k6e_50 k6e_51 k6e_48) rfl rfl rfl (by decide +kernel) ⟨Nat.le_of_ble_eq_true rfl, Nat.le_of_ble_eq_true rfl⟩) (x_preS hK hP hD) rfl rfl hl.1 rfl (lv_room (Nat.le_of_ble_eq_true rfl)) xd_De_layer_44 ⟨(Nat.le_of_ble_eq_true rfl), (Nat.le_of_ble_eq_true rfl)⟩) hS (fun q _ h => hFc q h) hFc (fun r329 u330 t H1 locs ht hvm hp331 hB hz1 hk1 hS => ?_)
        obtain ⟨hP1, hD1⟩ := hB
        rw [ht] at hP1
        have hD1 := hD1.weaken (fun _ _ _ h => hFc _ h)
        generalize H1 = H at hP1 hS ⊢
        have hP := hP1
        have hD := hD1
        have hP : va_P D xcl (rp ad E42 RL) H := hP
        have hD : va_D A (rp ad E42 RL) := hD
        rcases hp331 with ⟨rfl, z332⟩ | ⟨rfl, z333, z334⟩
        · refine W.eq (g2 := F0 m 47 ls [.int 1]) rfl ?_
          refine lv_if_eq (tgt := 55) hx hb xd_De_layer_47 (by decide) (fun hc335 => absurd hc335 (by decide)) (fun _ => ?_)
          refine lv_iload hx hb xd_De_layer_50 (lv_at hl 0 rfl) ?_
          refine lv_if_ne (tgt := 65) hx hb xd_De_layer_52 (by decide) (fun _ => ?_) (fun hc336 => absurd hc336 (by decide))
          exact jn83 (z269 + 1) _ _ _ (lv_sub hl [1, 5, 4, 3, 2] rfl) hP hD hS ⟨(show (z269 + 1) ≤ ml from by first | assumption | omega), (show ok1 g (g 0) wl ml fi px from ⟨z326.1.1, z326.1.2, z326.2, fin_iff.mpr z332, Or.inr ⟨z269, z270, z271, z272⟩⟩), (show iN (px + 1) = (z269 + 1) from (by rw [z271]; exact lq_la (by omega)))⟩
        · refine W.eq (g2 := F0 m 47 ls [.int 0]) rfl ?_
          refine lv_if_eq (tgt := 55) hx hb xd_De_layer_47 (by decide) (fun _ => ?_) (fun hc337 => absurd (by decide) hc337)
          exact y_throwA (ik := 56) (is := 80) (wf := fun (u : (Nat → Nat → Nat) × (Nat → Nat → va_E) × List (Nat × Nat)) => rp u.1 u.2.1 u.2.2) (ad, E42, RL) (⟨⟨⟨wl.length, cs, hCI⟩, rfl, hFX1⟩, Or.inl ⟨(by rw [← hwl]; exact (fun q => (fin_iff.mp q.2.2.2.1).elim z333 z334)), h051⟩⟩) (Or.inl ⟨rfl, (by rw [← hwl]; exact (fun q => (fin_iff.mp q.2.2.2.1).elim z333 z334))⟩) hx hb hlt hown hT hK k6e_52 k6e_53 hZ.2.2.2.1.2.2.2.2.2.2.2.2.2.2.2.2.2.2.1 hZ.1 hS hP hD (hl.1.trans hml.symm) xd_De_layer_55 xd_De_layer_58 xd_De_layer_59 xd_De_layer_61 xd_De_layer_64 htab (Nat.le_of_ble_eq_true rfl) (Nat.le_of_ble_eq_true rfl) (Nat.le_of_ble_eq_true rfl) (Nat.le_of_ble_eq_true rfl) hlocks (Nat.le_of_ble_eq_true rfl) (Nat.le_of_ble_eq_true rfl)
      · refine W.eq (g2 := F0 m 40 ls [.int 0]) rfl ?_
        refine lv_if_eq (tgt := 55) hx hb xd_De_layer_40 (by decide) (fun _ => ?_) (fun hc338 => absurd (by decide) hc338)
        exact y_throwA (ik := 56) (is := 80) (wf := fun (u : (Nat → Nat → Nat) × (Nat → Nat → va_E) × List (Nat × Nat)) => rp u.1 u.2.1 u.2.2) (ad, E42, RL) (⟨⟨⟨wl.length, cs, hCI⟩, rfl, hFX1⟩, Or.inl ⟨(by rw [← hwl]; exact (fun q => z327 ⟨⟨q.1, q.2.1⟩, q.2.2.1⟩)), h051⟩⟩) (Or.inl ⟨rfl, (by rw [← hwl]; exact (fun q => z327 ⟨⟨q.1, q.2.1⟩, q.2.2.1⟩))⟩) hx hb hlt hown hT hK k6e_52 k6e_53 hZ.2.2.2.1.2.2.2.2.2.2.2.2.2.2.2.2.2.2.1 hZ.1 hS hP hD (hl.1.trans hml.symm) xd_De_layer_55 xd_De_layer_58 xd_De_layer_59 xd_De_layer_61 xd_De_layer_64 htab (Nat.le_of_ble_eq_true rfl) (Nat.le_of_ble_eq_true rfl) (Nat.le_of_ble_eq_true rfl) (Nat.le_of_ble_eq_true rfl) hlocks (Nat.le_of_ble_eq_true rfl) (Nat.le_of_ble_eq_true rfl)
theorem lG_ind {Q : gT → Prop} {a a2 nd : Nat} {t : Nat → Int32} {wl : List (Nat × Nat)} {g : gT} (h0 : Q g) (hG : 0 < nd → g 11 (nd - 1) = 0 → ∀ i, i < iN (g 5 (nd - 1)) → Q (va_up g a2 (upd (g a2) (6 * (nd - 1) + i) 1)) ∧ ∀ k x, k < 3 → Q (va_up g a (upd (g a) (3 * (6 * (nd - 1) + i) + k) x))) : Q (lG a a2 t wl nd g) := by
  unfold lG
  cases hp : pI g (nd - 1) (wN t wl 1) with
  | none => exact h0
  | some i =>
    simp only
    by_cases ho : okG t wl nd g
    · rw [cif_pos ho]
      have q := hG ho.2.2.1 ho.2.2.2 i (pI_is hp).1
      by_cases h2 : wl.length = 2
      · rw [cif_pos h2]; exact q.1
      · rw [cif_neg h2]
        unfold gS
        cases hf : ff (fun k => g a (3 * (6 * (nd - 1) + i) + k) = wN t wl 3 ∨ g a (3 * (6 * (nd - 1) + i) + k) = 0) 3 with
        | none => exact h0
        | some k =>
          simp only
          by_cases h3 : ¬ g a (3 * (6 * (nd - 1) + i) + k) = wN t wl 3
          · rw [cif_pos h3]; exact q.2 k _ (ff_is hf).1
          · rw [cif_neg h3]; exact h0
    · rw [cif_neg ho]; exact h0
theorem lS_ind {Q : gT → Prop} {a nd : Nat} {t : Nat → Int32} {wl : List (Nat × Nat)} {g : gT} (h0 : Q g) (hS : 0 < nd → g 11 (nd - 1) = 0 → ∀ k, k < 3 → Q (va_up g a (upd (g a) (3 * (nd - 1) + k) (wN t wl 1)))) : Q (lS a t wl nd g) := by
  unfold lS
  cases hp : svF (g a) (nd - 1) with
  | none => exact h0
  | some k =>
    simp only
    by_cases ho : okS a t wl nd g
    · rw [cif_pos ho]; exact hS ho.2.2.1 ho.2.2.2.2 k (ff_is hp).1
    · rw [cif_neg ho]; exact h0
theorem lnF_ind {P : Nat × gT → Prop} {nd : Nat} {t : Nat → Int32} {wl : List (Nat × Nat)} {g : gT} (h0 : P (nd, g)) (hD : okD t wl nd g → P (nd + 1, va_up (va_up g 3 (upd (g 3) nd (fF t wl))) 4 (upd (g 4) nd (wN t wl 2)))) (hP : okP t wl nd g → P (nd, pkU g (nd - 1) (wN t wl 1))) (hR : okR t wl nd g → ∀ n x y, P (nd, rqU g (nd - 1) n x y)) (hS : ∀ a, (a = 14 ∨ a = 15) → 0 < nd → g 11 (nd - 1) = 0 → ∀ k, k < 3 → P (nd, va_up g a (upd (g a) (3 * (nd - 1) + k) (wN t wl 1)))) (hG : ∀ a a2, ((a = 7 ∧ a2 = 9) ∨ (a = 8 ∧ a2 = 10)) → 0 < nd → g 11 (nd - 1) = 0 → ∀ i, i < iN (g 5 (nd - 1)) → P (nd, va_up g a2 (upd (g a2) (6 * (nd - 1) + i) 1)) ∧ ∀ k x, k < 3 → P (nd, va_up g a (upd (g a) (3 * (6 * (nd - 1) + i) + k) x))) : P (lnF t wl nd g) := by
  unfold lnF
  by_cases h1 : wS t wl 0 zMo
  · rw [cif_pos h1]
    by_cases h : okD t wl nd g
    · rw [lD_y rfl rfl h]; exact hD h
    · rw [lD_n h]; exact h0
  rw [cif_neg h1]
  by_cases h2 : wS t wl 0 zPa
  · rw [cif_pos h2]
    by_cases h : okP t wl nd g
    · rw [lP_y h]; exact hP h
    · rw [← lP_no h]; exact h0
  rw [cif_neg h2]
  by_cases h3 : wS t wl 0 zEx
  · rw [cif_pos h3]; exact lG_ind (Q := fun x => P (nd, x)) h0 (hG 7 9 (Or.inl ⟨rfl, rfl⟩))
  rw [cif_neg h3]
  by_cases h4 : wS t wl 0 zOp
  · rw [cif_pos h4]; exact lG_ind (Q := fun x => P (nd, x)) h0 (hG 8 10 (Or.inr ⟨rfl, rfl⟩))
  rw [cif_neg h4]
  by_cases h5 : wS t wl 0 zRe
  · rw [cif_pos h5]
    by_cases h : okR t wl nd g
    · rw [lR_y rfl rfl rfl h]; exact hR h _ _ _
    · rw [← lR_no h]; exact h0
  rw [cif_neg h5]
  by_cases h6 : wS t wl 0 zUs
  · rw [cif_pos h6]; exact lS_ind (Q := fun x => P (nd, x)) h0 (hS 14 (Or.inl rfl))
  rw [cif_neg h6]
  by_cases h7 : wS t wl 0 zPr
  · rw [cif_pos h7]; exact lS_ind (Q := fun x => P (nd, x)) h0 (hS 15 (Or.inr rfl))
  rw [cif_neg h7]; exact h0
theorem pkU_o {g : gT} {d j : Nat} {x : Int32} (h1 : j ≠ 5) (h2 : j ≠ 6) : pkU g d x j = g j := by unfold pkU; rw [vu_ne h2, vu_ne h1]
theorem rqU_o {g : gT} {d j : Nat} {x y z : Int32} (h1 : j ≠ 12) (h2 : j ≠ 13) (h3 : j ≠ 16) (h4 : j ≠ 17) : rqU g d x y z j = g j := by unfold rqU; rw [vu_ne h4, vu_ne h3, vu_ne h2, vu_ne h1]
theorem pkU_5 {g : gT} {d : Nat} {x : Int32} : pkU g d x 5 = upd (g 5) d (nI (iN (g 5 d) + 1)) := by unfold pkU; rw [vu_ne (by decide), vu_eq]
theorem pkU_6 {g : gT} {d : Nat} {x : Int32} : pkU g d x 6 = upd (g 6) (6 * d + iN (g 5 d)) x := by unfold pkU; rw [vu_eq]
theorem rqU_12 {g : gT} {d : Nat} {x y z : Int32} : rqU g d x y z 12 = upd (g 12) d (nI (iN (g 12 d) + 1)) := by unfold rqU; rw [vu_ne (by decide), vu_ne (by decide), vu_ne (by decide), vu_eq]
theorem lnF_nd {nd : Nat} {t : Nat → Int32} {wl : List (Nat × Nat)} {g : gT} : nd ≤ (lnF t wl nd g).1 := lnF_ind (P := fun x => nd ≤ x.1) (Nat.le_refl _) (fun _ => Nat.le_succ _) (fun _ => Nat.le_refl _) (fun _ _ _ _ => Nat.le_refl _) (fun _ _ _ _ _ _ => Nat.le_refl _) (fun _ _ _ _ _ _ _ => ⟨Nat.le_refl _, fun _ _ _ => Nat.le_refl _⟩)
theorem lnF_row {nd : Nat} {t : Nat → Int32} {wl : List (Nat × Nat)} {g : gT} : ∀ j, (18 ≤ j ∨ j = 11 ∨ j ≤ 2) → (lnF t wl nd g).2 j = g j := by
  refine lnF_ind (P := fun x => ∀ j, (18 ≤ j ∨ j = 11 ∨ j ≤ 2) → x.2 j = g j) (fun _ _ => rfl) (fun _ j hj => ?_) (fun _ j hj => pkU_o (by omega) (by omega)) (fun _ _ _ _ j hj => rqU_o (by omega) (by omega) (by omega) (by omega)) (fun a ha _ _ k _ j hj => vu_ne (by omega)) (fun a a2 ha _ _ i _ => ⟨fun j hj => vu_ne (by omega), fun k x _ j hj => vu_ne (by omega)⟩)
  show va_up (va_up g 3 _) 4 _ j = g j
  rw [vu_ne (by omega), vu_ne (by omega)]
theorem AG_9 {g : gT} {a x i d : Nat} {v : Int32} (ha : a = 9 ∨ a = 10) (hi : i < 6) (h : d ≠ x) : AG g (va_up g a (upd (g a) (6 * x + i) v)) d := by
  rcases ha with rfl | rfl
  · refine ⟨rfl, rfl, rfl, rfl, rfl, fun i2 h2 => ⟨rfl, ?_, rfl, fun j _ => ⟨rfl, rfl⟩⟩, fun _ _ => ⟨rfl, rfl, rfl⟩, fun _ _ => ⟨rfl, rfl⟩⟩
    show upd (g 9) (6 * x + i) v (6 * d + i2) = _
    rw [pk_un (by omega)]
  · refine ⟨rfl, rfl, rfl, rfl, rfl, fun i2 h2 => ⟨rfl, rfl, ?_, fun j _ => ⟨rfl, rfl⟩⟩, fun _ _ => ⟨rfl, rfl, rfl⟩, fun _ _ => ⟨rfl, rfl⟩⟩
    show upd (g 10) (6 * x + i) v (6 * d + i2) = _
    rw [pk_un (by omega)]
theorem AG_7 {g : gT} {a x i k d : Nat} {v : Int32} (ha : a = 7 ∨ a = 8) (hi : i < 6) (hk : k < 3) (h : d ≠ x) : AG g (va_up g a (upd (g a) (3 * (6 * x + i) + k) v)) d := by
  rcases ha with rfl | rfl
  · refine ⟨rfl, rfl, rfl, rfl, rfl, fun i2 h2 => ⟨rfl, rfl, rfl, fun j hj => ⟨?_, rfl⟩⟩, fun _ _ => ⟨rfl, rfl, rfl⟩, fun _ _ => ⟨rfl, rfl⟩⟩
    show upd (g 7) (3 * (6 * x + i) + k) v (3 * (6 * d + i2) + j) = _
    rw [pk_un (by omega)]
  · refine ⟨rfl, rfl, rfl, rfl, rfl, fun i2 h2 => ⟨rfl, rfl, rfl, fun j hj => ⟨rfl, ?_⟩⟩, fun _ _ => ⟨rfl, rfl, rfl⟩, fun _ _ => ⟨rfl, rfl⟩⟩
    show upd (g 8) (3 * (6 * x + i) + k) v (3 * (6 * d + i2) + j) = _
    rw [pk_un (by omega)]
theorem AG_rf {g : gT} {d : Nat} : AG g g d := AG_of (fun _ _ _ => rfl)
theorem lnF_AG {nd : Nat} {t : Nat → Int32} {wl : List (Nat × Nat)} {g : gT} (h5 : iN (g 5 (nd - 1)) ≤ 6) : ∀ d, d < nd → ¬ g 11 d = 0 → AG g (lnF t wl nd g).2 d := by
  refine lnF_ind (P := fun x => ∀ d, d < nd → ¬ g 11 d = 0 → AG g x.2 d) (fun _ _ _ => AG_rf) (fun _ d hd _ => AG_D (by omega)) (fun q d hd hl => AG_P q.2.2.2.2.2 (fun e => hl (by rw [e]; exact q.2.2.2.2.1))) (fun q _ _ _ d hd hl => AG_R q.2.2.2.2.2.2 (fun e => hl (by rw [e]; exact q.2.2.2.2.2.1))) (fun a ha _ h11 k hk d hd hl => AG_S ha hk (fun e => hl (by rw [e]; exact h11))) (fun a a2 ha _ h11 i hi => ⟨fun d hd hl => AG_9 (by omega) (by omega) (fun e => hl (by rw [e]; exact h11)), fun k x hk d hd hl => AG_7 (by omega) (by omega) hk (fun e => hl (by rw [e]; exact h11))⟩)
theorem lnF_NZ {nd : Nat} {t : Nat → Int32} {wl : List (Nat × Nat)} {g : gT} (h : NZ g nd) : NZ (lnF t wl nd g).2 (lnF t wl nd g).1 := by
  refine lnF_ind (P := fun x => NZ x.2 x.1) h (fun q d hd => ?_) (fun _ d hd => ?_) (fun _ n9 x9 y9 d hd => ?_) (fun a ha _ _ k _ d hd => ?_) (fun a a2 ha _ _ i _ => ⟨fun d hd => ?_, fun k x _ d hd => ?_⟩)
  · show ¬ upd (g 4) nd (wN t wl 2) d = 0
    by_cases e : d = nd
    · rw [e, pk_us]; exact q.2.2.1
    · rw [pk_un e]; exact h d (by have hd : d < nd + 1 := hd; omega)
  · show ¬ pkU g (nd - 1) (wN t wl 1) 4 d = 0
    rw [pkU_o (by decide) (by decide)]; exact h d hd
  · show ¬ rqU g (nd - 1) n9 x9 y9 4 d = 0
    rw [rqU_o (by decide) (by decide) (by decide) (by decide)]; exact h d hd
  · show ¬ va_up g a _ 4 d = 0
    rw [vu_ne (by omega)]; exact h d hd
  · show ¬ va_up g a2 _ 4 d = 0
    rw [vu_ne (by omega)]; exact h d hd
  · show ¬ va_up g a _ 4 d = 0
    rw [vu_ne (by omega)]; exact h d hd
theorem UQ1_c {g g2 : gT} {d : Nat} (h5 : g2 5 = g 5) (h6 : g2 6 = g 6) (h : UQ1 g d) : UQ1 g2 d := by
  unfold UQ1; rw [h5, h6]; exact h
theorem lnF_UQ {nd : Nat} {t : Nat → Int32} {wl : List (Nat × Nat)} {g : gT} (hnd : nd ≤ 12) (h5 : ∀ d, d < 12 → ∃ k, k ≤ 6 ∧ g 5 d = nI k) (hz : ZI g nd) (h : ∀ d, d < nd → UQ1 g d) : ∀ d, d < (lnF t wl nd g).1 → UQ1 (lnF t wl nd g).2 d := by
  refine lnF_ind (P := fun x => ∀ d, d < x.1 → UQ1 x.2 d) h (fun q d hd => ?_) (fun q d hd => ?_) (fun _ n9 x9 y9 d hd => UQ1_c (g := g) (g2 := rqU g (nd - 1) n9 x9 y9) (rqU_o (j := 5) (by decide) (by decide) (by decide) (by decide)) (rqU_o (j := 6) (by decide) (by decide) (by decide) (by decide)) (h d hd)) (fun a ha _ _ k _ d hd => UQ1_c (g := g) (vu_ne (by omega)) (vu_ne (by omega)) (h d hd)) (fun a a2 ha _ _ i _ => ⟨fun d hd => UQ1_c (g := g) (vu_ne (by omega)) (vu_ne (by omega)) (h d hd), fun k x _ d hd => UQ1_c (g := g) (vu_ne (by omega)) (vu_ne (by omega)) (h d hd)⟩)
  · have hd : d < nd + 1 := hd
    have q12 := q.2.2.2.2
    by_cases e : d = nd
    · intro i j hi
      have z := ((hz d (by omega)).1 (by omega)).1
      have hi : i < iN (g 5 d) := hi
      rw [z] at hi
      exact absurd hi (by show ¬ i < 0; omega)
    · exact UQ1_c rfl rfl (h d (by omega))
  · have hd : d < nd := hd
    unfold UQ1
    show ∀ i j, i < iN (pkU g (nd - 1) (wN t wl 1) 5 d) → j < iN (pkU g (nd - 1) (wN t wl 1) 5 d) → pkU g (nd - 1) (wN t wl 1) 6 (6 * d + i) = pkU g (nd - 1) (wN t wl 1) 6 (6 * d + j) → i = j
    rw [pkU_5, pkU_6]
    by_cases e : d = nd - 1
    · rw [← e, pk_us]
      have q6 := q.2.2.2.2.2
      rw [← e] at q6
      rw [iN_nI (by omega)]
      have hq : ∀ j, j < iN (g 5 d) → ¬ g 6 (6 * d + j) = wN t wl 1 := fun j hj => by
        have z := q.2.2.2.1 (6 * d + j)
        rw [← e] at z
        exact z (by omega) (by omega)
      intro i j hi hj eq
      by_cases ei : i = iN (g 5 d)
      · by_cases ej : j = iN (g 5 d)
        · rw [ei, ej]
        · rw [ei, pk_us, pk_un (by omega)] at eq
          exact absurd eq.symm (hq j (by omega))
      · by_cases ej : j = iN (g 5 d)
        · rw [ej, pk_us, pk_un (by omega)] at eq
          exact absurd eq (hq i (by omega))
        · rw [pk_un (by omega), pk_un (by omega)] at eq
          exact h d hd i j (by omega) (by omega) eq
    · rw [pk_un e]
      have q6 := q.2.2.2.2.2
      obtain ⟨kd, hk6, hkd⟩ := h5 d (by omega)
      have e5 : iN (g 5 d) ≤ 6 := by rw [hkd, iN_nI (by omega)]; exact hk6
      intro i j hi hj eq
      rw [pk_un (by omega), pk_un (by omega)] at eq
      exact h d hd i j hi hj eq
theorem lnF_ZI {nd : Nat} {t : Nat → Int32} {wl : List (Nat × Nat)} {g : gT} (h5 : ∀ d, d < 12 → ∃ k, k ≤ 6 ∧ g 5 d = nI k) (hnd : nd ≤ 12) (h : ZI g nd) : ZI (lnF t wl nd g).2 (lnF t wl nd g).1 := by
  refine lnF_ind (P := fun x => ZI x.2 x.1) h (fun q d hd => ?_) (fun q d hd => ?_) (fun q n9 x9 y9 d hd => ?_) (fun a ha _ _ k hk d hd => ?_) (fun a a2 ha h0 _ i hi => ⟨fun d hd => ?_, fun k x hk d hd => ?_⟩)
  · exact ⟨fun z => (h d hd).1 (by have z : nd + 1 ≤ d := z; omega), fun i hi z => (h d hd).2 i hi (z.elim (fun z => Or.inl (by have z : nd + 1 ≤ d := z; omega)) Or.inr)⟩
  · have q6 := q.2.2.2.2.2
    have q0 := q.2.2.1
    show (nd ≤ d → pkU g (nd - 1) (wN t wl 1) 5 d = 0 ∧ _) ∧ ∀ i, i < 6 → (nd ≤ d ∨ iN (pkU g (nd - 1) (wN t wl 1) 5 d) ≤ i) → _
    rw [pkU_5]
    refine ⟨fun z => ?_, fun i hi z => ?_⟩
    · rw [pk_un (by omega)]; exact (h d hd).1 z
    · refine (h d hd).2 i hi ?_
      rcases z with z | z
      · exact Or.inl z
      · by_cases e : d = nd - 1
        · rw [← e] at z q6
          rw [pk_us, iN_nI (by omega)] at z
          exact Or.inr (by omega)
        · rw [pk_un e] at z; exact Or.inr z
  · have q0 := q.2.2.1
    refine ⟨fun z => ?_, fun i hi z => (h d hd).2 i hi z⟩
    have z : nd ≤ d := z
    obtain ⟨z1, z2, z3, z4⟩ := (h d hd).1 z
    refine ⟨z1, ?_, z3, z4⟩
    show rqU g (nd - 1) n9 x9 y9 12 d = 0
    rw [rqU_12, pk_un (by omega)]; exact z2
  · rcases ha with rfl | rfl
    · refine ⟨fun z => ?_, fun i hi z => (h d hd).2 i hi z⟩
      have z : nd ≤ d := z
      obtain ⟨z1, z2, z3, z4⟩ := (h d hd).1 z
      refine ⟨z1, z2, z3, fun i hi => ⟨?_, (z4 i hi).2⟩⟩
      show upd (g 14) (3 * (nd - 1) + k) _ (3 * d + i) = 0
      rw [pk_un (by omega)]; exact (z4 i hi).1
    · refine ⟨fun z => ?_, fun i hi z => (h d hd).2 i hi z⟩
      have z : nd ≤ d := z
      obtain ⟨z1, z2, z3, z4⟩ := (h d hd).1 z
      refine ⟨z1, z2, z3, fun i hi => ⟨(z4 i hi).1, ?_⟩⟩
      show upd (g 15) (3 * (nd - 1) + k) _ (3 * d + i) = 0
      rw [pk_un (by omega)]; exact (z4 i hi).2
  · obtain ⟨kd, hk6, hkd⟩ := h5 (nd - 1) (by omega)
    have e5 : iN (g 5 (nd - 1)) ≤ 6 := by rw [hkd, iN_nI (by omega)]; exact hk6
    rcases ha with ⟨rfl, rfl⟩ | ⟨rfl, rfl⟩
    · refine ⟨fun z => (h d hd).1 z, fun i2 hi2 z => ?_⟩
      have z : nd ≤ d ∨ iN (g 5 d) ≤ i2 := z
      obtain ⟨z1, z2, z3⟩ := (h d hd).2 i2 hi2 z
      refine ⟨?_, z2, z3⟩
      show upd (g 9) (6 * (nd - 1) + i) 1 (6 * d + i2) = 0
      rw [pk_un (fun e => ?_)]
      · exact z1
      · have ed : d = nd - 1 := by omega
        rw [ed] at z; omega
    · refine ⟨fun z => (h d hd).1 z, fun i2 hi2 z => ?_⟩
      have z : nd ≤ d ∨ iN (g 5 d) ≤ i2 := z
      obtain ⟨z1, z2, z3⟩ := (h d hd).2 i2 hi2 z
      refine ⟨z1, ?_, z3⟩
      show upd (g 10) (6 * (nd - 1) + i) 1 (6 * d + i2) = 0
      rw [pk_un (fun e => ?_)]
      · exact z2
      · have ed : d = nd - 1 := by omega
        rw [ed] at z; omega
  · obtain ⟨kd, hk6, hkd⟩ := h5 (nd - 1) (by omega)
    have e5 : iN (g 5 (nd - 1)) ≤ 6 := by rw [hkd, iN_nI (by omega)]; exact hk6
    rcases ha with ⟨rfl, rfl⟩ | ⟨rfl, rfl⟩
    · refine ⟨fun z => (h d hd).1 z, fun i2 hi2 z => ?_⟩
      have z : nd ≤ d ∨ iN (g 5 d) ≤ i2 := z
      obtain ⟨z1, z2, z3⟩ := (h d hd).2 i2 hi2 z
      refine ⟨z1, z2, fun j hj => ⟨?_, (z3 j hj).2⟩⟩
      show upd (g 7) (3 * (6 * (nd - 1) + i) + k) x (3 * (6 * d + i2) + j) = 0
      rw [pk_un (fun e => ?_)]
      · exact (z3 j hj).1
      · have ed : d = nd - 1 := by omega
        rw [ed] at z; omega
    · refine ⟨fun z => (h d hd).1 z, fun i2 hi2 z => ?_⟩
      have z : nd ≤ d ∨ iN (g 5 d) ≤ i2 := z
      obtain ⟨z1, z2, z3⟩ := (h d hd).2 i2 hi2 z
      refine ⟨z1, z2, fun j hj => ⟨(z3 j hj).1, ?_⟩⟩
      show upd (g 8) (3 * (6 * (nd - 1) + i) + k) x (3 * (6 * d + i2) + j) = 0
      rw [pk_un (fun e => ?_)]
      · exact (z3 j hj).2
      · have ed : d = nd - 1 := by omega
        rw [ed] at z; omega
def LKd (g : gT) (ml nd : Nat) : Prop := ∀ la, la < ml → ∀ k, k < mcv g la → mdv g la k < nd ∧ ¬ g 11 (mdv g la k) = 0
def XT (g : gT) (ad : Nat → Nat → Nat) (E : Nat → Nat → va_E) (nd ml len : Nat) : Prop := (∀ i, i < len → eA (E 0 2) i = g 0 i) ∧ TDs g E nd ∧ TLas g ad E nd ml ∧ CBs g E ml ∧ (∀ n, n < ml → RBs g E n) ∧ ZI g nd ∧ NZ g nd ∧ (∀ d, d < nd → UQ1 g d) ∧ NDq g ml ∧ LKd g ml nd
def XQ (g g2 : gT) (np : Nat) : Prop := (∀ j, 3 ≤ j → j ≤ 17 → g2 j = g j) ∧ ∀ la, la < np → g2 22 la = g 22 la ∧ g2 19 la = g 19 la ∧ g2 20 la = g 20 la ∧ ∀ k, k < iN (g 20 la) → g2 21 (12 * la + k) = g 21 (12 * la + k)
theorem XQ_VQ {g g2 : gT} {np : Nat} (hk : LKP g np) (h : XQ g g2 np) : VQ g g2 np := VQ_of hk (fun j h1 h2 _ => h.1 j h1 h2) (fun la hl => (h.2 la hl).2.1) (fun la hl => (h.2 la hl).2.2.1) (fun la hl => (h.2 la hl).2.2.2)
theorem ZI_c {g g2 : gT} {nd : Nat} (h : ∀ j, 5 ≤ j → j ≤ 15 → j ≠ 13 → g2 j = g j) (hz : ZI g nd) : ZI g2 nd := by
  unfold ZI
  rw [h 5 (by omega) (by omega) (by omega), h 7 (by omega) (by omega) (by omega), h 8 (by omega) (by omega) (by omega), h 9 (by omega) (by omega) (by omega), h 10 (by omega) (by omega) (by omega), h 11 (by omega) (by omega) (by omega), h 12 (by omega) (by omega) (by omega), h 14 (by omega) (by omega) (by omega), h 15 (by omega) (by omega) (by omega)]
  exact hz
theorem NDq_V {g g2 : gT} {np : Nat} (hv : VQ g g2 np) (h : NDq g np) : NDq g2 np := fun la hl a b ha hb e => by
  obtain ⟨e1, _, e3⟩ := hv la hl
  rw [e1] at ha hb
  rw [(e3 a ha).1, (e3 b hb).1] at e
  exact h la hl a b ha hb e
theorem LKd_V {g g2 : gT} {np nd nd2 : Nat} (hn : nd ≤ nd2) (hv : VQ g g2 np) (h11 : ∀ d, ¬ g 11 d = 0 → ¬ g2 11 d = 0) (h : LKd g np nd) : LKd g2 np nd2 := fun la hl k hk => by
  obtain ⟨e1, _, e3⟩ := hv la hl
  rw [e1] at hk
  rw [(e3 k hk).1]
  obtain ⟨q1, q2⟩ := h la hl k hk
  exact ⟨by omega, h11 _ q2⟩
theorem XT_XQ {g g2 : gT} {kA : Nat → ClassId} {ad : Nat → Nat → Nat} {E : Nat → Nat → va_E} {RL : List (Nat × Nat)} {nd ml len : Nat} (hnd : nd ≤ 12) (hml : ml ≤ 6) (hD : DIs kA ad E RL nd) (hI : LIs kA ad E RL nd ml) (hq : XQ g g2 ml) (ht : ∀ i, i < len → eA (E 0 2) i = g2 0 i) (h : XT g ad E nd ml len) : XT g2 ad E nd ml len := by
  obtain ⟨h1, h2, h3, h4, h5, h6, h7, h8, h9, h10⟩ := h
  have hk : LKP g ml := LKP_L hml hnd hI h3
  have hv := XQ_VQ hk hq
  refine ⟨ht, TDs_AG hD (fun d _ => AG_of (fun j a b => hq.1 j a b)) h2, TLas_row hq.2 (LIs_12 hI) h3, CBs_VQ hk hv h4, fun n hn => RBs_VQ hk hv hn (h5 n hn), ZI_c (fun j a b _ => hq.1 j (by omega) (by omega)) h6, fun d hd => by rw [hq.1 4 (by omega) (by omega)]; exact h7 d hd, fun d hd => UQ1_c (hq.1 5 (by omega) (by omega)) (hq.1 6 (by omega) (by omega)) (h8 d hd), NDq_V hv h9, LKd_V (Nat.le_refl _) hv (fun d q => by rw [hq.1 11 (by omega) (by omega)]; exact q) h10⟩
theorem XT_E {g : gT} {ad ad' : Nat → Nat → Nat} {E E' : Nat → Nat → va_E} {nd ml len len2 : Nat} (hF : FRX ml nd ad ad' E E') (ht : ∀ i, i < len2 → eA (E' 0 2) i = g 0 i) (h : XT g ad E nd ml len) : XT g ad' E' nd ml len2 := by
  obtain ⟨h1, h2, h3, h4, h5, h6, h7, h8, h9, h10⟩ := h
  exact ⟨ht, TDs_same hF.2.2.1 h2, TLas_same (Nat.le_refl _) hF.1 hF.2.2.2 hF.2.1 h3, CBs_same (fun la o hl => by rw [hF.1 la hl]) h4, fun n hn k hk t ht => by rw [hF.1 n hn]; exact h5 n hn k hk t ht, h6, h7, h8, h9, h10⟩
theorem XT_line {g : gT} {kA : Nat → ClassId} {ad ad' : Nat → Nat → Nat} {E E' : Nat → Nat → va_E} {RL : List (Nat × Nat)} {nd ml len : Nat} {t : Nat → Int32} {wl : List (Nat × Nat)} (hnd : nd ≤ 12) (hml : ml ≤ 6) (h5 : ∀ d, d < 12 → ∃ k, k ≤ 6 ∧ g 5 d = nI k) (h12 : ∀ d, d < 12 → ∃ k, k ≤ 5 ∧ g 12 d = nI k) (hI : LIs kA ad E RL nd ml) (hF : FRL ml nd ad ad' E E') (hT : TDs (lnF t wl nd g).2 E' (lnF t wl nd g).1) (h : XT g ad E nd ml len) : XT (lnF t wl nd g).2 ad' E' (lnF t wl nd g).1 ml 0 := by
  obtain ⟨h1, h2, h3, h4, h5b, h6, h7, h8, h9, h10⟩ := h
  have hk : LKP g ml := LKP_L hml hnd hI h3
  have e18 := lnF_row (nd := nd) (t := t) (wl := wl) (g := g)
  have h56 : iN (g 5 (nd - 1)) ≤ 6 := by
    obtain ⟨k, q1, q2⟩ := h5 (nd - 1) (by omega)
    rw [q2, iN_nI (by omega)]; exact q1
  have hv : VQ g (lnF t wl nd g).2 ml := fun la hl => by
    refine ⟨by unfold mcv; rw [e18 20 (by omega)], by unfold prv; rw [e18 19 (by omega)], fun k hk9 => ⟨by unfold mdv; rw [e18 21 (by omega)], ?_⟩⟩
    obtain ⟨q1, q2⟩ := h10 la hl k hk9
    obtain ⟨_, a4, _, _, a12, _, a13, _⟩ := lnF_AG (t := t) (wl := wl) h56 _ q1 q2
    obtain ⟨kd, q3, q4⟩ := h12 (mdv g la k) (by omega)
    refine ⟨a4, a12, fun i hi => a13 i ?_⟩
    rw [q4, iN_nI (by omega)] at hi; omega
  have hTL : TLas (lnF t wl nd g).2 ad E nd ml := TLas_row (fun n hn => ⟨by rw [e18 22 (by omega)], by rw [e18 19 (by omega)], by rw [e18 20 (by omega)], fun k hk => by rw [e18 21 (by omega)]⟩) (LIs_12 hI) h3
  refine ⟨fun i hi => absurd hi (Nat.not_lt_zero _), hT, TLas_same lnF_nd (fun n hn => (hF.1 n hn).1) hF.2.1 (fun n hn => by rw [(hF.1 n hn).2]) hTL, CBs_same (fun la o hl => by rw [(hF.1 la hl).1]) (CBs_VQ hk hv h4), fun n hn k hk t ht => by rw [(hF.1 n hn).1]; exact RBs_VQ (by assumption) hv hn (h5b n hn) k hk t ht, lnF_ZI h5 hnd h6, lnF_NZ h7, lnF_UQ hnd h5 h6 h8, NDq_V hv h9, LKd_V lnF_nd hv (fun d q => by rw [e18 11 (by omega)]; exact q) h10⟩
theorem gKl_o {g : gT} {L : List Nat} {j : Nat} (h : j ≠ 11) : gKl g L j = g j := by unfold gKl; rw [vu_ne h]
theorem XT_keep {g : gT} {kA : Nat → ClassId} {ad ad' : Nat → Nat → Nat} {E E' : Nat → Nat → va_E} {RL RL' : List (Nat × Nat)} {nd ml len lq : Nat} {L : List Nat} (hnd : nd ≤ 12) (hml : ml < 5) (hG : GL nd L) (hI : LIs kA ad E RL nd ml) (hI2 : LIs kA ad' E' RL' nd (ml + 1)) (hT : TDs (gKl (gDr g ml lq L) L) E' nd) (hTL : TLas (gDr g ml lq L) ad' E' nd (ml + 1)) (hC : CBs (gDr g ml lq L) E' (ml + 1)) (hR : RBs (gDr g ml lq L) E' ml) (hF : ∀ n, n < ml → E' (20 + n) = E (20 + n)) (h : XT g ad E nd ml len) : XT (gKl (gDr g ml lq L) L) ad' E' nd (ml + 1) 0 := by
  obtain ⟨h1, h2, h3, h4, h5, h6, h7, h8, h9, h10⟩ := h
  have hk : LKP g ml := LKP_L (by omega) hnd hI h3
  have hk2 : LKP (gDr g ml lq L) (ml + 1) := LKP_L (by omega) hnd hI2 hTL
  have hl12 : L.length ≤ 12 := by have q := GL_len hG; omega
  have hv1 : VQ g (gDr g ml lq L) ml := VQ_gDr hk
  have hv : VQ (gDr g ml lq L) (gKl (gDr g ml lq L) L) (ml + 1) := VQ_of hk2 (fun j _ _ h11 => gKl_o h11) (fun la _ => by rw [gKl_o (by decide)]) (fun la _ => by rw [gKl_o (by decide)]) (fun la _ k _ => by rw [gKl_o (by decide)])
  have e11 : ∀ d, gKl (gDr g ml lq L) L 11 d = cif (d ∈ L) 1 (g 11 d) := fun d => by unfold gKl; rw [vu_eq, gDr_o (by decide) (by decide) (by decide) (by decide)]
  have en : ∀ d, ¬ g 11 d = 0 → ¬ gKl (gDr g ml lq L) L 11 d = 0 := fun d hd => by
    rw [e11]
    by_cases q : d ∈ L
    · rw [cif_pos q]; decide
    · rw [cif_neg q]; exact hd
  refine ⟨fun i hi => absurd hi (Nat.not_lt_zero _), hT, TLas_row (fun n hn => ⟨by rw [gKl_o (by decide)], by rw [gKl_o (by decide)], by rw [gKl_o (by decide)], fun k hk => by rw [gKl_o (by decide)]⟩) (LIs_12 hI2) hTL, CBs_VQ hk2 hv hC, fun n hn => ?_, ?_, ?_, ?_, NDq_V hv (ND_gDr hk hG hnd hl12 h9), ?_⟩
  · refine RBs_VQ hk2 hv hn ?_
    by_cases q : n = ml
    · rw [q]; exact hR
    · intro k hk9 t ht
      rw [hF n (by omega)]
      exact RBs_VQ hk hv1 (by omega) (h5 n (by omega)) k hk9 t ht
  · have z : ZI (gDr g ml lq L) nd := ZI_c (fun j _ _ _ => gDr_o (by omega) (by omega) (by omega) (by omega)) h6
    intro d hd
    refine ⟨fun hn => ?_, (z d hd).2⟩
    obtain ⟨z1, z2, z3, z4⟩ := (z d hd).1 hn
    refine ⟨z1, z2, ?_, z4⟩
    rw [e11, cif_neg (fun q => by have := hG.1 d q; omega)]
    exact ((h6 d hd).1 hn).2.2.1
  · intro d hd
    rw [gKl_o (by decide), gDr_o (by decide) (by decide) (by decide) (by decide)]; exact h7 d hd
  · intro d hd
    exact UQ1_c ((gKl_o (by decide)).trans (gDr_o (by decide) (by decide) (by decide) (by decide))) ((gKl_o (by decide)).trans (gDr_o (by decide) (by decide) (by decide) (by decide))) (h8 d hd)
  · intro la hla k hk9
    obtain ⟨v1, _, v3⟩ := hv la hla
    rw [v1] at hk9
    rw [(v3 k hk9).1]
    by_cases q : la = ml
    · subst q
      rw [gDr_mc hl12] at hk9
      rw [gDr_md hG hnd hk9]
      have hm := getD_mem hk9
      exact ⟨hG.1 _ hm, by rw [e11, cif_pos hm]; decide⟩
    · obtain ⟨w1, _, w3⟩ := hv1 la (by omega)
      rw [w1] at hk9
      rw [(w3 k hk9).1]
      obtain ⟨q1, q2⟩ := h10 la (by omega) k hk9
      exact ⟨q1, en _ q2⟩
theorem XT_close {g g2 : gT} {kA : Nat → ClassId} {ad : Nat → Nat → Nat} {E E' : Nat → Nat → va_E} {RL : List (Nat × Nat)} {nd ml len : Nat} (hnd : nd ≤ 12) (hml : ml ≤ 6) (hD : DIs kA ad E' RL nd) (hI : LIs kA ad E RL nd ml) (hg : ∀ j, j ≠ 22 → g2 j = g j) (hF : ∀ b2 o2, (¬ o2 = 0 ∨ b2 < 20) → E' b2 o2 = E b2 o2) (hT : TLas g2 ad E' nd ml) (h : XT g ad E nd ml len) : XT g2 ad E' nd ml len := by
  obtain ⟨h1, h2, h3, h4, h5, h6, h7, h8, h9, h10⟩ := h
  have hk : LKP g ml := LKP_L hml hnd hI h3
  have hv : VQ g g2 ml := VQ_of hk (fun j _ _ _ => hg j (by omega)) (fun la _ => by rw [hg 19 (by omega)]) (fun la _ => by rw [hg 20 (by omega)]) (fun la _ k _ => by rw [hg 21 (by omega)])
  refine ⟨fun i hi => by rw [hF 0 2 (by omega), hg 0 (by omega)]; exact h1 i hi, TDs_AG hD (fun d _ => AG_of (fun j _ _ => hg j (by omega))) (TDs_same (fun d hd => fun2 fun o => hF (1 + d) o (by omega)) h2), hT, fun la hl k hk9 t ht => by rw [hF (20 + la) (16 + 10 * k) (by omega)]; exact CBs_VQ hk hv h4 la hl k hk9 t ht, fun n hn k hk9 t ht => by rw [hF (20 + n) (17 + 10 * k) (by omega)]; exact RBs_VQ hk hv hn (h5 n hn) k hk9 t ht, ZI_c (fun j _ _ _ => hg j (by omega)) h6, fun d hd => by rw [hg 4 (by omega)]; exact h7 d hd, fun d hd => UQ1_c (hg 5 (by omega)) (hg 6 (by omega)) (h8 d hd), NDq_V hv h9, LKd_V (Nat.le_refl _) hv (fun d q => by rw [hg 11 (by omega)]; exact q) h10⟩
theorem clF_o {g : gT} {nl j : Nat} {ly : Int32} (h : j ≠ 22) : clF nl g ly j = g j := by
  unfold clF
  by_cases q : opP g nl ly ∧ ∀ j, j < nl → ¬ g 22 j = 0 → ¬ g 19 j = ly
  · rw [cif_pos q, vu_ne h]
  · rw [cif_neg q]
theorem LKP_gDr {g : gT} {nd ml lq : Nat} {L : List Nat} (hnd : nd ≤ 12) (hlq : lq ≤ ml) (hm : ml ≤ 5) (hG : GL nd L) (hk : LKP g ml) : LKP (gDr g ml lq L) (ml + 1) := by
  have hl12 : L.length ≤ 12 := by have q := GL_len hG; omega
  have hv1 : VQ g (gDr g ml lq L) ml := VQ_gDr hk
  refine ⟨fun x hx => ?_, fun la hla => ?_⟩
  · by_cases q : x = ml
    · subst q
      unfold prv
      rw [gDr_19, pk_us, nI_prs, iN_nI (by omega)]; exact hlq
    · rw [(hv1 x (by omega)).2.1]; exact hk.1 x (by omega)
  · by_cases q : la = ml
    · subst q
      rw [gDr_mc hl12]
      refine ⟨hl12, fun k hk9 => ?_⟩
      rw [gDr_md hG hnd hk9]
      have z := hG.1 _ (getD_mem hk9)
      omega
    · obtain ⟨w1, _, w3⟩ := hv1 la (by omega)
      rw [w1]
      refine ⟨(hk.2 la (by omega)).1, fun k hk9 => ?_⟩
      rw [(w3 k hk9).1]
      exact (hk.2 la (by omega)).2 k hk9
theorem spQ_g {g g2 : gT} {Q : Nat → Prop} {d : Nat} (h : ∀ j, 3 ≤ j → j ≤ 17 → g2 j = g j) : spQ g2 Q d ↔ spQ g Q d := by
  unfold spQ spB elK exP pI
  rw [h 4 (by omega) (by omega), h 5 (by omega) (by omega), h 6 (by omega) (by omega), h 7 (by omega) (by omega), h 9 (by omega) (by omega)]
theorem rsW_V {g g2 : gT} {nl md : Nat} (hk : LKP g (nl + 1)) (hm : mcv g nl = md) (h21 : ∀ k, k < md → g 21 (12 * nl + k) = nI (mdv g nl k)) (hj : ∀ j, 3 ≤ j → j ≤ 17 → g2 j = g j) (hv : VQ g g2 (nl + 1)) (h21b : ∀ k, k < md → g2 21 (12 * nl + k) = g 21 (12 * nl + k)) : rsW g2 nl md = rsW g nl md := by
  have hMB : ∀ b, MB g2 nl md b ↔ MB g nl md b := fun b => by
    constructor
    · intro ⟨h1, j, h2, h3, h4⟩
      refine ⟨h1, j, h2, h3, ?_⟩
      have z := h21b (j - 12 * nl) (by omega)
      rw [show 12 * nl + (j - 12 * nl) = j by omega] at z
      rw [← z]; exact h4
    · intro ⟨h1, j, h2, h3, h4⟩
      refine ⟨h1, j, h2, h3, ?_⟩
      have z := h21b (j - 12 * nl) (by omega)
      rw [show 12 * nl + (j - 12 * nl) = j by omega] at z
      rw [z]; exact h4
  have hMk : ∀ b, MB g nl md b → ∃ k, k < mcv g nl ∧ mdv g nl k = b := fun b ⟨h1, j, h2, h3, h4⟩ => by
    refine ⟨j - 12 * nl, by omega, ?_⟩
    unfold mdv
    rw [show 12 * nl + (j - 12 * nl) = j by omega, h4, iN_nI (by omega)]
  have hC : CYC g2 nl md ↔ CYC g nl md := by
    constructor
    · intro ⟨b, h1, h2⟩
      have h1 := (hMB b).mp h1
      obtain ⟨k, q1, q2⟩ := hMk b h1
      subst q2
      exact ⟨_, h1, (tcs_VQ hk hv (by omega) q1).mp h2⟩
    · intro ⟨b, h1, h2⟩
      obtain ⟨k, q1, q2⟩ := hMk b h1
      subst q2
      exact ⟨_, (hMB _).mpr h1, (tcs_VQ hk hv (by omega) q1).mpr h2⟩
  have hS : SPL g2 nl md ↔ SPL g nl md := by
    constructor
    · intro ⟨b, h1, h2⟩
      have h1 := (hMB b).mp h1
      obtain ⟨k, q1, q2⟩ := hMk b h1
      subst q2
      exact ⟨_, h1, (spQ_iff (fun m _ => rdQ_VQ hk hv (by omega) q1)).mp ((spQ_g hj).mp h2)⟩
    · intro ⟨b, h1, h2⟩
      obtain ⟨k, q1, q2⟩ := hMk b h1
      subst q2
      exact ⟨_, (hMB _).mpr h1, (spQ_g hj).mpr ((spQ_iff (fun m _ => rdQ_VQ hk hv (by omega) q1)).mpr h2)⟩
  unfold rsW
  rw [propext hC, propext hS]
theorem DT_XQ {g gD : gT} {ml lq : Nat} {L : List Nat} (hk : LKP g ml) (hl : L.length ≤ 12) (h : DT g ml lq L gD) : (∀ j, 3 ≤ j → j ≤ 17 → gD j = gDr g ml lq L j) ∧ (∀ la, la < ml + 1 → gD 19 la = gDr g ml lq L 19 la) ∧ (∀ la, la < ml + 1 → gD 20 la = gDr g ml lq L 20 la) ∧ ∀ la, la < ml + 1 → ∀ k, k < iN (gDr g ml lq L 20 la) → gD 21 (12 * la + k) = gDr g ml lq L 21 (12 * la + k) := by
  obtain ⟨⟨h1, h2, h3⟩, h4, h5, h6⟩ := h
  refine ⟨fun j a b => by rw [gDr_o (by omega) (by omega) (by omega) (by omega)]; exact h1 j (by omega) (by omega) (by omega) (by omega) (by omega) (by omega) (by omega) (by omega), fun la hla => ?_, fun la hla => ?_, fun la hla k hk9 => ?_⟩
  · by_cases q : la = ml
    · rw [q, gDr_19, pk_us]; exact h4
    · rw [gDr_19, pk_un q]; exact h2 la (by omega)
  · by_cases q : la = ml
    · rw [q, gDr_20, pk_us]; exact h5
    · rw [gDr_20, pk_un q]; exact (h3 la (by omega)).1
  · by_cases q : la = ml
    · rw [q] at hk9 ⊢
      rw [gDr_20, pk_us, iN_nI (by omega)] at hk9
      rw [gDr_21n hk9]; exact h6 k hk9
    · rw [gDr_20, pk_un q] at hk9
      have z := (hk.2 la (by omega)).1
      unfold mcv at z
      rw [gDr_21o (by omega)]; exact (h3 la (by omega)).2 k (by omega)
theorem rsW_DT {g gD : gT} {nd ml lq : Nat} {L : List Nat} (hnd : nd ≤ 12) (hlq : lq ≤ ml) (hm : ml ≤ 5) (hG : GL nd L) (hk : LKP g ml) (h : DT g ml lq L gD) : rsW gD ml L.length = rsW (gDr g ml lq L) ml L.length := by
  have hl12 : L.length ≤ 12 := by have q := GL_len hG; omega
  obtain ⟨e1, e2, e3, e4⟩ := DT_XQ hk hl12 h
  have hk2 := LKP_gDr hnd hlq hm hG hk
  exact rsW_V hk2 (gDr_mc hl12) (fun k hk9 => by rw [gDr_md hG hnd hk9]; exact gDr_21n hk9) e1 (VQ_of hk2 (fun j a b _ => e1 j a b) e2 e3 e4) (fun k hk9 => e4 ml (by omega) k (by rw [gDr_20, pk_us, iN_nI (by omega)]; exact hk9))
theorem SQ_XQ {g g2 : gT} {ml : Nat} (hk : LKP g ml) (h : SQ g g2 ml) : XQ g g2 ml := by
  obtain ⟨h1, h2, h3⟩ := h
  refine ⟨fun j a b => h1 j (by omega) (by omega) (by omega) (by omega) (by omega) (by omega) (by omega) (by omega), fun la hla => ⟨by rw [h1 22 (by omega) (by omega) (by omega) (by omega) (by omega) (by omega) (by omega) (by omega)], h2 la hla, (h3 la hla).1, fun k hk9 => (h3 la hla).2 k ?_⟩⟩
  have z := (hk.2 la hla).1
  unfold mcv at z
  omega
theorem NW_XQ {g g2 : gT} {ml lq : Nat} {L : List Nat} (hk : LKP g ml) (hl : L.length ≤ 12) (h : NW g ml lq L g2) : XQ (gKl (gDr g ml lq L) L) g2 (ml + 1) := by
  obtain ⟨h1, h2, h3, h4, ⟨h5, h5b⟩, h6, h7⟩ := h
  refine ⟨fun j a b => ?_, fun la hla => ⟨?_, ?_, ?_, fun k hk9 => ?_⟩⟩
  · by_cases q : j = 11
    · subst q
      funext d
      unfold gKl
      rw [vu_eq, gDr_o (by decide) (by decide) (by decide) (by decide)]
      exact h6 d
    · rw [gKl_o q, gDr_o (by omega) (by omega) (by omega) (by omega)]
      exact h1 j (by omega) (by omega) (by omega) (by omega) (by omega) (by omega) (by omega) (by omega) (by omega) (by omega)
  · rw [gKl_o (by decide), gDr_22, h7]
  · rw [gKl_o (by decide), gDr_19]
    by_cases q : la = ml
    · rw [q, pk_us]; exact h4
    · rw [pk_un q]; exact h2 la (by omega)
  · rw [gKl_o (by decide), gDr_20]
    by_cases q : la = ml
    · rw [q, pk_us]; exact h5
    · rw [pk_un q]; exact (h3 la (by omega)).1
  · rw [gKl_o (by decide), gDr_20] at hk9
    rw [gKl_o (by decide)]
    by_cases q : la = ml
    · rw [q] at hk9 ⊢
      rw [pk_us, iN_nI (by omega)] at hk9
      rw [gDr_21n hk9]; exact h5b k hk9
    · rw [pk_un q] at hk9
      have z := (hk.2 la (by omega)).1
      unfold mcv at z
      rw [gDr_21o (by omega)]; exact (h3 la (by omega)).2 k (by omega)
theorem ok1_lq {g : gT} {t : Nat → Int32} {wl : List (Nat × Nat)} {ml : Nat} {fi pa : Int32} (hm : ml ≤ 6) (h : ok1 g t wl ml fi pa) : iN (pa + 1) ≤ ml := by
  rcases h.2.2.2.2 with q | ⟨la, q1, q2, _⟩
  · rw [q, lq_m1]; exact Nat.zero_le _
  · rw [q2, lq_la (by omega)]; exact q1
def STQ (kA : Nat → ClassId) (ml nd : Nat) (ad : Nat → Nat → Nat) (E : Nat → Nat → va_E) (ad' : Nat → Nat → Nat) (E' : Nat → Nat → va_E) (RL' : List (Nat × Nat)) : Prop := (∃ wn2 cs2, CI kA ad' E' RL' ml nd 0 wn2 cs2) ∧ ad' 0 0 = ad 0 0 ∧ FRX ml nd ad ad' E E'
def YP (kA : Nat → ClassId) (g : gT) (ad : Nat → Nat → Nat) (E : Nat → Nat → va_E) (ml nd len : Nat) (fi px bi k : Int32) (ad' : Nat → Nat → Nat) (E' : Nat → Nat → va_E) (RL' : List (Nat × Nat)) (o : Int64) : Prop :=
  (k = 1 ∧ ¬ ok1 g (g 0) (w_all (g 0) len) ml fi px ∧ STQ kA ml nd ad E ad' E' RL' ∧ eI (E' 0 0) 5 = 0) ∨
  (k = 2 ∧ yN g (w_all (g 0) len) nd ml fi px ∧ STQ kA ml nd ad E ad' E' RL' ∧ eI (E' 0 0) 5 = 0) ∨
  (k = 3 ∧ STQ kA ml nd ad E ad' E' RL' ∧ ∃ L9, yL g (w_all (g 0) len) nd ml fi px bi L9 ∧ ¬ yW g ml px L9 = 0 ∧ eI (E' 0 0) 5 = nI (yW g ml px L9)) ∨
  (k = 0 ∧ o = (nI ml).toInt64 ∧ ml < 5 ∧ ad' 0 0 = ad 0 0 ∧ eI (E' 0 0) 5 = 0 ∧ ∃ L9 wn2 cs2, yL g (w_all (g 0) len) nd ml fi px bi L9 ∧ yW g ml px L9 = 0 ∧ CI kA ad' E' RL' (ml + 1) nd 0 wn2 cs2 ∧ TDs (gKl (gDr g ml (iN (px + 1)) L9) L9) E' nd ∧ TLas (gDr g ml (iN (px + 1)) L9) ad' E' nd (ml + 1) ∧ CBs (gDr g ml (iN (px + 1)) L9) E' (ml + 1) ∧ RBs (gDr g ml (iN (px + 1)) L9) E' ml ∧ ∀ n9, n9 < ml → E' (20 + n9) = E (20 + n9))
def YX (g : gT) (E' : Nat → Nat → va_E) (ml nd len : Nat) (fi px bi : Int32) : Prop := (¬ ok1 g (g 0) (w_all (g 0) len) ml fi px ∧ eI (E' 0 0) 5 = 0) ∨ (yN g (w_all (g 0) len) nd ml fi px ∧ eI (E' 0 0) 5 = 0) ∨ ∃ L9, yL g (w_all (g 0) len) nd ml fi px bi L9 ∧ ¬ yW g ml px L9 = 0 ∧ eI (E' 0 0) 5 = nI (yW g ml px L9)
theorem YP_1 {kA : Nat → ClassId} {g : gT} {ad ad' : Nat → Nat → Nat} {E E' : Nat → Nat → va_E} {RL' : List (Nat × Nat)} {ml nd len : Nat} {fi px bi : Int32} {o : Int64} (h : STQ kA ml nd ad E ad' E' RL' ∧ YX g E' ml nd len fi px bi) (hz : ¬ ok1 g (g 0) (w_all (g 0) len) ml fi px) : YP kA g ad E ml nd len fi px bi 1 ad' E' RL' o := by
  rcases h.2 with q | q | ⟨L, q, _⟩
  · exact Or.inl ⟨rfl, hz, h.1, q.2⟩
  · exact absurd q.1.1 hz
  · exact absurd q.1 hz
theorem aF_tf {A B : List Nat} {x : Bool × List Nat} (h1 : x = (true, A)) (h2 : x = (false, B)) : False := by
  rw [h1] at h2
  have q := congrArg Prod.fst h2
  simp only at q
  exact Bool.noConfusion q
theorem YP_2 {kA : Nat → ClassId} {g : gT} {ad ad' : Nat → Nat → Nat} {E E' : Nat → Nat → va_E} {RL' : List (Nat × Nat)} {ml nd len : Nat} {fi px bi : Int32} {o : Int64} (h : STQ kA ml nd ad E ad' E' RL' ∧ YX g E' ml nd len fi px bi) (hz : yN g (w_all (g 0) len) nd ml fi px) : YP kA g ad E ml nd len fi px bi 2 ad' E' RL' o := by
  rcases h.2 with q | q | ⟨L, q, _⟩
  · exact absurd hz.1 q.1
  · exact Or.inr (Or.inl ⟨rfl, hz, h.1, q.2⟩)
  · obtain ⟨_, Lx, z⟩ := hz
    obtain ⟨_, L1, z2, _⟩ := q
    exact (aF_tf z2 z).elim
theorem YP_3 {kA : Nat → ClassId} {g : gT} {ad ad' : Nat → Nat → Nat} {E E' : Nat → Nat → va_E} {RL' : List (Nat × Nat)} {ml nd len : Nat} {fi px bi : Int32} {o : Int64} (h : STQ kA ml nd ad E ad' E' RL' ∧ YX g E' ml nd len fi px bi) (hz : ∃ L9, yL g (w_all (g 0) len) nd ml fi px bi L9 ∧ ¬ yW g ml px L9 = 0) : YP kA g ad E ml nd len fi px bi 3 ad' E' RL' o := by
  obtain ⟨L9, z1, z3⟩ := hz
  rcases h.2 with q | q | q
  · exact absurd z1.1 q.1
  · obtain ⟨_, Lx, z⟩ := q.1
    obtain ⟨_, L1, z2, _⟩ := z1
    exact (aF_tf z2 z).elim
  · exact Or.inr (Or.inr (Or.inl ⟨rfl, h.1, q⟩))
theorem CI_b {kA : Nat → ClassId} {ad : Nat → Nat → Nat} {E : Nat → Nat → va_E} {RL : List (Nat × Nat)} {ml nd len wn cs : Nat} (h : CI kA ad E RL ml nd len wn cs) : len ≤ 40 ∧ nd ≤ 12 ∧ ml ≤ 5 ∧ DIs kA ad E RL nd ∧ LIs kA ad E RL nd ml := by
  obtain ⟨_, _, ⟨_, _, _, h1, _⟩, ⟨_, h2, _⟩, _, ⟨_, h3, _⟩, h4, h5⟩ := h
  exact ⟨h1, h2, h3, h4, h5⟩
theorem yL_eq {g : gT} {wl : List (Nat × Nat)} {nd ml : Nat} {fi pa bi : Int32} {L L1 L2 : List Nat} (h : yL g wl nd ml fi pa bi L) (h1 : aF (adG g nd fi (iN (pa + 1))) [] (nmL (g 0) wl wl.length 0) = (true, L1)) (h2 : L2 = cif (¬ bi = 0) (bIt (bUg g nd fi (iN (pa + 1))) g (iN (pa + 1)) 13 L1) L1) : L2 = L := by
  obtain ⟨_, L3, h3, h4, _⟩ := h
  rw [h1] at h3
  have q := congrArg Prod.snd h3
  simp only at q
  rw [h2, h4, q]
theorem ly_join {kA : Nat → ClassId} {g u2 : gT} {ad ad' : Nat → Nat → Nat} {E E' : Nat → Nat → va_E} {RL RL' : List (Nat × Nat)} {ml nd len wn cs code why : Nat} {fi px bi k r u5 : Int32} {o : Int64} (hCI : CI kA ad E RL ml nd len wn cs) (hX : XT g ad E nd ml len) (hY : YP kA g ad E ml nd len fi px bi k ad' E' RL' o) (hR : lyR g (g 0) (w_all (g 0) len) nd ml fi px bi code why r u5 u2) : k = nI code ∧ (k = 0 → o = r.toInt64) ∧ ad' 0 0 = ad 0 0 ∧ ∃ ml2 wn2 cs2, CI kA ad' E' RL' ml2 nd 0 wn2 cs2 ∧ u5 = nI ml2 ∧ nI why = eI (E' 0 0) 5 ∧ XT u2 ad' E' nd ml2 0 := by
  obtain ⟨_, hnd, hml, hD, hI⟩ := CI_b hCI
  have hk : LKP g ml := LKP_L (by omega) hnd hI hX.2.2.1
  have hthr : STQ kA ml nd ad E ad' E' RL' → SQ g u2 ml → ad' 0 0 = ad 0 0 ∧ ∃ wn2 cs2, CI kA ad' E' RL' ml nd 0 wn2 cs2 ∧ XT u2 ad' E' nd ml 0 := fun ⟨⟨wn2, cs2, q1⟩, q2, q3⟩ hs => by
    obtain ⟨_, _, _, hD2, hI2⟩ := CI_b q1
    exact ⟨q2, wn2, cs2, q1, XT_XQ hnd (by omega) hD2 hI2 (SQ_XQ hk hs) (fun i hi => absurd hi (Nat.not_lt_zero _)) (XT_E q3 (fun i hi => absurd hi (Nat.not_lt_zero _)) hX)⟩
  have hne : ∀ c : Nat, c ≤ 3 → nI c = 0 → c = 0 := fun c hc e => nI_inj (a := c) (b := 0) (by omega) (by omega) e
  rcases hR with ⟨hn, rfl, rfl, hu5, hs⟩ | ⟨hok, ⟨Lx, hLx⟩, rfl, rfl, hu5, hs⟩ | ⟨hok, L1, L, gD, hL1, hL, hG, hDT, hwhy, hr⟩
  · rcases hY with ⟨rfl, _, hst, h5⟩ | ⟨_, hy, _⟩ | ⟨_, _, L9, hy, _⟩ | ⟨_, _, _, _, _, L9, _, _, hy, _⟩
    · obtain ⟨q1, wn2, cs2, q2, q3⟩ := hthr hst hs
      exact ⟨rfl, fun e => absurd e (by decide), q1, ml, wn2, cs2, q2, hu5, by rw [h5]; rfl, q3⟩
    · exact absurd hy.1 hn
    · exact absurd hy.1 hn
    · exact absurd hy.1 hn
  · rcases hY with ⟨_, hy, _⟩ | ⟨rfl, _, hst, h5⟩ | ⟨_, _, L9, hy, _⟩ | ⟨_, _, _, _, _, L9, _, _, hy, _⟩
    · exact absurd hok hy
    · obtain ⟨q1, wn2, cs2, q2, q3⟩ := hthr hst hs
      exact ⟨rfl, fun e => absurd e (by decide), q1, ml, wn2, cs2, q2, hu5, by rw [h5]; rfl, q3⟩
    · obtain ⟨_, L3, h3, _⟩ := hy
      exact (aF_tf h3 hLx).elim
    · obtain ⟨_, L3, h3, _⟩ := hy
      exact (aF_tf h3 hLx).elim
  · have hlq := ok1_lq (by omega) hok
    have hrs := rsW_DT hnd hlq hml hG hk hDT
    rcases hY with ⟨_, hy, _⟩ | ⟨_, ⟨_, Lx, hLx⟩, _⟩ | ⟨rfl, hst, L9, hy, hyW, h5⟩ | ⟨rfl, ho, hm5, hA, h5, L9, wn2, cs2, hy, hyW, q2, q3, q4, q5, q6, q7⟩
    · exact absurd hok hy
    · exact (aF_tf hL1 hLx).elim
    · have e := yL_eq hy hL1 hL
      subst e
      rw [hrs] at hwhy
      rcases hr with ⟨hw, rfl, hu5, hs⟩ | ⟨hw, _⟩
      · obtain ⟨q1, wn2, cs2, q2, q3⟩ := hthr hst hs
        exact ⟨rfl, fun e => absurd e (by decide), q1, ml, wn2, cs2, q2, hu5, by rw [h5, hwhy]; rfl, q3⟩
      · exact absurd (by rw [← hw, hwhy]; rfl) hyW
    · have e := yL_eq hy hL1 hL
      subst e
      rw [hrs] at hwhy
      rcases hr with ⟨hw, _⟩ | ⟨hw, rfl, hr0, hu5, hN⟩
      · exact absurd (by rw [hwhy]; exact hyW) hw
      · obtain ⟨_, _, _, hD2, hI2⟩ := CI_b q2
        have hl12 : L.length ≤ 12 := by have q := GL_len hG; omega
        refine ⟨rfl, fun _ => by rw [ho, hr0], hA, ml + 1, wn2, cs2, q2, hu5, by rw [h5, hw]; rfl, ?_⟩
        exact XT_XQ hnd (by omega) hD2 hI2 (NW_XQ hk hl12 hN) (fun i hi => absurd hi (Nat.not_lt_zero _)) (XT_keep hnd hm5 hG hI hI2 q3 q4 q5 q6 q7 hX)
theorem ln_join {kA : Nat → ClassId} {g g1 : gT} {v : Nat → Int32} {ad ad' : Nat → Nat → Nat} {E E' : Nat → Nat → va_E} {RL RL' : List (Nat × Nat)} {ml nd len wn cs wn2 : Nat} (hMI : MI v g) (hCI : CI kA ad E RL ml nd len wn cs) (hX : XT g ad E nd ml len) (hCI2 : CI kA ad' E' RL' ml (lnF (g 0) (w_all (g 0) len) nd g).1 0 wn2 cs) (hT : TDs (lnF (g 0) (w_all (g 0) len) nd g).2 E' (lnF (g 0) (w_all (g 0) len) nd g).1) (hF : FRL ml nd ad ad' E E') (hg : ∀ j, j ≠ 1 → j ≠ 2 → g1 j = (lnF (g 0) (w_all (g 0) len) nd g).2 j) : XT g1 ad' E' (lnF (g 0) (w_all (g 0) len) nd g).1 ml 0 := by
  obtain ⟨_, hnd, hml, hD, hI⟩ := CI_b hCI
  obtain ⟨_, hnd2, _, hD2, hI2⟩ := CI_b hCI2
  refine XT_XQ hnd2 (by omega) hD2 hI2 ⟨fun j a b => hg j (by omega) (by omega), fun la _ => ⟨by rw [hg 22 (by omega) (by omega)], by rw [hg 19 (by omega) (by omega)], by rw [hg 20 (by omega) (by omega)], fun k _ => by rw [hg 21 (by omega) (by omega)]⟩⟩ (fun i hi => absurd hi (Nat.not_lt_zero _)) (XT_line hnd (by omega) hMI.2.2.2.1 hMI.2.2.2.2.1 hI hF hT hX)
theorem sk_join {kA : Nat → ClassId} {g g1 : gT} {ad : Nat → Nat → Nat} {E : Nat → Nat → va_E} {RL : List (Nat × Nat)} {ml nd len wn cs : Nat} (hCI : CI kA ad E RL ml nd len wn cs) (hX : XT g ad E nd ml len) (hg : ∀ j, j ≠ 1 → j ≠ 2 → j ≠ 24 → g1 j = g j) : XT g1 ad E nd ml len := by
  obtain ⟨_, hnd, hml, hD, hI⟩ := CI_b hCI
  exact XT_XQ hnd (by omega) hD hI ⟨fun j a b => hg j (by omega) (by omega) (by omega), fun la _ => ⟨by rw [hg 22 (by omega) (by omega) (by omega)], by rw [hg 19 (by omega) (by omega) (by omega)], by rw [hg 20 (by omega) (by omega) (by omega)], fun k _ => by rw [hg 21 (by omega) (by omega) (by omega)]⟩⟩ (by rw [hg 0 (by omega) (by omega) (by omega)]; exact hX.1) hX
theorem f1_join {g : gT} {ad : Nat → Nat → Nat} {E E' : Nat → Nat → va_E} {ml nd len : Nat} (hF : F134 E E') (hX : XT g ad E nd ml len) : XT g ad E' nd ml 0 := XT_E (FRX_B (fun b o hb => hF b o (by omega) (by omega) (by omega))) (fun i hi => absurd hi (Nat.not_lt_zero _)) hX
theorem wr_join {kA : Nat → ClassId} {g g1 : gT} {ad : Nat → Nat → Nat} {E E' : Nat → Nat → va_E} {RL : List (Nat × Nat)} {ml nd len len2 wn cs : Nat} (hCI2 : CI kA ad E' RL ml nd len2 wn cs) (hF : ∀ b2 o2, ¬ (b2 = 0 ∧ o2 = 1) → ¬ (b2 = 0 ∧ o2 = 2) → E' b2 o2 = E b2 o2) (ht : ∀ i, i < len2 → eA (E' 0 2) i = g1 0 i) (hg : ∀ j, j ≠ 0 → g1 j = g j) (hX : XT g ad E nd ml len) : XT g1 ad E' nd ml len2 := by
  obtain ⟨_, hnd, hml, hD, hI⟩ := CI_b hCI2
  have h0 : XT g ad E' nd ml 0 := XT_E (FRX_B (fun b o hb => hF b o (by omega) (by omega))) (fun i hi => absurd hi (Nat.not_lt_zero _)) hX
  have h1 : XT g1 ad E' nd ml 0 := XT_XQ hnd (by omega) hD hI ⟨fun j a b => hg j (by omega), fun la _ => ⟨by rw [hg 22 (by omega)], by rw [hg 19 (by omega)], by rw [hg 20 (by omega)], fun k _ => by rw [hg 21 (by omega)]⟩⟩ (fun i hi => absurd hi (Nat.not_lt_zero _)) h0
  exact ⟨ht, h1.2⟩
theorem cl_join {kA : Nat → ClassId} {g : gT} {ad : Nat → Nat → Nat} {E E' : Nat → Nat → va_E} {RL : List (Nat × Nat)} {ml nd len wn cs : Nat} {ix : Int32} (hCI : CI kA ad E RL ml nd len wn cs) (hCI2 : CI kA ad E' RL ml nd len wn cs) (hF : ∀ b2 o2, (¬ o2 = 0 ∨ b2 < 20) → E' b2 o2 = E b2 o2) (hT : TLas (clF ml g ix) ad E' nd ml) (hX : XT g ad E nd ml len) : XT (clF ml g ix) ad E' nd ml len := by
  obtain ⟨_, hnd, hml, hD, hI⟩ := CI_b hCI
  obtain ⟨_, _, _, hD2, _⟩ := CI_b hCI2
  exact XT_close hnd (by omega) hD2 hI (fun j hj => clF_o hj) hF hT hX
theorem XT_0 {ad : Nat → Nat → Nat} {E : Nat → Nat → va_E} : XT (fun _ _ => 0) ad E 0 0 0 := ⟨fun i hi => absurd hi (Nat.not_lt_zero _), fun d hd => absurd hd (Nat.not_lt_zero _), fun d hd => absurd hd (Nat.not_lt_zero _), fun d hd => absurd hd (Nat.not_lt_zero _), fun d hd => absurd hd (Nat.not_lt_zero _), fun d hd => ⟨fun _ => ⟨rfl, rfl, rfl, fun i _ => ⟨rfl, rfl⟩⟩, fun i _ _ => ⟨rfl, rfl, fun j _ => ⟨rfl, rfl⟩⟩⟩, fun d hd => absurd hd (Nat.not_lt_zero _), fun d hd => absurd hd (Nat.not_lt_zero _), fun d hd => absurd hd (Nat.not_lt_zero _), fun d hd => absurd hd (Nat.not_lt_zero _)⟩
theorem cmp_eq (x : Int64) : lg_cmp x x = 0 := by simp [lg_cmp]
theorem LKP_C {g : gT} {kA : Nat → ClassId} {ad : Nat → Nat → Nat} {E : Nat → Nat → va_E} {RL : List (Nat × Nat)} {ml nd len wn cs : Nat} (h : CI kA ad E RL ml nd len wn cs) (hT : TLas g ad E nd ml) : LKP g ml := by
  obtain ⟨_, h2, h3, _, h5⟩ := CI_b h
  exact LKP_L (by omega) h2 h5 hT
theorem sr_none {g : gT} {R : Nat → Prop} {n d : Nat} {pn : Int32} (hn : n < 6) (hk : LKP g (n + 1)) (hR : ∀ t, t < 72 → (R t ↔ rdQ g n d t)) (h : srG g R pn (g 4 d) (n + 1) = none) : ¬ ∃ m, srQ g n d pn m := fun ⟨m, h1, h2, i, h3, h4⟩ => by
  obtain ⟨la, hc, k, hkm, e⟩ := rd_ch hk h2.1
  have hla := Ch_lt hk.1 hc
  have hd := (hk.2 la hla).2 k hkm
  have em : m % 12 = mdv g la k := by omega
  rw [em] at h3 h4
  exact srf_none (n + 1) (n + 1) (Nat.le_refl _) hk.1 h la hc k hkm ⟨by rw [← e]; exact (hR m h1).mpr h2, i, h3, h4⟩
theorem sr_some {g : gT} {R : Nat → Prop} {n d x k : Nat} {pn : Int32} (hn : n < 6) (hk : LKP g (n + 1)) (hR : ∀ t, t < 72 → (R t ↔ rdQ g n d t)) (h : srG g R pn (g 4 d) (n + 1) = some (x, k)) : srQ g n d pn (12 * x + mdv g x k) ∧ k < mcv g x ∧ x < n + 1 ∧ mdv g x k < 12 := by
  obtain ⟨z1, z2, z3, i, z4, z5⟩ := srf_some (n + 1) (n + 1) h
  have hx := Ch_lt hk.1 z1
  have hd := (hk.2 x hx).2 k z2
  have em : (12 * x + mdv g x k) % 12 = mdv g x k := by omega
  exact ⟨⟨by omega, (hR _ (by omega)).mp z3, i, by rw [em]; exact z4, by rw [em]; exact z5⟩, z2, hx, hd⟩
theorem LKP_le {g : gT} {a b : Nat} (h : LKP g b) (hab : a ≤ b) : LKP g a := ⟨fun x hx => h.1 x (by omega), fun la hl => h.2 la (by omega)⟩
