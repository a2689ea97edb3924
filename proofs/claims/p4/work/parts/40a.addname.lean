abbrev xb_Ch_addName : ByteArray := prog_2_method_6_code
def xy_Ch_addName : MethodName := ⟨"LayerDesk$Chooser", "addName", "(II)Z"⟩
theorem xd_Ch_addName_0 : decode xb_Ch_addName 0 = .ok (.aload_n 0, 1) := by decide +kernel
theorem xd_Ch_addName_1 : decode xb_Ch_addName 1 = .ok (.getfield 28, 3) := by decide +kernel
theorem xd_Ch_addName_4 : decode xb_Ch_addName 4 = .ok (.aload_n 0, 1) := by decide +kernel
theorem xd_Ch_addName_5 : decode xb_Ch_addName 5 = .ok (.getfield 21, 3) := by decide +kernel
theorem xd_Ch_addName_8 : decode xb_Ch_addName 8 = .ok (.iload_n 1, 1) := by decide +kernel
theorem xd_Ch_addName_9 : decode xb_Ch_addName 9 = .ok (.invokevirtual 56, 3) := by decide +kernel
theorem xd_Ch_addName_12 : decode xb_Ch_addName 12 = .ok (.astore_n 3, 1) := by decide +kernel
theorem xd_Ch_addName_13 : decode xb_Ch_addName 13 = .ok (.aload_n 3, 1) := by decide +kernel
theorem xd_Ch_addName_14 : decode xb_Ch_addName 14 = .ok (.ifnonnull 27, 3) := by decide +kernel
theorem xd_Ch_addName_17 : decode xb_Ch_addName 17 = .ok (.aload_n 0, 1) := by decide +kernel
theorem xd_Ch_addName_18 : decode xb_Ch_addName 18 = .ok (.getfield 24, 3) := by decide +kernel
theorem xd_Ch_addName_21 : decode xb_Ch_addName 21 = .ok (.ifnull 18, 3) := by decide +kernel
theorem xd_Ch_addName_24 : decode xb_Ch_addName 24 = .ok (.aload_n 0, 1) := by decide +kernel
theorem xd_Ch_addName_25 : decode xb_Ch_addName 25 = .ok (.getfield 24, 3) := by decide +kernel
theorem xd_Ch_addName_28 : decode xb_Ch_addName 28 = .ok (.iload_n 1, 1) := by decide +kernel
theorem xd_Ch_addName_29 : decode xb_Ch_addName 29 = .ok (.invokevirtual 62, 3) := by decide +kernel
theorem xd_Ch_addName_32 : decode xb_Ch_addName 32 = .ok (.ifnull 7, 3) := by decide +kernel
theorem xd_Ch_addName_35 : decode xb_Ch_addName 35 = .ok (.iconst 1, 1) := by decide +kernel
theorem xd_Ch_addName_36 : decode xb_Ch_addName 36 = .ok (.goto 4, 3) := by decide +kernel
theorem xd_Ch_addName_39 : decode xb_Ch_addName 39 = .ok (.iconst 0, 1) := by decide +kernel
theorem xd_Ch_addName_40 : decode xb_Ch_addName 40 = .ok (.ireturn, 1) := by decide +kernel
theorem xd_Ch_addName_41 : decode xb_Ch_addName 41 = .ok (.aload_n 0, 1) := by decide +kernel
theorem xd_Ch_addName_42 : decode xb_Ch_addName 42 = .ok (.aload_n 3, 1) := by decide +kernel
theorem xd_Ch_addName_43 : decode xb_Ch_addName 43 = .ok (.invokevirtual 66, 3) := by decide +kernel
theorem xd_Ch_addName_46 : decode xb_Ch_addName 46 = .ok (.ifCond .eq 5, 3) := by decide +kernel
theorem xd_Ch_addName_49 : decode xb_Ch_addName 49 = .ok (.iconst 1, 1) := by decide +kernel
theorem xd_Ch_addName_50 : decode xb_Ch_addName 50 = .ok (.ireturn, 1) := by decide +kernel
theorem xd_Ch_addName_51 : decode xb_Ch_addName 51 = .ok (.aload_n 0, 1) := by decide +kernel
theorem xd_Ch_addName_52 : decode xb_Ch_addName 52 = .ok (.getfield 17, 3) := by decide +kernel
theorem xd_Ch_addName_55 : decode xb_Ch_addName 55 = .ok (.bipush 12, 2) := by decide +kernel
theorem xd_Ch_addName_57 : decode xb_Ch_addName 57 = .ok (.if_icmp .ge 9, 3) := by decide +kernel
theorem xd_Ch_addName_60 : decode xb_Ch_addName 60 = .ok (.iload_n 2, 1) := by decide +kernel
theorem xd_Ch_addName_61 : decode xb_Ch_addName 61 = .ok (.bipush 12, 2) := by decide +kernel
theorem xd_Ch_addName_63 : decode xb_Ch_addName 63 = .ok (.if_icmp .lt 5, 3) := by decide +kernel
theorem xd_Ch_addName_66 : decode xb_Ch_addName 66 = .ok (.iconst 0, 1) := by decide +kernel
theorem xd_Ch_addName_67 : decode xb_Ch_addName 67 = .ok (.ireturn, 1) := by decide +kernel
theorem xd_Ch_addName_68 : decode xb_Ch_addName 68 = .ok (.aload_n 0, 1) := by decide +kernel
theorem xd_Ch_addName_69 : decode xb_Ch_addName 69 = .ok (.getfield 11, 3) := by decide +kernel
theorem xd_Ch_addName_72 : decode xb_Ch_addName 72 = .ok (.aload_n 0, 1) := by decide +kernel
theorem xd_Ch_addName_73 : decode xb_Ch_addName 73 = .ok (.getfield 17, 3) := by decide +kernel
theorem xd_Ch_addName_76 : decode xb_Ch_addName 76 = .ok (.aload_n 3, 1) := by decide +kernel
theorem xd_Ch_addName_77 : decode xb_Ch_addName 77 = .ok (.aastore, 1) := by decide +kernel
theorem xd_Ch_addName_78 : decode xb_Ch_addName 78 = .ok (.aload_n 0, 1) := by decide +kernel
theorem xd_Ch_addName_79 : decode xb_Ch_addName 79 = .ok (.dup, 1) := by decide +kernel
theorem xd_Ch_addName_80 : decode xb_Ch_addName 80 = .ok (.getfield 17, 3) := by decide +kernel
theorem xd_Ch_addName_83 : decode xb_Ch_addName 83 = .ok (.iconst 1, 1) := by decide +kernel
theorem xd_Ch_addName_84 : decode xb_Ch_addName 84 = .ok (.iadd, 1) := by decide +kernel
theorem xd_Ch_addName_85 : decode xb_Ch_addName 85 = .ok (.putfield 17, 3) := by decide +kernel
theorem xd_Ch_addName_88 : decode xb_Ch_addName 88 = .ok (.iconst 0, 1) := by decide +kernel
theorem xd_Ch_addName_89 : decode xb_Ch_addName 89 = .ok (.istore 4, 2) := by decide +kernel
theorem xd_Ch_addName_91 : decode xb_Ch_addName 91 = .ok (.iload 4, 2) := by decide +kernel
theorem xd_Ch_addName_93 : decode xb_Ch_addName 93 = .ok (.aload_n 3, 1) := by decide +kernel
theorem xd_Ch_addName_94 : decode xb_Ch_addName 94 = .ok (.getfield 70, 3) := by decide +kernel
theorem xd_Ch_addName_97 : decode xb_Ch_addName 97 = .ok (.getfield 74, 3) := by decide +kernel
theorem xd_Ch_addName_100 : decode xb_Ch_addName 100 = .ok (.if_icmp .ge 40, 3) := by decide +kernel
theorem xd_Ch_addName_103 : decode xb_Ch_addName 103 = .ok (.aload_n 3, 1) := by decide +kernel
theorem xd_Ch_addName_104 : decode xb_Ch_addName 104 = .ok (.getfield 77, 3) := by decide +kernel
theorem xd_Ch_addName_107 : decode xb_Ch_addName 107 = .ok (.iload 4, 2) := by decide +kernel
theorem xd_Ch_addName_109 : decode xb_Ch_addName 109 = .ok (.baload, 1) := by decide +kernel
theorem xd_Ch_addName_110 : decode xb_Ch_addName 110 = .ok (.ifCond .ne 24, 3) := by decide +kernel
theorem xd_Ch_addName_113 : decode xb_Ch_addName 113 = .ok (.aload_n 0, 1) := by decide +kernel
theorem xd_Ch_addName_114 : decode xb_Ch_addName 114 = .ok (.aload_n 3, 1) := by decide +kernel
theorem xd_Ch_addName_115 : decode xb_Ch_addName 115 = .ok (.getfield 70, 3) := by decide +kernel
theorem xd_Ch_addName_118 : decode xb_Ch_addName 118 = .ok (.iload 4, 2) := by decide +kernel
theorem xd_Ch_addName_120 : decode xb_Ch_addName 120 = .ok (.invokevirtual 81, 3) := by decide +kernel
theorem xd_Ch_addName_123 : decode xb_Ch_addName 123 = .ok (.iload_n 2, 1) := by decide +kernel
theorem xd_Ch_addName_124 : decode xb_Ch_addName 124 = .ok (.iconst 1, 1) := by decide +kernel
theorem xd_Ch_addName_125 : decode xb_Ch_addName 125 = .ok (.iadd, 1) := by decide +kernel
theorem xd_Ch_addName_126 : decode xb_Ch_addName 126 = .ok (.invokevirtual 32, 3) := by decide +kernel
theorem xd_Ch_addName_129 : decode xb_Ch_addName 129 = .ok (.ifCond .ne 5, 3) := by decide +kernel
theorem xd_Ch_addName_132 : decode xb_Ch_addName 132 = .ok (.iconst 0, 1) := by decide +kernel
theorem xd_Ch_addName_133 : decode xb_Ch_addName 133 = .ok (.ireturn, 1) := by decide +kernel
theorem xd_Ch_addName_134 : decode xb_Ch_addName 134 = .ok (.iinc 4 1, 3) := by decide +kernel
theorem xd_Ch_addName_137 : decode xb_Ch_addName 137 = .ok (.goto (-46), 3) := by decide +kernel
theorem xd_Ch_addName_140 : decode xb_Ch_addName 140 = .ok (.iconst 1, 1) := by decide +kernel
theorem xd_Ch_addName_141 : decode xb_Ch_addName 141 = .ok (.ireturn, 1) := by decide +kernel
theorem ys_0 : (Cond.fieldLink "LayerDesk$Chooser" 28 "LayerDesk$Chooser" "shelf" "LLayerDesk$Shelf;") ∈ wT := wT_t (List.mem_append_left _ (List.mem_of_getElem? (i := 81) rfl)) rfl
theorem ys_1 : (Cond.fieldLink "LayerDesk$Chooser" 21 "LayerDesk$Chooser" "finder" "I") ∈ wT := wT_t (List.mem_append_left _ (List.mem_of_getElem? (i := 84) rfl)) rfl
theorem ys_2 : (Cond.code xy_Sh_find xb_Sh_find 4 (some (.object "LayerDesk$Descriptor"))) ∈ wT := wT_t (List.mem_append_right _ (List.mem_append_left _ (List.mem_of_getElem? (i := 21) rfl))) rfl
theorem ys_3 : (Cond.methodLink "LayerDesk$Chooser" 56 xy_Sh_find) ∈ wT := wT_t (List.mem_append_right _ (List.mem_append_right _ (List.mem_append_left _ (List.mem_of_getElem? (i := 81) rfl)))) rfl
theorem ys_4 : (Cond.instanceMethod xy_Sh_find) ∈ wT := wT_t (List.mem_append_right _ (List.mem_append_left _ (List.mem_of_getElem? (i := 19) rfl))) rfl
theorem ys_5 : (Cond.selects "LayerDesk$Shelf" xy_Sh_find xy_Sh_find) ∈ wT := wT_t (List.mem_append_right _ (List.mem_append_left _ (List.mem_of_getElem? (i := 20) rfl))) rfl
theorem ys_6 : (Cond.initialized "LayerDesk$Shelf") ∈ wT := wT_t (List.mem_append_left _ (List.mem_of_getElem? (i := 3) rfl)) rfl
theorem ys_7 : (Cond.fieldLink "LayerDesk$Chooser" 24 "LayerDesk$Chooser" "parent" "LLayerDesk$Layer;") ∈ wT := wT_t (List.mem_append_left _ (List.mem_of_getElem? (i := 85) rfl)) rfl
theorem ys_8 : (Cond.code xy_Ly_lookUp xb_Ly_lookUp 4 (some (.object "LayerDesk$Member"))) ∈ wT := wT_t (List.mem_append_right _ (List.mem_append_right _ (List.mem_append_left _ (List.mem_of_getElem? (i := 85) rfl)))) rfl
theorem ys_9 : (Cond.methodLink "LayerDesk$Chooser" 62 xy_Ly_lookUp) ∈ wT := wT_t (List.mem_append_right _ (List.mem_append_right _ (List.mem_append_left _ (List.mem_of_getElem? (i := 82) rfl)))) rfl
theorem ys_10 : (Cond.instanceMethod xy_Ly_lookUp) ∈ wT := wT_t (List.mem_append_right _ (List.mem_append_right _ (List.mem_append_left _ (List.mem_of_getElem? (i := 83) rfl)))) rfl
theorem ys_11 : (Cond.selects "LayerDesk$Layer" xy_Ly_lookUp xy_Ly_lookUp) ∈ wT := wT_t (List.mem_append_right _ (List.mem_append_right _ (List.mem_append_left _ (List.mem_of_getElem? (i := 84) rfl)))) rfl
theorem ys_12 : (Cond.initialized "LayerDesk$Layer") ∈ wT := wT_t (List.mem_append_left _ (List.mem_of_getElem? (i := 19) rfl)) rfl
theorem ys_13 : (Cond.code xy_Ch_isChosen xb_Ch_isChosen 3 (some .boolean)) ∈ wT := wT_t (List.mem_append_right _ (List.mem_append_right _ (List.mem_append_left _ (List.mem_of_getElem? (i := 89) rfl)))) rfl
theorem ys_14 : (Cond.methodLink "LayerDesk$Chooser" 66 xy_Ch_isChosen) ∈ wT := wT_t (List.mem_append_right _ (List.mem_append_right _ (List.mem_append_left _ (List.mem_of_getElem? (i := 86) rfl)))) rfl
theorem ys_15 : (Cond.instanceMethod xy_Ch_isChosen) ∈ wT := wT_t (List.mem_append_right _ (List.mem_append_right _ (List.mem_append_left _ (List.mem_of_getElem? (i := 88) rfl)))) rfl
theorem ys_16 : (Cond.selects "LayerDesk$Chooser" xy_Ch_isChosen xy_Ch_isChosen) ∈ wT := wT_s (q := (xy_Ch_isChosen, 5)) (by decide +kernel) rfl
theorem ys_17 : (Cond.initialized "LayerDesk$Chooser") ∈ wT := wT_t (List.mem_append_left _ (List.mem_of_getElem? (i := 4) rfl)) rfl
theorem ys_18 : (Cond.fieldLink "LayerDesk$Chooser" 17 "LayerDesk$Chooser" "size" "I") ∈ wT := wT_t (List.mem_append_left _ (List.mem_of_getElem? (i := 83) rfl)) rfl
theorem ys_19 : (Cond.fieldLink "LayerDesk$Chooser" 11 "LayerDesk$Chooser" "chosen" "[LLayerDesk$Descriptor;") ∈ wT := wT_t (List.mem_append_left _ (List.mem_of_getElem? (i := 82) rfl)) rfl
theorem ys_20 : (Cond.fieldLink "LayerDesk$Chooser" 70 "LayerDesk$Descriptor" "required" "LLayerDesk$Names;") ∈ wT := wT_t (List.mem_append_right _ (List.mem_append_left _ (List.mem_of_getElem? (i := 68) rfl))) rfl
theorem ys_21 : (Cond.fieldLink "LayerDesk$Chooser" 74 "LayerDesk$Names" "size" "I") ∈ wT := wT_t (List.mem_append_right _ (List.mem_append_left _ (List.mem_of_getElem? (i := 37) rfl))) rfl
theorem ys_22 : (Cond.fieldLink "LayerDesk$Chooser" 77 "LayerDesk$Descriptor" "optional" "[Z") ∈ wT := wT_t (List.mem_append_right _ (List.mem_append_left _ (List.mem_of_getElem? (i := 74) rfl))) rfl
theorem ys_23 : (Cond.code xy_Na_at xb_Na_at 2 (some .int)) ∈ wT := wT_t (List.mem_append_right _ (List.mem_append_right _ (List.mem_append_left _ (List.mem_of_getElem? (i := 93) rfl)))) rfl
theorem ys_24 : (Cond.methodLink "LayerDesk$Chooser" 81 xy_Na_at) ∈ wT := wT_t (List.mem_append_right _ (List.mem_append_right _ (List.mem_append_left _ (List.mem_of_getElem? (i := 90) rfl)))) rfl
theorem ys_25 : (Cond.instanceMethod xy_Na_at) ∈ wT := wT_t (List.mem_append_right _ (List.mem_append_right _ (List.mem_append_left _ (List.mem_of_getElem? (i := 91) rfl)))) rfl
theorem ys_26 : (Cond.selects "LayerDesk$Names" xy_Na_at xy_Na_at) ∈ wT := wT_t (List.mem_append_right _ (List.mem_append_right _ (List.mem_append_left _ (List.mem_of_getElem? (i := 92) rfl)))) rfl
theorem ys_27 : (Cond.initialized "LayerDesk$Names") ∈ wT := wT_t (List.mem_append_left _ (List.mem_of_getElem? (i := 11) rfl)) rfl
theorem ys_28 : (Cond.code xy_Ch_addName xb_Ch_addName 5 (some .boolean)) ∈ wT := wT_t (List.mem_append_right _ (List.mem_append_right _ (List.mem_append_left _ (List.mem_of_getElem? (i := 80) rfl)))) rfl
theorem ys_29 : (Cond.methodLink "LayerDesk$Chooser" 32 xy_Ch_addName) ∈ wT := wT_t (List.mem_append_right _ (List.mem_append_right _ (List.mem_append_left _ (List.mem_of_getElem? (i := 77) rfl)))) rfl
theorem ys_30 : (Cond.instanceMethod xy_Ch_addName) ∈ wT := wT_t (List.mem_append_right _ (List.mem_append_right _ (List.mem_append_left _ (List.mem_of_getElem? (i := 79) rfl)))) rfl
theorem ys_31 : (Cond.selects "LayerDesk$Chooser" xy_Ch_addName xy_Ch_addName) ∈ wT := wT_s (q := (xy_Ch_addName, 5)) (by decide +kernel) rfl
set_option maxHeartbeats 4000000 in
set_option maxRecDepth 100000 in
theorem xc_Ch_addNameR (f : Nat) : ∀ (l : Launch) (D : va_G) (kA : Nat → ClassId) (sz : Nat) (ad : Nat → Nat → Nat) (E : Nat → Nat → va_E) (RL : List (Nat × Nat)) (ml : Nat) (nd : Nat) (len : Nat) (wn : Nat) (cs : Nat) (nm : Int32) (dp : Nat) (hCI : CI kA ad E RL ml nd len wn cs) (hdp : dp + f = 12), Met l xy_Ch_addName (.code xy_Ch_addName xb_Ch_addName 5 (some .boolean) :: wT) { frames := 6 + f, cells := 0, slots := 0, locals := 90 + 90 * f } (va_Pc [.ref (ad 0 7), .int nm, .int (nI dp)] (xPre D kA sz (rp ad E RL))) (va_Qi (fun (r : Int32) (u : Nat → Nat → va_E) => (r = 0 ∨ r = 1) ∧ ∃ cs2, cs ≤ cs2 ∧ CI kA ad u RL ml nd len wn cs2) (fun (u : Nat → Nat → va_E) t => va_P D xcl (rp ad u RL) t.heap ∧ va_D (va_A (rp ad E RL) sz) (rp ad u RL)) (va_A (rp ad E RL) sz)) 0 0 (va_A (rp ad E RL) sz) := by
  induction f using Nat.strongRecOn
  rename_i f ih
  intro l D kA sz ad E RL ml nd len wn cs nm dp hCI hdp
  refine Met.ofW (cc := xb_Ch_addName) (maxL := 5) (ret := (some .boolean)) (by decide) rfl ?_
  intro p e s m args below meth c s₁ B hml hv
  obtain ⟨rfl, hsz, hP, hK, hD0⟩ := hv
  have hx := B.exec
  have hb := B.bytes
  have hr := B.returns
  have hT := x_hT B.pre
  have hown : s.vm.findClass xR_Ch = some m.cls := findClass_of_methodNamed B.named
  have hlocks := B.notSynchronized
  subst hsz
  have hD := hD0.self (sz := s.heap.size)
  generalize hAe : va_A (rp ad E RL) s.heap.size = A at hD ⊢
  have hA : ∀ q : Nat, s.heap.size ≤ q → A q := fun q h => by rw [← hAe]; exact Or.inr h
  have hS : va_S A s.heap s.heap [] := va_S.rf
  have hl := lv_entry ([.ref (ad 0 7), .int nm, .int (nI dp)]) (n := 5) (Nat.le_of_ble_eq_true rfl)
  rw [lg_entry_eq]
  generalize (lg_sl ([.ref (ad 0 7), .int nm, .int (nI dp)]) ++ List.replicate (5 - (lg_sl ([.ref (ad 0 7), .int nm, .int (nI dp)])).length) Slot.unset).toArray = ls at hl ⊢
  have hl : lv_has ls 5 [(0, .ref (ad 0 7)), (1, .int nm), (2, .int (nI dp))] := hl
  have hP : va_P D xcl (rp ad E RL) s.heap := hP
  obtain ⟨hmB, hDk, hLi, hSh, hCh, hLa, hDIs, hLIs⟩ := id hCI
  obtain ⟨lf_1, q_1⟩ := id (hDk)
  have c_2 : E 0 0 = .inr (0, [.ref (ad 0 1), .ref (ad 0 5), .ref (ad 0 7), .ref (ad 0 9), .int (nI ml), .int lf_1]) := q_1
  have m_3 : (0, 0) ∈ RL := hmB 0 (by omega)
  obtain ⟨tx_4, fb_4, fe_4, hl1_4, hw2_4, q1_4, q2_4, q3_4, q4_4, hws_4⟩ := id (hLi)
  have c_5 : E 0 1 = .inr (1, [.ref (ad 0 2), .ref (ad 0 3), .ref (ad 0 4), .int (nI len), .int (nI wn)]) := q1_4
  have m_6 : (0, 1) ∈ RL := hmB 1 (by omega)
  have c_7 : E 0 2 = .inl (kA 1, 40, .inl tx_4) := q2_4
  have m_8 : (0, 2) ∈ RL := hmB 2 (by omega)
  have c_9 : E 0 3 = .inl (kA 0, 20, .inl fb_4) := q3_4
  have m_10 : (0, 3) ∈ RL := hmB 3 (by omega)
  have c_11 : E 0 4 = .inl (kA 0, 20, .inl fe_4) := q4_4
  have m_12 : (0, 4) ∈ RL := hmB 4 (by omega)
  obtain ⟨fd_13, hnd_13, q5_13, q6_13, hds_13⟩ := id (hSh)
  have c_14 : E 0 5 = .inr (2, [.ref (ad 0 6), .int (nI nd)]) := q5_13
  have m_15 : (0, 5) ∈ RL := hmB 5 (by omega)
  have c_16 : E 0 6 = .inl (kA 4, 12, .inr (.inr (.inr (.inr fd_13)))) := q6_13
  have m_17 : (0, 6) ∈ RL := hmB 6 (by omega)
  obtain ⟨cf_18, pv_18, fc_18, hcs_18, hpv_18, q7_18, q8_18, hfc_18⟩ := id (hCh)
  have c_19 : E 0 7 = .inr (3, [.ref (ad 0 5), .ref (ad 0 8), .int (nI cs), .int cf_18, pv_18]) := q7_18
  have m_20 : (0, 7) ∈ RL := hmB 7 (by omega)
  have c_21 : E 0 8 = .inl (kA 4, 12, .inr (.inr (.inr (.inr fc_18)))) := q8_18
  have m_22 : (0, 8) ∈ RL := hmB 8 (by omega)
  obtain ⟨fl_23, hml_23, q9_23, hla_23⟩ := id (hLa)
  have c_24 : E 0 9 = .inl (kA 5, 5, .inr (.inr (.inr (.inr fl_23)))) := q9_23
  have m_25 : (0, 9) ∈ RL := hmB 9 (by omega)
  refine lv_aload_n hx hb xd_Ch_addName_0 rfl (lv_at hl 0 rfl) ?_
  refine px_get (D := D) (ci := 3) (v := .ref (ad 0 5)) (C := xR_Ch) (T := xT_Ch) (N := 5) hx hb hT xi_Ch hown hK.1 hP m_20 c_19 rfl 0 (by decide) (hT _ ys_0) (fun _ h9 => h9) rfl xd_Ch_addName_1 ?_
  refine lv_aload_n hx hb xd_Ch_addName_4 rfl (lv_at hl 0 rfl) ?_
  refine px_get (D := D) (ci := 3) (v := .int cf_18) (C := xR_Ch) (T := xT_Ch) (N := 5) hx hb hT xi_Ch hown hK.1 hP m_20 c_19 rfl 3 (by decide) (hT _ ys_1) (fun _ h9 => h9) rfl xd_Ch_addName_5 ?_
  refine lv_iload_n hx hb xd_Ch_addName_8 rfl (lv_at hl 1 rfl) ?_
  have hFc := px_free hD hS hA
  refine va_callq (va_runV (As := [.int cf_18, .int nm]) (rest := []) ⟨hx, hb, hml, hown, hT⟩ (xc_Sh_find l D kA s.heap.size ad E RL ml nd len wn cs cf_18 nm (by first | assumption | omega)) (cwV 2 hT (wT_V ys_3 ys_4 ys_5 ys_6 ys_2) rfl rfl rfl (by decide +kernel) ⟨(show 0 + 1 ≤ 6 + f by omega), (show 8 + (4 + 11) + (0) ≤ 90 + 90 * f by omega)⟩) (px_preV hK hP hD m_15 c_14 rfl) rfl rfl hl.1 rfl (lv_room (Nat.le_of_ble_eq_true rfl)) xd_Ch_addName_9 ⟨(Nat.le_of_ble_eq_true rfl), (Nat.le_of_ble_eq_true rfl)⟩) hS (fun q _ h => hFc q h) hFc (fun r26 u27 t H1 locs ht hvm hp28 hB hz1 hk1 hS => ?_)
  obtain ⟨hP1, hD1⟩ := hB
  rw [ht] at hP1
  have hD1 := hD1.weaken (fun _ _ _ h => hFc _ h)
  generalize H1 = H at hP1 hS ⊢
  have hP := hP1
  have hD := hD1
  have hP : va_P D xcl (rp ad E RL) H := hP
  have hD : va_D A (rp ad E RL) := hD
  rcases hp28 with rfl | ⟨z29, z30, rfl⟩
  · refine W.eq (g2 := F0 m 12 ls [.null]) rfl ?_
    refine lv_astore_nN hx hb xd_Ch_addName_12 rfl hl (Nat.le_of_ble_eq_true rfl) rfl (fun ls hl => ?_)
    have hl : lv_has ls 5 [(3, .null), (0, .ref (ad 0 7)), (1, .int nm), (2, .int (nI dp))] := hl
    refine lv_aload_nN hx hb xd_Ch_addName_13 rfl (lv_at hl 0 rfl) ?_
    refine lv_ifnonnullN hx hb xd_Ch_addName_14 ?_
    refine lv_aload_n hx hb xd_Ch_addName_17 rfl (lv_at hl 1 rfl) ?_
    refine px_get (D := D) (ci := 3) (v := pv_18) (C := xR_Ch) (T := xT_Ch) (N := 5) hx hb hT xi_Ch hown hK.1 hP m_20 c_19 rfl 4 (by decide) (hT _ ys_7) (fun _ h9 => h9) rfl xd_Ch_addName_18 ?_
    rcases hpv_18 with rfl | ⟨x31, hx32, rfl⟩
    · refine W.eq (g2 := F0 m 21 ls [.null]) rfl ?_
      refine lv_ifnullN (tgt := 39) hx hb xd_Ch_addName_21 (by decide) ?_
      refine lv_iconst (v := 0) hx hb xd_Ch_addName_39 (by decide) ?_
      refine W.widen (k := 0) (n := 0) (Nat.le_of_ble_eq_true rfl) (Nat.le_of_ble_eq_true rfl) ?_
      exact W.zret (v := 0) hx hb hr rfl (fun t ht hW => ⟨⟨0, E, rfl, ⟨Or.inl rfl, cs, by omega, hCI⟩, by rw [ht]; exact hP, hD⟩, hS.F ht⟩) hS.2.2 xd_Ch_addName_40
    · refine W.eq (g2 := F0 m 21 ls [.ref (ad (20 + x31) 0)]) rfl ?_
      refine lv_ifnull hx hb xd_Ch_addName_21 ?_
      refine lv_aload_n hx hb xd_Ch_addName_24 rfl (lv_at hl 1 rfl) ?_
      refine px_get (D := D) (ci := 3) (v := .ref (ad (20 + x31) 0)) (C := xR_Ch) (T := xT_Ch) (N := 5) hx hb hT xi_Ch hown hK.1 hP m_20 c_19 rfl 4 (by decide) (hT _ ys_7) (fun _ h9 => h9) rfl xd_Ch_addName_25 ?_
      refine lv_iload_n hx hb xd_Ch_addName_28 rfl (lv_at hl 2 rfl) ?_
      have hFc := px_free hD hS hA
      obtain ⟨m0_33, m1_33, pv_33, op_33, mk_33, fm_33, hmk_33, hpv_33, q0_33, q1_33, hk_33⟩ := id (hLIs x31 (by omega))
      have c_34 : E (20 + x31) 0 = .inr (5, [.int (nI x31), pv_33, .ref (ad (20 + x31) 1), .int op_33]) := q0_33
      have m_35 : (20 + x31, 0) ∈ RL := m0_33
      have c_36 : E (20 + x31) 1 = .inl (kA 6, mk_33, .inr (.inr (.inr (.inr fm_33)))) := q1_33
      have m_37 : (20 + x31, 1) ∈ RL := m1_33
      refine va_callq (va_runV (As := [.int nm]) (rest := []) ⟨hx, hb, hml, hown, hT⟩ (xc_Ly_lookUp l D kA H.size ad E RL nd ml x31 nm (by first | assumption | omega) (by first | assumption | omega) (by first | assumption | omega) (by first | assumption | omega)) (cwV 1 hT (wT_V ys_9 ys_10 ys_11 ys_12 ys_8) rfl rfl rfl (by decide +kernel) ⟨(show 0 + 1 ≤ 6 + f by omega), (show 8 + (4 + 11) + (0) ≤ 90 + 90 * f by omega)⟩) (px_preV hK hP hD m_35 c_34 rfl) rfl rfl hl.1 rfl (lv_room (Nat.le_of_ble_eq_true rfl)) xd_Ch_addName_29 ⟨(Nat.le_of_ble_eq_true rfl), (Nat.le_of_ble_eq_true rfl)⟩) hS (fun q _ h => hFc q h) hFc (fun r38 u39 t H1 locs ht hvm hp40 hB hz1 hk1 hS => ?_)
      obtain ⟨hP1, hD1⟩ := hB
      rw [ht] at hP1
      have hD1 := hD1.weaken (fun _ _ _ h => hFc _ h)
      generalize H1 = H at hP1 hS ⊢
      have hP := hP1
      have hD := hD1
      have hP : va_P D xcl (rp ad E RL) H := hP
      have hD : va_D A (rp ad E RL) := hD
      rcases hp40 with rfl | ⟨z41, z42, z43, rfl, z44⟩
      · refine W.eq (g2 := F0 m 32 ls [.null]) rfl ?_
        refine lv_ifnullN (tgt := 39) hx hb xd_Ch_addName_32 (by decide) ?_
        refine lv_iconst (v := 0) hx hb xd_Ch_addName_39 (by decide) ?_
        refine W.widen (k := 0) (n := 0) (Nat.le_of_ble_eq_true rfl) (Nat.le_of_ble_eq_true rfl) ?_
        exact W.zret (v := 0) hx hb hr rfl (fun t ht hW => ⟨⟨0, E, rfl, ⟨Or.inl rfl, cs, by omega, hCI⟩, by rw [ht]; exact hP, hD⟩, hS.F ht⟩) hS.2.2 xd_Ch_addName_40
      · refine W.eq (g2 := F0 m 32 ls [.ref (ad (20 + z41) (10 + 10 * z42))]) rfl ?_
        refine lv_ifnull hx hb xd_Ch_addName_32 ?_
        refine lv_iconst (v := 1) hx hb xd_Ch_addName_35 (by decide) ?_
        refine lv_goto (tgt := 40) hx hb xd_Ch_addName_36 (by decide) ?_
        refine W.widen (k := 0) (n := 0) (Nat.le_of_ble_eq_true rfl) (Nat.le_of_ble_eq_true rfl) ?_
        exact W.zret (v := 1) hx hb hr rfl (fun t ht hW => ⟨⟨1, E, rfl, ⟨Or.inr rfl, cs, by omega, hCI⟩, by rw [ht]; exact hP, hD⟩, hS.F ht⟩) hS.2.2 xd_Ch_addName_40
  · refine W.eq (g2 := F0 m 12 ls [.ref (ad (1 + z29) 0)]) rfl ?_
    refine lv_astore_n hx hb xd_Ch_addName_12 rfl hl (Nat.le_of_ble_eq_true rfl) rfl (fun ls hl => ?_)
    have hl : lv_has ls 5 [(3, .ref (ad (1 + z29) 0)), (0, .ref (ad 0 7)), (1, .int nm), (2, .int (nI dp))] := hl
    refine lv_aload_n hx hb xd_Ch_addName_13 rfl (lv_at hl 0 rfl) ?_
    refine lv_ifnonnull (tgt := 41) hx hb xd_Ch_addName_14 (by decide) ?_
    refine lv_aload_n hx hb xd_Ch_addName_41 rfl (lv_at hl 1 rfl) ?_
    refine lv_aload_n hx hb xd_Ch_addName_42 rfl (lv_at hl 0 rfl) ?_
    have hFc := px_free hD hS hA
    refine va_calli (va_runV (As := [.ref (ad (1 + z29) 0)]) (rest := []) ⟨hx, hb, hml, hown, hT⟩ (xc_Ch_isChosen l D kA H.size ad E RL ml nd len wn cs z29 (by first | assumption | omega)) (cwV 1 hT (wT_V ys_14 ys_15 ys_16 ys_17 ys_13) rfl rfl rfl (by decide +kernel) ⟨(show 0 + 1 ≤ 6 + f by omega), (show 8 + (3 + 11) + (0) ≤ 90 + 90 * f by omega)⟩) (px_preV hK hP hD m_20 c_19 rfl) rfl rfl hl.1 rfl (lv_room (Nat.le_of_ble_eq_true rfl)) xd_Ch_addName_43 ⟨(Nat.le_of_ble_eq_true rfl), (Nat.le_of_ble_eq_true rfl)⟩) hS (fun q _ h => hFc q h) hFc (fun r45 u46 t H1 locs ht hvm hp47 hB hz1 hk1 hS => ?_)
    obtain ⟨hP1, hD1⟩ := hB
    rw [ht] at hP1
    have hD1 := hD1.weaken (fun _ _ _ h => hFc _ h)
    generalize H1 = H at hP1 hS ⊢
    have hP := hP1
    have hD := hD1
    have hP : va_P D xcl (rp ad E RL) H := hP
    have hD : va_D A (rp ad E RL) := hD
    rcases hp47 with rfl | rfl
    · refine W.eq (g2 := F0 m 46 ls [.int 0]) rfl ?_
      refine lv_if_eq (tgt := 51) hx hb xd_Ch_addName_46 (by decide) (fun _ => ?_) (fun hc48 => absurd (by decide) hc48)
      refine lv_aload_n hx hb xd_Ch_addName_51 rfl (lv_at hl 1 rfl) ?_
      refine px_get (D := D) (ci := 3) (v := .int (nI cs)) (C := xR_Ch) (T := xT_Ch) (N := 5) hx hb hT xi_Ch hown hK.1 hP m_20 c_19 rfl 2 (by decide) (hT _ ys_18) (fun _ h9 => h9) rfl xd_Ch_addName_52 ?_
      refine lv_bipush (v := 12) hx hb xd_Ch_addName_55 (by decide) ?_
      refine xn_ge (a := cs) (b := 12) (tgt := 66) hx hb xd_Ch_addName_57 (by decide) (by omega) (by omega) (fun hc49 => ?_) (fun hc49 => ?_)
      · refine lv_iconst (v := 0) hx hb xd_Ch_addName_66 (by decide) ?_
        refine W.widen (k := 0) (n := 0) (Nat.le_of_ble_eq_true rfl) (Nat.le_of_ble_eq_true rfl) ?_
        exact W.zret (v := 0) hx hb hr rfl (fun t ht hW => ⟨⟨0, E, rfl, ⟨Or.inl rfl, cs, by omega, hCI⟩, by rw [ht]; exact hP, hD⟩, hS.F ht⟩) hS.2.2 xd_Ch_addName_67
      · refine lv_iload_n hx hb xd_Ch_addName_60 rfl (lv_at hl 3 rfl) ?_
        refine lv_bipush (v := 12) hx hb xd_Ch_addName_61 (by decide) ?_
        refine xn_lt (a := dp) (b := 12) (tgt := 68) hx hb xd_Ch_addName_63 (by decide) (by omega) (by omega) (fun hc50 => ?_) (fun hc50 => ?_)
        · refine lv_aload_n hx hb xd_Ch_addName_68 rfl (lv_at hl 1 rfl) ?_
          refine px_get (D := D) (ci := 3) (v := .ref (ad 0 8)) (C := xR_Ch) (T := xT_Ch) (N := 5) hx hb hT xi_Ch hown hK.1 hP m_20 c_19 rfl 1 (by decide) (hT _ ys_19) (fun _ h9 => h9) rfl xd_Ch_addName_69 ?_
          refine lv_aload_n hx hb xd_Ch_addName_72 rfl (lv_at hl 1 rfl) ?_
          refine px_get (D := D) (ci := 3) (v := .int (nI cs)) (C := xR_Ch) (T := xT_Ch) (N := 5) hx hb hT xi_Ch hown hK.1 hP m_20 c_19 rfl 2 (by decide) (hT _ ys_18) (fun _ h9 => h9) rfl xd_Ch_addName_73 ?_
          refine lv_aload_n hx hb xd_Ch_addName_76 rfl (lv_at hl 0 rfl) ?_
          obtain ⟨hm_51, fd_51, nm_51, sd_51, k0_51, k1_51, k2_51, k3_51, f0_51, f1_51, f2_51, f3_51, fe_51, fo_51, tr_51, op_51, hk0_51, hk1_51, hk2_51, hk3_51, q0_51, q1_51, q2_51, q3_51, q4_51, q5_51, q6_51, q7_51, q8_51, q9_51, q10_51, q11_51, q12_51, hg_51⟩ := id (hDIs z29 (by omega))
          have c_52 : E (1 + z29) 0 = .inr (7, [.int (nI z29), .int fd_51, .int nm_51, .ref (ad (1 + z29) 1), .ref (ad (1 + z29) 9), .ref (ad (1 + z29) 10), .ref (ad (1 + z29) 2), .ref (ad (1 + z29) 11), .ref (ad (1 + z29) 12), .ref (ad (1 + z29) 3), .ref (ad (1 + z29) 4), .int sd_51]) := q0_51
          have m_53 : (1 + z29, 0) ∈ RL := hm_51 0 (by omega)
          have c_54 : E (1 + z29) 1 = .inr (8, [.ref (ad (1 + z29) 5), .int (nI k0_51)]) := q1_51
          have m_55 : (1 + z29, 1) ∈ RL := hm_51 1 (by omega)
          have c_56 : E (1 + z29) 2 = .inr (8, [.ref (ad (1 + z29) 6), .int (nI k1_51)]) := q2_51
          have m_57 : (1 + z29, 2) ∈ RL := hm_51 2 (by omega)
          have c_58 : E (1 + z29) 3 = .inr (8, [.ref (ad (1 + z29) 7), .int (nI k2_51)]) := q3_51
          have m_59 : (1 + z29, 3) ∈ RL := hm_51 3 (by omega)
          have c_60 : E (1 + z29) 4 = .inr (8, [.ref (ad (1 + z29) 8), .int (nI k3_51)]) := q4_51
          have m_61 : (1 + z29, 4) ∈ RL := hm_51 4 (by omega)
          have c_62 : E (1 + z29) 5 = .inl (kA 0, 6, .inl f0_51) := q5_51
          have m_63 : (1 + z29, 5) ∈ RL := hm_51 5 (by omega)
          have c_64 : E (1 + z29) 6 = .inl (kA 0, 5, .inl f1_51) := q6_51
          have m_65 : (1 + z29, 6) ∈ RL := hm_51 6 (by omega)
          have c_66 : E (1 + z29) 7 = .inl (kA 0, 3, .inl f2_51) := q7_51
          have m_67 : (1 + z29, 7) ∈ RL := hm_51 7 (by omega)
          have c_68 : E (1 + z29) 8 = .inl (kA 0, 3, .inl f3_51) := q8_51
          have m_69 : (1 + z29, 8) ∈ RL := hm_51 8 (by omega)
          have c_70 : E (1 + z29) 9 = .inl (kA 8, 6, .inr (.inr (.inr (.inr fe_51)))) := q9_51
          have m_71 : (1 + z29, 9) ∈ RL := hm_51 9 (by omega)
          have c_72 : E (1 + z29) 10 = .inl (kA 8, 6, .inr (.inr (.inr (.inr fo_51)))) := q10_51
          have m_73 : (1 + z29, 10) ∈ RL := hm_51 10 (by omega)
          have c_74 : E (1 + z29) 11 = .inl (kA 2, 5, .inl tr_51) := q11_51
          have m_75 : (1 + z29, 11) ∈ RL := hm_51 11 (by omega)
          have c_76 : E (1 + z29) 12 = .inl (kA 2, 5, .inl op_51) := q12_51
          have m_77 : (1 + z29, 12) ∈ RL := hm_51 12 (by omega)
          have hg_51 : ∀ w9, w9 < k0_51 → fe_51 w9 = some (ad (1 + z29) (20 + 3 * w9)) ∧ fo_51 w9 = some (ad (1 + z29) (38 + 3 * w9)) ∧ GI kA (ad (1 + z29)) (E (1 + z29)) (fun o => (1 + z29, o) ∈ RL) (20 + 3 * w9) (21 + 3 * w9) (22 + 3 * w9) ∧ GI kA (ad (1 + z29)) (E (1 + z29)) (fun o => (1 + z29, o) ∈ RL) (38 + 3 * w9) (39 + 3 * w9) (40 + 3 * w9) := hg_51
          refine px_aast (i := cs) (r := (xR_Ds, xT_Ds, 12)) hx hb hK.1 hP hD hS m_22 c_21 4 rfl m_53 c_52 rfl (by omega) (by decide) xd_Ch_addName_77 (fun H locs hP hD hS => ?_)
          have hP : va_P D xcl (rp ad (up2 E 0 8 (.inl (kA 4, 12, .inr (.inr (.inr (.inr (va_up fc_18 cs (some (ad (1 + z29) 0))))))))) RL) H := hP
          have hD : va_D A (rp ad (up2 E 0 8 (.inl (kA 4, 12, .inr (.inr (.inr (.inr (va_up fc_18 cs (some (ad (1 + z29) 0))))))))) RL) := hD
          generalize hE79 : up2 E 0 8 (.inl (kA 4, 12, .inr (.inr (.inr (.inr (va_up fc_18 cs (some (ad (1 + z29) 0)))))))) = E78 at hP hD
          have fE80 : ∀ b2 o2, ¬ (b2 = 0 ∧ o2 = 8) → E78 b2 o2 = E b2 o2 := fun b2 o2 h9 => by rw [← hE79]; exact up2_ne (by omega)
          have c_81 : E78 0 8 = .inl (kA 4, 12, .inr (.inr (.inr (.inr (va_up fc_18 cs (some (ad (1 + z29) 0))))))) := by rw [← hE79]; exact up2_eq
          have c_82 : E78 0 0 = .inr (0, [.ref (ad 0 1), .ref (ad 0 5), .ref (ad 0 7), .ref (ad 0 9), .int (nI ml), .int lf_1]) := (fE80 0 0 (by omega)).trans c_2
          have c_83 : E78 0 1 = .inr (1, [.ref (ad 0 2), .ref (ad 0 3), .ref (ad 0 4), .int (nI len), .int (nI wn)]) := (fE80 0 1 (by omega)).trans c_5
          have c_84 : E78 0 2 = .inl (kA 1, 40, .inl tx_4) := (fE80 0 2 (by omega)).trans c_7
          have c_85 : E78 0 3 = .inl (kA 0, 20, .inl fb_4) := (fE80 0 3 (by omega)).trans c_9
          have c_86 : E78 0 4 = .inl (kA 0, 20, .inl fe_4) := (fE80 0 4 (by omega)).trans c_11
          have c_87 : E78 0 5 = .inr (2, [.ref (ad 0 6), .int (nI nd)]) := (fE80 0 5 (by omega)).trans c_14
          have c_88 : E78 0 6 = .inl (kA 4, 12, .inr (.inr (.inr (.inr fd_13)))) := (fE80 0 6 (by omega)).trans c_16
          have c_89 : E78 0 7 = .inr (3, [.ref (ad 0 5), .ref (ad 0 8), .int (nI cs), .int cf_18, pv_18]) := (fE80 0 7 (by omega)).trans c_19
          have c_90 : E78 0 9 = .inl (kA 5, 5, .inr (.inr (.inr (.inr fl_23)))) := (fE80 0 9 (by omega)).trans c_24
          have c_91 : E78 (1 + z29) 0 = .inr (7, [.int (nI z29), .int fd_51, .int nm_51, .ref (ad (1 + z29) 1), .ref (ad (1 + z29) 9), .ref (ad (1 + z29) 10), .ref (ad (1 + z29) 2), .ref (ad (1 + z29) 11), .ref (ad (1 + z29) 12), .ref (ad (1 + z29) 3), .ref (ad (1 + z29) 4), .int sd_51]) := (fE80 (1 + z29) 0 (by omega)).trans c_52
          have c_92 : E78 (1 + z29) 1 = .inr (8, [.ref (ad (1 + z29) 5), .int (nI k0_51)]) := (fE80 (1 + z29) 1 (by omega)).trans c_54
          have c_93 : E78 (1 + z29) 2 = .inr (8, [.ref (ad (1 + z29) 6), .int (nI k1_51)]) := (fE80 (1 + z29) 2 (by omega)).trans c_56
          have c_94 : E78 (1 + z29) 3 = .inr (8, [.ref (ad (1 + z29) 7), .int (nI k2_51)]) := (fE80 (1 + z29) 3 (by omega)).trans c_58
          have c_95 : E78 (1 + z29) 4 = .inr (8, [.ref (ad (1 + z29) 8), .int (nI k3_51)]) := (fE80 (1 + z29) 4 (by omega)).trans c_60
          have c_96 : E78 (1 + z29) 5 = .inl (kA 0, 6, .inl f0_51) := (fE80 (1 + z29) 5 (by omega)).trans c_62
          have c_97 : E78 (1 + z29) 6 = .inl (kA 0, 5, .inl f1_51) := (fE80 (1 + z29) 6 (by omega)).trans c_64
          have c_98 : E78 (1 + z29) 7 = .inl (kA 0, 3, .inl f2_51) := (fE80 (1 + z29) 7 (by omega)).trans c_66
          have c_99 : E78 (1 + z29) 8 = .inl (kA 0, 3, .inl f3_51) := (fE80 (1 + z29) 8 (by omega)).trans c_68
          have c_100 : E78 (1 + z29) 9 = .inl (kA 8, 6, .inr (.inr (.inr (.inr fe_51)))) := (fE80 (1 + z29) 9 (by omega)).trans c_70
          have c_101 : E78 (1 + z29) 10 = .inl (kA 8, 6, .inr (.inr (.inr (.inr fo_51)))) := (fE80 (1 + z29) 10 (by omega)).trans c_72
          have c_102 : E78 (1 + z29) 11 = .inl (kA 2, 5, .inl tr_51) := (fE80 (1 + z29) 11 (by omega)).trans c_74
          have c_103 : E78 (1 + z29) 12 = .inl (kA 2, 5, .inl op_51) := (fE80 (1 + z29) 12 (by omega)).trans c_76
          refine lv_aload_n hx hb xd_Ch_addName_78 rfl (lv_at hl 1 rfl) ?_
          refine lv_dup hx hb xd_Ch_addName_79 rfl ?_
          refine px_get (D := D) (ci := 3) (v := .int (nI cs)) (C := xR_Ch) (T := xT_Ch) (N := 5) hx hb hT xi_Ch hown hK.1 hP m_20 c_89 rfl 2 (by decide) (hT _ ys_18) (fun _ h9 => h9) rfl xd_Ch_addName_80 ?_
          refine lv_iconst (v := 1) hx hb xd_Ch_addName_83 (by decide) ?_
          refine lv_iadd hx hb xd_Ch_addName_84 ?_
          refine xn_top (y := nI (cs + 1)) (nI_add cs 1) ?_
          refine px_put (D := D) (ci := 3) (v := .int (nI (cs + 1))) (ty := .int) (C := xR_Ch) (T := xT_Ch) (N := 5) hx hb hT xi_Ch xt_Ch xt_Ch_ok xn_Ch hown hK.1 hP hD hS m_20 c_89 rfl 2 (by decide) (hT _ ys_18) (fun _ h9 => h9) rfl (by decide +kernel) rfl rfl (Nat.le_of_ble_eq_true rfl) xd_Ch_addName_85 (fun H locs hP hD hS => ?_)
          have hP : va_P D xcl (rp ad (up2 E78 0 7 (.inr (3, [.ref (ad 0 5), .ref (ad 0 8), .int (nI (cs + 1)), .int cf_18, pv_18]))) RL) H := hP
          have hD : va_D A (rp ad (up2 E78 0 7 (.inr (3, [.ref (ad 0 5), .ref (ad 0 8), .int (nI (cs + 1)), .int cf_18, pv_18]))) RL) := hD
          generalize hE105 : up2 E78 0 7 (.inr (3, [.ref (ad 0 5), .ref (ad 0 8), .int (nI (cs + 1)), .int cf_18, pv_18])) = E104 at hP hD
          have fE106 : ∀ b2 o2, ¬ (b2 = 0 ∧ o2 = 7) → E104 b2 o2 = E78 b2 o2 := fun b2 o2 h9 => by rw [← hE105]; exact up2_ne (by omega)
          have c_107 : E104 0 7 = .inr (3, [.ref (ad 0 5), .ref (ad 0 8), .int (nI (cs + 1)), .int cf_18, pv_18]) := by rw [← hE105]; exact up2_eq
          have c_108 : E104 0 8 = .inl (kA 4, 12, .inr (.inr (.inr (.inr (va_up fc_18 cs (some (ad (1 + z29) 0))))))) := (fE106 0 8 (by omega)).trans c_81
          have c_109 : E104 0 0 = .inr (0, [.ref (ad 0 1), .ref (ad 0 5), .ref (ad 0 7), .ref (ad 0 9), .int (nI ml), .int lf_1]) := (fE106 0 0 (by omega)).trans c_82
          have c_110 : E104 0 1 = .inr (1, [.ref (ad 0 2), .ref (ad 0 3), .ref (ad 0 4), .int (nI len), .int (nI wn)]) := (fE106 0 1 (by omega)).trans c_83
          have c_111 : E104 0 2 = .inl (kA 1, 40, .inl tx_4) := (fE106 0 2 (by omega)).trans c_84
          have c_112 : E104 0 3 = .inl (kA 0, 20, .inl fb_4) := (fE106 0 3 (by omega)).trans c_85
          have c_113 : E104 0 4 = .inl (kA 0, 20, .inl fe_4) := (fE106 0 4 (by omega)).trans c_86
          have c_114 : E104 0 5 = .inr (2, [.ref (ad 0 6), .int (nI nd)]) := (fE106 0 5 (by omega)).trans c_87
          have c_115 : E104 0 6 = .inl (kA 4, 12, .inr (.inr (.inr (.inr fd_13)))) := (fE106 0 6 (by omega)).trans c_88
          have c_116 : E104 0 9 = .inl (kA 5, 5, .inr (.inr (.inr (.inr fl_23)))) := (fE106 0 9 (by omega)).trans c_90
          have c_117 : E104 (1 + z29) 0 = .inr (7, [.int (nI z29), .int fd_51, .int nm_51, .ref (ad (1 + z29) 1), .ref (ad (1 + z29) 9), .ref (ad (1 + z29) 10), .ref (ad (1 + z29) 2), .ref (ad (1 + z29) 11), .ref (ad (1 + z29) 12), .ref (ad (1 + z29) 3), .ref (ad (1 + z29) 4), .int sd_51]) := (fE106 (1 + z29) 0 (by omega)).trans c_91
          have c_118 : E104 (1 + z29) 1 = .inr (8, [.ref (ad (1 + z29) 5), .int (nI k0_51)]) := (fE106 (1 + z29) 1 (by omega)).trans c_92
          have c_119 : E104 (1 + z29) 2 = .inr (8, [.ref (ad (1 + z29) 6), .int (nI k1_51)]) := (fE106 (1 + z29) 2 (by omega)).trans c_93
          have c_120 : E104 (1 + z29) 3 = .inr (8, [.ref (ad (1 + z29) 7), .int (nI k2_51)]) := (fE106 (1 + z29) 3 (by omega)).trans c_94
          have c_121 : E104 (1 + z29) 4 = .inr (8, [.ref (ad (1 + z29) 8), .int (nI k3_51)]) := (fE106 (1 + z29) 4 (by omega)).trans c_95
          have c_122 : E104 (1 + z29) 5 = .inl (kA 0, 6, .inl f0_51) := (fE106 (1 + z29) 5 (by omega)).trans c_96
          have c_123 : E104 (1 + z29) 6 = .inl (kA 0, 5, .inl f1_51) := (fE106 (1 + z29) 6 (by omega)).trans c_97
          have c_124 : E104 (1 + z29) 7 = .inl (kA 0, 3, .inl f2_51) := (fE106 (1 + z29) 7 (by omega)).trans c_98
          have c_125 : E104 (1 + z29) 8 = .inl (kA 0, 3, .inl f3_51) := (fE106 (1 + z29) 8 (by omega)).trans c_99
          have c_126 : E104 (1 + z29) 9 = .inl (kA 8, 6, .inr (.inr (.inr (.inr fe_51)))) := (fE106 (1 + z29) 9 (by omega)).trans c_100
          have c_127 : E104 (1 + z29) 10 = .inl (kA 8, 6, .inr (.inr (.inr (.inr fo_51)))) := (fE106 (1 + z29) 10 (by omega)).trans c_101
          have c_128 : E104 (1 + z29) 11 = .inl (kA 2, 5, .inl tr_51) := (fE106 (1 + z29) 11 (by omega)).trans c_102
          have c_129 : E104 (1 + z29) 12 = .inl (kA 2, 5, .inl op_51) := (fE106 (1 + z29) 12 (by omega)).trans c_103
          have hCI : CI kA ad E104 RL ml nd len wn (cs + 1) := ⟨hmB, ⟨lf_1, c_109⟩, ⟨tx_4, fb_4, fe_4, (by omega), (by omega), c_110, c_111, c_112, c_113, hws_4⟩, ⟨fd_13, (by omega), c_114, c_115, hds_13⟩, ⟨cf_18, pv_18, (va_up fc_18 cs (some (ad (1 + z29) 0))), (by omega), hpv_18, c_107, c_108, (FC_add hfc_18 (d0 := z29) (by omega))⟩, ⟨fl_23, (by omega), c_116, hla_23⟩, (DIs_same (fun d9 hd9 => fun2 fun o9 => by show E104 (1 + d9) o9 = _; rw [fE106 (1 + d9) o9 (by omega), fE80 (1 + d9) o9 (by omega)]) (fun _ _ => rfl) (fun _ h9 => h9) hDIs), (LIs_same (Nat.le_refl _) (fun n9 hn9 => fun2 fun o9 => by show E104 (20 + n9) o9 = _; rw [fE106 (20 + n9) o9 (by omega), fE80 (20 + n9) o9 (by omega)]) (fun _ _ => rfl) (fun _ _ => rfl) (fun _ h9 => h9) hLIs)⟩
          obtain ⟨hmB, hDk, hLi, hSh, hCh, hLa, hDIs, hLIs⟩ := id hCI
          refine lv_iconst (v := 0) hx hb xd_Ch_addName_88 (by decide) ?_
          refine lv_istore hx hb xd_Ch_addName_89 hl (Nat.le_of_ble_eq_true rfl) rfl (fun ls hl => ?_)
          have hl : lv_has ls 5 [(4, .int 0), (3, .ref (ad (1 + z29) 0)), (0, .ref (ad 0 7)), (1, .int nm), (2, .int (nI dp))] := hl
          refine xlab (σ := Nat × (Nat → Nat → va_E) × Nat) (ml := 5) 91 (fun (i, E1, cs1) => [(4, .int (nI i)), (3, .ref (ad (1 + z29) 0)), (2, .int (nI dp)), (1, .int nm), (0, .ref (ad 0 7))]) (fun (i, E1, cs1) => []) (fun (i, E1, cs1) => rp ad E1 RL) (fun (i, E1, cs1) => (i ≤ 5) ∧ (CI kA ad E1 RL ml nd len wn cs1) ∧ (cs ≤ cs1)) (fun (i, E1, cs1) => 5 - i) ?_ (0, E104, cs + 1) _ _ _ (lv_sub hl [0, 1, 4, 3, 2] rfl) hP hD hS ⟨(show 0 ≤ 5 from by first | assumption | omega), (show CI kA ad E104 RL ml nd len wn (cs + 1) from hCI), (show cs ≤ (cs + 1) from by first | assumption | omega)⟩
          intro n9 ih130 a9 ls H locs hμ hl hP hD hS hI
          subst hμ
          obtain ⟨i, E1, cs1⟩ := a9
          obtain ⟨hi, hCI, hcs⟩ := hI
          have hi : i ≤ 5 := hi
          have hCI : CI kA ad E1 RL ml nd len wn cs1 := hCI
          have hcs : cs ≤ cs1 := hcs
          have hl : lv_has ls 5 [(4, .int (nI i)), (3, .ref (ad (1 + z29) 0)), (2, .int (nI dp)), (1, .int nm), (0, .ref (ad 0 7))] := hl
          have hP : va_P D xcl (rp ad E1 RL) H := hP
          have hD : va_D A (rp ad E1 RL) := hD
          obtain ⟨hmB, hDk, hLi, hSh, hCh, hLa, hDIs, hLIs⟩ := id hCI
          obtain ⟨lf_131, q_131⟩ := id (hDk)
          have c_132 : E1 0 0 = .inr (0, [.ref (ad 0 1), .ref (ad 0 5), .ref (ad 0 7), .ref (ad 0 9), .int (nI ml), .int lf_131]) := q_131
          have m_133 : (0, 0) ∈ RL := hmB 0 (by omega)
          obtain ⟨tx_134, fb_134, fe_134, hl1_134, hw2_134, q1_134, q2_134, q3_134, q4_134, hws_134⟩ := id (hLi)
          have c_135 : E1 0 1 = .inr (1, [.ref (ad 0 2), .ref (ad 0 3), .ref (ad 0 4), .int (nI len), .int (nI wn)]) := q1_134
          have m_136 : (0, 1) ∈ RL := hmB 1 (by omega)
          have c_137 : E1 0 2 = .inl (kA 1, 40, .inl tx_134) := q2_134
          have m_138 : (0, 2) ∈ RL := hmB 2 (by omega)
          have c_139 : E1 0 3 = .inl (kA 0, 20, .inl fb_134) := q3_134
          have m_140 : (0, 3) ∈ RL := hmB 3 (by omega)
          have c_141 : E1 0 4 = .inl (kA 0, 20, .inl fe_134) := q4_134
          have m_142 : (0, 4) ∈ RL := hmB 4 (by omega)
          obtain ⟨fd_143, hnd_143, q5_143, q6_143, hds_143⟩ := id (hSh)
          have c_144 : E1 0 5 = .inr (2, [.ref (ad 0 6), .int (nI nd)]) := q5_143
          have m_145 : (0, 5) ∈ RL := hmB 5 (by omega)
          have c_146 : E1 0 6 = .inl (kA 4, 12, .inr (.inr (.inr (.inr fd_143)))) := q6_143
          have m_147 : (0, 6) ∈ RL := hmB 6 (by omega)
          obtain ⟨cf_148, pv_148, fc_148, hcs_148, hpv_148, q7_148, q8_148, hfc_148⟩ := id (hCh)
          have c_149 : E1 0 7 = .inr (3, [.ref (ad 0 5), .ref (ad 0 8), .int (nI cs1), .int cf_148, pv_148]) := q7_148
          have m_150 : (0, 7) ∈ RL := hmB 7 (by omega)
          have c_151 : E1 0 8 = .inl (kA 4, 12, .inr (.inr (.inr (.inr fc_148)))) := q8_148
          have m_152 : (0, 8) ∈ RL := hmB 8 (by omega)
          obtain ⟨fl_153, hml_153, q9_153, hla_153⟩ := id (hLa)
          have c_154 : E1 0 9 = .inl (kA 5, 5, .inr (.inr (.inr (.inr fl_153)))) := q9_153
          have m_155 : (0, 9) ∈ RL := hmB 9 (by omega)
          refine lv_iload hx hb xd_Ch_addName_91 (lv_at hl 0 rfl) ?_
          refine lv_aload_n hx hb xd_Ch_addName_93 rfl (lv_at hl 1 rfl) ?_
          obtain ⟨hm_156, fd_156, nm_156, sd_156, k0_156, k1_156, k2_156, k3_156, f0_156, f1_156, f2_156, f3_156, fe_156, fo_156, tr_156, op_156, hk0_156, hk1_156, hk2_156, hk3_156, q0_156, q1_156, q2_156, q3_156, q4_156, q5_156, q6_156, q7_156, q8_156, q9_156, q10_156, q11_156, q12_156, hg_156⟩ := id (hDIs z29 (by omega))
          have c_157 : E1 (1 + z29) 0 = .inr (7, [.int (nI z29), .int fd_156, .int nm_156, .ref (ad (1 + z29) 1), .ref (ad (1 + z29) 9), .ref (ad (1 + z29) 10), .ref (ad (1 + z29) 2), .ref (ad (1 + z29) 11), .ref (ad (1 + z29) 12), .ref (ad (1 + z29) 3), .ref (ad (1 + z29) 4), .int sd_156]) := q0_156
          have m_158 : (1 + z29, 0) ∈ RL := hm_156 0 (by omega)
          have c_159 : E1 (1 + z29) 1 = .inr (8, [.ref (ad (1 + z29) 5), .int (nI k0_156)]) := q1_156
          have m_160 : (1 + z29, 1) ∈ RL := hm_156 1 (by omega)
          have c_161 : E1 (1 + z29) 2 = .inr (8, [.ref (ad (1 + z29) 6), .int (nI k1_156)]) := q2_156
          have m_162 : (1 + z29, 2) ∈ RL := hm_156 2 (by omega)
          have c_163 : E1 (1 + z29) 3 = .inr (8, [.ref (ad (1 + z29) 7), .int (nI k2_156)]) := q3_156
          have m_164 : (1 + z29, 3) ∈ RL := hm_156 3 (by omega)
          have c_165 : E1 (1 + z29) 4 = .inr (8, [.ref (ad (1 + z29) 8), .int (nI k3_156)]) := q4_156
          have m_166 : (1 + z29, 4) ∈ RL := hm_156 4 (by omega)
          have c_167 : E1 (1 + z29) 5 = .inl (kA 0, 6, .inl f0_156) := q5_156
          have m_168 : (1 + z29, 5) ∈ RL := hm_156 5 (by omega)
          have c_169 : E1 (1 + z29) 6 = .inl (kA 0, 5, .inl f1_156) := q6_156
          have m_170 : (1 + z29, 6) ∈ RL := hm_156 6 (by omega)
          have c_171 : E1 (1 + z29) 7 = .inl (kA 0, 3, .inl f2_156) := q7_156
          have m_172 : (1 + z29, 7) ∈ RL := hm_156 7 (by omega)
          have c_173 : E1 (1 + z29) 8 = .inl (kA 0, 3, .inl f3_156) := q8_156
          have m_174 : (1 + z29, 8) ∈ RL := hm_156 8 (by omega)
          have c_175 : E1 (1 + z29) 9 = .inl (kA 8, 6, .inr (.inr (.inr (.inr fe_156)))) := q9_156
          have m_176 : (1 + z29, 9) ∈ RL := hm_156 9 (by omega)
          have c_177 : E1 (1 + z29) 10 = .inl (kA 8, 6, .inr (.inr (.inr (.inr fo_156)))) := q10_156
          have m_178 : (1 + z29, 10) ∈ RL := hm_156 10 (by omega)
          have c_179 : E1 (1 + z29) 11 = .inl (kA 2, 5, .inl tr_156) := q11_156
          have m_180 : (1 + z29, 11) ∈ RL := hm_156 11 (by omega)
          have c_181 : E1 (1 + z29) 12 = .inl (kA 2, 5, .inl op_156) := q12_156
          have m_182 : (1 + z29, 12) ∈ RL := hm_156 12 (by omega)
          have hg_156 : ∀ w9, w9 < k0_156 → fe_156 w9 = some (ad (1 + z29) (20 + 3 * w9)) ∧ fo_156 w9 = some (ad (1 + z29) (38 + 3 * w9)) ∧ GI kA (ad (1 + z29)) (E1 (1 + z29)) (fun o => (1 + z29, o) ∈ RL) (20 + 3 * w9) (21 + 3 * w9) (22 + 3 * w9) ∧ GI kA (ad (1 + z29)) (E1 (1 + z29)) (fun o => (1 + z29, o) ∈ RL) (38 + 3 * w9) (39 + 3 * w9) (40 + 3 * w9) := hg_156
          refine px_get (D := D) (ci := 7) (v := .ref (ad (1 + z29) 2)) (C := xR_Ds) (T := xT_Ds) (N := 12) hx hb hT xi_Ds hown hK.1 hP m_158 c_157 rfl 6 (by decide) (hT _ ys_20) (fun _ h9 => h9) rfl xd_Ch_addName_94 ?_
          refine px_get (D := D) (ci := 8) (v := .int (nI k1_156)) (C := xR_Na) (T := xT_Na) (N := 2) hx hb hT xi_Na hown hK.1 hP m_162 c_161 rfl 1 (by decide) (hT _ ys_21) (fun _ h9 => h9) rfl xd_Ch_addName_97 ?_
          refine xn_ge (a := i) (b := k1_156) (tgt := 140) hx hb xd_Ch_addName_100 (by decide) (by omega) (by omega) (fun hc183 => ?_) (fun hc183 => ?_)
          · refine lv_iconst (v := 1) hx hb xd_Ch_addName_140 (by decide) ?_
            refine W.widen (k := 0) (n := 0) (Nat.le_of_ble_eq_true rfl) (Nat.le_of_ble_eq_true rfl) ?_
            exact W.zret (v := 1) hx hb hr rfl (fun t ht hW => ⟨⟨1, E1, rfl, ⟨Or.inr rfl, cs1, by omega, hCI⟩, by rw [ht]; exact hP, hD⟩, hS.F ht⟩) hS.2.2 xd_Ch_addName_141
          · refine lv_aload_n hx hb xd_Ch_addName_103 rfl (lv_at hl 1 rfl) ?_
            refine px_get (D := D) (ci := 7) (v := .ref (ad (1 + z29) 12)) (C := xR_Ds) (T := xT_Ds) (N := 12) hx hb hT xi_Ds hown hK.1 hP m_158 c_157 rfl 8 (by decide) (hT _ ys_22) (fun _ h9 => h9) rfl xd_Ch_addName_104 ?_
            refine lv_iload hx hb xd_Ch_addName_107 (lv_at hl 0 rfl) ?_
            refine px_zald (i := i) hx hb hK.1 hP m_182 c_181 2 rfl (by omega) (by decide) xd_Ch_addName_109 ?_
            refine lv_if_ne (tgt := 134) hx hb xd_Ch_addName_110 (by decide) (fun hc184 => ?_) (fun hc184 => ?_)
            · refine lv_iinc (k := 0) (x := (nI i)) (v := (nI (i + 1))) hx hb xd_Ch_addName_134 hl rfl (xb_inc i 1) (Nat.le_of_ble_eq_true rfl) rfl (fun ls hl => ?_)
              have hl : lv_has ls 5 [(4, .int (nI (i + 1))), (3, .ref (ad (1 + z29) 0)), (2, .int (nI dp)), (1, .int nm), (0, .ref (ad 0 7))] := hl
              refine lv_goto (tgt := 91) hx hb xd_Ch_addName_137 (by decide) ?_
              exact ih130 (i + 1, E1, cs1) _ _ _ (show 5 - (i + 1) < 5 - i by omega) (lv_sub hl [0, 1, 2, 3, 4] rfl) hP hD hS ⟨(show (i + 1) ≤ 5 from by first | assumption | omega), (show CI kA ad E1 RL ml nd len wn cs1 from hCI), (show cs ≤ cs1 from by first | assumption | omega)⟩
            · refine lv_aload_n hx hb xd_Ch_addName_113 rfl (lv_at hl 4 rfl) ?_
              refine lv_aload_n hx hb xd_Ch_addName_114 rfl (lv_at hl 1 rfl) ?_
              refine px_get (D := D) (ci := 7) (v := .ref (ad (1 + z29) 2)) (C := xR_Ds) (T := xT_Ds) (N := 12) hx hb hT xi_Ds hown hK.1 hP m_158 c_157 rfl 6 (by decide) (hT _ ys_20) (fun _ h9 => h9) rfl xd_Ch_addName_115 ?_
              refine lv_iload hx hb xd_Ch_addName_118 (lv_at hl 0 rfl) ?_
              have hFc := px_free hD hS hA
              refine va_calli (va_runV (As := [.int (nI i)]) (rest := [.ref (ad 0 7)]) ⟨hx, hb, hml, hown, hT⟩ (xc_Na_at l D kA H.size ad E1 RL (1 + z29) 2 6 5 k1_156 f1_156 i m_162 c_161 m_170 c_169 (by first | assumption | omega) (by first | assumption | omega) (by first | assumption | omega)) (cwV 1 hT (wT_V ys_24 ys_25 ys_26 ys_27 ys_23) rfl rfl rfl (by decide +kernel) ⟨(show 0 + 1 ≤ 6 + f by omega), (show 8 + (2 + 11) + (0) ≤ 90 + 90 * f by omega)⟩) (px_preV hK hP hD m_162 c_161 rfl) rfl rfl hl.1 rfl (lv_room (Nat.le_of_ble_eq_true rfl)) xd_Ch_addName_120 ⟨(Nat.le_of_ble_eq_true rfl), (Nat.le_of_ble_eq_true rfl)⟩) hS (fun q _ h => hFc q h) hFc (fun r185 u186 t H1 locs ht hvm hp187 hB hz1 hk1 hS => ?_)
              obtain ⟨hP1, hD1⟩ := hB
              rw [ht] at hP1
              have hD1 := hD1.weaken (fun _ _ _ h => hFc _ h)
              generalize H1 = H at hP1 hS ⊢
              have hP := hP1
              have hD := hD1
              have hP : va_P D xcl (rp ad E1 RL) H := hP
              have hD : va_D A (rp ad E1 RL) := hD
              refine lv_iload_n hx hb xd_Ch_addName_123 rfl (lv_at hl 2 rfl) ?_
              refine lv_iconst (v := 1) hx hb xd_Ch_addName_124 (by decide) ?_
              refine lv_iadd hx hb xd_Ch_addName_125 ?_
              refine xn_top (y := nI (dp + 1)) (nI_add dp 1) ?_
              have hFc := px_free hD hS hA
              refine va_calli (va_runV (As := [.int r185, .int (nI (dp + 1))]) (rest := []) ⟨hx, hb, hml, hown, hT⟩ (ih (f - 1) (by omega) l D kA H.size ad E1 RL ml nd len wn cs1 r185 (dp + 1) (by first | assumption | omega) (by first | assumption | omega)) (cwV 2 hT (wT_V ys_29 ys_30 ys_31 ys_17 ys_28) rfl rfl rfl (by decide +kernel) ⟨(show 6 + (f - 1) + 1 ≤ 6 + f by omega), (show 8 + (5 + 11) + (90 + 90 * (f - 1)) ≤ 90 + 90 * f by omega)⟩) (px_preV hK hP hD m_150 c_149 rfl) rfl rfl hl.1 rfl (lv_room (Nat.le_of_ble_eq_true rfl)) xd_Ch_addName_126 ⟨(Nat.le_of_ble_eq_true rfl), (Nat.le_of_ble_eq_true rfl)⟩) hS (fun q _ h => hFc q h) hFc (fun r188 u189 t H1 locs ht hvm hp190 hB hz1 hk1 hS => ?_)
              obtain ⟨hP1, hD1⟩ := hB
              rw [ht] at hP1
              have hD1 := hD1.weaken (fun _ _ _ h => hFc _ h)
              generalize H1 = H at hP1 hS ⊢
              have hP := hP1
              have hD := hD1
              obtain ⟨E191, rfl⟩ : ∃ z, z = u189 := ⟨_, rfl⟩
              have hP : va_P D xcl (rp ad E191 RL) H := hP
              have hD : va_D A (rp ad E191 RL) := hD
              obtain ⟨hr193, cs192, hle193, hCI⟩ := hp190
              have hCI : CI kA ad E191 RL ml nd len wn cs192 := hCI
              obtain ⟨hmB, hDk, hLi, hSh, hCh, hLa, hDIs, hLIs⟩ := id hCI
              refine lv_if_ne (tgt := 134) hx hb xd_Ch_addName_129 (by decide) (fun hc194 => ?_) (fun hc194 => ?_)
              · refine lv_iinc (k := 0) (x := (nI i)) (v := (nI (i + 1))) hx hb xd_Ch_addName_134 hl rfl (xb_inc i 1) (Nat.le_of_ble_eq_true rfl) rfl (fun ls hl => ?_)
                have hl : lv_has ls 5 [(4, .int (nI (i + 1))), (3, .ref (ad (1 + z29) 0)), (2, .int (nI dp)), (1, .int nm), (0, .ref (ad 0 7))] := hl
                refine lv_goto (tgt := 91) hx hb xd_Ch_addName_137 (by decide) ?_
                exact ih130 (i + 1, E191, cs192) _ _ _ (show 5 - (i + 1) < 5 - i by omega) (lv_sub hl [0, 1, 2, 3, 4] rfl) hP hD hS ⟨(show (i + 1) ≤ 5 from by first | assumption | omega), (show CI kA ad E191 RL ml nd len wn cs192 from hCI), (show cs ≤ cs192 from by first | assumption | omega)⟩
              · refine lv_iconst (v := 0) hx hb xd_Ch_addName_132 (by decide) ?_
                refine W.widen (k := 0) (n := 0) (Nat.le_of_ble_eq_true rfl) (Nat.le_of_ble_eq_true rfl) ?_
                exact W.zret (v := 0) hx hb hr rfl (fun t ht hW => ⟨⟨0, E191, rfl, ⟨Or.inl rfl, cs192, by omega, hCI⟩, by rw [ht]; exact hP, hD⟩, hS.F ht⟩) hS.2.2 xd_Ch_addName_133
        · refine lv_iconst (v := 0) hx hb xd_Ch_addName_66 (by decide) ?_
          refine W.widen (k := 0) (n := 0) (Nat.le_of_ble_eq_true rfl) (Nat.le_of_ble_eq_true rfl) ?_
          exact W.zret (v := 0) hx hb hr rfl (fun t ht hW => ⟨⟨0, E, rfl, ⟨Or.inl rfl, cs, by omega, hCI⟩, by rw [ht]; exact hP, hD⟩, hS.F ht⟩) hS.2.2 xd_Ch_addName_67
    · refine W.eq (g2 := F0 m 46 ls [.int 1]) rfl ?_
      refine lv_if_eq (tgt := 51) hx hb xd_Ch_addName_46 (by decide) (fun hc195 => absurd hc195 (by decide)) (fun _ => ?_)
      refine lv_iconst (v := 1) hx hb xd_Ch_addName_49 (by decide) ?_
      refine W.widen (k := 0) (n := 0) (Nat.le_of_ble_eq_true rfl) (Nat.le_of_ble_eq_true rfl) ?_
      exact W.zret (v := 1) hx hb hr rfl (fun t ht hW => ⟨⟨1, E, rfl, ⟨Or.inr rfl, cs, by omega, hCI⟩, by rw [ht]; exact hP, hD⟩, hS.F ht⟩) hS.2.2 xd_Ch_addName_50
