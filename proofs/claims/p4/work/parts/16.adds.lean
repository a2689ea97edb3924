abbrev xb_Mo_adds : ByteArray := prog_12_method_22_code
def xy_Mo_adds : MethodName := ⟨"LayerDeskModel", "adds", "(I)Z"⟩
theorem xd_Mo_adds_0 : decode xb_Mo_adds 0 = .ok (.aload_n 0, 1) := by decide +kernel
theorem xd_Mo_adds_1 : decode xb_Mo_adds 1 = .ok (.getfield 150, 3) := by decide +kernel
theorem xd_Mo_adds_4 : decode xb_Mo_adds 4 = .ok (.istore_n 2, 1) := by decide +kernel
theorem xd_Mo_adds_5 : decode xb_Mo_adds 5 = .ok (.iconst 1, 1) := by decide +kernel
theorem xd_Mo_adds_6 : decode xb_Mo_adds 6 = .ok (.istore_n 3, 1) := by decide +kernel
theorem xd_Mo_adds_7 : decode xb_Mo_adds 7 = .ok (.aload_n 0, 1) := by decide +kernel
theorem xd_Mo_adds_8 : decode xb_Mo_adds 8 = .ok (.getfield 81, 3) := by decide +kernel
theorem xd_Mo_adds_11 : decode xb_Mo_adds 11 = .ok (.iconst 0, 1) := by decide +kernel
theorem xd_Mo_adds_12 : decode xb_Mo_adds 12 = .ok (.iload_n 1, 1) := by decide +kernel
theorem xd_Mo_adds_13 : decode xb_Mo_adds 13 = .ok (.iastore, 1) := by decide +kernel
theorem xd_Mo_adds_14 : decode xb_Mo_adds 14 = .ok (.iload_n 3, 1) := by decide +kernel
theorem xd_Mo_adds_15 : decode xb_Mo_adds 15 = .ok (.ifCond .le 148, 3) := by decide +kernel
theorem xd_Mo_adds_18 : decode xb_Mo_adds 18 = .ok (.iinc 3 (-1), 3) := by decide +kernel
theorem xd_Mo_adds_21 : decode xb_Mo_adds 21 = .ok (.aload_n 0, 1) := by decide +kernel
theorem xd_Mo_adds_22 : decode xb_Mo_adds 22 = .ok (.aload_n 0, 1) := by decide +kernel
theorem xd_Mo_adds_23 : decode xb_Mo_adds 23 = .ok (.getfield 66, 3) := by decide +kernel
theorem xd_Mo_adds_26 : decode xb_Mo_adds 26 = .ok (.iload_n 2, 1) := by decide +kernel
theorem xd_Mo_adds_27 : decode xb_Mo_adds 27 = .ok (.iaload, 1) := by decide +kernel
theorem xd_Mo_adds_28 : decode xb_Mo_adds 28 = .ok (.aload_n 0, 1) := by decide +kernel
theorem xd_Mo_adds_29 : decode xb_Mo_adds 29 = .ok (.getfield 81, 3) := by decide +kernel
theorem xd_Mo_adds_32 : decode xb_Mo_adds 32 = .ok (.iload_n 3, 1) := by decide +kernel
theorem xd_Mo_adds_33 : decode xb_Mo_adds 33 = .ok (.iaload, 1) := by decide +kernel
theorem xd_Mo_adds_34 : decode xb_Mo_adds 34 = .ok (.invokevirtual 136, 3) := by decide +kernel
theorem xd_Mo_adds_37 : decode xb_Mo_adds 37 = .ok (.istore 4, 2) := by decide +kernel
theorem xd_Mo_adds_39 : decode xb_Mo_adds 39 = .ok (.iload 4, 2) := by decide +kernel
theorem xd_Mo_adds_41 : decode xb_Mo_adds 41 = .ok (.ifCond .ge 24, 3) := by decide +kernel
theorem xd_Mo_adds_44 : decode xb_Mo_adds 44 = .ok (.aload_n 0, 1) := by decide +kernel
theorem xd_Mo_adds_45 : decode xb_Mo_adds 45 = .ok (.aload_n 0, 1) := by decide +kernel
theorem xd_Mo_adds_46 : decode xb_Mo_adds 46 = .ok (.getfield 69, 3) := by decide +kernel
theorem xd_Mo_adds_49 : decode xb_Mo_adds 49 = .ok (.iload_n 2, 1) := by decide +kernel
theorem xd_Mo_adds_50 : decode xb_Mo_adds 50 = .ok (.iaload, 1) := by decide +kernel
theorem xd_Mo_adds_51 : decode xb_Mo_adds 51 = .ok (.aload_n 0, 1) := by decide +kernel
theorem xd_Mo_adds_52 : decode xb_Mo_adds 52 = .ok (.getfield 81, 3) := by decide +kernel
theorem xd_Mo_adds_55 : decode xb_Mo_adds 55 = .ok (.iload_n 3, 1) := by decide +kernel
theorem xd_Mo_adds_56 : decode xb_Mo_adds 56 = .ok (.iaload, 1) := by decide +kernel
theorem xd_Mo_adds_57 : decode xb_Mo_adds 57 = .ok (.invokevirtual 153, 3) := by decide +kernel
theorem xd_Mo_adds_60 : decode xb_Mo_adds 60 = .ok (.ifCond .ge 100, 3) := by decide +kernel
theorem xd_Mo_adds_63 : decode xb_Mo_adds 63 = .ok (.iconst 0, 1) := by decide +kernel
theorem xd_Mo_adds_64 : decode xb_Mo_adds 64 = .ok (.ireturn, 1) := by decide +kernel
theorem xd_Mo_adds_65 : decode xb_Mo_adds 65 = .ok (.aload_n 0, 1) := by decide +kernel
theorem xd_Mo_adds_66 : decode xb_Mo_adds 66 = .ok (.iload_n 2, 1) := by decide +kernel
theorem xd_Mo_adds_67 : decode xb_Mo_adds 67 = .ok (.iload 4, 2) := by decide +kernel
theorem xd_Mo_adds_69 : decode xb_Mo_adds 69 = .ok (.invokevirtual 156, 3) := by decide +kernel
theorem xd_Mo_adds_72 : decode xb_Mo_adds 72 = .ok (.ifCond .ne 88, 3) := by decide +kernel
theorem xd_Mo_adds_75 : decode xb_Mo_adds 75 = .ok (.aload_n 0, 1) := by decide +kernel
theorem xd_Mo_adds_76 : decode xb_Mo_adds 76 = .ok (.getfield 75, 3) := by decide +kernel
theorem xd_Mo_adds_79 : decode xb_Mo_adds 79 = .ok (.bipush 12, 2) := by decide +kernel
theorem xd_Mo_adds_81 : decode xb_Mo_adds 81 = .ok (.iload_n 2, 1) := by decide +kernel
theorem xd_Mo_adds_82 : decode xb_Mo_adds 82 = .ok (.imul, 1) := by decide +kernel
theorem xd_Mo_adds_83 : decode xb_Mo_adds 83 = .ok (.aload_n 0, 1) := by decide +kernel
theorem xd_Mo_adds_84 : decode xb_Mo_adds 84 = .ok (.getfield 72, 3) := by decide +kernel
theorem xd_Mo_adds_87 : decode xb_Mo_adds 87 = .ok (.iload_n 2, 1) := by decide +kernel
theorem xd_Mo_adds_88 : decode xb_Mo_adds 88 = .ok (.iaload, 1) := by decide +kernel
theorem xd_Mo_adds_89 : decode xb_Mo_adds 89 = .ok (.iadd, 1) := by decide +kernel
theorem xd_Mo_adds_90 : decode xb_Mo_adds 90 = .ok (.iload 4, 2) := by decide +kernel
theorem xd_Mo_adds_92 : decode xb_Mo_adds 92 = .ok (.iastore, 1) := by decide +kernel
theorem xd_Mo_adds_93 : decode xb_Mo_adds 93 = .ok (.aload_n 0, 1) := by decide +kernel
theorem xd_Mo_adds_94 : decode xb_Mo_adds 94 = .ok (.getfield 72, 3) := by decide +kernel
theorem xd_Mo_adds_97 : decode xb_Mo_adds 97 = .ok (.iload_n 2, 1) := by decide +kernel
theorem xd_Mo_adds_98 : decode xb_Mo_adds 98 = .ok (.dup2, 1) := by decide +kernel
theorem xd_Mo_adds_99 : decode xb_Mo_adds 99 = .ok (.iaload, 1) := by decide +kernel
theorem xd_Mo_adds_100 : decode xb_Mo_adds 100 = .ok (.iconst 1, 1) := by decide +kernel
theorem xd_Mo_adds_101 : decode xb_Mo_adds 101 = .ok (.iadd, 1) := by decide +kernel
theorem xd_Mo_adds_102 : decode xb_Mo_adds 102 = .ok (.iastore, 1) := by decide +kernel
theorem xd_Mo_adds_103 : decode xb_Mo_adds 103 = .ok (.iconst 5, 1) := by decide +kernel
theorem xd_Mo_adds_104 : decode xb_Mo_adds 104 = .ok (.iload 4, 2) := by decide +kernel
theorem xd_Mo_adds_106 : decode xb_Mo_adds 106 = .ok (.imul, 1) := by decide +kernel
theorem xd_Mo_adds_107 : decode xb_Mo_adds 107 = .ok (.aload_n 0, 1) := by decide +kernel
theorem xd_Mo_adds_108 : decode xb_Mo_adds 108 = .ok (.getfield 48, 3) := by decide +kernel
theorem xd_Mo_adds_111 : decode xb_Mo_adds 111 = .ok (.iload 4, 2) := by decide +kernel
theorem xd_Mo_adds_113 : decode xb_Mo_adds 113 = .ok (.iaload, 1) := by decide +kernel
theorem xd_Mo_adds_114 : decode xb_Mo_adds 114 = .ok (.iadd, 1) := by decide +kernel
theorem xd_Mo_adds_115 : decode xb_Mo_adds 115 = .ok (.iconst 1, 1) := by decide +kernel
theorem xd_Mo_adds_116 : decode xb_Mo_adds 116 = .ok (.isub, 1) := by decide +kernel
theorem xd_Mo_adds_117 : decode xb_Mo_adds 117 = .ok (.istore 5, 2) := by decide +kernel
theorem xd_Mo_adds_119 : decode xb_Mo_adds 119 = .ok (.iload 5, 2) := by decide +kernel
theorem xd_Mo_adds_121 : decode xb_Mo_adds 121 = .ok (.iconst 5, 1) := by decide +kernel
theorem xd_Mo_adds_122 : decode xb_Mo_adds 122 = .ok (.iload 4, 2) := by decide +kernel
theorem xd_Mo_adds_124 : decode xb_Mo_adds 124 = .ok (.imul, 1) := by decide +kernel
theorem xd_Mo_adds_125 : decode xb_Mo_adds 125 = .ok (.if_icmp .lt 35, 3) := by decide +kernel
theorem xd_Mo_adds_128 : decode xb_Mo_adds 128 = .ok (.aload_n 0, 1) := by decide +kernel
theorem xd_Mo_adds_129 : decode xb_Mo_adds 129 = .ok (.getfield 63, 3) := by decide +kernel
theorem xd_Mo_adds_132 : decode xb_Mo_adds 132 = .ok (.iload 5, 2) := by decide +kernel
theorem xd_Mo_adds_134 : decode xb_Mo_adds 134 = .ok (.baload, 1) := by decide +kernel
theorem xd_Mo_adds_135 : decode xb_Mo_adds 135 = .ok (.ifCond .ne 19, 3) := by decide +kernel
theorem xd_Mo_adds_138 : decode xb_Mo_adds 138 = .ok (.aload_n 0, 1) := by decide +kernel
theorem xd_Mo_adds_139 : decode xb_Mo_adds 139 = .ok (.getfield 81, 3) := by decide +kernel
theorem xd_Mo_adds_142 : decode xb_Mo_adds 142 = .ok (.iload_n 3, 1) := by decide +kernel
theorem xd_Mo_adds_143 : decode xb_Mo_adds 143 = .ok (.aload_n 0, 1) := by decide +kernel
theorem xd_Mo_adds_144 : decode xb_Mo_adds 144 = .ok (.getfield 51, 3) := by decide +kernel
theorem xd_Mo_adds_147 : decode xb_Mo_adds 147 = .ok (.iload 5, 2) := by decide +kernel
theorem xd_Mo_adds_149 : decode xb_Mo_adds 149 = .ok (.iaload, 1) := by decide +kernel
theorem xd_Mo_adds_150 : decode xb_Mo_adds 150 = .ok (.iastore, 1) := by decide +kernel
theorem xd_Mo_adds_151 : decode xb_Mo_adds 151 = .ok (.iinc 3 1, 3) := by decide +kernel
theorem xd_Mo_adds_154 : decode xb_Mo_adds 154 = .ok (.iinc 5 (-1), 3) := by decide +kernel
theorem xd_Mo_adds_157 : decode xb_Mo_adds 157 = .ok (.goto (-38), 3) := by decide +kernel
theorem xd_Mo_adds_160 : decode xb_Mo_adds 160 = .ok (.goto (-146), 3) := by decide +kernel
theorem xd_Mo_adds_163 : decode xb_Mo_adds 163 = .ok (.iconst 1, 1) := by decide +kernel
theorem xd_Mo_adds_164 : decode xb_Mo_adds 164 = .ok (.ireturn, 1) := by decide +kernel
theorem xu_0 : (Cond.fieldLink "LayerDeskModel" 150 "LayerDeskModel" "layers" "I") ∈ wT := wT_t (List.mem_append_right _ (List.mem_append_right _ (List.mem_append_right _ (List.mem_append_left _ (List.mem_of_getElem? (i := 107) rfl))))) rfl
theorem xu_1 : (Cond.fieldLink "LayerDeskModel" 81 "LayerDeskModel" "stack" "[I") ∈ wT := wT_t (List.mem_append_right _ (List.mem_append_right _ (List.mem_append_right _ (List.mem_append_left _ (List.mem_of_getElem? (i := 113) rfl))))) rfl
theorem xu_2 : (Cond.fieldLink "LayerDeskModel" 66 "LayerDeskModel" "finderOf" "[I") ∈ wT := wT_t (List.mem_append_right _ (List.mem_append_right _ (List.mem_append_right _ (List.mem_append_left _ (List.mem_of_getElem? (i := 108) rfl))))) rfl
theorem xu_3 : (Cond.code xy_Mo_descriptorOf xb_Mo_descriptorOf 4 (some .int)) ∈ wT := wT_t (List.mem_append_right _ (List.mem_append_right _ (List.mem_append_right _ (List.mem_append_left _ (List.mem_of_getElem? (i := 216) rfl))))) rfl
theorem xu_4 : (Cond.methodLink "LayerDeskModel" 136 xy_Mo_descriptorOf) ∈ wT := wT_t (List.mem_append_right _ (List.mem_append_right _ (List.mem_append_right _ (List.mem_append_left _ (List.mem_of_getElem? (i := 213) rfl))))) rfl
theorem xu_5 : (Cond.instanceMethod xy_Mo_descriptorOf) ∈ wT := wT_t (List.mem_append_right _ (List.mem_append_right _ (List.mem_append_right _ (List.mem_append_left _ (List.mem_of_getElem? (i := 215) rfl))))) rfl
theorem xu_6 : (Cond.selects "LayerDeskModel" xy_Mo_descriptorOf xy_Mo_descriptorOf) ∈ wT := wT_s (q := (xy_Mo_descriptorOf, 31)) (by decide +kernel) rfl
theorem xu_7 : (Cond.initialized "LayerDeskModel") ∈ wT := wT_t (List.mem_append_left _ (List.mem_of_getElem? (i := 5) rfl)) rfl
theorem xu_8 : (Cond.code xy_Mo_isIn xb_Mo_isIn 5 (some .boolean)) ∈ wT := wT_t (List.mem_append_right _ (List.mem_append_right _ (List.mem_append_right _ (List.mem_append_right _ (List.mem_of_getElem? (i := 24) rfl))))) rfl
theorem xu_9 : (Cond.methodLink "LayerDeskModel" 156 xy_Mo_isIn) ∈ wT := wT_t (List.mem_append_right _ (List.mem_append_right _ (List.mem_append_right _ (List.mem_append_right _ (List.mem_of_getElem? (i := 21) rfl))))) rfl
theorem xu_10 : (Cond.instanceMethod xy_Mo_isIn) ∈ wT := wT_t (List.mem_append_right _ (List.mem_append_right _ (List.mem_append_right _ (List.mem_append_right _ (List.mem_of_getElem? (i := 23) rfl))))) rfl
theorem xu_11 : (Cond.selects "LayerDeskModel" xy_Mo_isIn xy_Mo_isIn) ∈ wT := wT_s (q := (xy_Mo_isIn, 31)) (by decide +kernel) rfl
theorem xu_12 : (Cond.fieldLink "LayerDeskModel" 75 "LayerDeskModel" "module" "[I") ∈ wT := wT_t (List.mem_append_right _ (List.mem_append_right _ (List.mem_append_right _ (List.mem_append_left _ (List.mem_of_getElem? (i := 111) rfl))))) rfl
theorem xu_13 : (Cond.fieldLink "LayerDeskModel" 72 "LayerDeskModel" "modules" "[I") ∈ wT := wT_t (List.mem_append_right _ (List.mem_append_right _ (List.mem_append_right _ (List.mem_append_left _ (List.mem_of_getElem? (i := 110) rfl))))) rfl
theorem xu_14 : (Cond.fieldLink "LayerDeskModel" 48 "LayerDeskModel" "requires" "[I") ∈ wT := wT_t (List.mem_append_right _ (List.mem_append_right _ (List.mem_append_right _ (List.mem_append_left _ (List.mem_of_getElem? (i := 101) rfl))))) rfl
theorem xu_15 : (Cond.fieldLink "LayerDeskModel" 63 "LayerDeskModel" "still" "[Z") ∈ wT := wT_t (List.mem_append_right _ (List.mem_append_right _ (List.mem_append_right _ (List.mem_append_left _ (List.mem_of_getElem? (i := 106) rfl))))) rfl
theorem xu_16 : (Cond.fieldLink "LayerDeskModel" 51 "LayerDeskModel" "require" "[I") ∈ wT := wT_t (List.mem_append_right _ (List.mem_append_right _ (List.mem_append_right _ (List.mem_append_left _ (List.mem_of_getElem? (i := 102) rfl))))) rfl
theorem xu_17 : (Cond.fieldLink "LayerDeskModel" 69 "LayerDeskModel" "parent" "[I") ∈ wT := wT_t (List.mem_append_right _ (List.mem_append_right _ (List.mem_append_right _ (List.mem_append_left _ (List.mem_of_getElem? (i := 109) rfl))))) rfl
theorem xu_18 : (Cond.code xy_Mo_lookUp xb_Mo_lookUp 5 (some .int)) ∈ wT := wT_t (List.mem_append_right _ (List.mem_append_right _ (List.mem_append_right _ (List.mem_append_right _ (List.mem_of_getElem? (i := 20) rfl))))) rfl
theorem xu_19 : (Cond.methodLink "LayerDeskModel" 153 xy_Mo_lookUp) ∈ wT := wT_t (List.mem_append_right _ (List.mem_append_right _ (List.mem_append_right _ (List.mem_append_right _ (List.mem_of_getElem? (i := 17) rfl))))) rfl
theorem xu_20 : (Cond.instanceMethod xy_Mo_lookUp) ∈ wT := wT_t (List.mem_append_right _ (List.mem_append_right _ (List.mem_append_right _ (List.mem_append_right _ (List.mem_of_getElem? (i := 19) rfl))))) rfl
theorem xu_21 : (Cond.selects "LayerDeskModel" xy_Mo_lookUp xy_Mo_lookUp) ∈ wT := wT_s (q := (xy_Mo_lookUp, 31)) (by decide +kernel) rfl
set_option maxHeartbeats 4000000 in
set_option maxRecDepth 100000 in
theorem xc_Mo_adds (l : Launch) (D : va_G) (kA : Nat → ClassId) (sz h : Nat) (mm : Nat → Nat) (v : Nat → Int32) (g : Nat → Nat → Int32) (nm : Int32) (nd : Nat) (nl : Nat) (md0 : Nat) (hMI : MI v g) (hnd : v 4 = nI nd) (hnd12 : nd ≤ 12) (hnl : v 5 = nI nl) (hnl5 : nl ≤ 5) (hpn : ∀ la, la < nl + 1 → ∃ lq, lq ≤ la ∧ g 19 la = nI lq - 1) (hmd0 : g 20 nl = nI md0) (hmd012 : md0 ≤ 12) (hND : NDp g nl md0) : Met l xy_Mo_adds (.code xy_Mo_adds xb_Mo_adds 6 (some .boolean) :: wT) { frames := 1, cells := 0, slots := 0, locals := 24 } (va_Pc [.ref h, .int nm] (xPre D kA sz (moW h mm kA v g))) (va_Qi (fun (r : Int32) (u : (Nat → Int32) × (Nat → Nat → Int32)) => u.1 = v ∧ MI v u.2 ∧ (∀ j, j ≠ 20 → j ≠ 21 → j ≠ 23 → u.2 j = g j) ∧ ∃ md1, md0 ≤ md1 ∧ md1 ≤ 12 ∧ u.2 20 nl = nI md1 ∧ NDp u.2 nl md1 ∧ (r = 0 ∨ (r = 1 ∧ (∀ d9, d9 < nd → g 3 d9 = g 18 nl → g 4 d9 = nm → (∀ j, 12 * nl ≤ j → j < 12 * nl + md0 → ¬ g 21 j = nI d9) → md0 < md1)))) (fun (u : (Nat → Int32) × (Nat → Nat → Int32)) t => va_P D xcl (moW h mm kA u.1 u.2) t.heap ∧ va_D (va_A (moW h mm kA v g) sz) (moW h mm kA u.1 u.2)) (va_A (moW h mm kA v g) sz)) 0 0 (va_A (moW h mm kA v g) sz) := by
  refine Met.ofW (cc := xb_Mo_adds) (maxL := 6) (ret := (some .boolean)) (by decide) rfl ?_
  intro p e s m args below meth c s₁ B hml hv
  obtain ⟨rfl, hsz, hP, hK, hD0⟩ := hv
  have hx := B.exec
  have hb := B.bytes
  have hr := B.returns
  have hT := x_hT B.pre
  have hown : s.vm.findClass xR_Mo = some m.cls := findClass_of_methodNamed B.named
  have hlocks := B.notSynchronized
  subst hsz
  have hD := hD0.self (sz := s.heap.size)
  generalize hAe : va_A (moW h mm kA v g) s.heap.size = A at hD ⊢
  have hA : ∀ q : Nat, s.heap.size ≤ q → A q := fun q h => by rw [← hAe]; exact Or.inr h
  have hS : va_S A s.heap s.heap [] := va_S.rf
  have hl := lv_entry ([.ref h, .int nm]) (n := 6) (Nat.le_of_ble_eq_true rfl)
  rw [lg_entry_eq]
  generalize (lg_sl ([.ref h, .int nm]) ++ List.replicate (6 - (lg_sl ([.ref h, .int nm])).length) Slot.unset).toArray = ls at hl ⊢
  have hl : lv_has ls 6 [(0, .ref h), (1, .int nm)] := hl
  have hP : va_P D xcl (moW h mm kA v g) s.heap := hP
  refine lv_aload_n hx hb xd_Mo_adds_0 rfl (lv_at hl 0 rfl) ?_
  refine va_get (D := D) (ci := 4) (v := .int (v 5)) (C := xR_Mo) (T := xT_Mo) (N := 31) hx hb hT xi_Mo hown hK.1 hP 0 rfl rfl 23 (by decide) (hT _ xu_0) (fun _ h9 => h9) rfl xd_Mo_adds_1 ?_
  refine xn_top (x := (v 5)) (y := nI nl) hnl ?_
  refine lv_istore_n hx hb xd_Mo_adds_4 rfl hl (Nat.le_of_ble_eq_true rfl) rfl (fun ls hl => ?_)
  have hl : lv_has ls 6 [(2, .int (nI nl)), (0, .ref h), (1, .int nm)] := hl
  refine lv_iconst (v := 1) hx hb xd_Mo_adds_5 (by decide) ?_
  refine lv_istore_n hx hb xd_Mo_adds_6 rfl hl (Nat.le_of_ble_eq_true rfl) rfl (fun ls hl => ?_)
  have hl : lv_has ls 6 [(3, .int 1), (2, .int (nI nl)), (0, .ref h), (1, .int nm)] := hl
  refine lv_aload_n hx hb xd_Mo_adds_7 rfl (lv_at hl 2 rfl) ?_
  refine va_get (D := D) (ci := 4) (v := .ref (mm 23)) (C := xR_Mo) (T := xT_Mo) (N := 31) hx hb hT xi_Mo hown hK.1 hP 0 rfl rfl 29 (by decide) (hT _ xu_1) (fun _ h9 => h9) rfl xd_Mo_adds_8 ?_
  refine lv_iconst (v := 0) hx hb xd_Mo_adds_11 (by decide) ?_
  refine lv_iload_n hx hb xd_Mo_adds_12 rfl (lv_at hl 3 rfl) ?_
  refine xn_iast (i := 0) hx hb hK.1 hP hD hS 24 0 rfl rfl (by omega) (by decide) xd_Mo_adds_13 (fun H locs hP hD hS => ?_)
  have hP : va_P D xcl (moW h mm kA v (va_up g 23 (upd (g 23) 0 nm))) H := hP
  have hD : va_D A (moW h mm kA v (va_up g 23 (upd (g 23) 0 nm))) := hD
  refine xlab (σ := Nat × Nat × (Nat → Nat → Int32)) (ml := 6) 14 (fun (tp, md9, g1) => [(3, .int (nI tp)), (0, .ref h), (1, .int nm), (2, .int (nI nl))]) (fun (tp, md9, g1) => []) (fun (tp, md9, g1) => moW h mm kA v g1) (fun (tp, md9, g1) => (tp + 5 * (12 - md9) ≤ 61) ∧ (md0 ≤ md9) ∧ (md9 ≤ 12) ∧ (g1 20 nl = nI md9) ∧ (MI v g1) ∧ (∀ j, j ≠ 20 → j ≠ 21 → j ≠ 23 → g1 j = g j) ∧ (NDp g1 nl md9) ∧ ((md9 = md0 ∧ tp = 1 ∧ g1 23 0 = nm ∧ ∀ j, 12 * nl ≤ j → j < 12 * nl + md0 → g1 21 j = g 21 j) ∨ (∀ d9, d9 < nd → g 3 d9 = g 18 nl → g 4 d9 = nm → (∀ j, 12 * nl ≤ j → j < 12 * nl + md0 → ¬ g 21 j = nI d9) → md0 < md9))) (fun (tp, md9, g1) => tp + 6 * (12 - md9)) ?_ (1, md0, (va_up g 23 (upd (g 23) 0 nm))) _ _ _ (lv_sub hl [0, 2, 3, 1] rfl) hP hD hS ⟨(show 1 + 5 * (12 - md0) ≤ 61 from by first | assumption | omega), (show md0 ≤ md0 from by first | assumption | omega), (show md0 ≤ 12 from by first | assumption | omega), (show (va_up g 23 (upd (g 23) 0 nm)) 20 nl = nI md0 from hmd0), (show MI v (va_up g 23 (upd (g 23) 0 nm)) from MI_g rfl rfl rfl rfl rfl rfl rfl rfl hMI), (show ∀ j, j ≠ 20 → j ≠ 21 → j ≠ 23 → (va_up g 23 (upd (g 23) 0 nm)) j = g j from fun j h1 h2 h3 => by simp [va_up, h3]), (show NDp (va_up g 23 (upd (g 23) 0 nm)) nl md0 from hND), (show (md0 = md0 ∧ 1 = 1 ∧ (va_up g 23 (upd (g 23) 0 nm)) 23 0 = nm ∧ ∀ j, 12 * nl ≤ j → j < 12 * nl + md0 → (va_up g 23 (upd (g 23) 0 nm)) 21 j = g 21 j) ∨ (∀ d9, d9 < nd → g 3 d9 = g 18 nl → g 4 d9 = nm → (∀ j, 12 * nl ≤ j → j < 12 * nl + md0 → ¬ g 21 j = nI d9) → md0 < md0) from Or.inl ⟨rfl, rfl, (show upd (g 23) 0 nm 0 = nm from pk_us), fun j h1 h2 => rfl⟩)⟩
  intro n9 ih1 a9 ls H locs hμ hl hP hD hS hI
  subst hμ
  obtain ⟨tp, md9, g1⟩ := a9
  obtain ⟨htp, hmd3, hmd4, hmd9, hM1, hfr, hN1, hgr⟩ := hI
  have htp : tp + 5 * (12 - md9) ≤ 61 := htp
  have hmd3 : md0 ≤ md9 := hmd3
  have hmd4 : md9 ≤ 12 := hmd4
  have hmd9 : g1 20 nl = nI md9 := hmd9
  have hM1 : MI v g1 := hM1
  have hfr : ∀ j, j ≠ 20 → j ≠ 21 → j ≠ 23 → g1 j = g j := hfr
  have hN1 : NDp g1 nl md9 := hN1
  have hgr : (md9 = md0 ∧ tp = 1 ∧ g1 23 0 = nm ∧ ∀ j, 12 * nl ≤ j → j < 12 * nl + md0 → g1 21 j = g 21 j) ∨ (∀ d9, d9 < nd → g 3 d9 = g 18 nl → g 4 d9 = nm → (∀ j, 12 * nl ≤ j → j < 12 * nl + md0 → ¬ g 21 j = nI d9) → md0 < md9) := hgr
  obtain ⟨-, -, -, -, hrq1, hmd1, huq⟩ := id hM1
  have hpar1 : ∀ la, la < nl + 1 → ∃ lq, lq ≤ la ∧ g1 19 la = nI lq - 1 := fun la h => by rw [hfr 19 (by decide) (by decide) (by decide)]; exact hpn la h
  have hl : lv_has ls 6 [(3, .int (nI tp)), (0, .ref h), (1, .int nm), (2, .int (nI nl))] := hl
  have hP : va_P D xcl (moW h mm kA v g1) H := hP
  have hD : va_D A (moW h mm kA v g1) := hD
  refine lv_iload_n hx hb xd_Mo_adds_14 rfl (lv_at hl 0 rfl) ?_
  refine xz_le (a := tp) (tgt := 163) hx hb xd_Mo_adds_15 (by decide) (by omega) (fun hc2 => ?_) (fun hc2 => ?_)
  · refine lv_iconst (v := 1) hx hb xd_Mo_adds_163 (by decide) ?_
    exact W.zret (v := 1) hx hb hr rfl (fun t ht hW => ⟨⟨1, (v, g1), rfl, ⟨rfl, hM1, hfr, md9, by omega, by omega, hmd9, hN1, Or.inr ⟨rfl, by
      rcases hgr with ⟨q1, q2, q3, q4⟩ | hgr
      · omega
      · exact hgr⟩⟩, by rw [ht]; exact hP, hD⟩, hS.F ht⟩) hS.2.2 xd_Mo_adds_164
  · refine lv_iinc (k := 0) (x := (nI tp)) (v := (nI (tp - 1))) hx hb xd_Mo_adds_18 hl rfl (xb_m1 (i := tp) (by omega)) (Nat.le_of_ble_eq_true rfl) rfl (fun ls hl => ?_)
    have hl : lv_has ls 6 [(3, .int (nI (tp - 1))), (0, .ref h), (1, .int nm), (2, .int (nI nl))] := hl
    refine lv_aload_n hx hb xd_Mo_adds_21 rfl (lv_at hl 1 rfl) ?_
    refine lv_aload_n hx hb xd_Mo_adds_22 rfl (lv_at hl 1 rfl) ?_
    refine va_get (D := D) (ci := 4) (v := .ref (mm 18)) (C := xR_Mo) (T := xT_Mo) (N := 31) hx hb hT xi_Mo hown hK.1 hP 0 rfl rfl 24 (by decide) (hT _ xu_2) (fun _ h9 => h9) rfl xd_Mo_adds_23 ?_
    refine lv_iload_n hx hb xd_Mo_adds_26 rfl (lv_at hl 3 rfl) ?_
    refine xn_iald (i := nl) hx hb hK.1 hP 19 0 rfl rfl (by omega) (by decide) xd_Mo_adds_27 ?_
    refine lv_aload_n hx hb xd_Mo_adds_28 rfl (lv_at hl 1 rfl) ?_
    refine va_get (D := D) (ci := 4) (v := .ref (mm 23)) (C := xR_Mo) (T := xT_Mo) (N := 31) hx hb hT xi_Mo hown hK.1 hP 0 rfl rfl 29 (by decide) (hT _ xu_1) (fun _ h9 => h9) rfl xd_Mo_adds_29 ?_
    refine lv_iload_n hx hb xd_Mo_adds_32 rfl (lv_at hl 0 rfl) ?_
    refine xn_iald (i := tp - 1) hx hb hK.1 hP 24 0 rfl rfl (by omega) (by decide) xd_Mo_adds_33 ?_
    have hFc := va_free (wc := (moW h mm kA v g1)) hD hS hA [0, 1, 2, 3, 4, 5, 6, 7, 8, 9, 10, 11, 12, 13, 14, 15, 16, 17, 18, 19, 20, 21, 22, 23, 24, 25] rfl
    refine va_calli (va_runV (As := [.int (g1 18 nl), .int (g1 23 (tp - 1))]) (rest := []) ⟨hx, hb, hml, hown, hT⟩ (xc_Mo_descriptorOf l D kA H.size h mm v g1 (g1 18 nl) (g1 23 (tp - 1)) nd (by first | assumption | omega) (by first | assumption | omega)) (cwV 2 hT (wT_V xu_4 xu_5 xu_6 xu_7 xu_3) rfl rfl rfl (by decide +kernel) ⟨Nat.le_of_ble_eq_true rfl, Nat.le_of_ble_eq_true rfl⟩) (x_preV hK hP hD 0 rfl rfl) rfl rfl hl.1 rfl (lv_room (Nat.le_of_ble_eq_true rfl)) xd_Mo_adds_34 ⟨Nat.le_of_ble_eq_true rfl, Nat.le_of_ble_eq_true rfl⟩) hS (fun q _ h => hFc q h) hFc (fun r3 u4 t H1 locs ht hvm hp5 hB hz1 hk1 hS => ?_)
    obtain ⟨hP1, hD1⟩ := hB
    rw [ht] at hP1
    have hD1 := hD1.weaken (fun _ _ _ h => hFc _ h)
    generalize H1 = H at hP1 hS ⊢
    have hP := hP1
    have hD := hD1
    have hP : va_P D xcl (moW h mm kA v g1) H := hP
    have hD : va_D A (moW h mm kA v g1) := hD
    rcases hp5 with ⟨z6, z7, rfl, z8, z9, z10⟩ | ⟨rfl, z11⟩
    · refine lv_istore hx hb xd_Mo_adds_37 hl (Nat.le_of_ble_eq_true rfl) rfl (fun ls hl => ?_)
      have hl : lv_has ls 6 [(4, .int (nI z6)), (3, .int (nI (tp - 1))), (0, .ref h), (1, .int nm), (2, .int (nI nl))] := hl
      refine lv_iload hx hb xd_Mo_adds_39 (lv_at hl 0 rfl) ?_
      refine xz_ge (a := z6) (tgt := 65) hx hb xd_Mo_adds_41 (by decide) (by omega) ?_
      refine lv_aload_n hx hb xd_Mo_adds_65 rfl (lv_at hl 2 rfl) ?_
      refine lv_iload_n hx hb xd_Mo_adds_66 rfl (lv_at hl 4 rfl) ?_
      refine lv_iload hx hb xd_Mo_adds_67 (lv_at hl 0 rfl) ?_
      have hFc := va_free (wc := (moW h mm kA v g1)) hD hS hA [0, 1, 2, 3, 4, 5, 6, 7, 8, 9, 10, 11, 12, 13, 14, 15, 16, 17, 18, 19, 20, 21, 22, 23, 24, 25] rfl
      refine va_calli (va_runV (As := [.int (nI nl), .int (nI z6)]) (rest := []) ⟨hx, hb, hml, hown, hT⟩ (xc_Mo_isIn l D kA H.size h mm v g1 nl (nI z6) md9 (by first | assumption | omega) (by first | assumption | omega) (by first | assumption | omega)) (cwV 2 hT (wT_V xu_9 xu_10 xu_11 xu_7 xu_8) rfl rfl rfl (by decide +kernel) ⟨Nat.le_of_ble_eq_true rfl, Nat.le_of_ble_eq_true rfl⟩) (x_preV hK hP hD 0 rfl rfl) rfl rfl hl.1 rfl (lv_room (Nat.le_of_ble_eq_true rfl)) xd_Mo_adds_69 ⟨Nat.le_of_ble_eq_true rfl, Nat.le_of_ble_eq_true rfl⟩) hS (fun q _ h => hFc q h) hFc (fun r13 u14 t H1 locs ht hvm hp15 hB hz1 hk1 hS => ?_)
      obtain ⟨hP1, hD1⟩ := hB
      rw [ht] at hP1
      have hD1 := hD1.weaken (fun _ _ _ h => hFc _ h)
      generalize H1 = H at hP1 hS ⊢
      have hP := hP1
      have hD := hD1
      have hP : va_P D xcl (moW h mm kA v g1) H := hP
      have hD : va_D A (moW h mm kA v g1) := hD
      rcases hp15 with ⟨rfl, z16, z17, z18, z19⟩ | ⟨rfl, z20⟩
      · refine xz_ne (a := 1) (tgt := 160) hx hb xd_Mo_adds_72 (by decide) (by omega) (fun _ => ?_) (fun hc21 => absurd hc21 (by omega))
        refine lv_goto (tgt := 14) hx hb xd_Mo_adds_160 (by decide) ?_
        exact ih1 (tp - 1, md9, g1) _ _ _ (show (tp - 1) + 6 * (12 - md9) < tp + 6 * (12 - md9) by omega) (lv_sub hl [1, 2, 3, 4] rfl) hP hD hS ⟨(show (tp - 1) + 5 * (12 - md9) ≤ 61 from by first | assumption | omega), (show md0 ≤ md9 from by first | assumption | omega), (show md9 ≤ 12 from by first | assumption | omega), (show g1 20 nl = nI md9 from hmd9), (show MI v g1 from hM1), (show ∀ j, j ≠ 20 → j ≠ 21 → j ≠ 23 → g1 j = g j from hfr), (show NDp g1 nl md9 from hN1), (show (md9 = md0 ∧ (tp - 1) = 1 ∧ g1 23 0 = nm ∧ ∀ j, 12 * nl ≤ j → j < 12 * nl + md0 → g1 21 j = g 21 j) ∨ (∀ d9, d9 < nd → g 3 d9 = g 18 nl → g 4 d9 = nm → (∀ j, 12 * nl ≤ j → j < 12 * nl + md0 → ¬ g 21 j = nI d9) → md0 < md9) from Or.inr (fun d9 h1 h2 h3 h4 => by
      rcases hgr with ⟨q1, q2, q3, q4⟩ | hgr
      · have e3 : g1 3 d9 = g1 3 z6 := by rw [z8, hfr 3 (by decide) (by decide) (by decide), hfr 18 (by decide) (by decide) (by decide)]; exact h2
        have e4 : g1 4 d9 = g1 4 z6 := by rw [z9, hfr 4 (by decide) (by decide) (by decide), q2]; exact h3.trans q3.symm
        have ek : d9 = z6 := huq nd hnd hnd12 d9 z6 h1 (by omega) e3 e4
        subst ek
        exact absurd (by rw [← q4 z16 z17 (by omega)]; exact z19) (h4 z16 z17 (by omega))
      · exact hgr d9 h1 h2 h3 h4))⟩
      · refine xz_ne (a := 0) (tgt := 160) hx hb xd_Mo_adds_72 (by decide) (by omega) (fun hc22 => absurd hc22 (by omega)) (fun _ => ?_)
        have hlt12 : md9 < 12 := by
          obtain ⟨k9, h1, h2, h3⟩ := hmd1 nl (by omega)
          rw [hmd9] at h2
          have h4 := (nI_eq (by rw [xb_31]; omega) (by rw [xb_31]; omega)).mp h2
          subst h4
          exact x_room h1 h3 hN1 (d := z6) (by omega) z20
        obtain ⟨rq1, hrq2, erq1⟩ := hrq1 z6 (by omega)
        refine lv_aload_n hx hb xd_Mo_adds_75 rfl (lv_at hl 2 rfl) ?_
        refine va_get (D := D) (ci := 4) (v := .ref (mm 21)) (C := xR_Mo) (T := xT_Mo) (N := 31) hx hb hT xi_Mo hown hK.1 hP 0 rfl rfl 27 (by decide) (hT _ xu_12) (fun _ h9 => h9) rfl xd_Mo_adds_76 ?_
        refine lv_bipush (v := 12) hx hb xd_Mo_adds_79 (by decide) ?_
        refine lv_iload_n hx hb xd_Mo_adds_81 rfl (lv_at hl 4 rfl) ?_
        refine lv_imul hx hb xd_Mo_adds_82 ?_
        refine xn_top (y := nI (12 * nl)) (pk_mul 12 nl) ?_
        refine lv_aload_n hx hb xd_Mo_adds_83 rfl (lv_at hl 2 rfl) ?_
        refine va_get (D := D) (ci := 4) (v := .ref (mm 20)) (C := xR_Mo) (T := xT_Mo) (N := 31) hx hb hT xi_Mo hown hK.1 hP 0 rfl rfl 26 (by decide) (hT _ xu_13) (fun _ h9 => h9) rfl xd_Mo_adds_84 ?_
        refine lv_iload_n hx hb xd_Mo_adds_87 rfl (lv_at hl 4 rfl) ?_
        refine xn_iald (i := nl) hx hb hK.1 hP 21 0 rfl rfl (by omega) (by decide) xd_Mo_adds_88 ?_
        refine xn_top (x := (g1 20 nl)) (y := nI md9) hmd9 ?_
        refine lv_iadd hx hb xd_Mo_adds_89 ?_
        refine xn_top (y := nI ((12 * nl) + md9)) (nI_add (12 * nl) md9) ?_
        refine lv_iload hx hb xd_Mo_adds_90 (lv_at hl 0 rfl) ?_
        refine xn_iast (i := (12 * nl) + md9) hx hb hK.1 hP hD hS 22 0 rfl rfl (by omega) (by decide) xd_Mo_adds_92 (fun H locs hP hD hS => ?_)
        have hP : va_P D xcl (moW h mm kA v (va_up g1 21 (upd (g1 21) ((12 * nl) + md9) (nI z6)))) H := hP
        have hD : va_D A (moW h mm kA v (va_up g1 21 (upd (g1 21) ((12 * nl) + md9) (nI z6)))) := hD
        refine lv_aload_n hx hb xd_Mo_adds_93 rfl (lv_at hl 2 rfl) ?_
        refine va_get (D := D) (ci := 4) (v := .ref (mm 20)) (C := xR_Mo) (T := xT_Mo) (N := 31) hx hb hT xi_Mo hown hK.1 hP 0 rfl rfl 26 (by decide) (hT _ xu_13) (fun _ h9 => h9) rfl xd_Mo_adds_94 ?_
        refine lv_iload_n hx hb xd_Mo_adds_97 rfl (lv_at hl 4 rfl) ?_
        refine lv_dup2_11 hx hb xd_Mo_adds_98 rfl rfl ?_
        refine xn_iald (i := nl) hx hb hK.1 hP 21 0 rfl rfl (by omega) (by decide) xd_Mo_adds_99 ?_
        refine xn_top (x := (g1 20 nl)) (y := nI md9) hmd9 ?_
        refine lv_iconst (v := 1) hx hb xd_Mo_adds_100 (by decide) ?_
        refine lv_iadd hx hb xd_Mo_adds_101 ?_
        refine xn_top (y := nI (md9 + 1)) (nI_add md9 1) ?_
        refine xn_iast (i := nl) hx hb hK.1 hP hD hS 21 0 rfl rfl (by omega) (by decide) xd_Mo_adds_102 (fun H locs hP hD hS => ?_)
        have hP : va_P D xcl (moW h mm kA v (va_up (va_up g1 20 (upd (g1 20) nl (nI (md9 + 1)))) 21 (upd (g1 21) ((12 * nl) + md9) (nI z6)))) H := hP
        have hD : va_D A (moW h mm kA v (va_up (va_up g1 20 (upd (g1 20) nl (nI (md9 + 1)))) 21 (upd (g1 21) ((12 * nl) + md9) (nI z6)))) := hD
        refine lv_iconst (v := 5) hx hb xd_Mo_adds_103 (by decide) ?_
        refine lv_iload hx hb xd_Mo_adds_104 (lv_at hl 0 rfl) ?_
        refine lv_imul hx hb xd_Mo_adds_106 ?_
        refine xn_top (y := nI (5 * z6)) (pk_mul 5 z6) ?_
        refine lv_aload_n hx hb xd_Mo_adds_107 rfl (lv_at hl 2 rfl) ?_
        refine va_get (D := D) (ci := 4) (v := .ref (mm 12)) (C := xR_Mo) (T := xT_Mo) (N := 31) hx hb hT xi_Mo hown hK.1 hP 0 rfl rfl 17 (by decide) (hT _ xu_14) (fun _ h9 => h9) rfl xd_Mo_adds_108 ?_
        refine lv_iload hx hb xd_Mo_adds_111 (lv_at hl 0 rfl) ?_
        refine xn_iald (i := z6) hx hb hK.1 hP 13 0 rfl rfl (by omega) (by decide) xd_Mo_adds_113 ?_
        refine xn_top (x := (g1 12 z6)) (y := nI rq1) erq1 ?_
        refine lv_iadd hx hb xd_Mo_adds_114 ?_
        refine xn_top (y := nI ((5 * z6) + rq1)) (nI_add (5 * z6) rq1) ?_
        refine lv_iconst (v := 1) hx hb xd_Mo_adds_115 (by decide) ?_
        refine lv_isub hx hb xd_Mo_adds_116 ?_
        refine lv_istore hx hb xd_Mo_adds_117 hl (Nat.le_of_ble_eq_true rfl) rfl (fun ls hl => ?_)
        have hl : lv_has ls 6 [(5, .int (nI ((5 * z6) + rq1) - 1)), (4, .int (nI z6)), (3, .int (nI (tp - 1))), (0, .ref h), (1, .int nm), (2, .int (nI nl))] := hl
        refine xlab (σ := Nat × Nat × (Nat → Int32)) (ml := 6) 119 (fun (kk, tp2, f23) => [(5, .int (nI kk - 1)), (3, .int (nI tp2)), (4, .int (nI z6)), (2, .int (nI nl)), (0, .ref h), (1, .int nm)]) (fun (kk, tp2, f23) => []) (fun (kk, tp2, f23) => moW h mm kA v (va_up (va_up (va_up g1 20 (upd (g1 20) nl (nI (md9 + 1)))) 21 (upd (g1 21) ((12 * nl) + md9) (nI z6))) 23 f23)) (fun (kk, tp2, f23) => (5 * z6 ≤ kk) ∧ (kk ≤ 5 * z6 + rq1) ∧ (tp2 + kk ≤ tp - 1 + (5 * z6 + rq1))) (fun (kk, tp2, f23) => kk) ?_ (((5 * z6) + rq1), tp - 1, (g1 23)) _ _ _ (lv_sub hl [0, 2, 1, 5, 3, 4] rfl) hP hD hS ⟨(show 5 * z6 ≤ ((5 * z6) + rq1) from by first | assumption | omega), (show ((5 * z6) + rq1) ≤ 5 * z6 + rq1 from by first | assumption | omega), (show (tp - 1) + ((5 * z6) + rq1) ≤ tp - 1 + (5 * z6 + rq1) from by first | assumption | omega)⟩
        intro n9 ih23 a9 ls H locs hμ hl hP hD hS hI
        subst hμ
        obtain ⟨kk, tp2, f23⟩ := a9
        obtain ⟨hkk1, hkk2, htp2⟩ := hI
        have hkk1 : 5 * z6 ≤ kk := hkk1
        have hkk2 : kk ≤ 5 * z6 + rq1 := hkk2
        have htp2 : tp2 + kk ≤ tp - 1 + (5 * z6 + rq1) := htp2
        have hl : lv_has ls 6 [(5, .int (nI kk - 1)), (3, .int (nI tp2)), (4, .int (nI z6)), (2, .int (nI nl)), (0, .ref h), (1, .int nm)] := hl
        have hP : va_P D xcl (moW h mm kA v (va_up (va_up (va_up g1 20 (upd (g1 20) nl (nI (md9 + 1)))) 21 (upd (g1 21) ((12 * nl) + md9) (nI z6))) 23 f23)) H := hP
        have hD : va_D A (moW h mm kA v (va_up (va_up (va_up g1 20 (upd (g1 20) nl (nI (md9 + 1)))) 21 (upd (g1 21) ((12 * nl) + md9) (nI z6))) 23 f23)) := hD
        rcases Nat.lt_or_ge (5 * z6) kk with hz5 | hz5
        · have e5 : nI kk - 1 = nI (kk - 1) := pk_sub (a := kk) (b := 1) (by omega)
          rw [e5] at hl
          refine lv_iload hx hb xd_Mo_adds_119 (lv_at hl 0 rfl) ?_
          refine lv_iconst (v := 5) hx hb xd_Mo_adds_121 (by decide) ?_
          refine lv_iload hx hb xd_Mo_adds_122 (lv_at hl 2 rfl) ?_
          refine lv_imul hx hb xd_Mo_adds_124 ?_
          refine xn_top (y := nI (5 * z6)) (pk_mul 5 z6) ?_
          refine xn_lt (a := kk - 1) (b := 5 * z6) (tgt := 160) hx hb xd_Mo_adds_125 (by decide) (by omega) (by omega) (fun hc24 => absurd hc24 (by omega)) (fun _ => ?_)
          refine lv_aload_n hx hb xd_Mo_adds_128 rfl (lv_at hl 4 rfl) ?_
          refine va_get (D := D) (ci := 4) (v := .ref (mm 17)) (C := xR_Mo) (T := xT_Mo) (N := 31) hx hb hT xi_Mo hown hK.1 hP 0 rfl rfl 22 (by decide) (hT _ xu_15) (fun _ h9 => h9) rfl xd_Mo_adds_129 ?_
          refine lv_iload hx hb xd_Mo_adds_132 (lv_at hl 0 rfl) ?_
          refine xn_zald (i := kk - 1) hx hb hK.1 hP 18 2 rfl rfl (by omega) (by decide) xd_Mo_adds_134 ?_
          refine lv_if_ne (tgt := 154) hx hb xd_Mo_adds_135 (by decide) (fun hc25 => ?_) (fun hc25 => ?_)
          · refine lv_iinc (k := 0) (x := (nI (kk - 1))) (v := (nI (kk - 1) - 1)) hx hb xd_Mo_adds_154 hl rfl (by rw [Int32.sub_eq_add_neg]; rfl) (Nat.le_of_ble_eq_true rfl) rfl (fun ls hl => ?_)
            have hl : lv_has ls 6 [(5, .int (nI (kk - 1) - 1)), (3, .int (nI tp2)), (4, .int (nI z6)), (2, .int (nI nl)), (0, .ref h), (1, .int nm)] := hl
            refine lv_goto (tgt := 119) hx hb xd_Mo_adds_157 (by decide) ?_
            exact ih23 ((kk - 1), tp2, f23) _ _ _ (show (kk - 1) < kk by omega) (lv_sub hl [0, 1, 2, 3, 4, 5] rfl) hP hD hS ⟨(show 5 * z6 ≤ (kk - 1) from by first | assumption | omega), (show (kk - 1) ≤ 5 * z6 + rq1 from by first | assumption | omega), (show tp2 + (kk - 1) ≤ tp - 1 + (5 * z6 + rq1) from by first | assumption | omega)⟩
          · refine lv_aload_n hx hb xd_Mo_adds_138 rfl (lv_at hl 4 rfl) ?_
            refine va_get (D := D) (ci := 4) (v := .ref (mm 23)) (C := xR_Mo) (T := xT_Mo) (N := 31) hx hb hT xi_Mo hown hK.1 hP 0 rfl rfl 29 (by decide) (hT _ xu_1) (fun _ h9 => h9) rfl xd_Mo_adds_139 ?_
            refine lv_iload_n hx hb xd_Mo_adds_142 rfl (lv_at hl 1 rfl) ?_
            refine lv_aload_n hx hb xd_Mo_adds_143 rfl (lv_at hl 4 rfl) ?_
            refine va_get (D := D) (ci := 4) (v := .ref (mm 13)) (C := xR_Mo) (T := xT_Mo) (N := 31) hx hb hT xi_Mo hown hK.1 hP 0 rfl rfl 18 (by decide) (hT _ xu_16) (fun _ h9 => h9) rfl xd_Mo_adds_144 ?_
            refine lv_iload hx hb xd_Mo_adds_147 (lv_at hl 0 rfl) ?_
            refine xn_iald (i := kk - 1) hx hb hK.1 hP 14 0 rfl rfl (by omega) (by decide) xd_Mo_adds_149 ?_
            refine xn_iast (i := tp2) hx hb hK.1 hP hD hS 24 0 rfl rfl (by omega) (by decide) xd_Mo_adds_150 (fun H locs hP hD hS => ?_)
            have hP : va_P D xcl (moW h mm kA v (va_up (va_up (va_up g1 20 (upd (g1 20) nl (nI (md9 + 1)))) 21 (upd (g1 21) ((12 * nl) + md9) (nI z6))) 23 (upd f23 tp2 (g1 13 (kk - 1))))) H := hP
            have hD : va_D A (moW h mm kA v (va_up (va_up (va_up g1 20 (upd (g1 20) nl (nI (md9 + 1)))) 21 (upd (g1 21) ((12 * nl) + md9) (nI z6))) 23 (upd f23 tp2 (g1 13 (kk - 1))))) := hD
            refine lv_iinc (k := 1) (x := (nI tp2)) (v := (nI (tp2 + 1))) hx hb xd_Mo_adds_151 hl rfl (xb_inc tp2 1) (Nat.le_of_ble_eq_true rfl) rfl (fun ls hl => ?_)
            have hl : lv_has ls 6 [(3, .int (nI (tp2 + 1))), (5, .int (nI (kk - 1))), (4, .int (nI z6)), (2, .int (nI nl)), (0, .ref h), (1, .int nm)] := hl
            refine lv_iinc (k := 1) (x := (nI (kk - 1))) (v := (nI (kk - 1) - 1)) hx hb xd_Mo_adds_154 hl rfl (by rw [Int32.sub_eq_add_neg]; rfl) (Nat.le_of_ble_eq_true rfl) rfl (fun ls hl => ?_)
            have hl : lv_has ls 6 [(5, .int (nI (kk - 1) - 1)), (3, .int (nI (tp2 + 1))), (4, .int (nI z6)), (2, .int (nI nl)), (0, .ref h), (1, .int nm)] := hl
            refine lv_goto (tgt := 119) hx hb xd_Mo_adds_157 (by decide) ?_
            exact ih23 ((kk - 1), tp2 + 1, (upd f23 tp2 (g1 13 (kk - 1)))) _ _ _ (show (kk - 1) < kk by omega) (lv_sub hl [0, 1, 2, 3, 4, 5] rfl) hP hD hS ⟨(show 5 * z6 ≤ (kk - 1) from by first | assumption | omega), (show (kk - 1) ≤ 5 * z6 + rq1 from by first | assumption | omega), (show (tp2 + 1) + (kk - 1) ≤ tp - 1 + (5 * z6 + rq1) from by first | assumption | omega)⟩
        · refine lv_iload hx hb xd_Mo_adds_119 (lv_at hl 0 rfl) ?_
          refine lv_iconst (v := 5) hx hb xd_Mo_adds_121 (by decide) ?_
          refine lv_iload hx hb xd_Mo_adds_122 (lv_at hl 2 rfl) ?_
          refine lv_imul hx hb xd_Mo_adds_124 ?_
          refine xn_top (y := nI (5 * z6)) (pk_mul 5 z6) ?_
          refine lv_icmp_lt (tgt := 160) hx hb xd_Mo_adds_125 (by decide) (fun _ => ?_) (fun hc26 => absurd (xb_predlt hz5 (by omega)) hc26)
          refine lv_goto (tgt := 14) hx hb xd_Mo_adds_160 (by decide) ?_
          exact ih1 (tp2, md9 + 1, (va_up (va_up (va_up g1 20 (upd (g1 20) nl (nI (md9 + 1)))) 21 (upd (g1 21) ((12 * nl) + md9) (nI z6))) 23 f23)) _ _ _ (show tp2 + 6 * (12 - (md9 + 1)) < tp + 6 * (12 - md9) by omega) (lv_sub hl [1, 4, 5, 3] rfl) hP hD hS ⟨(show tp2 + 5 * (12 - (md9 + 1)) ≤ 61 from by first | assumption | omega), (show md0 ≤ (md9 + 1) from by first | assumption | omega), (show (md9 + 1) ≤ 12 from by first | assumption | omega), (show (va_up (va_up (va_up g1 20 (upd (g1 20) nl (nI (md9 + 1)))) 21 (upd (g1 21) ((12 * nl) + md9) (nI z6))) 23 f23) 20 nl = nI (md9 + 1) from pk_us), (show MI v (va_up (va_up (va_up g1 20 (upd (g1 20) nl (nI (md9 + 1)))) 21 (upd (g1 21) ((12 * nl) + md9) (nI z6))) 23 f23) from MI_g (g := va_up (va_up g1 20 (upd (g1 20) nl (nI (md9 + 1)))) 21 (upd (g1 21) (12 * nl + md9) (nI z6))) rfl rfl rfl rfl rfl rfl rfl rfl (MI_add (by omega) hmd9 hlt12 (by omega) hM1)), (show ∀ j, j ≠ 20 → j ≠ 21 → j ≠ 23 → (va_up (va_up (va_up g1 20 (upd (g1 20) nl (nI (md9 + 1)))) 21 (upd (g1 21) ((12 * nl) + md9) (nI z6))) 23 f23) j = g j from fun j h1 h2 h3 => by rw [← hfr j h1 h2 h3]; simp [va_up, h1, h2, h3]), (show NDp (va_up (va_up (va_up g1 20 (upd (g1 20) nl (nI (md9 + 1)))) 21 (upd (g1 21) ((12 * nl) + md9) (nI z6))) 23 f23) nl (md9 + 1) from ND_add (f20 := upd (g1 20) nl (nI (md9 + 1))) hN1 z20), (show ((md9 + 1) = md0 ∧ tp2 = 1 ∧ (va_up (va_up (va_up g1 20 (upd (g1 20) nl (nI (md9 + 1)))) 21 (upd (g1 21) ((12 * nl) + md9) (nI z6))) 23 f23) 23 0 = nm ∧ ∀ j, 12 * nl ≤ j → j < 12 * nl + md0 → (va_up (va_up (va_up g1 20 (upd (g1 20) nl (nI (md9 + 1)))) 21 (upd (g1 21) ((12 * nl) + md9) (nI z6))) 23 f23) 21 j = g 21 j) ∨ (∀ d9, d9 < nd → g 3 d9 = g 18 nl → g 4 d9 = nm → (∀ j, 12 * nl ≤ j → j < 12 * nl + md0 → ¬ g 21 j = nI d9) → md0 < (md9 + 1)) from Or.inr (fun d9 h1 h2 h3 h4 => by omega))⟩
    · refine lv_istore hx hb xd_Mo_adds_37 hl (Nat.le_of_ble_eq_true rfl) rfl (fun ls hl => ?_)
      have hl : lv_has ls 6 [(4, .int (-1)), (3, .int (nI (tp - 1))), (0, .ref h), (1, .int nm), (2, .int (nI nl))] := hl
      refine lv_iload hx hb xd_Mo_adds_39 (lv_at hl 0 rfl) ?_
      refine lv_if_ge (tgt := 65) hx hb xd_Mo_adds_41 (by decide) (fun hc27 => absurd hc27 (by decide)) (fun _ => ?_)
      refine lv_aload_n hx hb xd_Mo_adds_44 rfl (lv_at hl 2 rfl) ?_
      refine lv_aload_n hx hb xd_Mo_adds_45 rfl (lv_at hl 2 rfl) ?_
      refine va_get (D := D) (ci := 4) (v := .ref (mm 19)) (C := xR_Mo) (T := xT_Mo) (N := 31) hx hb hT xi_Mo hown hK.1 hP 0 rfl rfl 25 (by decide) (hT _ xu_17) (fun _ h9 => h9) rfl xd_Mo_adds_46 ?_
      refine lv_iload_n hx hb xd_Mo_adds_49 rfl (lv_at hl 4 rfl) ?_
      refine xn_iald (i := nl) hx hb hK.1 hP 20 0 rfl rfl (by omega) (by decide) xd_Mo_adds_50 ?_
      obtain ⟨q28, hq29, eq30⟩ := hpar1 nl (by omega)
      refine xn_top (x := (g1 19 nl)) eq30 ?_
      refine lv_aload_n hx hb xd_Mo_adds_51 rfl (lv_at hl 2 rfl) ?_
      refine va_get (D := D) (ci := 4) (v := .ref (mm 23)) (C := xR_Mo) (T := xT_Mo) (N := 31) hx hb hT xi_Mo hown hK.1 hP 0 rfl rfl 29 (by decide) (hT _ xu_1) (fun _ h9 => h9) rfl xd_Mo_adds_52 ?_
      refine lv_iload_n hx hb xd_Mo_adds_55 rfl (lv_at hl 1 rfl) ?_
      refine xn_iald (i := tp - 1) hx hb hK.1 hP 24 0 rfl rfl (by omega) (by decide) xd_Mo_adds_56 ?_
      have hFc := va_free (wc := (moW h mm kA v g1)) hD hS hA [0, 1, 2, 3, 4, 5, 6, 7, 8, 9, 10, 11, 12, 13, 14, 15, 16, 17, 18, 19, 20, 21, 22, 23, 24, 25] rfl
      refine va_calli (va_runV (As := [.int (nI q28 - 1), .int (g1 23 (tp - 1))]) (rest := []) ⟨hx, hb, hml, hown, hT⟩ (xc_Mo_lookUp l D kA H.size h mm v g1 q28 (g1 23 (tp - 1)) (nl + 1) (by first | assumption | omega) hpar1 (by first | assumption | omega) hmd1) (cwV 2 hT (wT_V xu_19 xu_20 xu_21 xu_7 xu_18) rfl rfl rfl (by decide +kernel) ⟨Nat.le_of_ble_eq_true rfl, Nat.le_of_ble_eq_true rfl⟩) (x_preV hK hP hD 0 rfl rfl) rfl rfl hl.1 rfl (lv_room (Nat.le_of_ble_eq_true rfl)) xd_Mo_adds_57 ⟨Nat.le_of_ble_eq_true rfl, Nat.le_of_ble_eq_true rfl⟩) hS (fun q _ h => hFc q h) hFc (fun r31 u32 t H1 locs ht hvm hp33 hB hz1 hk1 hS => ?_)
      obtain ⟨hP1, hD1⟩ := hB
      rw [ht] at hP1
      have hD1 := hD1.weaken (fun _ _ _ h => hFc _ h)
      generalize H1 = H at hP1 hS ⊢
      have hP := hP1
      have hD := hD1
      have hP : va_P D xcl (moW h mm kA v g1) H := hP
      have hD : va_D A (moW h mm kA v g1) := hD
      rcases hp33 with rfl | ⟨z34, z35, z36, z37, rfl⟩
      · refine lv_if_ge (tgt := 160) hx hb xd_Mo_adds_60 (by decide) (fun hc38 => absurd hc38 (by decide)) (fun _ => ?_)
        refine lv_iconst (v := 0) hx hb xd_Mo_adds_63 (by decide) ?_
        exact W.zret (v := 0) hx hb hr rfl (fun t ht hW => ⟨⟨0, (v, g1), rfl, ⟨rfl, hM1, hfr, md9, by omega, by omega, hmd9, hN1, Or.inl rfl⟩, by rw [ht]; exact hP, hD⟩, hS.F ht⟩) hS.2.2 xd_Mo_adds_64
      · refine xz_ge (a := 12 * z34 + z35) (tgt := 160) hx hb xd_Mo_adds_60 (by decide) (by omega) ?_
        refine lv_goto (tgt := 14) hx hb xd_Mo_adds_160 (by decide) ?_
        exact ih1 (tp - 1, md9, g1) _ _ _ (show (tp - 1) + 6 * (12 - md9) < tp + 6 * (12 - md9) by omega) (lv_sub hl [1, 2, 3, 4] rfl) hP hD hS ⟨(show (tp - 1) + 5 * (12 - md9) ≤ 61 from by first | assumption | omega), (show md0 ≤ md9 from by first | assumption | omega), (show md9 ≤ 12 from by first | assumption | omega), (show g1 20 nl = nI md9 from hmd9), (show MI v g1 from hM1), (show ∀ j, j ≠ 20 → j ≠ 21 → j ≠ 23 → g1 j = g j from hfr), (show NDp g1 nl md9 from hN1), (show (md9 = md0 ∧ (tp - 1) = 1 ∧ g1 23 0 = nm ∧ ∀ j, 12 * nl ≤ j → j < 12 * nl + md0 → g1 21 j = g 21 j) ∨ (∀ d9, d9 < nd → g 3 d9 = g 18 nl → g 4 d9 = nm → (∀ j, 12 * nl ≤ j → j < 12 * nl + md0 → ¬ g 21 j = nI d9) → md0 < md9) from Or.inr (fun d9 h1 h2 h3 h4 => by
      rcases hgr with ⟨q1, q2, q3, q4⟩ | hgr
      · exact absurd ⟨by rw [hfr 3 (by decide) (by decide) (by decide), hfr 18 (by decide) (by decide) (by decide)]; exact h2, by rw [hfr 4 (by decide) (by decide) (by decide), q2]; exact h3.trans q3.symm⟩ (z11 d9 h1)
      · exact hgr d9 h1 h2 h3 h4))⟩
