abbrev xb_Mo_bindsFor : ByteArray := prog_12_method_23_code
def xy_Mo_bindsFor : MethodName := ⟨"LayerDeskModel", "bindsFor", "(I)Z"⟩
theorem xd_Mo_bindsFor_0 : decode xb_Mo_bindsFor 0 = .ok (.aload_n 0, 1) := by decide +kernel
theorem xd_Mo_bindsFor_1 : decode xb_Mo_bindsFor 1 = .ok (.getfield 150, 3) := by decide +kernel
theorem xd_Mo_bindsFor_4 : decode xb_Mo_bindsFor 4 = .ok (.istore_n 2, 1) := by decide +kernel
theorem xd_Mo_bindsFor_5 : decode xb_Mo_bindsFor 5 = .ok (.iconst 0, 1) := by decide +kernel
theorem xd_Mo_bindsFor_6 : decode xb_Mo_bindsFor 6 = .ok (.istore_n 3, 1) := by decide +kernel
theorem xd_Mo_bindsFor_7 : decode xb_Mo_bindsFor 7 = .ok (.iconst 3, 1) := by decide +kernel
theorem xd_Mo_bindsFor_8 : decode xb_Mo_bindsFor 8 = .ok (.iload_n 1, 1) := by decide +kernel
theorem xd_Mo_bindsFor_9 : decode xb_Mo_bindsFor 9 = .ok (.imul, 1) := by decide +kernel
theorem xd_Mo_bindsFor_10 : decode xb_Mo_bindsFor 10 = .ok (.istore 4, 2) := by decide +kernel
theorem xd_Mo_bindsFor_12 : decode xb_Mo_bindsFor 12 = .ok (.iload 4, 2) := by decide +kernel
theorem xd_Mo_bindsFor_14 : decode xb_Mo_bindsFor 14 = .ok (.iconst 3, 1) := by decide +kernel
theorem xd_Mo_bindsFor_15 : decode xb_Mo_bindsFor 15 = .ok (.iload_n 1, 1) := by decide +kernel
theorem xd_Mo_bindsFor_16 : decode xb_Mo_bindsFor 16 = .ok (.imul, 1) := by decide +kernel
theorem xd_Mo_bindsFor_17 : decode xb_Mo_bindsFor 17 = .ok (.iconst 3, 1) := by decide +kernel
theorem xd_Mo_bindsFor_18 : decode xb_Mo_bindsFor 18 = .ok (.iadd, 1) := by decide +kernel
theorem xd_Mo_bindsFor_19 : decode xb_Mo_bindsFor 19 = .ok (.if_icmp .ge 194, 3) := by decide +kernel
theorem xd_Mo_bindsFor_22 : decode xb_Mo_bindsFor 22 = .ok (.iconst 0, 1) := by decide +kernel
theorem xd_Mo_bindsFor_23 : decode xb_Mo_bindsFor 23 = .ok (.istore 5, 2) := by decide +kernel
theorem xd_Mo_bindsFor_25 : decode xb_Mo_bindsFor 25 = .ok (.iload 5, 2) := by decide +kernel
theorem xd_Mo_bindsFor_27 : decode xb_Mo_bindsFor 27 = .ok (.aload_n 0, 1) := by decide +kernel
theorem xd_Mo_bindsFor_28 : decode xb_Mo_bindsFor 28 = .ok (.getfield 140, 3) := by decide +kernel
theorem xd_Mo_bindsFor_31 : decode xb_Mo_bindsFor 31 = .ok (.if_icmp .ge 176, 3) := by decide +kernel
theorem xd_Mo_bindsFor_34 : decode xb_Mo_bindsFor 34 = .ok (.aload_n 0, 1) := by decide +kernel
theorem xd_Mo_bindsFor_35 : decode xb_Mo_bindsFor 35 = .ok (.getfield 54, 3) := by decide +kernel
theorem xd_Mo_bindsFor_38 : decode xb_Mo_bindsFor 38 = .ok (.iload 4, 2) := by decide +kernel
theorem xd_Mo_bindsFor_40 : decode xb_Mo_bindsFor 40 = .ok (.iaload, 1) := by decide +kernel
theorem xd_Mo_bindsFor_41 : decode xb_Mo_bindsFor 41 = .ok (.ifCond .le 166, 3) := by decide +kernel
theorem xd_Mo_bindsFor_44 : decode xb_Mo_bindsFor 44 = .ok (.aload_n 0, 1) := by decide +kernel
theorem xd_Mo_bindsFor_45 : decode xb_Mo_bindsFor 45 = .ok (.getfield 57, 3) := by decide +kernel
theorem xd_Mo_bindsFor_48 : decode xb_Mo_bindsFor 48 = .ok (.iconst 3, 1) := by decide +kernel
theorem xd_Mo_bindsFor_49 : decode xb_Mo_bindsFor 49 = .ok (.iload 5, 2) := by decide +kernel
theorem xd_Mo_bindsFor_51 : decode xb_Mo_bindsFor 51 = .ok (.imul, 1) := by decide +kernel
theorem xd_Mo_bindsFor_52 : decode xb_Mo_bindsFor 52 = .ok (.iaload, 1) := by decide +kernel
theorem xd_Mo_bindsFor_53 : decode xb_Mo_bindsFor 53 = .ok (.aload_n 0, 1) := by decide +kernel
theorem xd_Mo_bindsFor_54 : decode xb_Mo_bindsFor 54 = .ok (.getfield 54, 3) := by decide +kernel
theorem xd_Mo_bindsFor_57 : decode xb_Mo_bindsFor 57 = .ok (.iload 4, 2) := by decide +kernel
theorem xd_Mo_bindsFor_59 : decode xb_Mo_bindsFor 59 = .ok (.iaload, 1) := by decide +kernel
theorem xd_Mo_bindsFor_60 : decode xb_Mo_bindsFor 60 = .ok (.if_icmp .eq 45, 3) := by decide +kernel
theorem xd_Mo_bindsFor_63 : decode xb_Mo_bindsFor 63 = .ok (.aload_n 0, 1) := by decide +kernel
theorem xd_Mo_bindsFor_64 : decode xb_Mo_bindsFor 64 = .ok (.getfield 57, 3) := by decide +kernel
theorem xd_Mo_bindsFor_67 : decode xb_Mo_bindsFor 67 = .ok (.iconst 3, 1) := by decide +kernel
theorem xd_Mo_bindsFor_68 : decode xb_Mo_bindsFor 68 = .ok (.iload 5, 2) := by decide +kernel
theorem xd_Mo_bindsFor_70 : decode xb_Mo_bindsFor 70 = .ok (.imul, 1) := by decide +kernel
theorem xd_Mo_bindsFor_71 : decode xb_Mo_bindsFor 71 = .ok (.iconst 1, 1) := by decide +kernel
theorem xd_Mo_bindsFor_72 : decode xb_Mo_bindsFor 72 = .ok (.iadd, 1) := by decide +kernel
theorem xd_Mo_bindsFor_73 : decode xb_Mo_bindsFor 73 = .ok (.iaload, 1) := by decide +kernel
theorem xd_Mo_bindsFor_74 : decode xb_Mo_bindsFor 74 = .ok (.aload_n 0, 1) := by decide +kernel
theorem xd_Mo_bindsFor_75 : decode xb_Mo_bindsFor 75 = .ok (.getfield 54, 3) := by decide +kernel
theorem xd_Mo_bindsFor_78 : decode xb_Mo_bindsFor 78 = .ok (.iload 4, 2) := by decide +kernel
theorem xd_Mo_bindsFor_80 : decode xb_Mo_bindsFor 80 = .ok (.iaload, 1) := by decide +kernel
theorem xd_Mo_bindsFor_81 : decode xb_Mo_bindsFor 81 = .ok (.if_icmp .eq 24, 3) := by decide +kernel
theorem xd_Mo_bindsFor_84 : decode xb_Mo_bindsFor 84 = .ok (.aload_n 0, 1) := by decide +kernel
theorem xd_Mo_bindsFor_85 : decode xb_Mo_bindsFor 85 = .ok (.getfield 57, 3) := by decide +kernel
theorem xd_Mo_bindsFor_88 : decode xb_Mo_bindsFor 88 = .ok (.iconst 3, 1) := by decide +kernel
theorem xd_Mo_bindsFor_89 : decode xb_Mo_bindsFor 89 = .ok (.iload 5, 2) := by decide +kernel
theorem xd_Mo_bindsFor_91 : decode xb_Mo_bindsFor 91 = .ok (.imul, 1) := by decide +kernel
theorem xd_Mo_bindsFor_92 : decode xb_Mo_bindsFor 92 = .ok (.iconst 2, 1) := by decide +kernel
theorem xd_Mo_bindsFor_93 : decode xb_Mo_bindsFor 93 = .ok (.iadd, 1) := by decide +kernel
theorem xd_Mo_bindsFor_94 : decode xb_Mo_bindsFor 94 = .ok (.iaload, 1) := by decide +kernel
theorem xd_Mo_bindsFor_95 : decode xb_Mo_bindsFor 95 = .ok (.aload_n 0, 1) := by decide +kernel
theorem xd_Mo_bindsFor_96 : decode xb_Mo_bindsFor 96 = .ok (.getfield 54, 3) := by decide +kernel
theorem xd_Mo_bindsFor_99 : decode xb_Mo_bindsFor 99 = .ok (.iload 4, 2) := by decide +kernel
theorem xd_Mo_bindsFor_101 : decode xb_Mo_bindsFor 101 = .ok (.iaload, 1) := by decide +kernel
theorem xd_Mo_bindsFor_102 : decode xb_Mo_bindsFor 102 = .ok (.if_icmp .ne 7, 3) := by decide +kernel
theorem xd_Mo_bindsFor_105 : decode xb_Mo_bindsFor 105 = .ok (.iconst 1, 1) := by decide +kernel
theorem xd_Mo_bindsFor_106 : decode xb_Mo_bindsFor 106 = .ok (.goto 4, 3) := by decide +kernel
theorem xd_Mo_bindsFor_109 : decode xb_Mo_bindsFor 109 = .ok (.iconst 0, 1) := by decide +kernel
theorem xd_Mo_bindsFor_110 : decode xb_Mo_bindsFor 110 = .ok (.istore 6, 2) := by decide +kernel
theorem xd_Mo_bindsFor_112 : decode xb_Mo_bindsFor 112 = .ok (.aload_n 0, 1) := by decide +kernel
theorem xd_Mo_bindsFor_113 : decode xb_Mo_bindsFor 113 = .ok (.getfield 20, 3) := by decide +kernel
theorem xd_Mo_bindsFor_116 : decode xb_Mo_bindsFor 116 = .ok (.iload 5, 2) := by decide +kernel
theorem xd_Mo_bindsFor_118 : decode xb_Mo_bindsFor 118 = .ok (.iaload, 1) := by decide +kernel
theorem xd_Mo_bindsFor_119 : decode xb_Mo_bindsFor 119 = .ok (.aload_n 0, 1) := by decide +kernel
theorem xd_Mo_bindsFor_120 : decode xb_Mo_bindsFor 120 = .ok (.getfield 66, 3) := by decide +kernel
theorem xd_Mo_bindsFor_123 : decode xb_Mo_bindsFor 123 = .ok (.iload_n 2, 1) := by decide +kernel
theorem xd_Mo_bindsFor_124 : decode xb_Mo_bindsFor 124 = .ok (.iaload, 1) := by decide +kernel
theorem xd_Mo_bindsFor_125 : decode xb_Mo_bindsFor 125 = .ok (.if_icmp .ne 76, 3) := by decide +kernel
theorem xd_Mo_bindsFor_128 : decode xb_Mo_bindsFor 128 = .ok (.iload 6, 2) := by decide +kernel
theorem xd_Mo_bindsFor_130 : decode xb_Mo_bindsFor 130 = .ok (.ifCond .eq 71, 3) := by decide +kernel
theorem xd_Mo_bindsFor_133 : decode xb_Mo_bindsFor 133 = .ok (.aload_n 0, 1) := by decide +kernel
theorem xd_Mo_bindsFor_134 : decode xb_Mo_bindsFor 134 = .ok (.iload_n 2, 1) := by decide +kernel
theorem xd_Mo_bindsFor_135 : decode xb_Mo_bindsFor 135 = .ok (.iload 5, 2) := by decide +kernel
theorem xd_Mo_bindsFor_137 : decode xb_Mo_bindsFor 137 = .ok (.invokevirtual 156, 3) := by decide +kernel
theorem xd_Mo_bindsFor_140 : decode xb_Mo_bindsFor 140 = .ok (.ifCond .ne 61, 3) := by decide +kernel
theorem xd_Mo_bindsFor_143 : decode xb_Mo_bindsFor 143 = .ok (.aload_n 0, 1) := by decide +kernel
theorem xd_Mo_bindsFor_144 : decode xb_Mo_bindsFor 144 = .ok (.getfield 72, 3) := by decide +kernel
theorem xd_Mo_bindsFor_147 : decode xb_Mo_bindsFor 147 = .ok (.iload_n 2, 1) := by decide +kernel
theorem xd_Mo_bindsFor_148 : decode xb_Mo_bindsFor 148 = .ok (.iaload, 1) := by decide +kernel
theorem xd_Mo_bindsFor_149 : decode xb_Mo_bindsFor 149 = .ok (.istore 7, 2) := by decide +kernel
theorem xd_Mo_bindsFor_151 : decode xb_Mo_bindsFor 151 = .ok (.aload_n 0, 1) := by decide +kernel
theorem xd_Mo_bindsFor_152 : decode xb_Mo_bindsFor 152 = .ok (.aload_n 0, 1) := by decide +kernel
theorem xd_Mo_bindsFor_153 : decode xb_Mo_bindsFor 153 = .ok (.getfield 23, 3) := by decide +kernel
theorem xd_Mo_bindsFor_156 : decode xb_Mo_bindsFor 156 = .ok (.iload 5, 2) := by decide +kernel
theorem xd_Mo_bindsFor_158 : decode xb_Mo_bindsFor 158 = .ok (.iaload, 1) := by decide +kernel
theorem xd_Mo_bindsFor_159 : decode xb_Mo_bindsFor 159 = .ok (.invokevirtual 160, 3) := by decide +kernel
theorem xd_Mo_bindsFor_162 : decode xb_Mo_bindsFor 162 = .ok (.istore 8, 2) := by decide +kernel
theorem xd_Mo_bindsFor_164 : decode xb_Mo_bindsFor 164 = .ok (.aload_n 0, 1) := by decide +kernel
theorem xd_Mo_bindsFor_165 : decode xb_Mo_bindsFor 165 = .ok (.getfield 72, 3) := by decide +kernel
theorem xd_Mo_bindsFor_168 : decode xb_Mo_bindsFor 168 = .ok (.iload_n 2, 1) := by decide +kernel
theorem xd_Mo_bindsFor_169 : decode xb_Mo_bindsFor 169 = .ok (.iload 8, 2) := by decide +kernel
theorem xd_Mo_bindsFor_171 : decode xb_Mo_bindsFor 171 = .ok (.ifCond .eq 12, 3) := by decide +kernel
theorem xd_Mo_bindsFor_174 : decode xb_Mo_bindsFor 174 = .ok (.aload_n 0, 1) := by decide +kernel
theorem xd_Mo_bindsFor_175 : decode xb_Mo_bindsFor 175 = .ok (.getfield 72, 3) := by decide +kernel
theorem xd_Mo_bindsFor_178 : decode xb_Mo_bindsFor 178 = .ok (.iload_n 2, 1) := by decide +kernel
theorem xd_Mo_bindsFor_179 : decode xb_Mo_bindsFor 179 = .ok (.iaload, 1) := by decide +kernel
theorem xd_Mo_bindsFor_180 : decode xb_Mo_bindsFor 180 = .ok (.goto 5, 3) := by decide +kernel
theorem xd_Mo_bindsFor_183 : decode xb_Mo_bindsFor 183 = .ok (.iload 7, 2) := by decide +kernel
theorem xd_Mo_bindsFor_185 : decode xb_Mo_bindsFor 185 = .ok (.iastore, 1) := by decide +kernel
theorem xd_Mo_bindsFor_186 : decode xb_Mo_bindsFor 186 = .ok (.iload_n 3, 1) := by decide +kernel
theorem xd_Mo_bindsFor_187 : decode xb_Mo_bindsFor 187 = .ok (.ifCond .ne 8, 3) := by decide +kernel
theorem xd_Mo_bindsFor_190 : decode xb_Mo_bindsFor 190 = .ok (.iload 8, 2) := by decide +kernel
theorem xd_Mo_bindsFor_192 : decode xb_Mo_bindsFor 192 = .ok (.ifCond .eq 7, 3) := by decide +kernel
theorem xd_Mo_bindsFor_195 : decode xb_Mo_bindsFor 195 = .ok (.iconst 1, 1) := by decide +kernel
theorem xd_Mo_bindsFor_196 : decode xb_Mo_bindsFor 196 = .ok (.goto 4, 3) := by decide +kernel
theorem xd_Mo_bindsFor_199 : decode xb_Mo_bindsFor 199 = .ok (.iconst 0, 1) := by decide +kernel
theorem xd_Mo_bindsFor_200 : decode xb_Mo_bindsFor 200 = .ok (.istore_n 3, 1) := by decide +kernel
theorem xd_Mo_bindsFor_201 : decode xb_Mo_bindsFor 201 = .ok (.iinc 5 1, 3) := by decide +kernel
theorem xd_Mo_bindsFor_204 : decode xb_Mo_bindsFor 204 = .ok (.goto (-179), 3) := by decide +kernel
theorem xd_Mo_bindsFor_207 : decode xb_Mo_bindsFor 207 = .ok (.iinc 4 1, 3) := by decide +kernel
theorem xd_Mo_bindsFor_210 : decode xb_Mo_bindsFor 210 = .ok (.goto (-198), 3) := by decide +kernel
theorem xd_Mo_bindsFor_213 : decode xb_Mo_bindsFor 213 = .ok (.iload_n 3, 1) := by decide +kernel
theorem xd_Mo_bindsFor_214 : decode xb_Mo_bindsFor 214 = .ok (.ireturn, 1) := by decide +kernel
theorem xv_0 : (Cond.fieldLink "LayerDeskModel" 150 "LayerDeskModel" "layers" "I") ∈ wT := wT_t (List.mem_append_right _ (List.mem_append_right _ (List.mem_append_right _ (List.mem_append_left _ (List.mem_of_getElem? (i := 107) rfl))))) rfl
theorem xv_1 : (Cond.fieldLink "LayerDeskModel" 140 "LayerDeskModel" "descriptors" "I") ∈ wT := wT_t (List.mem_append_right _ (List.mem_append_right _ (List.mem_append_right _ (List.mem_append_left _ (List.mem_of_getElem? (i := 91) rfl))))) rfl
theorem xv_2 : (Cond.fieldLink "LayerDeskModel" 54 "LayerDeskModel" "use" "[I") ∈ wT := wT_t (List.mem_append_right _ (List.mem_append_right _ (List.mem_append_right _ (List.mem_append_left _ (List.mem_of_getElem? (i := 103) rfl))))) rfl
theorem xv_3 : (Cond.fieldLink "LayerDeskModel" 20 "LayerDeskModel" "finder" "[I") ∈ wT := wT_t (List.mem_append_right _ (List.mem_append_right _ (List.mem_append_right _ (List.mem_append_left _ (List.mem_of_getElem? (i := 92) rfl))))) rfl
theorem xv_4 : (Cond.fieldLink "LayerDeskModel" 66 "LayerDeskModel" "finderOf" "[I") ∈ wT := wT_t (List.mem_append_right _ (List.mem_append_right _ (List.mem_append_right _ (List.mem_append_left _ (List.mem_of_getElem? (i := 108) rfl))))) rfl
theorem xv_5 : (Cond.code xy_Mo_isIn xb_Mo_isIn 5 (some .boolean)) ∈ wT := wT_t (List.mem_append_right _ (List.mem_append_right _ (List.mem_append_right _ (List.mem_append_right _ (List.mem_of_getElem? (i := 24) rfl))))) rfl
theorem xv_6 : (Cond.methodLink "LayerDeskModel" 156 xy_Mo_isIn) ∈ wT := wT_t (List.mem_append_right _ (List.mem_append_right _ (List.mem_append_right _ (List.mem_append_right _ (List.mem_of_getElem? (i := 21) rfl))))) rfl
theorem xv_7 : (Cond.instanceMethod xy_Mo_isIn) ∈ wT := wT_t (List.mem_append_right _ (List.mem_append_right _ (List.mem_append_right _ (List.mem_append_right _ (List.mem_of_getElem? (i := 23) rfl))))) rfl
theorem xv_8 : (Cond.selects "LayerDeskModel" xy_Mo_isIn xy_Mo_isIn) ∈ wT := wT_s (q := (xy_Mo_isIn, 31)) (by decide +kernel) rfl
theorem xv_9 : (Cond.initialized "LayerDeskModel") ∈ wT := wT_t (List.mem_append_left _ (List.mem_of_getElem? (i := 5) rfl)) rfl
theorem xv_10 : (Cond.fieldLink "LayerDeskModel" 72 "LayerDeskModel" "modules" "[I") ∈ wT := wT_t (List.mem_append_right _ (List.mem_append_right _ (List.mem_append_right _ (List.mem_append_left _ (List.mem_of_getElem? (i := 110) rfl))))) rfl
theorem xv_11 : (Cond.fieldLink "LayerDeskModel" 23 "LayerDeskModel" "name" "[I") ∈ wT := wT_t (List.mem_append_right _ (List.mem_append_right _ (List.mem_append_right _ (List.mem_append_left _ (List.mem_of_getElem? (i := 93) rfl))))) rfl
theorem xv_12 : (Cond.code xy_Mo_adds xb_Mo_adds 6 (some .boolean)) ∈ wT := wT_t (List.mem_append_right _ (List.mem_append_right _ (List.mem_append_right _ (List.mem_append_right _ (List.mem_of_getElem? (i := 16) rfl))))) rfl
theorem xv_13 : (Cond.methodLink "LayerDeskModel" 160 xy_Mo_adds) ∈ wT := wT_t (List.mem_append_right _ (List.mem_append_right _ (List.mem_append_right _ (List.mem_append_right _ (List.mem_of_getElem? (i := 13) rfl))))) rfl
theorem xv_14 : (Cond.instanceMethod xy_Mo_adds) ∈ wT := wT_t (List.mem_append_right _ (List.mem_append_right _ (List.mem_append_right _ (List.mem_append_right _ (List.mem_of_getElem? (i := 15) rfl))))) rfl
theorem xv_15 : (Cond.selects "LayerDeskModel" xy_Mo_adds xy_Mo_adds) ∈ wT := wT_s (q := (xy_Mo_adds, 31)) (by decide +kernel) rfl
theorem xv_16 : (Cond.fieldLink "LayerDeskModel" 57 "LayerDeskModel" "provide" "[I") ∈ wT := wT_t (List.mem_append_right _ (List.mem_append_right _ (List.mem_append_right _ (List.mem_append_left _ (List.mem_of_getElem? (i := 104) rfl))))) rfl
set_option maxHeartbeats 4000000 in
set_option maxRecDepth 100000 in
theorem xc_Mo_bindsFor (l : Launch) (D : va_G) (kA : Nat → ClassId) (sz h : Nat) (mm : Nat → Nat) (v : Nat → Int32) (g : Nat → Nat → Int32) (us : Nat) (nd : Nat) (nl : Nat) (md0 : Nat) (hMI : MI v g) (hnd : v 4 = nI nd) (hnd12 : nd ≤ 12) (hnl : v 5 = nI nl) (hnl5 : nl ≤ 5) (hpn : ∀ la, la < nl + 1 → ∃ lq, lq ≤ la ∧ g 19 la = nI lq - 1) (hmd0 : g 20 nl = nI md0) (hmd012 : md0 ≤ 12) (hND : NDp g nl md0) (hus : us < 12) : Met l xy_Mo_bindsFor (.code xy_Mo_bindsFor xb_Mo_bindsFor 9 (some .boolean) :: wT) { frames := 2, cells := 0, slots := 0, locals := 49 } (va_Pc [.ref h, .int (nI us)] (xPre D kA sz (moW h mm kA v g))) (va_Qi (fun (r : Int32) (u : (Nat → Int32) × (Nat → Nat → Int32)) => u.1 = v ∧ MI v u.2 ∧ (∀ j, j ≠ 20 → j ≠ 21 → j ≠ 23 → u.2 j = g j) ∧ ∃ md1, md0 ≤ md1 ∧ md1 ≤ 12 ∧ u.2 20 nl = nI md1 ∧ NDp u.2 nl md1 ∧ (r = 0 ∨ (r = 1 ∧ md0 < md1))) (fun (u : (Nat → Int32) × (Nat → Nat → Int32)) t => va_P D xcl (moW h mm kA u.1 u.2) t.heap ∧ va_D (va_A (moW h mm kA v g) sz) (moW h mm kA u.1 u.2)) (va_A (moW h mm kA v g) sz)) 0 0 (va_A (moW h mm kA v g) sz) := by
  refine Met.ofW (cc := xb_Mo_bindsFor) (maxL := 9) (ret := (some .boolean)) (by decide) rfl ?_
  intro p e s m args below meth c s₁ B hml hv
  obtain ⟨rfl, hsz, hP, hK, hD0⟩ := hv
  have hx := B.exec
  have hb := B.bytes
  have hr := B.returns
  have hT := x_hT B.pre
  have hown : s.vm.findClass xR_Mo = some m.cls := findClass_of_methodNamed B.named
  have hlocks := B.notSynchronized
  subst hsz
  have hD := hD0.self (sz := s.heap.size)
  generalize hAe : va_A (moW h mm kA v g) s.heap.size = A at hD ⊢
  have hA : ∀ q : Nat, s.heap.size ≤ q → A q := fun q h => by rw [← hAe]; exact Or.inr h
  have hS : va_S A s.heap s.heap [] := va_S.rf
  have hl := lv_entry ([.ref h, .int (nI us)]) (n := 9) (Nat.le_of_ble_eq_true rfl)
  rw [lg_entry_eq]
  generalize (lg_sl ([.ref h, .int (nI us)]) ++ List.replicate (9 - (lg_sl ([.ref h, .int (nI us)])).length) Slot.unset).toArray = ls at hl ⊢
  have hl : lv_has ls 9 [(0, .ref h), (1, .int (nI us))] := hl
  have hP : va_P D xcl (moW h mm kA v g) s.heap := hP
  refine lv_aload_n hx hb xd_Mo_bindsFor_0 rfl (lv_at hl 0 rfl) ?_
  refine va_get (D := D) (ci := 4) (v := .int (v 5)) (C := xR_Mo) (T := xT_Mo) (N := 31) hx hb hT xi_Mo hown hK.1 hP 0 rfl rfl 23 (by decide) (hT _ xv_0) (fun _ h9 => h9) rfl xd_Mo_bindsFor_1 ?_
  refine xn_top (x := (v 5)) (y := nI nl) hnl ?_
  refine lv_istore_n hx hb xd_Mo_bindsFor_4 rfl hl (Nat.le_of_ble_eq_true rfl) rfl (fun ls hl => ?_)
  have hl : lv_has ls 9 [(2, .int (nI nl)), (0, .ref h), (1, .int (nI us))] := hl
  refine lv_iconst (v := 0) hx hb xd_Mo_bindsFor_5 (by decide) ?_
  refine lv_istore_n hx hb xd_Mo_bindsFor_6 rfl hl (Nat.le_of_ble_eq_true rfl) rfl (fun ls hl => ?_)
  have hl : lv_has ls 9 [(3, .int 0), (2, .int (nI nl)), (0, .ref h), (1, .int (nI us))] := hl
  refine lv_iconst (v := 3) hx hb xd_Mo_bindsFor_7 (by decide) ?_
  refine lv_iload_n hx hb xd_Mo_bindsFor_8 rfl (lv_at hl 3 rfl) ?_
  refine lv_imul hx hb xd_Mo_bindsFor_9 ?_
  refine xn_top (y := nI (3 * us)) (pk_mul 3 us) ?_
  refine lv_istore hx hb xd_Mo_bindsFor_10 hl (Nat.le_of_ble_eq_true rfl) rfl (fun ls hl => ?_)
  have hl : lv_has ls 9 [(4, .int (nI (3 * us))), (3, .int 0), (2, .int (nI nl)), (0, .ref h), (1, .int (nI us))] := hl
  refine xlab (σ := Nat × Int32 × Nat × (Nat → Nat → Int32)) (ml := 9) 12 (fun (k, s9, md9, g1) => [(4, .int (nI k)), (3, .int s9), (2, .int (nI nl)), (0, .ref h), (1, .int (nI us))]) (fun (k, s9, md9, g1) => []) (fun (k, s9, md9, g1) => moW h mm kA v g1) (fun (k, s9, md9, g1) => (3 * us ≤ k) ∧ (k ≤ 3 * us + 3) ∧ (md0 ≤ md9) ∧ (md9 ≤ 12) ∧ (g1 20 nl = nI md9) ∧ (MI v g1) ∧ (∀ j, j ≠ 20 → j ≠ 21 → j ≠ 23 → g1 j = g j) ∧ (NDp g1 nl md9) ∧ (s9 = 0 ∨ (s9 = 1 ∧ md0 < md9))) (fun (k, s9, md9, g1) => 3 * us + 3 - k) ?_ (3 * us, 0, md0, g) _ _ _ (lv_sub hl [0, 1, 2, 3, 4] rfl) hP hD hS ⟨(show 3 * us ≤ (3 * us) from by first | assumption | omega), (show (3 * us) ≤ 3 * us + 3 from by first | assumption | omega), (show md0 ≤ md0 from by first | assumption | omega), (show md0 ≤ 12 from by first | assumption | omega), (show g 20 nl = nI md0 from hmd0), (show MI v g from hMI), (show ∀ j, j ≠ 20 → j ≠ 21 → j ≠ 23 → g j = g j from fun j h1 h2 h3 => rfl), (show NDp g nl md0 from hND), (show 0 = 0 ∨ (0 = 1 ∧ md0 < md0) from Or.inl rfl)⟩
  intro n9 ih1 a9 ls H locs hμ hl hP hD hS hI
  subst hμ
  obtain ⟨k, s9, md9, g1⟩ := a9
  obtain ⟨hk1, hk2, hm11, hm21, hmk1, hM1, hfr1, hN1, hsm1⟩ := hI
  have hk1 : 3 * us ≤ k := hk1
  have hk2 : k ≤ 3 * us + 3 := hk2
  have hm11 : md0 ≤ md9 := hm11
  have hm21 : md9 ≤ 12 := hm21
  have hmk1 : g1 20 nl = nI md9 := hmk1
  have hM1 : MI v g1 := hM1
  have hfr1 : ∀ j, j ≠ 20 → j ≠ 21 → j ≠ 23 → g1 j = g j := hfr1
  have hN1 : NDp g1 nl md9 := hN1
  have hsm1 : s9 = 0 ∨ (s9 = 1 ∧ md0 < md9) := hsm1
  obtain ⟨-, -, -, -, -, hmd1, -⟩ := id hM1
  have hpar1 : ∀ la, la < nl + 1 → ∃ lq, lq ≤ la ∧ g1 19 la = nI lq - 1 := fun la h => by rw [hfr1 19 (by decide) (by decide) (by decide)]; exact hpn la h
  have hl : lv_has ls 9 [(4, .int (nI k)), (3, .int s9), (2, .int (nI nl)), (0, .ref h), (1, .int (nI us))] := hl
  have hP : va_P D xcl (moW h mm kA v g1) H := hP
  have hD : va_D A (moW h mm kA v g1) := hD
  refine lv_iload hx hb xd_Mo_bindsFor_12 (lv_at hl 0 rfl) ?_
  refine lv_iconst (v := 3) hx hb xd_Mo_bindsFor_14 (by decide) ?_
  refine lv_iload_n hx hb xd_Mo_bindsFor_15 rfl (lv_at hl 4 rfl) ?_
  refine lv_imul hx hb xd_Mo_bindsFor_16 ?_
  refine xn_top (y := nI (3 * us)) (pk_mul 3 us) ?_
  refine lv_iconst (v := 3) hx hb xd_Mo_bindsFor_17 (by decide) ?_
  refine lv_iadd hx hb xd_Mo_bindsFor_18 ?_
  refine xn_top (y := nI ((3 * us) + 3)) (nI_add (3 * us) 3) ?_
  refine xn_ge (a := k) (b := (3 * us) + 3) (tgt := 213) hx hb xd_Mo_bindsFor_19 (by decide) (by omega) (by omega) (fun hc2 => ?_) (fun hc2 => ?_)
  · refine lv_iload_n hx hb xd_Mo_bindsFor_213 rfl (lv_at hl 1 rfl) ?_
    exact W.zret (v := s9) hx hb hr (by rcases hsm1 with h | ⟨h, -⟩ <;> rw [h] <;> rfl) (fun t ht hW => ⟨⟨s9, (v, g1), rfl, ⟨rfl, hM1, hfr1, md9, by omega, by omega, hmk1, hN1, hsm1⟩, by rw [ht]; exact hP, hD⟩, hS.F ht⟩) hS.2.2 xd_Mo_bindsFor_214
  · refine lv_iconst (v := 0) hx hb xd_Mo_bindsFor_22 (by decide) ?_
    refine lv_istore hx hb xd_Mo_bindsFor_23 hl (Nat.le_of_ble_eq_true rfl) rfl (fun ls hl => ?_)
    have hl : lv_has ls 9 [(5, .int 0), (4, .int (nI k)), (3, .int s9), (2, .int (nI nl)), (0, .ref h), (1, .int (nI us))] := hl
    refine xlab (σ := Nat × Int32 × Nat × (Nat → Nat → Int32)) (ml := 9) 25 (fun (d, s8, md8, g8) => [(5, .int (nI d)), (4, .int (nI k)), (3, .int s8), (2, .int (nI nl)), (0, .ref h), (1, .int (nI us))]) (fun (d, s8, md8, g8) => []) (fun (d, s8, md8, g8) => moW h mm kA v g8) (fun (d, s8, md8, g8) => (d ≤ nd) ∧ (md0 ≤ md8) ∧ (md8 ≤ 12) ∧ (g8 20 nl = nI md8) ∧ (MI v g8) ∧ (∀ j, j ≠ 20 → j ≠ 21 → j ≠ 23 → g8 j = g j) ∧ (NDp g8 nl md8) ∧ (s8 = 0 ∨ (s8 = 1 ∧ md0 < md8))) (fun (d, s8, md8, g8) => nd - d) ?_ (0, s9, md9, g1) _ _ _ (lv_sub hl [0, 1, 2, 3, 4, 5] rfl) hP hD hS ⟨(show 0 ≤ nd from by first | assumption | omega), (show md0 ≤ md9 from by first | assumption | omega), (show md9 ≤ 12 from by first | assumption | omega), (show g1 20 nl = nI md9 from hmk1), (show MI v g1 from hM1), (show ∀ j, j ≠ 20 → j ≠ 21 → j ≠ 23 → g1 j = g j from hfr1), (show NDp g1 nl md9 from hN1), (show s9 = 0 ∨ (s9 = 1 ∧ md0 < md9) from hsm1)⟩
    intro n9 ih3 a9 ls H locs hμ hl hP hD hS hI
    subst hμ
    obtain ⟨d, s8, md8, g8⟩ := a9
    obtain ⟨hd1, hm18, hm28, hmk8, hM8, hfr8, hN8, hsm8⟩ := hI
    have hd1 : d ≤ nd := hd1
    have hm18 : md0 ≤ md8 := hm18
    have hm28 : md8 ≤ 12 := hm28
    have hmk8 : g8 20 nl = nI md8 := hmk8
    have hM8 : MI v g8 := hM8
    have hfr8 : ∀ j, j ≠ 20 → j ≠ 21 → j ≠ 23 → g8 j = g j := hfr8
    have hN8 : NDp g8 nl md8 := hN8
    have hsm8 : s8 = 0 ∨ (s8 = 1 ∧ md0 < md8) := hsm8
    obtain ⟨-, -, -, -, -, hmd8, -⟩ := id hM8
    have hpar8 : ∀ la, la < nl + 1 → ∃ lq, lq ≤ la ∧ g8 19 la = nI lq - 1 := fun la h => by rw [hfr8 19 (by decide) (by decide) (by decide)]; exact hpn la h
    have hl : lv_has ls 9 [(5, .int (nI d)), (4, .int (nI k)), (3, .int s8), (2, .int (nI nl)), (0, .ref h), (1, .int (nI us))] := hl
    have hP : va_P D xcl (moW h mm kA v g8) H := hP
    have hD : va_D A (moW h mm kA v g8) := hD
    refine lv_iload hx hb xd_Mo_bindsFor_25 (lv_at hl 0 rfl) ?_
    refine lv_aload_n hx hb xd_Mo_bindsFor_27 rfl (lv_at hl 4 rfl) ?_
    refine va_get (D := D) (ci := 4) (v := .int (v 4)) (C := xR_Mo) (T := xT_Mo) (N := 31) hx hb hT xi_Mo hown hK.1 hP 0 rfl rfl 7 (by decide) (hT _ xv_1) (fun _ h9 => h9) rfl xd_Mo_bindsFor_28 ?_
    refine xn_top (x := (v 4)) (y := nI nd) hnd ?_
    refine xn_ge (a := d) (b := nd) (tgt := 207) hx hb xd_Mo_bindsFor_31 (by decide) (by omega) (by omega) (fun hc4 => ?_) (fun hc4 => ?_)
    · refine lv_iinc (k := 1) (x := (nI k)) (v := (nI (k + 1))) hx hb xd_Mo_bindsFor_207 hl rfl (xb_inc k 1) (Nat.le_of_ble_eq_true rfl) rfl (fun ls hl => ?_)
      have hl : lv_has ls 9 [(4, .int (nI (k + 1))), (5, .int (nI d)), (3, .int s8), (2, .int (nI nl)), (0, .ref h), (1, .int (nI us))] := hl
      refine lv_goto (tgt := 12) hx hb xd_Mo_bindsFor_210 (by decide) ?_
      exact ih1 (k + 1, s8, md8, g8) _ _ _ (show 3 * us + 3 - (k + 1) < 3 * us + 3 - k by omega) (lv_sub hl [0, 2, 3, 4, 5] rfl) hP hD hS ⟨(show 3 * us ≤ (k + 1) from by first | assumption | omega), (show (k + 1) ≤ 3 * us + 3 from by first | assumption | omega), (show md0 ≤ md8 from by first | assumption | omega), (show md8 ≤ 12 from by first | assumption | omega), (show g8 20 nl = nI md8 from hmk8), (show MI v g8 from hM8), (show ∀ j, j ≠ 20 → j ≠ 21 → j ≠ 23 → g8 j = g j from hfr8), (show NDp g8 nl md8 from hN8), (show s8 = 0 ∨ (s8 = 1 ∧ md0 < md8) from hsm8)⟩
    · refine lv_aload_n hx hb xd_Mo_bindsFor_34 rfl (lv_at hl 4 rfl) ?_
      refine va_get (D := D) (ci := 4) (v := .ref (mm 14)) (C := xR_Mo) (T := xT_Mo) (N := 31) hx hb hT xi_Mo hown hK.1 hP 0 rfl rfl 19 (by decide) (hT _ xv_2) (fun _ h9 => h9) rfl xd_Mo_bindsFor_35 ?_
      refine lv_iload hx hb xd_Mo_bindsFor_38 (lv_at hl 1 rfl) ?_
      refine xn_iald (i := k) hx hb hK.1 hP 15 0 rfl rfl (by omega) (by decide) xd_Mo_bindsFor_40 ?_
      refine lv_if_le (tgt := 207) hx hb xd_Mo_bindsFor_41 (by decide) (fun hc5 => ?_) (fun hc5 => ?_)
      · refine lv_iinc (k := 1) (x := (nI k)) (v := (nI (k + 1))) hx hb xd_Mo_bindsFor_207 hl rfl (xb_inc k 1) (Nat.le_of_ble_eq_true rfl) rfl (fun ls hl => ?_)
        have hl : lv_has ls 9 [(4, .int (nI (k + 1))), (5, .int (nI d)), (3, .int s8), (2, .int (nI nl)), (0, .ref h), (1, .int (nI us))] := hl
        refine lv_goto (tgt := 12) hx hb xd_Mo_bindsFor_210 (by decide) ?_
        exact ih1 (k + 1, s8, md8, g8) _ _ _ (show 3 * us + 3 - (k + 1) < 3 * us + 3 - k by omega) (lv_sub hl [0, 2, 3, 4, 5] rfl) hP hD hS ⟨(show 3 * us ≤ (k + 1) from by first | assumption | omega), (show (k + 1) ≤ 3 * us + 3 from by first | assumption | omega), (show md0 ≤ md8 from by first | assumption | omega), (show md8 ≤ 12 from by first | assumption | omega), (show g8 20 nl = nI md8 from hmk8), (show MI v g8 from hM8), (show ∀ j, j ≠ 20 → j ≠ 21 → j ≠ 23 → g8 j = g j from hfr8), (show NDp g8 nl md8 from hN8), (show s8 = 0 ∨ (s8 = 1 ∧ md0 < md8) from hsm8)⟩
      · refine xjoin (D := D) (cl := xcl) (A := A) (H0 := s.heap) (σ := Int32) (ml := 9) 112 (fun (gv : Int32) => [(6, .int gv), (5, .int (nI d)), (4, .int (nI k)), (3, .int s8), (2, .int (nI nl)), (0, .ref h), (1, .int (nI us))]) (fun (gv : Int32) => []) (fun (gv : Int32) => moW h mm kA v g8) (fun (gv : Int32) => True) ?_ (fun jn6 => ?_)
        · intro a9 ls H locs hl hP hD hS hI
          obtain ⟨gv, rfl⟩ : ∃ z, z = a9 := ⟨_, rfl⟩
          have hl : lv_has ls 9 [(6, .int gv), (5, .int (nI d)), (4, .int (nI k)), (3, .int s8), (2, .int (nI nl)), (0, .ref h), (1, .int (nI us))] := hl
          have hP : va_P D xcl (moW h mm kA v g8) H := hP
          have hD : va_D A (moW h mm kA v g8) := hD
          refine lv_aload_n hx hb xd_Mo_bindsFor_112 rfl (lv_at hl 5 rfl) ?_
          refine va_get (D := D) (ci := 4) (v := .ref (mm 3)) (C := xR_Mo) (T := xT_Mo) (N := 31) hx hb hT xi_Mo hown hK.1 hP 0 rfl rfl 8 (by decide) (hT _ xv_3) (fun _ h9 => h9) rfl xd_Mo_bindsFor_113 ?_
          refine lv_iload hx hb xd_Mo_bindsFor_116 (lv_at hl 1 rfl) ?_
          refine xn_iald (i := d) hx hb hK.1 hP 4 0 rfl rfl (by omega) (by decide) xd_Mo_bindsFor_118 ?_
          refine lv_aload_n hx hb xd_Mo_bindsFor_119 rfl (lv_at hl 5 rfl) ?_
          refine va_get (D := D) (ci := 4) (v := .ref (mm 18)) (C := xR_Mo) (T := xT_Mo) (N := 31) hx hb hT xi_Mo hown hK.1 hP 0 rfl rfl 24 (by decide) (hT _ xv_4) (fun _ h9 => h9) rfl xd_Mo_bindsFor_120 ?_
          refine lv_iload_n hx hb xd_Mo_bindsFor_123 rfl (lv_at hl 4 rfl) ?_
          refine xn_iald (i := nl) hx hb hK.1 hP 19 0 rfl rfl (by omega) (by decide) xd_Mo_bindsFor_124 ?_
          refine lv_icmp_ne (tgt := 201) hx hb xd_Mo_bindsFor_125 (by decide) (fun hc7 => ?_) (fun hc7 => ?_)
          · refine lv_iinc (k := 1) (x := (nI d)) (v := (nI (d + 1))) hx hb xd_Mo_bindsFor_201 hl rfl (xb_inc d 1) (Nat.le_of_ble_eq_true rfl) rfl (fun ls hl => ?_)
            have hl : lv_has ls 9 [(5, .int (nI (d + 1))), (6, .int gv), (4, .int (nI k)), (3, .int s8), (2, .int (nI nl)), (0, .ref h), (1, .int (nI us))] := hl
            refine lv_goto (tgt := 25) hx hb xd_Mo_bindsFor_204 (by decide) ?_
            exact ih3 (d + 1, s8, md8, g8) _ _ _ (show nd - (d + 1) < nd - d by omega) (lv_sub hl [0, 2, 3, 4, 5, 6] rfl) hP hD hS ⟨(show (d + 1) ≤ nd from by first | assumption | omega), (show md0 ≤ md8 from by first | assumption | omega), (show md8 ≤ 12 from by first | assumption | omega), (show g8 20 nl = nI md8 from hmk8), (show MI v g8 from hM8), (show ∀ j, j ≠ 20 → j ≠ 21 → j ≠ 23 → g8 j = g j from hfr8), (show NDp g8 nl md8 from hN8), (show s8 = 0 ∨ (s8 = 1 ∧ md0 < md8) from hsm8)⟩
          · refine lv_iload hx hb xd_Mo_bindsFor_128 (lv_at hl 0 rfl) ?_
            refine lv_if_eq (tgt := 201) hx hb xd_Mo_bindsFor_130 (by decide) (fun hc8 => ?_) (fun hc8 => ?_)
            · refine lv_iinc (k := 1) (x := (nI d)) (v := (nI (d + 1))) hx hb xd_Mo_bindsFor_201 hl rfl (xb_inc d 1) (Nat.le_of_ble_eq_true rfl) rfl (fun ls hl => ?_)
              have hl : lv_has ls 9 [(5, .int (nI (d + 1))), (6, .int gv), (4, .int (nI k)), (3, .int s8), (2, .int (nI nl)), (0, .ref h), (1, .int (nI us))] := hl
              refine lv_goto (tgt := 25) hx hb xd_Mo_bindsFor_204 (by decide) ?_
              exact ih3 (d + 1, s8, md8, g8) _ _ _ (show nd - (d + 1) < nd - d by omega) (lv_sub hl [0, 2, 3, 4, 5, 6] rfl) hP hD hS ⟨(show (d + 1) ≤ nd from by first | assumption | omega), (show md0 ≤ md8 from by first | assumption | omega), (show md8 ≤ 12 from by first | assumption | omega), (show g8 20 nl = nI md8 from hmk8), (show MI v g8 from hM8), (show ∀ j, j ≠ 20 → j ≠ 21 → j ≠ 23 → g8 j = g j from hfr8), (show NDp g8 nl md8 from hN8), (show s8 = 0 ∨ (s8 = 1 ∧ md0 < md8) from hsm8)⟩
            · refine lv_aload_n hx hb xd_Mo_bindsFor_133 rfl (lv_at hl 5 rfl) ?_
              refine lv_iload_n hx hb xd_Mo_bindsFor_134 rfl (lv_at hl 4 rfl) ?_
              refine lv_iload hx hb xd_Mo_bindsFor_135 (lv_at hl 1 rfl) ?_
              have hFc := va_free (wc := (moW h mm kA v g8)) hD hS hA [0, 1, 2, 3, 4, 5, 6, 7, 8, 9, 10, 11, 12, 13, 14, 15, 16, 17, 18, 19, 20, 21, 22, 23, 24, 25] rfl
              refine va_calli (va_runV (As := [.int (nI nl), .int (nI d)]) (rest := []) ⟨hx, hb, hml, hown, hT⟩ (xc_Mo_isIn l D kA H.size h mm v g8 nl (nI d) md8 (by first | assumption | omega) (by first | assumption | omega) (by first | assumption | omega)) (cwV 2 hT (wT_V xv_6 xv_7 xv_8 xv_9 xv_5) rfl rfl rfl (by decide +kernel) ⟨Nat.le_of_ble_eq_true rfl, Nat.le_of_ble_eq_true rfl⟩) (x_preV hK hP hD 0 rfl rfl) rfl rfl hl.1 rfl (lv_room (Nat.le_of_ble_eq_true rfl)) xd_Mo_bindsFor_137 ⟨Nat.le_of_ble_eq_true rfl, Nat.le_of_ble_eq_true rfl⟩) hS (fun q _ h => hFc q h) hFc (fun r9 u10 t H1 locs ht hvm hp11 hB hz1 hk1 hS => ?_)
              obtain ⟨hP1, hD1⟩ := hB
              rw [ht] at hP1
              have hD1 := hD1.weaken (fun _ _ _ h => hFc _ h)
              generalize H1 = H at hP1 hS ⊢
              have hP := hP1
              have hD := hD1
              have hP : va_P D xcl (moW h mm kA v g8) H := hP
              have hD : va_D A (moW h mm kA v g8) := hD
              rcases hp11 with ⟨rfl, z12, z13, z14, z15⟩ | ⟨rfl, z16⟩
              · refine xz_ne (a := 1) (tgt := 201) hx hb xd_Mo_bindsFor_140 (by decide) (by omega) (fun _ => ?_) (fun hc17 => absurd hc17 (by omega))
                refine lv_iinc (k := 1) (x := (nI d)) (v := (nI (d + 1))) hx hb xd_Mo_bindsFor_201 hl rfl (xb_inc d 1) (Nat.le_of_ble_eq_true rfl) rfl (fun ls hl => ?_)
                have hl : lv_has ls 9 [(5, .int (nI (d + 1))), (6, .int gv), (4, .int (nI k)), (3, .int s8), (2, .int (nI nl)), (0, .ref h), (1, .int (nI us))] := hl
                refine lv_goto (tgt := 25) hx hb xd_Mo_bindsFor_204 (by decide) ?_
                exact ih3 (d + 1, s8, md8, g8) _ _ _ (show nd - (d + 1) < nd - d by omega) (lv_sub hl [0, 2, 3, 4, 5, 6] rfl) hP hD hS ⟨(show (d + 1) ≤ nd from by first | assumption | omega), (show md0 ≤ md8 from by first | assumption | omega), (show md8 ≤ 12 from by first | assumption | omega), (show g8 20 nl = nI md8 from hmk8), (show MI v g8 from hM8), (show ∀ j, j ≠ 20 → j ≠ 21 → j ≠ 23 → g8 j = g j from hfr8), (show NDp g8 nl md8 from hN8), (show s8 = 0 ∨ (s8 = 1 ∧ md0 < md8) from hsm8)⟩
              · refine xz_ne (a := 0) (tgt := 201) hx hb xd_Mo_bindsFor_140 (by decide) (by omega) (fun hc18 => absurd hc18 (by omega)) (fun _ => ?_)
                refine lv_aload_n hx hb xd_Mo_bindsFor_143 rfl (lv_at hl 5 rfl) ?_
                refine va_get (D := D) (ci := 4) (v := .ref (mm 20)) (C := xR_Mo) (T := xT_Mo) (N := 31) hx hb hT xi_Mo hown hK.1 hP 0 rfl rfl 26 (by decide) (hT _ xv_10) (fun _ h9 => h9) rfl xd_Mo_bindsFor_144 ?_
                refine lv_iload_n hx hb xd_Mo_bindsFor_147 rfl (lv_at hl 4 rfl) ?_
                refine xn_iald (i := nl) hx hb hK.1 hP 21 0 rfl rfl (by omega) (by decide) xd_Mo_bindsFor_148 ?_
                refine xn_top (x := (g8 20 nl)) (y := nI md8) hmk8 ?_
                refine lv_istore hx hb xd_Mo_bindsFor_149 hl (Nat.le_of_ble_eq_true rfl) rfl (fun ls hl => ?_)
                have hl : lv_has ls 9 [(7, .int (nI md8)), (6, .int gv), (5, .int (nI d)), (4, .int (nI k)), (3, .int s8), (2, .int (nI nl)), (0, .ref h), (1, .int (nI us))] := hl
                refine lv_aload_n hx hb xd_Mo_bindsFor_151 rfl (lv_at hl 6 rfl) ?_
                refine lv_aload_n hx hb xd_Mo_bindsFor_152 rfl (lv_at hl 6 rfl) ?_
                refine va_get (D := D) (ci := 4) (v := .ref (mm 4)) (C := xR_Mo) (T := xT_Mo) (N := 31) hx hb hT xi_Mo hown hK.1 hP 0 rfl rfl 9 (by decide) (hT _ xv_11) (fun _ h9 => h9) rfl xd_Mo_bindsFor_153 ?_
                refine lv_iload hx hb xd_Mo_bindsFor_156 (lv_at hl 2 rfl) ?_
                refine xn_iald (i := d) hx hb hK.1 hP 5 0 rfl rfl (by omega) (by decide) xd_Mo_bindsFor_158 ?_
                have hFc := va_free (wc := (moW h mm kA v g8)) hD hS hA [0, 1, 2, 3, 4, 5, 6, 7, 8, 9, 10, 11, 12, 13, 14, 15, 16, 17, 18, 19, 20, 21, 22, 23, 24, 25] rfl
                refine va_calli (va_runV (As := [.int (g8 4 d)]) (rest := []) ⟨hx, hb, hml, hown, hT⟩ (xc_Mo_adds l D kA H.size h mm v g8 (g8 4 d) nd nl md8 hM8 (by first | assumption | omega) (by first | assumption | omega) (by first | assumption | omega) (by first | assumption | omega) hpar8 hmk8 (by first | assumption | omega) hN8) (cwV 1 hT (wT_V xv_13 xv_14 xv_15 xv_9 xv_12) rfl rfl rfl (by decide +kernel) ⟨Nat.le_of_ble_eq_true rfl, Nat.le_of_ble_eq_true rfl⟩) (x_preV hK hP hD 0 rfl rfl) rfl rfl hl.1 rfl (lv_room (Nat.le_of_ble_eq_true rfl)) xd_Mo_bindsFor_159 ⟨Nat.le_of_ble_eq_true rfl, Nat.le_of_ble_eq_true rfl⟩) hS (fun q _ h => hFc q h) hFc (fun r19 u20 t H1 locs ht hvm hp21 hB hz1 hk1 hS => ?_)
                obtain ⟨hP1, hD1⟩ := hB
                rw [ht] at hP1
                have hD1 := hD1.weaken (fun _ _ _ h => hFc _ h)
                obtain ⟨v22, g23⟩ := u20
                generalize H1 = H at hP1 hS ⊢
                have hP := hP1
                have hD := hD1
                have hP : va_P D xcl (moW h mm kA v22 g23) H := hP
                have hD : va_D A (moW h mm kA v22 g23) := hD
                obtain ⟨hu9, hM9, hfr9, mdx, hx1, hx2, hx3, hx4, hx5⟩ := hp21
                have hu9 : v = v22 := hu9.symm
                subst hu9
                have hM9 : MI v g23 := hM9
                have hfr9 : ∀ j, j ≠ 20 → j ≠ 21 → j ≠ 23 → g23 j = g8 j := hfr9
                have hx3 : g23 20 nl = nI mdx := hx3
                have hx4 : NDp g23 nl mdx := hx4
                have hP : va_P D xcl (moW h mm kA v g23) H := hP
                have hD : va_D A (moW h mm kA v g23) := hD
                rcases hx5 with rfl | ⟨rfl, hgr9⟩
                · refine lv_istore hx hb xd_Mo_bindsFor_162 hl (Nat.le_of_ble_eq_true rfl) rfl (fun ls hl => ?_)
                  have hl : lv_has ls 9 [(8, .int 0), (7, .int (nI md8)), (6, .int gv), (5, .int (nI d)), (4, .int (nI k)), (3, .int s8), (2, .int (nI nl)), (0, .ref h), (1, .int (nI us))] := hl
                  refine lv_aload_n hx hb xd_Mo_bindsFor_164 rfl (lv_at hl 7 rfl) ?_
                  refine va_get (D := D) (ci := 4) (v := .ref (mm 20)) (C := xR_Mo) (T := xT_Mo) (N := 31) hx hb hT xi_Mo hown hK.1 hP 0 rfl rfl 26 (by decide) (hT _ xv_10) (fun _ h9 => h9) rfl xd_Mo_bindsFor_165 ?_
                  refine lv_iload_n hx hb xd_Mo_bindsFor_168 rfl (lv_at hl 6 rfl) ?_
                  refine lv_iload hx hb xd_Mo_bindsFor_169 (lv_at hl 0 rfl) ?_
                  refine xz_eq (a := 0) (tgt := 183) hx hb xd_Mo_bindsFor_171 (by decide) (by omega) (fun _ => ?_) (fun hc24 => absurd hc24 (by omega))
                  refine lv_iload hx hb xd_Mo_bindsFor_183 (lv_at hl 1 rfl) ?_
                  refine xn_iast (i := nl) hx hb hK.1 hP hD hS 21 0 rfl rfl (by omega) (by decide) xd_Mo_bindsFor_185 (fun H locs hP hD hS => ?_)
                  have hP : va_P D xcl (moW h mm kA v (va_up g23 20 (upd (g23 20) nl (nI md8)))) H := hP
                  have hD : va_D A (moW h mm kA v (va_up g23 20 (upd (g23 20) nl (nI md8)))) := hD
                  refine lv_iload_n hx hb xd_Mo_bindsFor_186 rfl (lv_at hl 5 rfl) ?_
                  refine lv_if_ne (tgt := 195) hx hb xd_Mo_bindsFor_187 (by decide) (fun hc25 => ?_) (fun hc25 => ?_)
                  · refine lv_iconst (v := 1) hx hb xd_Mo_bindsFor_195 (by decide) ?_
                    refine lv_goto (tgt := 200) hx hb xd_Mo_bindsFor_196 (by decide) ?_
                    refine lv_istore_n hx hb xd_Mo_bindsFor_200 rfl hl (Nat.le_of_ble_eq_true rfl) rfl (fun ls hl => ?_)
                    have hl : lv_has ls 9 [(3, .int 1), (8, .int 0), (7, .int (nI md8)), (6, .int gv), (5, .int (nI d)), (4, .int (nI k)), (2, .int (nI nl)), (0, .ref h), (1, .int (nI us))] := hl
                    refine lv_iinc (k := 4) (x := (nI d)) (v := (nI (d + 1))) hx hb xd_Mo_bindsFor_201 hl rfl (xb_inc d 1) (Nat.le_of_ble_eq_true rfl) rfl (fun ls hl => ?_)
                    have hl : lv_has ls 9 [(5, .int (nI (d + 1))), (3, .int 1), (8, .int 0), (7, .int (nI md8)), (6, .int gv), (4, .int (nI k)), (2, .int (nI nl)), (0, .ref h), (1, .int (nI us))] := hl
                    refine lv_goto (tgt := 25) hx hb xd_Mo_bindsFor_204 (by decide) ?_
                    exact ih3 (d + 1, 1, md8, (va_up g23 20 (upd (g23 20) nl (nI md8)))) _ _ _ (show nd - (d + 1) < nd - d by omega) (lv_sub hl [0, 5, 1, 6, 7, 8] rfl) hP hD hS ⟨(show (d + 1) ≤ nd from by first | assumption | omega), (show md0 ≤ md8 from by first | assumption | omega), (show md8 ≤ 12 from by first | assumption | omega), (show (va_up g23 20 (upd (g23 20) nl (nI md8))) 20 nl = nI md8 from pk_us), (show MI v (va_up g23 20 (upd (g23 20) nl (nI md8))) from MI_cut hx3 hx2 hx1 hM9), (show ∀ j, j ≠ 20 → j ≠ 21 → j ≠ 23 → (va_up g23 20 (upd (g23 20) nl (nI md8))) j = g j from fun j h1 h2 h3 => by rw [← hfr8 j h1 h2 h3, ← hfr9 j h1 h2 h3]; simp [va_up, h1]), (show NDp (va_up g23 20 (upd (g23 20) nl (nI md8))) nl md8 from ND_cut (f20 := upd (g23 20) nl (nI md8)) hx4 hx1), (show 1 = 0 ∨ (1 = 1 ∧ md0 < md8) from Or.inr ⟨rfl, by
      rcases hsm8 with h | h
      · exact absurd h hc25
      · exact h.2⟩)⟩
                  · refine lv_iload hx hb xd_Mo_bindsFor_190 (lv_at hl 0 rfl) ?_
                    refine xz_eq (a := 0) (tgt := 199) hx hb xd_Mo_bindsFor_192 (by decide) (by omega) (fun _ => ?_) (fun hc26 => absurd hc26 (by omega))
                    refine lv_iconst (v := 0) hx hb xd_Mo_bindsFor_199 (by decide) ?_
                    refine lv_istore_n hx hb xd_Mo_bindsFor_200 rfl hl (Nat.le_of_ble_eq_true rfl) rfl (fun ls hl => ?_)
                    have hl : lv_has ls 9 [(3, .int 0), (8, .int 0), (7, .int (nI md8)), (6, .int gv), (5, .int (nI d)), (4, .int (nI k)), (2, .int (nI nl)), (0, .ref h), (1, .int (nI us))] := hl
                    refine lv_iinc (k := 4) (x := (nI d)) (v := (nI (d + 1))) hx hb xd_Mo_bindsFor_201 hl rfl (xb_inc d 1) (Nat.le_of_ble_eq_true rfl) rfl (fun ls hl => ?_)
                    have hl : lv_has ls 9 [(5, .int (nI (d + 1))), (3, .int 0), (8, .int 0), (7, .int (nI md8)), (6, .int gv), (4, .int (nI k)), (2, .int (nI nl)), (0, .ref h), (1, .int (nI us))] := hl
                    refine lv_goto (tgt := 25) hx hb xd_Mo_bindsFor_204 (by decide) ?_
                    exact ih3 (d + 1, 0, md8, (va_up g23 20 (upd (g23 20) nl (nI md8)))) _ _ _ (show nd - (d + 1) < nd - d by omega) (lv_sub hl [0, 5, 1, 6, 7, 8] rfl) hP hD hS ⟨(show (d + 1) ≤ nd from by first | assumption | omega), (show md0 ≤ md8 from by first | assumption | omega), (show md8 ≤ 12 from by first | assumption | omega), (show (va_up g23 20 (upd (g23 20) nl (nI md8))) 20 nl = nI md8 from pk_us), (show MI v (va_up g23 20 (upd (g23 20) nl (nI md8))) from MI_cut hx3 hx2 hx1 hM9), (show ∀ j, j ≠ 20 → j ≠ 21 → j ≠ 23 → (va_up g23 20 (upd (g23 20) nl (nI md8))) j = g j from fun j h1 h2 h3 => by rw [← hfr8 j h1 h2 h3, ← hfr9 j h1 h2 h3]; simp [va_up, h1]), (show NDp (va_up g23 20 (upd (g23 20) nl (nI md8))) nl md8 from ND_cut (f20 := upd (g23 20) nl (nI md8)) hx4 hx1), (show 0 = 0 ∨ (0 = 1 ∧ md0 < md8) from Or.inl rfl)⟩
                · refine lv_istore hx hb xd_Mo_bindsFor_162 hl (Nat.le_of_ble_eq_true rfl) rfl (fun ls hl => ?_)
                  have hl : lv_has ls 9 [(8, .int 1), (7, .int (nI md8)), (6, .int gv), (5, .int (nI d)), (4, .int (nI k)), (3, .int s8), (2, .int (nI nl)), (0, .ref h), (1, .int (nI us))] := hl
                  refine lv_aload_n hx hb xd_Mo_bindsFor_164 rfl (lv_at hl 7 rfl) ?_
                  refine va_get (D := D) (ci := 4) (v := .ref (mm 20)) (C := xR_Mo) (T := xT_Mo) (N := 31) hx hb hT xi_Mo hown hK.1 hP 0 rfl rfl 26 (by decide) (hT _ xv_10) (fun _ h9 => h9) rfl xd_Mo_bindsFor_165 ?_
                  refine lv_iload_n hx hb xd_Mo_bindsFor_168 rfl (lv_at hl 6 rfl) ?_
                  refine lv_iload hx hb xd_Mo_bindsFor_169 (lv_at hl 0 rfl) ?_
                  refine xz_eq (a := 1) (tgt := 183) hx hb xd_Mo_bindsFor_171 (by decide) (by omega) (fun hc27 => absurd hc27 (by omega)) (fun _ => ?_)
                  refine lv_aload_n hx hb xd_Mo_bindsFor_174 rfl (lv_at hl 7 rfl) ?_
                  refine va_get (D := D) (ci := 4) (v := .ref (mm 20)) (C := xR_Mo) (T := xT_Mo) (N := 31) hx hb hT xi_Mo hown hK.1 hP 0 rfl rfl 26 (by decide) (hT _ xv_10) (fun _ h9 => h9) rfl xd_Mo_bindsFor_175 ?_
                  refine lv_iload_n hx hb xd_Mo_bindsFor_178 rfl (lv_at hl 6 rfl) ?_
                  refine xn_iald (i := nl) hx hb hK.1 hP 21 0 rfl rfl (by omega) (by decide) xd_Mo_bindsFor_179 ?_
                  refine xn_top (x := (g23 20 nl)) (y := nI mdx) hx3 ?_
                  refine lv_goto (tgt := 185) hx hb xd_Mo_bindsFor_180 (by decide) ?_
                  refine xn_iast (i := nl) hx hb hK.1 hP hD hS 21 0 rfl rfl (by omega) (by decide) xd_Mo_bindsFor_185 (fun H locs hP hD hS => ?_)
                  have hP : va_P D xcl (moW h mm kA v (va_up g23 20 (upd (g23 20) nl (nI mdx)))) H := hP
                  have hD : va_D A (moW h mm kA v (va_up g23 20 (upd (g23 20) nl (nI mdx)))) := hD
                  refine lv_iload_n hx hb xd_Mo_bindsFor_186 rfl (lv_at hl 5 rfl) ?_
                  refine lv_if_ne (tgt := 195) hx hb xd_Mo_bindsFor_187 (by decide) (fun hc28 => ?_) (fun hc28 => ?_)
                  · refine lv_iconst (v := 1) hx hb xd_Mo_bindsFor_195 (by decide) ?_
                    refine lv_goto (tgt := 200) hx hb xd_Mo_bindsFor_196 (by decide) ?_
                    refine lv_istore_n hx hb xd_Mo_bindsFor_200 rfl hl (Nat.le_of_ble_eq_true rfl) rfl (fun ls hl => ?_)
                    have hl : lv_has ls 9 [(3, .int 1), (8, .int 1), (7, .int (nI md8)), (6, .int gv), (5, .int (nI d)), (4, .int (nI k)), (2, .int (nI nl)), (0, .ref h), (1, .int (nI us))] := hl
                    refine lv_iinc (k := 4) (x := (nI d)) (v := (nI (d + 1))) hx hb xd_Mo_bindsFor_201 hl rfl (xb_inc d 1) (Nat.le_of_ble_eq_true rfl) rfl (fun ls hl => ?_)
                    have hl : lv_has ls 9 [(5, .int (nI (d + 1))), (3, .int 1), (8, .int 1), (7, .int (nI md8)), (6, .int gv), (4, .int (nI k)), (2, .int (nI nl)), (0, .ref h), (1, .int (nI us))] := hl
                    refine lv_goto (tgt := 25) hx hb xd_Mo_bindsFor_204 (by decide) ?_
                    exact ih3 (d + 1, 1, mdx, (va_up g23 20 (upd (g23 20) nl (nI mdx)))) _ _ _ (show nd - (d + 1) < nd - d by omega) (lv_sub hl [0, 5, 1, 6, 7, 8] rfl) hP hD hS ⟨(show (d + 1) ≤ nd from by first | assumption | omega), (show md0 ≤ mdx from by first | assumption | omega), (show mdx ≤ 12 from by first | assumption | omega), (show (va_up g23 20 (upd (g23 20) nl (nI mdx))) 20 nl = nI mdx from pk_us), (show MI v (va_up g23 20 (upd (g23 20) nl (nI mdx))) from MI_cut hx3 hx2 (Nat.le_refl _) hM9), (show ∀ j, j ≠ 20 → j ≠ 21 → j ≠ 23 → (va_up g23 20 (upd (g23 20) nl (nI mdx))) j = g j from fun j h1 h2 h3 => by rw [← hfr8 j h1 h2 h3, ← hfr9 j h1 h2 h3]; simp [va_up, h1]), (show NDp (va_up g23 20 (upd (g23 20) nl (nI mdx))) nl mdx from ND_cut (f20 := upd (g23 20) nl (nI mdx)) hx4 (Nat.le_refl _)), (show 1 = 0 ∨ (1 = 1 ∧ md0 < mdx) from Or.inr ⟨rfl, by
      have hg9 := hgr9 d (by omega) hc7 rfl z16
      omega⟩)⟩
                  · refine lv_iload hx hb xd_Mo_bindsFor_190 (lv_at hl 0 rfl) ?_
                    refine xz_eq (a := 1) (tgt := 199) hx hb xd_Mo_bindsFor_192 (by decide) (by omega) (fun hc29 => absurd hc29 (by omega)) (fun _ => ?_)
                    refine lv_iconst (v := 1) hx hb xd_Mo_bindsFor_195 (by decide) ?_
                    refine lv_goto (tgt := 200) hx hb xd_Mo_bindsFor_196 (by decide) ?_
                    refine lv_istore_n hx hb xd_Mo_bindsFor_200 rfl hl (Nat.le_of_ble_eq_true rfl) rfl (fun ls hl => ?_)
                    have hl : lv_has ls 9 [(3, .int 1), (8, .int 1), (7, .int (nI md8)), (6, .int gv), (5, .int (nI d)), (4, .int (nI k)), (2, .int (nI nl)), (0, .ref h), (1, .int (nI us))] := hl
                    refine lv_iinc (k := 4) (x := (nI d)) (v := (nI (d + 1))) hx hb xd_Mo_bindsFor_201 hl rfl (xb_inc d 1) (Nat.le_of_ble_eq_true rfl) rfl (fun ls hl => ?_)
                    have hl : lv_has ls 9 [(5, .int (nI (d + 1))), (3, .int 1), (8, .int 1), (7, .int (nI md8)), (6, .int gv), (4, .int (nI k)), (2, .int (nI nl)), (0, .ref h), (1, .int (nI us))] := hl
                    refine lv_goto (tgt := 25) hx hb xd_Mo_bindsFor_204 (by decide) ?_
                    exact ih3 (d + 1, 1, mdx, (va_up g23 20 (upd (g23 20) nl (nI mdx)))) _ _ _ (show nd - (d + 1) < nd - d by omega) (lv_sub hl [0, 5, 1, 6, 7, 8] rfl) hP hD hS ⟨(show (d + 1) ≤ nd from by first | assumption | omega), (show md0 ≤ mdx from by first | assumption | omega), (show mdx ≤ 12 from by first | assumption | omega), (show (va_up g23 20 (upd (g23 20) nl (nI mdx))) 20 nl = nI mdx from pk_us), (show MI v (va_up g23 20 (upd (g23 20) nl (nI mdx))) from MI_cut hx3 hx2 (Nat.le_refl _) hM9), (show ∀ j, j ≠ 20 → j ≠ 21 → j ≠ 23 → (va_up g23 20 (upd (g23 20) nl (nI mdx))) j = g j from fun j h1 h2 h3 => by rw [← hfr8 j h1 h2 h3, ← hfr9 j h1 h2 h3]; simp [va_up, h1]), (show NDp (va_up g23 20 (upd (g23 20) nl (nI mdx))) nl mdx from ND_cut (f20 := upd (g23 20) nl (nI mdx)) hx4 (Nat.le_refl _)), (show 1 = 0 ∨ (1 = 1 ∧ md0 < mdx) from Or.inr ⟨rfl, by
      have hg9 := hgr9 d (by omega) hc7 rfl z16
      omega⟩)⟩
        refine lv_aload_n hx hb xd_Mo_bindsFor_44 rfl (lv_at hl 4 rfl) ?_
        refine va_get (D := D) (ci := 4) (v := .ref (mm 15)) (C := xR_Mo) (T := xT_Mo) (N := 31) hx hb hT xi_Mo hown hK.1 hP 0 rfl rfl 20 (by decide) (hT _ xv_16) (fun _ h9 => h9) rfl xd_Mo_bindsFor_45 ?_
        refine lv_iconst (v := 3) hx hb xd_Mo_bindsFor_48 (by decide) ?_
        refine lv_iload hx hb xd_Mo_bindsFor_49 (lv_at hl 0 rfl) ?_
        refine lv_imul hx hb xd_Mo_bindsFor_51 ?_
        refine xn_top (y := nI (3 * d)) (pk_mul 3 d) ?_
        refine xn_iald (i := 3 * d) hx hb hK.1 hP 16 0 rfl rfl (by omega) (by decide) xd_Mo_bindsFor_52 ?_
        refine lv_aload_n hx hb xd_Mo_bindsFor_53 rfl (lv_at hl 4 rfl) ?_
        refine va_get (D := D) (ci := 4) (v := .ref (mm 14)) (C := xR_Mo) (T := xT_Mo) (N := 31) hx hb hT xi_Mo hown hK.1 hP 0 rfl rfl 19 (by decide) (hT _ xv_2) (fun _ h9 => h9) rfl xd_Mo_bindsFor_54 ?_
        refine lv_iload hx hb xd_Mo_bindsFor_57 (lv_at hl 1 rfl) ?_
        refine xn_iald (i := k) hx hb hK.1 hP 15 0 rfl rfl (by omega) (by decide) xd_Mo_bindsFor_59 ?_
        refine lv_icmp_eq (tgt := 105) hx hb xd_Mo_bindsFor_60 (by decide) (fun hc30 => ?_) (fun hc30 => ?_)
        · refine lv_iconst (v := 1) hx hb xd_Mo_bindsFor_105 (by decide) ?_
          refine lv_goto (tgt := 110) hx hb xd_Mo_bindsFor_106 (by decide) ?_
          refine lv_istore hx hb xd_Mo_bindsFor_110 hl (Nat.le_of_ble_eq_true rfl) rfl (fun ls hl => ?_)
          have hl : lv_has ls 9 [(6, .int 1), (5, .int (nI d)), (4, .int (nI k)), (3, .int s8), (2, .int (nI nl)), (0, .ref h), (1, .int (nI us))] := hl
          exact jn6 1 _ _ _ (lv_sub hl [0, 1, 2, 3, 4, 5, 6] rfl) hP hD hS trivial
        · refine lv_aload_n hx hb xd_Mo_bindsFor_63 rfl (lv_at hl 4 rfl) ?_
          refine va_get (D := D) (ci := 4) (v := .ref (mm 15)) (C := xR_Mo) (T := xT_Mo) (N := 31) hx hb hT xi_Mo hown hK.1 hP 0 rfl rfl 20 (by decide) (hT _ xv_16) (fun _ h9 => h9) rfl xd_Mo_bindsFor_64 ?_
          refine lv_iconst (v := 3) hx hb xd_Mo_bindsFor_67 (by decide) ?_
          refine lv_iload hx hb xd_Mo_bindsFor_68 (lv_at hl 0 rfl) ?_
          refine lv_imul hx hb xd_Mo_bindsFor_70 ?_
          refine xn_top (y := nI (3 * d)) (pk_mul 3 d) ?_
          refine lv_iconst (v := 1) hx hb xd_Mo_bindsFor_71 (by decide) ?_
          refine lv_iadd hx hb xd_Mo_bindsFor_72 ?_
          refine xn_top (y := nI ((3 * d) + 1)) (nI_add (3 * d) 1) ?_
          refine xn_iald (i := (3 * d) + 1) hx hb hK.1 hP 16 0 rfl rfl (by omega) (by decide) xd_Mo_bindsFor_73 ?_
          refine lv_aload_n hx hb xd_Mo_bindsFor_74 rfl (lv_at hl 4 rfl) ?_
          refine va_get (D := D) (ci := 4) (v := .ref (mm 14)) (C := xR_Mo) (T := xT_Mo) (N := 31) hx hb hT xi_Mo hown hK.1 hP 0 rfl rfl 19 (by decide) (hT _ xv_2) (fun _ h9 => h9) rfl xd_Mo_bindsFor_75 ?_
          refine lv_iload hx hb xd_Mo_bindsFor_78 (lv_at hl 1 rfl) ?_
          refine xn_iald (i := k) hx hb hK.1 hP 15 0 rfl rfl (by omega) (by decide) xd_Mo_bindsFor_80 ?_
          refine lv_icmp_eq (tgt := 105) hx hb xd_Mo_bindsFor_81 (by decide) (fun hc31 => ?_) (fun hc31 => ?_)
          · refine lv_iconst (v := 1) hx hb xd_Mo_bindsFor_105 (by decide) ?_
            refine lv_goto (tgt := 110) hx hb xd_Mo_bindsFor_106 (by decide) ?_
            refine lv_istore hx hb xd_Mo_bindsFor_110 hl (Nat.le_of_ble_eq_true rfl) rfl (fun ls hl => ?_)
            have hl : lv_has ls 9 [(6, .int 1), (5, .int (nI d)), (4, .int (nI k)), (3, .int s8), (2, .int (nI nl)), (0, .ref h), (1, .int (nI us))] := hl
            exact jn6 1 _ _ _ (lv_sub hl [0, 1, 2, 3, 4, 5, 6] rfl) hP hD hS trivial
          · refine lv_aload_n hx hb xd_Mo_bindsFor_84 rfl (lv_at hl 4 rfl) ?_
            refine va_get (D := D) (ci := 4) (v := .ref (mm 15)) (C := xR_Mo) (T := xT_Mo) (N := 31) hx hb hT xi_Mo hown hK.1 hP 0 rfl rfl 20 (by decide) (hT _ xv_16) (fun _ h9 => h9) rfl xd_Mo_bindsFor_85 ?_
            refine lv_iconst (v := 3) hx hb xd_Mo_bindsFor_88 (by decide) ?_
            refine lv_iload hx hb xd_Mo_bindsFor_89 (lv_at hl 0 rfl) ?_
            refine lv_imul hx hb xd_Mo_bindsFor_91 ?_
            refine xn_top (y := nI (3 * d)) (pk_mul 3 d) ?_
            refine lv_iconst (v := 2) hx hb xd_Mo_bindsFor_92 (by decide) ?_
            refine lv_iadd hx hb xd_Mo_bindsFor_93 ?_
            refine xn_top (y := nI ((3 * d) + 2)) (nI_add (3 * d) 2) ?_
            refine xn_iald (i := (3 * d) + 2) hx hb hK.1 hP 16 0 rfl rfl (by omega) (by decide) xd_Mo_bindsFor_94 ?_
            refine lv_aload_n hx hb xd_Mo_bindsFor_95 rfl (lv_at hl 4 rfl) ?_
            refine va_get (D := D) (ci := 4) (v := .ref (mm 14)) (C := xR_Mo) (T := xT_Mo) (N := 31) hx hb hT xi_Mo hown hK.1 hP 0 rfl rfl 19 (by decide) (hT _ xv_2) (fun _ h9 => h9) rfl xd_Mo_bindsFor_96 ?_
            refine lv_iload hx hb xd_Mo_bindsFor_99 (lv_at hl 1 rfl) ?_
            refine xn_iald (i := k) hx hb hK.1 hP 15 0 rfl rfl (by omega) (by decide) xd_Mo_bindsFor_101 ?_
            refine lv_icmp_ne (tgt := 109) hx hb xd_Mo_bindsFor_102 (by decide) (fun hc32 => ?_) (fun hc32 => ?_)
            · refine lv_iconst (v := 0) hx hb xd_Mo_bindsFor_109 (by decide) ?_
              refine lv_istore hx hb xd_Mo_bindsFor_110 hl (Nat.le_of_ble_eq_true rfl) rfl (fun ls hl => ?_)
              have hl : lv_has ls 9 [(6, .int 0), (5, .int (nI d)), (4, .int (nI k)), (3, .int s8), (2, .int (nI nl)), (0, .ref h), (1, .int (nI us))] := hl
              exact jn6 0 _ _ _ (lv_sub hl [0, 1, 2, 3, 4, 5, 6] rfl) hP hD hS trivial
            · refine lv_iconst (v := 1) hx hb xd_Mo_bindsFor_105 (by decide) ?_
              refine lv_goto (tgt := 110) hx hb xd_Mo_bindsFor_106 (by decide) ?_
              refine lv_istore hx hb xd_Mo_bindsFor_110 hl (Nat.le_of_ble_eq_true rfl) rfl (fun ls hl => ?_)
              have hl : lv_has ls 9 [(6, .int 1), (5, .int (nI d)), (4, .int (nI k)), (3, .int s8), (2, .int (nI nl)), (0, .ref h), (1, .int (nI us))] := hl
              exact jn6 1 _ _ _ (lv_sub hl [0, 1, 2, 3, 4, 5, 6] rfl) hP hD hS trivial
