abbrev xb_Mo_reading : ByteArray := prog_12_method_26_code
def xy_Mo_reading : MethodName := ⟨"LayerDeskModel", "reading", "(II)V"⟩
theorem xd_Mo_reading_0 : decode xb_Mo_reading 0 = .ok (.iconst 0, 1) := by decide +kernel
theorem xd_Mo_reading_1 : decode xb_Mo_reading 1 = .ok (.istore_n 3, 1) := by decide +kernel
theorem xd_Mo_reading_2 : decode xb_Mo_reading 2 = .ok (.iload_n 3, 1) := by decide +kernel
theorem xd_Mo_reading_3 : decode xb_Mo_reading 3 = .ok (.bipush 72, 2) := by decide +kernel
theorem xd_Mo_reading_5 : decode xb_Mo_reading 5 = .ok (.if_icmp .ge 16, 3) := by decide +kernel
theorem xd_Mo_reading_8 : decode xb_Mo_reading 8 = .ok (.aload_n 0, 1) := by decide +kernel
theorem xd_Mo_reading_9 : decode xb_Mo_reading 9 = .ok (.getfield 84, 3) := by decide +kernel
theorem xd_Mo_reading_12 : decode xb_Mo_reading 12 = .ok (.iload_n 3, 1) := by decide +kernel
theorem xd_Mo_reading_13 : decode xb_Mo_reading 13 = .ok (.iconst 0, 1) := by decide +kernel
theorem xd_Mo_reading_14 : decode xb_Mo_reading 14 = .ok (.bastore, 1) := by decide +kernel
theorem xd_Mo_reading_15 : decode xb_Mo_reading 15 = .ok (.iinc 3 1, 3) := by decide +kernel
theorem xd_Mo_reading_18 : decode xb_Mo_reading 18 = .ok (.goto (-16), 3) := by decide +kernel
theorem xd_Mo_reading_21 : decode xb_Mo_reading 21 = .ok (.iconst 5, 1) := by decide +kernel
theorem xd_Mo_reading_22 : decode xb_Mo_reading 22 = .ok (.iload_n 2, 1) := by decide +kernel
theorem xd_Mo_reading_23 : decode xb_Mo_reading 23 = .ok (.imul, 1) := by decide +kernel
theorem xd_Mo_reading_24 : decode xb_Mo_reading 24 = .ok (.istore_n 3, 1) := by decide +kernel
theorem xd_Mo_reading_25 : decode xb_Mo_reading 25 = .ok (.iload_n 3, 1) := by decide +kernel
theorem xd_Mo_reading_26 : decode xb_Mo_reading 26 = .ok (.iconst 5, 1) := by decide +kernel
theorem xd_Mo_reading_27 : decode xb_Mo_reading 27 = .ok (.iload_n 2, 1) := by decide +kernel
theorem xd_Mo_reading_28 : decode xb_Mo_reading 28 = .ok (.imul, 1) := by decide +kernel
theorem xd_Mo_reading_29 : decode xb_Mo_reading 29 = .ok (.aload_n 0, 1) := by decide +kernel
theorem xd_Mo_reading_30 : decode xb_Mo_reading 30 = .ok (.getfield 48, 3) := by decide +kernel
theorem xd_Mo_reading_33 : decode xb_Mo_reading 33 = .ok (.iload_n 2, 1) := by decide +kernel
theorem xd_Mo_reading_34 : decode xb_Mo_reading 34 = .ok (.iaload, 1) := by decide +kernel
theorem xd_Mo_reading_35 : decode xb_Mo_reading 35 = .ok (.iadd, 1) := by decide +kernel
theorem xd_Mo_reading_36 : decode xb_Mo_reading 36 = .ok (.if_icmp .ge 35, 3) := by decide +kernel
theorem xd_Mo_reading_39 : decode xb_Mo_reading 39 = .ok (.aload_n 0, 1) := by decide +kernel
theorem xd_Mo_reading_40 : decode xb_Mo_reading 40 = .ok (.iload_n 1, 1) := by decide +kernel
theorem xd_Mo_reading_41 : decode xb_Mo_reading 41 = .ok (.aload_n 0, 1) := by decide +kernel
theorem xd_Mo_reading_42 : decode xb_Mo_reading 42 = .ok (.getfield 51, 3) := by decide +kernel
theorem xd_Mo_reading_45 : decode xb_Mo_reading 45 = .ok (.iload_n 3, 1) := by decide +kernel
theorem xd_Mo_reading_46 : decode xb_Mo_reading 46 = .ok (.iaload, 1) := by decide +kernel
theorem xd_Mo_reading_47 : decode xb_Mo_reading 47 = .ok (.invokevirtual 153, 3) := by decide +kernel
theorem xd_Mo_reading_50 : decode xb_Mo_reading 50 = .ok (.istore 4, 2) := by decide +kernel
theorem xd_Mo_reading_52 : decode xb_Mo_reading 52 = .ok (.iload 4, 2) := by decide +kernel
theorem xd_Mo_reading_54 : decode xb_Mo_reading 54 = .ok (.ifCond .lt 11, 3) := by decide +kernel
theorem xd_Mo_reading_57 : decode xb_Mo_reading 57 = .ok (.aload_n 0, 1) := by decide +kernel
theorem xd_Mo_reading_58 : decode xb_Mo_reading 58 = .ok (.getfield 84, 3) := by decide +kernel
theorem xd_Mo_reading_61 : decode xb_Mo_reading 61 = .ok (.iload 4, 2) := by decide +kernel
theorem xd_Mo_reading_63 : decode xb_Mo_reading 63 = .ok (.iconst 1, 1) := by decide +kernel
theorem xd_Mo_reading_64 : decode xb_Mo_reading 64 = .ok (.bastore, 1) := by decide +kernel
theorem xd_Mo_reading_65 : decode xb_Mo_reading 65 = .ok (.iinc 3 1, 3) := by decide +kernel
theorem xd_Mo_reading_68 : decode xb_Mo_reading 68 = .ok (.goto (-43), 3) := by decide +kernel
theorem xd_Mo_reading_71 : decode xb_Mo_reading 71 = .ok (.iconst 1, 1) := by decide +kernel
theorem xd_Mo_reading_72 : decode xb_Mo_reading 72 = .ok (.istore_n 3, 1) := by decide +kernel
theorem xd_Mo_reading_73 : decode xb_Mo_reading 73 = .ok (.iload_n 3, 1) := by decide +kernel
theorem xd_Mo_reading_74 : decode xb_Mo_reading 74 = .ok (.ifCond .eq 129, 3) := by decide +kernel
theorem xd_Mo_reading_77 : decode xb_Mo_reading 77 = .ok (.iconst 0, 1) := by decide +kernel
theorem xd_Mo_reading_78 : decode xb_Mo_reading 78 = .ok (.istore_n 3, 1) := by decide +kernel
theorem xd_Mo_reading_79 : decode xb_Mo_reading 79 = .ok (.iconst 0, 1) := by decide +kernel
theorem xd_Mo_reading_80 : decode xb_Mo_reading 80 = .ok (.istore 4, 2) := by decide +kernel
theorem xd_Mo_reading_82 : decode xb_Mo_reading 82 = .ok (.iload 4, 2) := by decide +kernel
theorem xd_Mo_reading_84 : decode xb_Mo_reading 84 = .ok (.bipush 72, 2) := by decide +kernel
theorem xd_Mo_reading_86 : decode xb_Mo_reading 86 = .ok (.if_icmp .ge 114, 3) := by decide +kernel
theorem xd_Mo_reading_89 : decode xb_Mo_reading 89 = .ok (.iconst 5, 1) := by decide +kernel
theorem xd_Mo_reading_90 : decode xb_Mo_reading 90 = .ok (.iload 4, 2) := by decide +kernel
theorem xd_Mo_reading_92 : decode xb_Mo_reading 92 = .ok (.bipush 12, 2) := by decide +kernel
theorem xd_Mo_reading_94 : decode xb_Mo_reading 94 = .ok (.irem, 1) := by decide +kernel
theorem xd_Mo_reading_95 : decode xb_Mo_reading 95 = .ok (.imul, 1) := by decide +kernel
theorem xd_Mo_reading_96 : decode xb_Mo_reading 96 = .ok (.istore 5, 2) := by decide +kernel
theorem xd_Mo_reading_98 : decode xb_Mo_reading 98 = .ok (.aload_n 0, 1) := by decide +kernel
theorem xd_Mo_reading_99 : decode xb_Mo_reading 99 = .ok (.getfield 84, 3) := by decide +kernel
theorem xd_Mo_reading_102 : decode xb_Mo_reading 102 = .ok (.iload 4, 2) := by decide +kernel
theorem xd_Mo_reading_104 : decode xb_Mo_reading 104 = .ok (.baload, 1) := by decide +kernel
theorem xd_Mo_reading_105 : decode xb_Mo_reading 105 = .ok (.ifCond .eq 89, 3) := by decide +kernel
theorem xd_Mo_reading_108 : decode xb_Mo_reading 108 = .ok (.iload 5, 2) := by decide +kernel
theorem xd_Mo_reading_110 : decode xb_Mo_reading 110 = .ok (.iconst 5, 1) := by decide +kernel
theorem xd_Mo_reading_111 : decode xb_Mo_reading 111 = .ok (.iload 4, 2) := by decide +kernel
theorem xd_Mo_reading_113 : decode xb_Mo_reading 113 = .ok (.bipush 12, 2) := by decide +kernel
theorem xd_Mo_reading_115 : decode xb_Mo_reading 115 = .ok (.irem, 1) := by decide +kernel
theorem xd_Mo_reading_116 : decode xb_Mo_reading 116 = .ok (.imul, 1) := by decide +kernel
theorem xd_Mo_reading_117 : decode xb_Mo_reading 117 = .ok (.aload_n 0, 1) := by decide +kernel
theorem xd_Mo_reading_118 : decode xb_Mo_reading 118 = .ok (.getfield 48, 3) := by decide +kernel
theorem xd_Mo_reading_121 : decode xb_Mo_reading 121 = .ok (.iload 4, 2) := by decide +kernel
theorem xd_Mo_reading_123 : decode xb_Mo_reading 123 = .ok (.bipush 12, 2) := by decide +kernel
theorem xd_Mo_reading_125 : decode xb_Mo_reading 125 = .ok (.irem, 1) := by decide +kernel
theorem xd_Mo_reading_126 : decode xb_Mo_reading 126 = .ok (.iaload, 1) := by decide +kernel
theorem xd_Mo_reading_127 : decode xb_Mo_reading 127 = .ok (.iadd, 1) := by decide +kernel
theorem xd_Mo_reading_128 : decode xb_Mo_reading 128 = .ok (.if_icmp .ge 66, 3) := by decide +kernel
theorem xd_Mo_reading_131 : decode xb_Mo_reading 131 = .ok (.aload_n 0, 1) := by decide +kernel
theorem xd_Mo_reading_132 : decode xb_Mo_reading 132 = .ok (.getfield 60, 3) := by decide +kernel
theorem xd_Mo_reading_135 : decode xb_Mo_reading 135 = .ok (.iload 5, 2) := by decide +kernel
theorem xd_Mo_reading_137 : decode xb_Mo_reading 137 = .ok (.baload, 1) := by decide +kernel
theorem xd_Mo_reading_138 : decode xb_Mo_reading 138 = .ok (.ifCond .eq 22, 3) := by decide +kernel
theorem xd_Mo_reading_141 : decode xb_Mo_reading 141 = .ok (.aload_n 0, 1) := by decide +kernel
theorem xd_Mo_reading_142 : decode xb_Mo_reading 142 = .ok (.iload 4, 2) := by decide +kernel
theorem xd_Mo_reading_144 : decode xb_Mo_reading 144 = .ok (.bipush 12, 2) := by decide +kernel
theorem xd_Mo_reading_146 : decode xb_Mo_reading 146 = .ok (.idiv, 1) := by decide +kernel
theorem xd_Mo_reading_147 : decode xb_Mo_reading 147 = .ok (.aload_n 0, 1) := by decide +kernel
theorem xd_Mo_reading_148 : decode xb_Mo_reading 148 = .ok (.getfield 51, 3) := by decide +kernel
theorem xd_Mo_reading_151 : decode xb_Mo_reading 151 = .ok (.iload 5, 2) := by decide +kernel
theorem xd_Mo_reading_153 : decode xb_Mo_reading 153 = .ok (.iaload, 1) := by decide +kernel
theorem xd_Mo_reading_154 : decode xb_Mo_reading 154 = .ok (.invokevirtual 153, 3) := by decide +kernel
theorem xd_Mo_reading_157 : decode xb_Mo_reading 157 = .ok (.goto 4, 3) := by decide +kernel
theorem xd_Mo_reading_160 : decode xb_Mo_reading 160 = .ok (.iconst (-1), 1) := by decide +kernel
theorem xd_Mo_reading_161 : decode xb_Mo_reading 161 = .ok (.istore 6, 2) := by decide +kernel
theorem xd_Mo_reading_163 : decode xb_Mo_reading 163 = .ok (.iload 6, 2) := by decide +kernel
theorem xd_Mo_reading_165 : decode xb_Mo_reading 165 = .ok (.ifCond .lt 23, 3) := by decide +kernel
theorem xd_Mo_reading_168 : decode xb_Mo_reading 168 = .ok (.aload_n 0, 1) := by decide +kernel
theorem xd_Mo_reading_169 : decode xb_Mo_reading 169 = .ok (.getfield 84, 3) := by decide +kernel
theorem xd_Mo_reading_172 : decode xb_Mo_reading 172 = .ok (.iload 6, 2) := by decide +kernel
theorem xd_Mo_reading_174 : decode xb_Mo_reading 174 = .ok (.baload, 1) := by decide +kernel
theorem xd_Mo_reading_175 : decode xb_Mo_reading 175 = .ok (.ifCond .ne 13, 3) := by decide +kernel
theorem xd_Mo_reading_178 : decode xb_Mo_reading 178 = .ok (.aload_n 0, 1) := by decide +kernel
theorem xd_Mo_reading_179 : decode xb_Mo_reading 179 = .ok (.getfield 84, 3) := by decide +kernel
theorem xd_Mo_reading_182 : decode xb_Mo_reading 182 = .ok (.iload 6, 2) := by decide +kernel
theorem xd_Mo_reading_184 : decode xb_Mo_reading 184 = .ok (.iconst 1, 1) := by decide +kernel
theorem xd_Mo_reading_185 : decode xb_Mo_reading 185 = .ok (.bastore, 1) := by decide +kernel
theorem xd_Mo_reading_186 : decode xb_Mo_reading 186 = .ok (.iconst 1, 1) := by decide +kernel
theorem xd_Mo_reading_187 : decode xb_Mo_reading 187 = .ok (.istore_n 3, 1) := by decide +kernel
theorem xd_Mo_reading_188 : decode xb_Mo_reading 188 = .ok (.iinc 5 1, 3) := by decide +kernel
theorem xd_Mo_reading_191 : decode xb_Mo_reading 191 = .ok (.goto (-93), 3) := by decide +kernel
theorem xd_Mo_reading_194 : decode xb_Mo_reading 194 = .ok (.iinc 4 1, 3) := by decide +kernel
theorem xd_Mo_reading_197 : decode xb_Mo_reading 197 = .ok (.goto (-115), 3) := by decide +kernel
theorem xd_Mo_reading_200 : decode xb_Mo_reading 200 = .ok (.goto (-127), 3) := by decide +kernel
theorem xd_Mo_reading_203 : decode xb_Mo_reading 203 = .ok (.aload_n 0, 1) := by decide +kernel
theorem xd_Mo_reading_204 : decode xb_Mo_reading 204 = .ok (.getfield 84, 3) := by decide +kernel
theorem xd_Mo_reading_207 : decode xb_Mo_reading 207 = .ok (.bipush 12, 2) := by decide +kernel
theorem xd_Mo_reading_209 : decode xb_Mo_reading 209 = .ok (.iload_n 1, 1) := by decide +kernel
theorem xd_Mo_reading_210 : decode xb_Mo_reading 210 = .ok (.imul, 1) := by decide +kernel
theorem xd_Mo_reading_211 : decode xb_Mo_reading 211 = .ok (.iload_n 2, 1) := by decide +kernel
theorem xd_Mo_reading_212 : decode xb_Mo_reading 212 = .ok (.iadd, 1) := by decide +kernel
theorem xd_Mo_reading_213 : decode xb_Mo_reading 213 = .ok (.iconst 0, 1) := by decide +kernel
theorem xd_Mo_reading_214 : decode xb_Mo_reading 214 = .ok (.bastore, 1) := by decide +kernel
theorem xd_Mo_reading_215 : decode xb_Mo_reading 215 = .ok (.return_, 1) := by decide +kernel
theorem xy1_0 : (Cond.fieldLink "LayerDeskModel" 48 "LayerDeskModel" "requires" "[I") ∈ wT := wT_t (List.mem_append_right _ (List.mem_append_right _ (List.mem_append_right _ (List.mem_append_left _ (List.mem_of_getElem? (i := 101) rfl))))) rfl
theorem xy1_1 : (Cond.fieldLink "LayerDeskModel" 84 "LayerDeskModel" "seen" "[Z") ∈ wT := wT_t (List.mem_append_right _ (List.mem_append_right _ (List.mem_append_right _ (List.mem_append_left _ (List.mem_of_getElem? (i := 114) rfl))))) rfl
theorem xy1_2 : (Cond.fieldLink "LayerDeskModel" 60 "LayerDeskModel" "passes" "[Z") ∈ wT := wT_t (List.mem_append_right _ (List.mem_append_right _ (List.mem_append_right _ (List.mem_append_left _ (List.mem_of_getElem? (i := 105) rfl))))) rfl
theorem xy1_3 : (Cond.fieldLink "LayerDeskModel" 51 "LayerDeskModel" "require" "[I") ∈ wT := wT_t (List.mem_append_right _ (List.mem_append_right _ (List.mem_append_right _ (List.mem_append_left _ (List.mem_of_getElem? (i := 102) rfl))))) rfl
theorem xy1_4 : (Cond.code xy_Mo_lookUp xb_Mo_lookUp 5 (some .int)) ∈ wT := wT_t (List.mem_append_right _ (List.mem_append_right _ (List.mem_append_right _ (List.mem_append_right _ (List.mem_of_getElem? (i := 20) rfl))))) rfl
theorem xy1_5 : (Cond.methodLink "LayerDeskModel" 153 xy_Mo_lookUp) ∈ wT := wT_t (List.mem_append_right _ (List.mem_append_right _ (List.mem_append_right _ (List.mem_append_right _ (List.mem_of_getElem? (i := 17) rfl))))) rfl
theorem xy1_6 : (Cond.instanceMethod xy_Mo_lookUp) ∈ wT := wT_t (List.mem_append_right _ (List.mem_append_right _ (List.mem_append_right _ (List.mem_append_right _ (List.mem_of_getElem? (i := 19) rfl))))) rfl
theorem xy1_7 : (Cond.selects "LayerDeskModel" xy_Mo_lookUp xy_Mo_lookUp) ∈ wT := wT_s (q := (xy_Mo_lookUp, 31)) (by decide +kernel) rfl
theorem xy1_8 : (Cond.initialized "LayerDeskModel") ∈ wT := wT_t (List.mem_append_left _ (List.mem_of_getElem? (i := 5) rfl)) rfl
set_option maxHeartbeats 4000000 in
set_option maxRecDepth 100000 in
theorem xc_Mo_reading (l : Launch) (D : va_G) (kA : Nat → ClassId) (sz h : Nat) (mm : Nat → Nat) (v : Nat → Int32) (g : Nat → Nat → Int32) (ly : Nat) (d : Nat) (np : Nat) (hMI : MI v g) (hnp : np ≤ 6) (hpar : ∀ la, la < np → ∃ lq, lq ≤ la ∧ g 19 la = nI lq - 1) (hly : ly < np) (hd : d < 12) : Met l xy_Mo_reading (.code xy_Mo_reading xb_Mo_reading 7 none :: wT) { frames := 1, cells := 0, slots := 0, locals := 24 } (va_Pc [.ref h, .int (nI ly), .int (nI d)] (xPre D kA sz (moW h mm kA v g))) (va_Qv (fun (u : (Nat → Int32) × (Nat → Nat → Int32)) => u.1 = v ∧ (∀ j, j ≠ 24 → u.2 j = g j) ∧ bz (u.2 24) ∧ (∀ i, i < 72 → ¬ u.2 24 i = 0 → i / 12 < np)) (fun (u : (Nat → Int32) × (Nat → Nat → Int32)) t => va_P D xcl (moW h mm kA u.1 u.2) t.heap ∧ va_D (va_A (moW h mm kA v g) sz) (moW h mm kA u.1 u.2)) (va_A (moW h mm kA v g) sz)) 0 0 (va_A (moW h mm kA v g) sz) := by
  refine Met.ofW (cc := xb_Mo_reading) (maxL := 7) (ret := none) (by decide) rfl ?_
  intro p e s m args below meth c s₁ B hml hv
  obtain ⟨rfl, hsz, hP, hK, hD0⟩ := hv
  have hx := B.exec
  have hb := B.bytes
  have hr := B.returns
  have hT := x_hT B.pre
  have hown : s.vm.findClass xR_Mo = some m.cls := findClass_of_methodNamed B.named
  have hlocks := B.notSynchronized
  subst hsz
  have hD := hD0.self (sz := s.heap.size)
  generalize hAe : va_A (moW h mm kA v g) s.heap.size = A at hD ⊢
  have hA : ∀ q : Nat, s.heap.size ≤ q → A q := fun q h => by rw [← hAe]; exact Or.inr h
  have hS : va_S A s.heap s.heap [] := va_S.rf
  have hl := lv_entry ([.ref h, .int (nI ly), .int (nI d)]) (n := 7) (Nat.le_of_ble_eq_true rfl)
  rw [lg_entry_eq]
  generalize (lg_sl ([.ref h, .int (nI ly), .int (nI d)]) ++ List.replicate (7 - (lg_sl ([.ref h, .int (nI ly), .int (nI d)])).length) Slot.unset).toArray = ls at hl ⊢
  have hl : lv_has ls 7 [(0, .ref h), (1, .int (nI ly)), (2, .int (nI d))] := hl
  have hP : va_P D xcl (moW h mm kA v g) s.heap := hP
  obtain ⟨-, -, -, hpk, hrq, hmd, -⟩ := id hMI
  refine lv_iconst (v := 0) hx hb xd_Mo_reading_0 (by decide) ?_
  refine lv_istore_n hx hb xd_Mo_reading_1 rfl hl (Nat.le_of_ble_eq_true rfl) rfl (fun ls hl => ?_)
  have hl : lv_has ls 7 [(3, .int 0), (0, .ref h), (1, .int (nI ly)), (2, .int (nI d))] := hl
  refine xlab (σ := Nat × (Nat → Int32)) (ml := 7) 2 (fun (i0, f0) => [(3, .int (nI i0)), (0, .ref h), (1, .int (nI ly)), (2, .int (nI d))]) (fun (i0, f0) => []) (fun (i0, f0) => moW h mm kA v (va_up g 24 f0)) (fun (i0, f0) => (i0 ≤ 72) ∧ (∀ j, j < i0 → f0 j = vp_nar .boolean 0)) (fun (i0, f0) => 72 - i0) ?_ (0, (g 24)) _ _ _ (lv_sub hl [0, 1, 2, 3] rfl) hP hD hS ⟨(show 0 ≤ 72 from by first | assumption | omega), (show ∀ j, j < 0 → (g 24) j = vp_nar .boolean 0 from fun j hj => absurd hj (by omega))⟩
  intro n9 ih1 a9 ls H locs hμ hl hP hD hS hI
  subst hμ
  obtain ⟨i0, f0⟩ := a9
  obtain ⟨hi0, hz0⟩ := hI
  have hi0 : i0 ≤ 72 := hi0
  have hz0 : ∀ j, j < i0 → f0 j = vp_nar .boolean 0 := hz0
  have hl : lv_has ls 7 [(3, .int (nI i0)), (0, .ref h), (1, .int (nI ly)), (2, .int (nI d))] := hl
  have hP : va_P D xcl (moW h mm kA v (va_up g 24 f0)) H := hP
  have hD : va_D A (moW h mm kA v (va_up g 24 f0)) := hD
  refine lv_iload_n hx hb xd_Mo_reading_2 rfl (lv_at hl 0 rfl) ?_
  refine lv_bipush (v := 72) hx hb xd_Mo_reading_3 (by decide) ?_
  refine xn_ge (a := i0) (b := 72) (tgt := 21) hx hb xd_Mo_reading_5 (by decide) (by omega) (by omega) (fun hc2 => ?_) (fun hc2 => ?_)
  · obtain ⟨rqa, hrqa, erqa⟩ := hrq d (by omega)
    refine lv_iconst (v := 5) hx hb xd_Mo_reading_21 (by decide) ?_
    refine lv_iload_n hx hb xd_Mo_reading_22 rfl (lv_at hl 3 rfl) ?_
    refine lv_imul hx hb xd_Mo_reading_23 ?_
    refine xn_top (y := nI (5 * d)) (pk_mul 5 d) ?_
    refine lv_istore_n hx hb xd_Mo_reading_24 rfl hl (Nat.le_of_ble_eq_true rfl) rfl (fun ls hl => ?_)
    have hl : lv_has ls 7 [(3, .int (nI (5 * d))), (0, .ref h), (1, .int (nI ly)), (2, .int (nI d))] := hl
    refine xlab (σ := Nat × (Nat → Int32)) (ml := 7) 25 (fun (k2, f2) => [(3, .int (nI k2)), (0, .ref h), (1, .int (nI ly)), (2, .int (nI d))]) (fun (k2, f2) => []) (fun (k2, f2) => moW h mm kA v (va_up g 24 f2)) (fun (k2, f2) => (5 * d ≤ k2) ∧ (k2 ≤ 5 * d + rqa) ∧ (bz f2) ∧ (∀ i, i < 72 → ¬ f2 i = 0 → i / 12 < np)) (fun (k2, f2) => 5 * d + rqa - k2) ?_ (5 * d, f0) _ _ _ (lv_sub hl [0, 1, 2, 3] rfl) hP hD hS ⟨(show 5 * d ≤ (5 * d) from by first | assumption | omega), (show (5 * d) ≤ 5 * d + rqa from by first | assumption | omega), (show bz f0 from bz_0 (fun j hj => hz0 j (by omega))), (show ∀ i, i < 72 → ¬ f0 i = 0 → i / 12 < np from fun i hi hne => absurd (hz0 i (by omega)) (fun q => hne (q.trans (by decide))))⟩
    intro n9 ih3 a9 ls H locs hμ hl hP hD hS hI
    subst hμ
    obtain ⟨k2, f2⟩ := a9
    obtain ⟨hk21, hk22, hbz2, hsn2⟩ := hI
    have hk21 : 5 * d ≤ k2 := hk21
    have hk22 : k2 ≤ 5 * d + rqa := hk22
    have hbz2 : bz f2 := hbz2
    have hsn2 : ∀ i, i < 72 → ¬ f2 i = 0 → i / 12 < np := hsn2
    have hl : lv_has ls 7 [(3, .int (nI k2)), (0, .ref h), (1, .int (nI ly)), (2, .int (nI d))] := hl
    have hP : va_P D xcl (moW h mm kA v (va_up g 24 f2)) H := hP
    have hD : va_D A (moW h mm kA v (va_up g 24 f2)) := hD
    refine lv_iload_n hx hb xd_Mo_reading_25 rfl (lv_at hl 0 rfl) ?_
    refine lv_iconst (v := 5) hx hb xd_Mo_reading_26 (by decide) ?_
    refine lv_iload_n hx hb xd_Mo_reading_27 rfl (lv_at hl 3 rfl) ?_
    refine lv_imul hx hb xd_Mo_reading_28 ?_
    refine xn_top (y := nI (5 * d)) (pk_mul 5 d) ?_
    refine lv_aload_n hx hb xd_Mo_reading_29 rfl (lv_at hl 1 rfl) ?_
    refine va_get (D := D) (ci := 4) (v := .ref (mm 12)) (C := xR_Mo) (T := xT_Mo) (N := 31) hx hb hT xi_Mo hown hK.1 hP 0 rfl rfl 17 (by decide) (hT _ xy1_0) (fun _ h9 => h9) rfl xd_Mo_reading_30 ?_
    refine lv_iload_n hx hb xd_Mo_reading_33 rfl (lv_at hl 3 rfl) ?_
    refine xn_iald (i := d) hx hb hK.1 hP 13 0 rfl rfl (by omega) (by decide) xd_Mo_reading_34 ?_
    refine xn_top (x := (g 12 d)) (y := nI rqa) erqa ?_
    refine lv_iadd hx hb xd_Mo_reading_35 ?_
    refine xn_top (y := nI ((5 * d) + rqa)) (nI_add (5 * d) rqa) ?_
    refine xn_ge (a := k2) (b := (5 * d) + rqa) (tgt := 71) hx hb xd_Mo_reading_36 (by decide) (by omega) (by omega) (fun hc4 => ?_) (fun hc4 => ?_)
    · refine lv_iconst (v := 1) hx hb xd_Mo_reading_71 (by decide) ?_
      refine lv_istore_n hx hb xd_Mo_reading_72 rfl hl (Nat.le_of_ble_eq_true rfl) rfl (fun ls hl => ?_)
      have hl : lv_has ls 7 [(3, .int 1), (0, .ref h), (1, .int (nI ly)), (2, .int (nI d))] := hl
      refine xlab (σ := Nat × (Nat → Int32)) (ml := 7) 73 (fun (mr3, f3) => [(3, .int (nI mr3)), (0, .ref h), (1, .int (nI ly)), (2, .int (nI d))]) (fun (mr3, f3) => []) (fun (mr3, f3) => moW h mm kA v (va_up g 24 f3)) (fun (mr3, f3) => (mr3 ≤ 1) ∧ (bz f3) ∧ (∀ i, i < 72 → ¬ f3 i = 0 → i / 12 < np)) (fun (mr3, f3) => 2 * cz f3 72 + mr3) ?_ (1, f2) _ _ _ (lv_sub hl [0, 1, 2, 3] rfl) hP hD hS ⟨(show 1 ≤ 1 from by first | assumption | omega), (show bz f2 from hbz2), (show ∀ i, i < 72 → ¬ f2 i = 0 → i / 12 < np from hsn2)⟩
      intro n9 ih5 a9 ls H locs hμ hl hP hD hS hI
      subst hμ
      obtain ⟨mr3, f3⟩ := a9
      obtain ⟨hmr31, hbz3, hsn3⟩ := hI
      have hmr31 : mr3 ≤ 1 := hmr31
      have hbz3 : bz f3 := hbz3
      have hsn3 : ∀ i, i < 72 → ¬ f3 i = 0 → i / 12 < np := hsn3
      have hl : lv_has ls 7 [(3, .int (nI mr3)), (0, .ref h), (1, .int (nI ly)), (2, .int (nI d))] := hl
      have hP : va_P D xcl (moW h mm kA v (va_up g 24 f3)) H := hP
      have hD : va_D A (moW h mm kA v (va_up g 24 f3)) := hD
      refine lv_iload_n hx hb xd_Mo_reading_73 rfl (lv_at hl 0 rfl) ?_
      refine xz_eq (a := mr3) (tgt := 203) hx hb xd_Mo_reading_74 (by decide) (by omega) (fun hc6 => ?_) (fun hc6 => ?_)
      · refine lv_aload_n hx hb xd_Mo_reading_203 rfl (lv_at hl 1 rfl) ?_
        refine va_get (D := D) (ci := 4) (v := .ref (mm 24)) (C := xR_Mo) (T := xT_Mo) (N := 31) hx hb hT xi_Mo hown hK.1 hP 0 rfl rfl 30 (by decide) (hT _ xy1_1) (fun _ h9 => h9) rfl xd_Mo_reading_204 ?_
        refine lv_bipush (v := 12) hx hb xd_Mo_reading_207 (by decide) ?_
        refine lv_iload_n hx hb xd_Mo_reading_209 rfl (lv_at hl 2 rfl) ?_
        refine lv_imul hx hb xd_Mo_reading_210 ?_
        refine xn_top (y := nI (12 * ly)) (pk_mul 12 ly) ?_
        refine lv_iload_n hx hb xd_Mo_reading_211 rfl (lv_at hl 3 rfl) ?_
        refine lv_iadd hx hb xd_Mo_reading_212 ?_
        refine xn_top (y := nI ((12 * ly) + d)) (nI_add (12 * ly) d) ?_
        refine lv_iconst (v := 0) hx hb xd_Mo_reading_213 (by decide) ?_
        refine xn_zast (i := (12 * ly) + d) hx hb hK.1 hP hD hS 25 2 rfl rfl (by omega) (by decide) xd_Mo_reading_214 (fun H locs hP hD hS => ?_)
        have hP : va_P D xcl (moW h mm kA v (va_up g 24 (upd f3 ((12 * ly) + d) (vp_nar .boolean 0)))) H := hP
        have hD : va_D A (moW h mm kA v (va_up g 24 (upd f3 ((12 * ly) + d) (vp_nar .boolean 0)))) := hD
        exact W.vret hx hb hr (fun t ht hW => ⟨⟨(v, (va_up g 24 (upd f3 ((12 * ly) + d) (vp_nar .boolean 0)))), rfl, ⟨rfl, fun j h1 => by simp [va_up, h1], bz_up hbz3 bn_0, fun i hi hne => by
      by_cases e : i = 12 * ly + d
      · omega
      · exact hsn3 i hi (by
          have h9 : ¬ upd f3 (12 * ly + d) (vp_nar .boolean 0) i = 0 := hne
          rwa [pk_un e] at h9)⟩, by rw [ht]; exact hP, hD⟩, hS.F ht⟩) hS.2.2 xd_Mo_reading_215
      · refine lv_iconst (v := 0) hx hb xd_Mo_reading_77 (by decide) ?_
        refine lv_istore_n hx hb xd_Mo_reading_78 rfl hl (Nat.le_of_ble_eq_true rfl) rfl (fun ls hl => ?_)
        have hl : lv_has ls 7 [(3, .int 0), (0, .ref h), (1, .int (nI ly)), (2, .int (nI d))] := hl
        refine lv_iconst (v := 0) hx hb xd_Mo_reading_79 (by decide) ?_
        refine lv_istore hx hb xd_Mo_reading_80 hl (Nat.le_of_ble_eq_true rfl) rfl (fun ls hl => ?_)
        have hl : lv_has ls 7 [(4, .int 0), (3, .int 0), (0, .ref h), (1, .int (nI ly)), (2, .int (nI d))] := hl
        refine xlab (σ := Nat × Nat × (Nat → Int32)) (ml := 7) 82 (fun (m4, mr4, f4) => [(4, .int (nI m4)), (3, .int (nI mr4)), (0, .ref h), (1, .int (nI ly)), (2, .int (nI d))]) (fun (m4, mr4, f4) => []) (fun (m4, mr4, f4) => moW h mm kA v (va_up g 24 f4)) (fun (m4, mr4, f4) => (m4 ≤ 72) ∧ (mr4 ≤ 1) ∧ (cz f4 72 ≤ cz f3 72) ∧ (mr4 = 1 → cz f4 72 < cz f3 72) ∧ (bz f4) ∧ (∀ i, i < 72 → ¬ f4 i = 0 → i / 12 < np)) (fun (m4, mr4, f4) => 72 - m4) ?_ (0, 0, f3) _ _ _ (lv_sub hl [0, 1, 2, 3, 4] rfl) hP hD hS ⟨(show 0 ≤ 72 from by first | assumption | omega), (show 0 ≤ 1 from by first | assumption | omega), (show cz f3 72 ≤ cz f3 72 from by omega), (show 0 = 1 → cz f3 72 < cz f3 72 from fun h => absurd h (by omega)), (show bz f3 from hbz3), (show ∀ i, i < 72 → ¬ f3 i = 0 → i / 12 < np from hsn3)⟩
        intro n9 ih7 a9 ls H locs hμ hl hP hD hS hI
        subst hμ
        obtain ⟨m4, mr4, f4⟩ := a9
        obtain ⟨hm4, hmr41, hc4, hmr4, hbz4, hsn4⟩ := hI
        have hm4 : m4 ≤ 72 := hm4
        have hmr41 : mr4 ≤ 1 := hmr41
        have hc4 : cz f4 72 ≤ cz f3 72 := hc4
        have hmr4 : mr4 = 1 → cz f4 72 < cz f3 72 := hmr4
        have hbz4 : bz f4 := hbz4
        have hsn4 : ∀ i, i < 72 → ¬ f4 i = 0 → i / 12 < np := hsn4
        have hl : lv_has ls 7 [(4, .int (nI m4)), (3, .int (nI mr4)), (0, .ref h), (1, .int (nI ly)), (2, .int (nI d))] := hl
        have hP : va_P D xcl (moW h mm kA v (va_up g 24 f4)) H := hP
        have hD : va_D A (moW h mm kA v (va_up g 24 f4)) := hD
        refine lv_iload hx hb xd_Mo_reading_82 (lv_at hl 0 rfl) ?_
        refine lv_bipush (v := 72) hx hb xd_Mo_reading_84 (by decide) ?_
        refine xn_ge (a := m4) (b := 72) (tgt := 200) hx hb xd_Mo_reading_86 (by decide) (by omega) (by omega) (fun hc8 => ?_) (fun hc8 => ?_)
        · refine lv_goto (tgt := 73) hx hb xd_Mo_reading_200 (by decide) ?_
          exact ih5 (mr4, f4) _ _ _ (show 2 * cz f4 72 + mr4 < 2 * cz f3 72 + mr3 by omega) (lv_sub hl [1, 2, 3, 4] rfl) hP hD hS ⟨(show mr4 ≤ 1 from by first | assumption | omega), (show bz f4 from hbz4), (show ∀ i, i < 72 → ¬ f4 i = 0 → i / 12 < np from hsn4)⟩
        · obtain ⟨rqb, hrqb, erqb⟩ := hrq (m4 % 12) (by omega)
          refine lv_iconst (v := 5) hx hb xd_Mo_reading_89 (by decide) ?_
          refine lv_iload hx hb xd_Mo_reading_90 (lv_at hl 0 rfl) ?_
          refine lv_bipush (v := 12) hx hb xd_Mo_reading_92 (by decide) ?_
          refine lv_irem hx hb xd_Mo_reading_94 (by decide) ?_
          refine xn_top (y := nI (m4 % 12)) (pk_rem (a := m4) (d := 12) (by omega) (by decide) (by decide)) ?_
          refine lv_imul hx hb xd_Mo_reading_95 ?_
          refine xn_top (y := nI (5 * (m4 % 12))) (pk_mul 5 (m4 % 12)) ?_
          refine lv_istore hx hb xd_Mo_reading_96 hl (Nat.le_of_ble_eq_true rfl) rfl (fun ls hl => ?_)
          have hl : lv_has ls 7 [(5, .int (nI (5 * (m4 % 12)))), (4, .int (nI m4)), (3, .int (nI mr4)), (0, .ref h), (1, .int (nI ly)), (2, .int (nI d))] := hl
          refine xlab (σ := Nat × Nat × (Nat → Int32)) (ml := 7) 98 (fun (k5, mr5, f5) => [(5, .int (nI k5)), (4, .int (nI m4)), (3, .int (nI mr5)), (0, .ref h), (1, .int (nI ly)), (2, .int (nI d))]) (fun (k5, mr5, f5) => []) (fun (k5, mr5, f5) => moW h mm kA v (va_up g 24 f5)) (fun (k5, mr5, f5) => (5 * (m4 % 12) ≤ k5) ∧ (k5 ≤ 5 * (m4 % 12) + rqb) ∧ (mr5 ≤ 1) ∧ (cz f5 72 ≤ cz f3 72) ∧ (mr5 = 1 → cz f5 72 < cz f3 72) ∧ (bz f5) ∧ (∀ i, i < 72 → ¬ f5 i = 0 → i / 12 < np)) (fun (k5, mr5, f5) => 5 * (m4 % 12) + rqb - k5) ?_ (5 * (m4 % 12), mr4, f4) _ _ _ (lv_sub hl [0, 1, 2, 3, 4, 5] rfl) hP hD hS ⟨(show 5 * (m4 % 12) ≤ (5 * (m4 % 12)) from by first | assumption | omega), (show (5 * (m4 % 12)) ≤ 5 * (m4 % 12) + rqb from by first | assumption | omega), (show mr4 ≤ 1 from by first | assumption | omega), (show cz f4 72 ≤ cz f3 72 from by omega), (show mr4 = 1 → cz f4 72 < cz f3 72 from hmr4), (show bz f4 from hbz4), (show ∀ i, i < 72 → ¬ f4 i = 0 → i / 12 < np from hsn4)⟩
          intro n9 ih9 a9 ls H locs hμ hl hP hD hS hI
          subst hμ
          obtain ⟨k5, mr5, f5⟩ := a9
          obtain ⟨hk51, hk52, hmr51, hc5, hmr5, hbz5, hsn5⟩ := hI
          have hk51 : 5 * (m4 % 12) ≤ k5 := hk51
          have hk52 : k5 ≤ 5 * (m4 % 12) + rqb := hk52
          have hmr51 : mr5 ≤ 1 := hmr51
          have hc5 : cz f5 72 ≤ cz f3 72 := hc5
          have hmr5 : mr5 = 1 → cz f5 72 < cz f3 72 := hmr5
          have hbz5 : bz f5 := hbz5
          have hsn5 : ∀ i, i < 72 → ¬ f5 i = 0 → i / 12 < np := hsn5
          have hl : lv_has ls 7 [(5, .int (nI k5)), (4, .int (nI m4)), (3, .int (nI mr5)), (0, .ref h), (1, .int (nI ly)), (2, .int (nI d))] := hl
          have hP : va_P D xcl (moW h mm kA v (va_up g 24 f5)) H := hP
          have hD : va_D A (moW h mm kA v (va_up g 24 f5)) := hD
          refine lv_aload_n hx hb xd_Mo_reading_98 rfl (lv_at hl 3 rfl) ?_
          refine va_get (D := D) (ci := 4) (v := .ref (mm 24)) (C := xR_Mo) (T := xT_Mo) (N := 31) hx hb hT xi_Mo hown hK.1 hP 0 rfl rfl 30 (by decide) (hT _ xy1_1) (fun _ h9 => h9) rfl xd_Mo_reading_99 ?_
          refine lv_iload hx hb xd_Mo_reading_102 (lv_at hl 1 rfl) ?_
          refine xn_zald (i := m4) hx hb hK.1 hP 25 2 rfl rfl (by omega) (by decide) xd_Mo_reading_104 ?_
          refine lv_if_eq (tgt := 194) hx hb xd_Mo_reading_105 (by decide) (fun hc10 => ?_) (fun hc10 => ?_)
          · refine lv_iinc (k := 1) (x := (nI m4)) (v := (nI (m4 + 1))) hx hb xd_Mo_reading_194 hl rfl (xb_inc m4 1) (Nat.le_of_ble_eq_true rfl) rfl (fun ls hl => ?_)
            have hl : lv_has ls 7 [(4, .int (nI (m4 + 1))), (5, .int (nI k5)), (3, .int (nI mr5)), (0, .ref h), (1, .int (nI ly)), (2, .int (nI d))] := hl
            refine lv_goto (tgt := 82) hx hb xd_Mo_reading_197 (by decide) ?_
            exact ih7 (m4 + 1, mr5, f5) _ _ _ (show 72 - (m4 + 1) < 72 - m4 by omega) (lv_sub hl [0, 2, 3, 4, 5] rfl) hP hD hS ⟨(show (m4 + 1) ≤ 72 from by first | assumption | omega), (show mr5 ≤ 1 from by first | assumption | omega), (show cz f5 72 ≤ cz f3 72 from by omega), (show mr5 = 1 → cz f5 72 < cz f3 72 from hmr5), (show bz f5 from hbz5), (show ∀ i, i < 72 → ¬ f5 i = 0 → i / 12 < np from hsn5)⟩
          · refine lv_iload hx hb xd_Mo_reading_108 (lv_at hl 0 rfl) ?_
            refine lv_iconst (v := 5) hx hb xd_Mo_reading_110 (by decide) ?_
            refine lv_iload hx hb xd_Mo_reading_111 (lv_at hl 1 rfl) ?_
            refine lv_bipush (v := 12) hx hb xd_Mo_reading_113 (by decide) ?_
            refine lv_irem hx hb xd_Mo_reading_115 (by decide) ?_
            refine xn_top (y := nI (m4 % 12)) (pk_rem (a := m4) (d := 12) (by omega) (by decide) (by decide)) ?_
            refine lv_imul hx hb xd_Mo_reading_116 ?_
            refine xn_top (y := nI (5 * (m4 % 12))) (pk_mul 5 (m4 % 12)) ?_
            refine lv_aload_n hx hb xd_Mo_reading_117 rfl (lv_at hl 3 rfl) ?_
            refine va_get (D := D) (ci := 4) (v := .ref (mm 12)) (C := xR_Mo) (T := xT_Mo) (N := 31) hx hb hT xi_Mo hown hK.1 hP 0 rfl rfl 17 (by decide) (hT _ xy1_0) (fun _ h9 => h9) rfl xd_Mo_reading_118 ?_
            refine lv_iload hx hb xd_Mo_reading_121 (lv_at hl 1 rfl) ?_
            refine lv_bipush (v := 12) hx hb xd_Mo_reading_123 (by decide) ?_
            refine lv_irem hx hb xd_Mo_reading_125 (by decide) ?_
            refine xn_top (y := nI (m4 % 12)) (pk_rem (a := m4) (d := 12) (by omega) (by decide) (by decide)) ?_
            refine xn_iald (i := m4 % 12) hx hb hK.1 hP 13 0 rfl rfl (by omega) (by decide) xd_Mo_reading_126 ?_
            refine xn_top (x := (g 12 (m4 % 12))) (y := nI rqb) erqb ?_
            refine lv_iadd hx hb xd_Mo_reading_127 ?_
            refine xn_top (y := nI ((5 * (m4 % 12)) + rqb)) (nI_add (5 * (m4 % 12)) rqb) ?_
            refine xn_ge (a := k5) (b := (5 * (m4 % 12)) + rqb) (tgt := 194) hx hb xd_Mo_reading_128 (by decide) (by omega) (by omega) (fun hc11 => ?_) (fun hc11 => ?_)
            · refine lv_iinc (k := 1) (x := (nI m4)) (v := (nI (m4 + 1))) hx hb xd_Mo_reading_194 hl rfl (xb_inc m4 1) (Nat.le_of_ble_eq_true rfl) rfl (fun ls hl => ?_)
              have hl : lv_has ls 7 [(4, .int (nI (m4 + 1))), (5, .int (nI k5)), (3, .int (nI mr5)), (0, .ref h), (1, .int (nI ly)), (2, .int (nI d))] := hl
              refine lv_goto (tgt := 82) hx hb xd_Mo_reading_197 (by decide) ?_
              exact ih7 (m4 + 1, mr5, f5) _ _ _ (show 72 - (m4 + 1) < 72 - m4 by omega) (lv_sub hl [0, 2, 3, 4, 5] rfl) hP hD hS ⟨(show (m4 + 1) ≤ 72 from by first | assumption | omega), (show mr5 ≤ 1 from by first | assumption | omega), (show cz f5 72 ≤ cz f3 72 from by omega), (show mr5 = 1 → cz f5 72 < cz f3 72 from hmr5), (show bz f5 from hbz5), (show ∀ i, i < 72 → ¬ f5 i = 0 → i / 12 < np from hsn5)⟩
            · refine lv_aload_n hx hb xd_Mo_reading_131 rfl (lv_at hl 3 rfl) ?_
              refine va_get (D := D) (ci := 4) (v := .ref (mm 16)) (C := xR_Mo) (T := xT_Mo) (N := 31) hx hb hT xi_Mo hown hK.1 hP 0 rfl rfl 21 (by decide) (hT _ xy1_2) (fun _ h9 => h9) rfl xd_Mo_reading_132 ?_
              refine lv_iload hx hb xd_Mo_reading_135 (lv_at hl 0 rfl) ?_
              refine xn_zald (i := k5) hx hb hK.1 hP 17 2 rfl rfl (by omega) (by decide) xd_Mo_reading_137 ?_
              refine lv_if_eq (tgt := 160) hx hb xd_Mo_reading_138 (by decide) (fun hc12 => ?_) (fun hc12 => ?_)
              · refine lv_iconst (v := (-1)) hx hb xd_Mo_reading_160 (by decide) ?_
                refine lv_istore hx hb xd_Mo_reading_161 hl (Nat.le_of_ble_eq_true rfl) rfl (fun ls hl => ?_)
                have hl : lv_has ls 7 [(6, .int (-1)), (5, .int (nI k5)), (4, .int (nI m4)), (3, .int (nI mr5)), (0, .ref h), (1, .int (nI ly)), (2, .int (nI d))] := hl
                refine lv_iload hx hb xd_Mo_reading_163 (lv_at hl 0 rfl) ?_
                refine lv_if_lt (tgt := 188) hx hb xd_Mo_reading_165 (by decide) (fun _ => ?_) (fun hc13 => absurd hc13 (by decide))
                refine lv_iinc (k := 1) (x := (nI k5)) (v := (nI (k5 + 1))) hx hb xd_Mo_reading_188 hl rfl (xb_inc k5 1) (Nat.le_of_ble_eq_true rfl) rfl (fun ls hl => ?_)
                have hl : lv_has ls 7 [(5, .int (nI (k5 + 1))), (6, .int (-1)), (4, .int (nI m4)), (3, .int (nI mr5)), (0, .ref h), (1, .int (nI ly)), (2, .int (nI d))] := hl
                refine lv_goto (tgt := 98) hx hb xd_Mo_reading_191 (by decide) ?_
                exact ih9 (k5 + 1, mr5, f5) _ _ _ (show 5 * (m4 % 12) + rqb - (k5 + 1) < 5 * (m4 % 12) + rqb - k5 by omega) (lv_sub hl [0, 2, 3, 4, 5, 6] rfl) hP hD hS ⟨(show 5 * (m4 % 12) ≤ (k5 + 1) from by first | assumption | omega), (show (k5 + 1) ≤ 5 * (m4 % 12) + rqb from by first | assumption | omega), (show mr5 ≤ 1 from by first | assumption | omega), (show cz f5 72 ≤ cz f3 72 from by omega), (show mr5 = 1 → cz f5 72 < cz f3 72 from hmr5), (show bz f5 from hbz5), (show ∀ i, i < 72 → ¬ f5 i = 0 → i / 12 < np from hsn5)⟩
              · have hm12 := hsn5 m4 (by omega) hc10
                refine lv_aload_n hx hb xd_Mo_reading_141 rfl (lv_at hl 3 rfl) ?_
                refine lv_iload hx hb xd_Mo_reading_142 (lv_at hl 1 rfl) ?_
                refine lv_bipush (v := 12) hx hb xd_Mo_reading_144 (by decide) ?_
                refine lv_idiv hx hb xd_Mo_reading_146 (by decide) ?_
                refine xn_top (y := nI (m4 / 12)) (pk_div (a := m4) (d := 12) (by omega) (by decide) (by decide)) ?_
                refine xn_top (x := (nI (m4 / 12))) (y := nI (m4 / 12 + 1) - 1) (nI_pred (m4 / 12)).symm ?_
                refine lv_aload_n hx hb xd_Mo_reading_147 rfl (lv_at hl 3 rfl) ?_
                refine va_get (D := D) (ci := 4) (v := .ref (mm 13)) (C := xR_Mo) (T := xT_Mo) (N := 31) hx hb hT xi_Mo hown hK.1 hP 0 rfl rfl 18 (by decide) (hT _ xy1_3) (fun _ h9 => h9) rfl xd_Mo_reading_148 ?_
                refine lv_iload hx hb xd_Mo_reading_151 (lv_at hl 0 rfl) ?_
                refine xn_iald (i := k5) hx hb hK.1 hP 14 0 rfl rfl (by omega) (by decide) xd_Mo_reading_153 ?_
                have hFc := va_free (wc := (moW h mm kA v (va_up g 24 f5))) hD hS hA [0, 1, 2, 3, 4, 5, 6, 7, 8, 9, 10, 11, 12, 13, 14, 15, 16, 17, 18, 19, 20, 21, 22, 23, 24, 25] rfl
                refine va_calli (va_runV (As := [.int (nI (m4 / 12 + 1) - 1), .int (g 13 k5)]) (rest := []) ⟨hx, hb, hml, hown, hT⟩ (xc_Mo_lookUp l D kA H.size h mm v (va_up g 24 f5) (m4 / 12 + 1) (g 13 k5) np (by first | assumption | omega) hpar (by first | assumption | omega) hmd) (cwV 2 hT (wT_V xy1_5 xy1_6 xy1_7 xy1_8 xy1_4) rfl rfl rfl (by decide +kernel) ⟨Nat.le_of_ble_eq_true rfl, Nat.le_of_ble_eq_true rfl⟩) (x_preV hK hP hD 0 rfl rfl) rfl rfl hl.1 rfl (lv_room (Nat.le_of_ble_eq_true rfl)) xd_Mo_reading_154 ⟨Nat.le_of_ble_eq_true rfl, Nat.le_of_ble_eq_true rfl⟩) hS (fun q _ h => hFc q h) hFc (fun r14 u15 t H1 locs ht hvm hp16 hB hz1 hk1 hS => ?_)
                obtain ⟨hP1, hD1⟩ := hB
                rw [ht] at hP1
                have hD1 := hD1.weaken (fun _ _ _ h => hFc _ h)
                generalize H1 = H at hP1 hS ⊢
                have hP := hP1
                have hD := hD1
                have hP : va_P D xcl (moW h mm kA v (va_up g 24 f5)) H := hP
                have hD : va_D A (moW h mm kA v (va_up g 24 f5)) := hD
                rcases hp16 with rfl | ⟨z17, z18, z19, z20, rfl⟩
                · refine lv_goto (tgt := 161) hx hb xd_Mo_reading_157 (by decide) ?_
                  refine lv_istore hx hb xd_Mo_reading_161 hl (Nat.le_of_ble_eq_true rfl) rfl (fun ls hl => ?_)
                  have hl : lv_has ls 7 [(6, .int (-1)), (5, .int (nI k5)), (4, .int (nI m4)), (3, .int (nI mr5)), (0, .ref h), (1, .int (nI ly)), (2, .int (nI d))] := hl
                  refine lv_iload hx hb xd_Mo_reading_163 (lv_at hl 0 rfl) ?_
                  refine lv_if_lt (tgt := 188) hx hb xd_Mo_reading_165 (by decide) (fun _ => ?_) (fun hc21 => absurd hc21 (by decide))
                  refine lv_iinc (k := 1) (x := (nI k5)) (v := (nI (k5 + 1))) hx hb xd_Mo_reading_188 hl rfl (xb_inc k5 1) (Nat.le_of_ble_eq_true rfl) rfl (fun ls hl => ?_)
                  have hl : lv_has ls 7 [(5, .int (nI (k5 + 1))), (6, .int (-1)), (4, .int (nI m4)), (3, .int (nI mr5)), (0, .ref h), (1, .int (nI ly)), (2, .int (nI d))] := hl
                  refine lv_goto (tgt := 98) hx hb xd_Mo_reading_191 (by decide) ?_
                  exact ih9 (k5 + 1, mr5, f5) _ _ _ (show 5 * (m4 % 12) + rqb - (k5 + 1) < 5 * (m4 % 12) + rqb - k5 by omega) (lv_sub hl [0, 2, 3, 4, 5, 6] rfl) hP hD hS ⟨(show 5 * (m4 % 12) ≤ (k5 + 1) from by first | assumption | omega), (show (k5 + 1) ≤ 5 * (m4 % 12) + rqb from by first | assumption | omega), (show mr5 ≤ 1 from by first | assumption | omega), (show cz f5 72 ≤ cz f3 72 from by omega), (show mr5 = 1 → cz f5 72 < cz f3 72 from hmr5), (show bz f5 from hbz5), (show ∀ i, i < 72 → ¬ f5 i = 0 → i / 12 < np from hsn5)⟩
                · refine lv_goto (tgt := 161) hx hb xd_Mo_reading_157 (by decide) ?_
                  refine lv_istore hx hb xd_Mo_reading_161 hl (Nat.le_of_ble_eq_true rfl) rfl (fun ls hl => ?_)
                  have hl : lv_has ls 7 [(6, .int (nI (12 * z17 + z18))), (5, .int (nI k5)), (4, .int (nI m4)), (3, .int (nI mr5)), (0, .ref h), (1, .int (nI ly)), (2, .int (nI d))] := hl
                  refine lv_iload hx hb xd_Mo_reading_163 (lv_at hl 0 rfl) ?_
                  refine xz_lt (a := 12 * z17 + z18) (tgt := 188) hx hb xd_Mo_reading_165 (by decide) (by omega) ?_
                  refine lv_aload_n hx hb xd_Mo_reading_168 rfl (lv_at hl 4 rfl) ?_
                  refine va_get (D := D) (ci := 4) (v := .ref (mm 24)) (C := xR_Mo) (T := xT_Mo) (N := 31) hx hb hT xi_Mo hown hK.1 hP 0 rfl rfl 30 (by decide) (hT _ xy1_1) (fun _ h9 => h9) rfl xd_Mo_reading_169 ?_
                  refine lv_iload hx hb xd_Mo_reading_172 (lv_at hl 0 rfl) ?_
                  refine xn_zald (i := 12 * z17 + z18) hx hb hK.1 hP 25 2 rfl rfl (by omega) (by decide) xd_Mo_reading_174 ?_
                  refine lv_if_ne (tgt := 188) hx hb xd_Mo_reading_175 (by decide) (fun hc23 => ?_) (fun hc23 => ?_)
                  · refine lv_iinc (k := 1) (x := (nI k5)) (v := (nI (k5 + 1))) hx hb xd_Mo_reading_188 hl rfl (xb_inc k5 1) (Nat.le_of_ble_eq_true rfl) rfl (fun ls hl => ?_)
                    have hl : lv_has ls 7 [(5, .int (nI (k5 + 1))), (6, .int (nI (12 * z17 + z18))), (4, .int (nI m4)), (3, .int (nI mr5)), (0, .ref h), (1, .int (nI ly)), (2, .int (nI d))] := hl
                    refine lv_goto (tgt := 98) hx hb xd_Mo_reading_191 (by decide) ?_
                    exact ih9 (k5 + 1, mr5, f5) _ _ _ (show 5 * (m4 % 12) + rqb - (k5 + 1) < 5 * (m4 % 12) + rqb - k5 by omega) (lv_sub hl [0, 2, 3, 4, 5, 6] rfl) hP hD hS ⟨(show 5 * (m4 % 12) ≤ (k5 + 1) from by first | assumption | omega), (show (k5 + 1) ≤ 5 * (m4 % 12) + rqb from by first | assumption | omega), (show mr5 ≤ 1 from by first | assumption | omega), (show cz f5 72 ≤ cz f3 72 from by omega), (show mr5 = 1 → cz f5 72 < cz f3 72 from hmr5), (show bz f5 from hbz5), (show ∀ i, i < 72 → ¬ f5 i = 0 → i / 12 < np from hsn5)⟩
                  · refine lv_aload_n hx hb xd_Mo_reading_178 rfl (lv_at hl 4 rfl) ?_
                    refine va_get (D := D) (ci := 4) (v := .ref (mm 24)) (C := xR_Mo) (T := xT_Mo) (N := 31) hx hb hT xi_Mo hown hK.1 hP 0 rfl rfl 30 (by decide) (hT _ xy1_1) (fun _ h9 => h9) rfl xd_Mo_reading_179 ?_
                    refine lv_iload hx hb xd_Mo_reading_182 (lv_at hl 0 rfl) ?_
                    refine lv_iconst (v := 1) hx hb xd_Mo_reading_184 (by decide) ?_
                    refine xn_zast (i := 12 * z17 + z18) hx hb hK.1 hP hD hS 25 2 rfl rfl (by omega) (by decide) xd_Mo_reading_185 (fun H locs hP hD hS => ?_)
                    have hP : va_P D xcl (moW h mm kA v (va_up g 24 (upd f5 (12 * z17 + z18) (vp_nar .boolean 1)))) H := hP
                    have hD : va_D A (moW h mm kA v (va_up g 24 (upd f5 (12 * z17 + z18) (vp_nar .boolean 1)))) := hD
                    refine lv_iconst (v := 1) hx hb xd_Mo_reading_186 (by decide) ?_
                    refine lv_istore_n hx hb xd_Mo_reading_187 rfl hl (Nat.le_of_ble_eq_true rfl) rfl (fun ls hl => ?_)
                    have hl : lv_has ls 7 [(3, .int 1), (6, .int (nI (12 * z17 + z18))), (5, .int (nI k5)), (4, .int (nI m4)), (0, .ref h), (1, .int (nI ly)), (2, .int (nI d))] := hl
                    refine lv_iinc (k := 2) (x := (nI k5)) (v := (nI (k5 + 1))) hx hb xd_Mo_reading_188 hl rfl (xb_inc k5 1) (Nat.le_of_ble_eq_true rfl) rfl (fun ls hl => ?_)
                    have hl : lv_has ls 7 [(5, .int (nI (k5 + 1))), (3, .int 1), (6, .int (nI (12 * z17 + z18))), (4, .int (nI m4)), (0, .ref h), (1, .int (nI ly)), (2, .int (nI d))] := hl
                    refine lv_goto (tgt := 98) hx hb xd_Mo_reading_191 (by decide) ?_
                    exact ih9 (k5 + 1, 1, (upd f5 (12 * z17 + z18) (vp_nar .boolean 1))) _ _ _ (show 5 * (m4 % 12) + rqb - (k5 + 1) < 5 * (m4 % 12) + rqb - k5 by omega) (lv_sub hl [0, 3, 1, 4, 5, 6] rfl) hP hD hS ⟨(show 5 * (m4 % 12) ≤ (k5 + 1) from by first | assumption | omega), (show (k5 + 1) ≤ 5 * (m4 % 12) + rqb from by first | assumption | omega), (show 1 ≤ 1 from by first | assumption | omega), (show cz (upd f5 (12 * z17 + z18) (vp_nar .boolean 1)) 72 ≤ cz f3 72 from by
      have h9 := cz_mark (f := f5) hc23 bn_1 72 (by omega)
      omega), (show 1 = 1 → cz (upd f5 (12 * z17 + z18) (vp_nar .boolean 1)) 72 < cz f3 72 from fun _ => by
      have h9 := cz_mark (f := f5) hc23 bn_1 72 (by omega)
      omega), (show bz (upd f5 (12 * z17 + z18) (vp_nar .boolean 1)) from bz_up hbz5 bn_n), (show ∀ i, i < 72 → ¬ (upd f5 (12 * z17 + z18) (vp_nar .boolean 1)) i = 0 → i / 12 < np from fun i hi hne => by
      rcases Nat.lt_trichotomy i (12 * z17 + z18) with e | e | e
      · exact hsn5 i hi (by rwa [pk_un (by omega)] at hne)
      · omega
      · exact hsn5 i hi (by rwa [pk_un (by omega)] at hne))⟩
    · refine lv_aload_n hx hb xd_Mo_reading_39 rfl (lv_at hl 1 rfl) ?_
      refine lv_iload_n hx hb xd_Mo_reading_40 rfl (lv_at hl 2 rfl) ?_
      refine xn_top (x := (nI ly)) (y := nI (ly + 1) - 1) (nI_pred ly).symm ?_
      refine lv_aload_n hx hb xd_Mo_reading_41 rfl (lv_at hl 1 rfl) ?_
      refine va_get (D := D) (ci := 4) (v := .ref (mm 13)) (C := xR_Mo) (T := xT_Mo) (N := 31) hx hb hT xi_Mo hown hK.1 hP 0 rfl rfl 18 (by decide) (hT _ xy1_3) (fun _ h9 => h9) rfl xd_Mo_reading_42 ?_
      refine lv_iload_n hx hb xd_Mo_reading_45 rfl (lv_at hl 0 rfl) ?_
      refine xn_iald (i := k2) hx hb hK.1 hP 14 0 rfl rfl (by omega) (by decide) xd_Mo_reading_46 ?_
      have hFc := va_free (wc := (moW h mm kA v (va_up g 24 f2))) hD hS hA [0, 1, 2, 3, 4, 5, 6, 7, 8, 9, 10, 11, 12, 13, 14, 15, 16, 17, 18, 19, 20, 21, 22, 23, 24, 25] rfl
      refine va_calli (va_runV (As := [.int (nI (ly + 1) - 1), .int (g 13 k2)]) (rest := []) ⟨hx, hb, hml, hown, hT⟩ (xc_Mo_lookUp l D kA H.size h mm v (va_up g 24 f2) (ly + 1) (g 13 k2) np (by first | assumption | omega) hpar (by first | assumption | omega) hmd) (cwV 2 hT (wT_V xy1_5 xy1_6 xy1_7 xy1_8 xy1_4) rfl rfl rfl (by decide +kernel) ⟨Nat.le_of_ble_eq_true rfl, Nat.le_of_ble_eq_true rfl⟩) (x_preV hK hP hD 0 rfl rfl) rfl rfl hl.1 rfl (lv_room (Nat.le_of_ble_eq_true rfl)) xd_Mo_reading_47 ⟨Nat.le_of_ble_eq_true rfl, Nat.le_of_ble_eq_true rfl⟩) hS (fun q _ h => hFc q h) hFc (fun r24 u25 t H1 locs ht hvm hp26 hB hz1 hk1 hS => ?_)
      obtain ⟨hP1, hD1⟩ := hB
      rw [ht] at hP1
      have hD1 := hD1.weaken (fun _ _ _ h => hFc _ h)
      generalize H1 = H at hP1 hS ⊢
      have hP := hP1
      have hD := hD1
      have hP : va_P D xcl (moW h mm kA v (va_up g 24 f2)) H := hP
      have hD : va_D A (moW h mm kA v (va_up g 24 f2)) := hD
      rcases hp26 with rfl | ⟨z27, z28, z29, z30, rfl⟩
      · refine lv_istore hx hb xd_Mo_reading_50 hl (Nat.le_of_ble_eq_true rfl) rfl (fun ls hl => ?_)
        have hl : lv_has ls 7 [(4, .int (-1)), (3, .int (nI k2)), (0, .ref h), (1, .int (nI ly)), (2, .int (nI d))] := hl
        refine lv_iload hx hb xd_Mo_reading_52 (lv_at hl 0 rfl) ?_
        refine lv_if_lt (tgt := 65) hx hb xd_Mo_reading_54 (by decide) (fun _ => ?_) (fun hc31 => absurd hc31 (by decide))
        refine lv_iinc (k := 1) (x := (nI k2)) (v := (nI (k2 + 1))) hx hb xd_Mo_reading_65 hl rfl (xb_inc k2 1) (Nat.le_of_ble_eq_true rfl) rfl (fun ls hl => ?_)
        have hl : lv_has ls 7 [(3, .int (nI (k2 + 1))), (4, .int (-1)), (0, .ref h), (1, .int (nI ly)), (2, .int (nI d))] := hl
        refine lv_goto (tgt := 25) hx hb xd_Mo_reading_68 (by decide) ?_
        exact ih3 (k2 + 1, f2) _ _ _ (show 5 * d + rqa - (k2 + 1) < 5 * d + rqa - k2 by omega) (lv_sub hl [0, 2, 3, 4] rfl) hP hD hS ⟨(show 5 * d ≤ (k2 + 1) from by first | assumption | omega), (show (k2 + 1) ≤ 5 * d + rqa from by first | assumption | omega), (show bz f2 from hbz2), (show ∀ i, i < 72 → ¬ f2 i = 0 → i / 12 < np from hsn2)⟩
      · refine lv_istore hx hb xd_Mo_reading_50 hl (Nat.le_of_ble_eq_true rfl) rfl (fun ls hl => ?_)
        have hl : lv_has ls 7 [(4, .int (nI (12 * z27 + z28))), (3, .int (nI k2)), (0, .ref h), (1, .int (nI ly)), (2, .int (nI d))] := hl
        refine lv_iload hx hb xd_Mo_reading_52 (lv_at hl 0 rfl) ?_
        refine xz_lt (a := 12 * z27 + z28) (tgt := 65) hx hb xd_Mo_reading_54 (by decide) (by omega) ?_
        refine lv_aload_n hx hb xd_Mo_reading_57 rfl (lv_at hl 2 rfl) ?_
        refine va_get (D := D) (ci := 4) (v := .ref (mm 24)) (C := xR_Mo) (T := xT_Mo) (N := 31) hx hb hT xi_Mo hown hK.1 hP 0 rfl rfl 30 (by decide) (hT _ xy1_1) (fun _ h9 => h9) rfl xd_Mo_reading_58 ?_
        refine lv_iload hx hb xd_Mo_reading_61 (lv_at hl 0 rfl) ?_
        refine lv_iconst (v := 1) hx hb xd_Mo_reading_63 (by decide) ?_
        refine xn_zast (i := 12 * z27 + z28) hx hb hK.1 hP hD hS 25 2 rfl rfl (by omega) (by decide) xd_Mo_reading_64 (fun H locs hP hD hS => ?_)
        have hP : va_P D xcl (moW h mm kA v (va_up g 24 (upd f2 (12 * z27 + z28) (vp_nar .boolean 1)))) H := hP
        have hD : va_D A (moW h mm kA v (va_up g 24 (upd f2 (12 * z27 + z28) (vp_nar .boolean 1)))) := hD
        refine lv_iinc (k := 1) (x := (nI k2)) (v := (nI (k2 + 1))) hx hb xd_Mo_reading_65 hl rfl (xb_inc k2 1) (Nat.le_of_ble_eq_true rfl) rfl (fun ls hl => ?_)
        have hl : lv_has ls 7 [(3, .int (nI (k2 + 1))), (4, .int (nI (12 * z27 + z28))), (0, .ref h), (1, .int (nI ly)), (2, .int (nI d))] := hl
        refine lv_goto (tgt := 25) hx hb xd_Mo_reading_68 (by decide) ?_
        exact ih3 (k2 + 1, (upd f2 (12 * z27 + z28) (vp_nar .boolean 1))) _ _ _ (show 5 * d + rqa - (k2 + 1) < 5 * d + rqa - k2 by omega) (lv_sub hl [0, 2, 3, 4] rfl) hP hD hS ⟨(show 5 * d ≤ (k2 + 1) from by first | assumption | omega), (show (k2 + 1) ≤ 5 * d + rqa from by first | assumption | omega), (show bz (upd f2 (12 * z27 + z28) (vp_nar .boolean 1)) from bz_up hbz2 bn_n), (show ∀ i, i < 72 → ¬ (upd f2 (12 * z27 + z28) (vp_nar .boolean 1)) i = 0 → i / 12 < np from fun i hi hne => by
      rcases Nat.lt_trichotomy i (12 * z27 + z28) with e | e | e
      · exact hsn2 i hi (by rwa [pk_un (by omega)] at hne)
      · omega
      · exact hsn2 i hi (by rwa [pk_un (by omega)] at hne))⟩
  · refine lv_aload_n hx hb xd_Mo_reading_8 rfl (lv_at hl 1 rfl) ?_
    refine va_get (D := D) (ci := 4) (v := .ref (mm 24)) (C := xR_Mo) (T := xT_Mo) (N := 31) hx hb hT xi_Mo hown hK.1 hP 0 rfl rfl 30 (by decide) (hT _ xy1_1) (fun _ h9 => h9) rfl xd_Mo_reading_9 ?_
    refine lv_iload_n hx hb xd_Mo_reading_12 rfl (lv_at hl 0 rfl) ?_
    refine lv_iconst (v := 0) hx hb xd_Mo_reading_13 (by decide) ?_
    refine xn_zast (i := i0) hx hb hK.1 hP hD hS 25 2 rfl rfl (by omega) (by decide) xd_Mo_reading_14 (fun H locs hP hD hS => ?_)
    have hP : va_P D xcl (moW h mm kA v (va_up g 24 (upd f0 i0 (vp_nar .boolean 0)))) H := hP
    have hD : va_D A (moW h mm kA v (va_up g 24 (upd f0 i0 (vp_nar .boolean 0)))) := hD
    refine lv_iinc (k := 0) (x := (nI i0)) (v := (nI (i0 + 1))) hx hb xd_Mo_reading_15 hl rfl (xb_inc i0 1) (Nat.le_of_ble_eq_true rfl) rfl (fun ls hl => ?_)
    have hl : lv_has ls 7 [(3, .int (nI (i0 + 1))), (0, .ref h), (1, .int (nI ly)), (2, .int (nI d))] := hl
    refine lv_goto (tgt := 2) hx hb xd_Mo_reading_18 (by decide) ?_
    exact ih1 (i0 + 1, (upd f0 i0 (vp_nar .boolean 0))) _ _ _ (show 72 - (i0 + 1) < 72 - i0 by omega) (lv_sub hl [0, 1, 2, 3] rfl) hP hD hS ⟨(show (i0 + 1) ≤ 72 from by first | assumption | omega), (show ∀ j, j < (i0 + 1) → (upd f0 i0 (vp_nar .boolean 0)) j = vp_nar .boolean 0 from fun j hj => by
      by_cases e : j = i0
      · subst e; exact pk_us
      · rw [pk_un e]; exact hz0 j (by omega))⟩
theorem x_b01 {n : Nat} (h : n ≤ 1) : nI n = 0 ∨ nI n = 1 := by
  have h9 : n = 0 ∨ n = 1 := by omega
  rcases h9 with h | h
  · rw [h]; exact Or.inl rfl
  · rw [h]; exact Or.inr rfl
theorem x_bn {n : Nat} (h : n ≤ 1) : narrow .boolean (.int (nI n)) = .int (nI n) := by
  rcases x_b01 h with h | h <;> rw [h] <;> rfl
abbrev xb_Mo_isTo : ByteArray := prog_12_method_27_code
def xy_Mo_isTo : MethodName := ⟨"LayerDeskModel", "isTo", "(ZIIII)Z"⟩
abbrev xb_Mo_exports : ByteArray := prog_12_method_28_code
def xy_Mo_exports : MethodName := ⟨"LayerDeskModel", "exports", "(II)Z"⟩
abbrev xb_Mo_isElsewhere : ByteArray := prog_12_method_30_code
def xy_Mo_isElsewhere : MethodName := ⟨"LayerDeskModel", "isElsewhere", "(III)Z"⟩
abbrev xb_Mo_isSplit : ByteArray := prog_12_method_29_code
def xy_Mo_isSplit : MethodName := ⟨"LayerDeskModel", "isSplit", "(II)Z"⟩
abbrev xb_Mo_reason : ByteArray := prog_12_method_31_code
def xy_Mo_reason : MethodName := ⟨"LayerDeskModel", "reason", "()I"⟩
theorem xd_Mo_exports_0 : decode xb_Mo_exports 0 = .ok (.aload_n 0, 1) := by decide +kernel
theorem xd_Mo_exports_1 : decode xb_Mo_exports 1 = .ok (.aload_n 0, 1) := by decide +kernel
theorem xd_Mo_exports_2 : decode xb_Mo_exports 2 = .ok (.getfield 38, 3) := by decide +kernel
theorem xd_Mo_exports_5 : decode xb_Mo_exports 5 = .ok (.iload_n 1, 1) := by decide +kernel
theorem xd_Mo_exports_6 : decode xb_Mo_exports 6 = .ok (.baload, 1) := by decide +kernel
theorem xd_Mo_exports_7 : decode xb_Mo_exports 7 = .ok (.aload_n 0, 1) := by decide +kernel
theorem xd_Mo_exports_8 : decode xb_Mo_exports 8 = .ok (.getfield 32, 3) := by decide +kernel
theorem xd_Mo_exports_11 : decode xb_Mo_exports 11 = .ok (.iconst 3, 1) := by decide +kernel
theorem xd_Mo_exports_12 : decode xb_Mo_exports 12 = .ok (.iload_n 1, 1) := by decide +kernel
theorem xd_Mo_exports_13 : decode xb_Mo_exports 13 = .ok (.imul, 1) := by decide +kernel
theorem xd_Mo_exports_14 : decode xb_Mo_exports 14 = .ok (.iaload, 1) := by decide +kernel
theorem xd_Mo_exports_15 : decode xb_Mo_exports 15 = .ok (.aload_n 0, 1) := by decide +kernel
theorem xd_Mo_exports_16 : decode xb_Mo_exports 16 = .ok (.getfield 32, 3) := by decide +kernel
theorem xd_Mo_exports_19 : decode xb_Mo_exports 19 = .ok (.iconst 3, 1) := by decide +kernel
theorem xd_Mo_exports_20 : decode xb_Mo_exports 20 = .ok (.iload_n 1, 1) := by decide +kernel
theorem xd_Mo_exports_21 : decode xb_Mo_exports 21 = .ok (.imul, 1) := by decide +kernel
theorem xd_Mo_exports_22 : decode xb_Mo_exports 22 = .ok (.iconst 1, 1) := by decide +kernel
theorem xd_Mo_exports_23 : decode xb_Mo_exports 23 = .ok (.iadd, 1) := by decide +kernel
theorem xd_Mo_exports_24 : decode xb_Mo_exports 24 = .ok (.iaload, 1) := by decide +kernel
theorem xd_Mo_exports_25 : decode xb_Mo_exports 25 = .ok (.aload_n 0, 1) := by decide +kernel
theorem xd_Mo_exports_26 : decode xb_Mo_exports 26 = .ok (.getfield 32, 3) := by decide +kernel
theorem xd_Mo_exports_29 : decode xb_Mo_exports 29 = .ok (.iconst 3, 1) := by decide +kernel
theorem xd_Mo_exports_30 : decode xb_Mo_exports 30 = .ok (.iload_n 1, 1) := by decide +kernel
theorem xd_Mo_exports_31 : decode xb_Mo_exports 31 = .ok (.imul, 1) := by decide +kernel
theorem xd_Mo_exports_32 : decode xb_Mo_exports 32 = .ok (.iconst 2, 1) := by decide +kernel
theorem xd_Mo_exports_33 : decode xb_Mo_exports 33 = .ok (.iadd, 1) := by decide +kernel
theorem xd_Mo_exports_34 : decode xb_Mo_exports 34 = .ok (.iaload, 1) := by decide +kernel
theorem xd_Mo_exports_35 : decode xb_Mo_exports 35 = .ok (.iload_n 2, 1) := by decide +kernel
theorem xd_Mo_exports_36 : decode xb_Mo_exports 36 = .ok (.invokevirtual 167, 3) := by decide +kernel
theorem xd_Mo_exports_39 : decode xb_Mo_exports 39 = .ok (.ireturn, 1) := by decide +kernel
theorem xd_Mo_isElsewhere_0 : decode xb_Mo_isElsewhere 0 = .ok (.iconst 0, 1) := by decide +kernel
theorem xd_Mo_isElsewhere_1 : decode xb_Mo_isElsewhere 1 = .ok (.istore 4, 2) := by decide +kernel
theorem xd_Mo_isElsewhere_3 : decode xb_Mo_isElsewhere 3 = .ok (.iconst 0, 1) := by decide +kernel
theorem xd_Mo_isElsewhere_4 : decode xb_Mo_isElsewhere 4 = .ok (.istore 5, 2) := by decide +kernel
theorem xd_Mo_isElsewhere_6 : decode xb_Mo_isElsewhere 6 = .ok (.iload 5, 2) := by decide +kernel
theorem xd_Mo_isElsewhere_8 : decode xb_Mo_isElsewhere 8 = .ok (.bipush 72, 2) := by decide +kernel
theorem xd_Mo_isElsewhere_10 : decode xb_Mo_isElsewhere 10 = .ok (.if_icmp .ge 68, 3) := by decide +kernel
theorem xd_Mo_isElsewhere_13 : decode xb_Mo_isElsewhere 13 = .ok (.iload 5, 2) := by decide +kernel
theorem xd_Mo_isElsewhere_15 : decode xb_Mo_isElsewhere 15 = .ok (.iload_n 1, 1) := by decide +kernel
theorem xd_Mo_isElsewhere_16 : decode xb_Mo_isElsewhere 16 = .ok (.if_icmp .eq 26, 3) := by decide +kernel
theorem xd_Mo_isElsewhere_19 : decode xb_Mo_isElsewhere 19 = .ok (.aload_n 0, 1) := by decide +kernel
theorem xd_Mo_isElsewhere_20 : decode xb_Mo_isElsewhere 20 = .ok (.getfield 84, 3) := by decide +kernel
theorem xd_Mo_isElsewhere_23 : decode xb_Mo_isElsewhere 23 = .ok (.iload 5, 2) := by decide +kernel
theorem xd_Mo_isElsewhere_25 : decode xb_Mo_isElsewhere 25 = .ok (.baload, 1) := by decide +kernel
theorem xd_Mo_isElsewhere_26 : decode xb_Mo_isElsewhere 26 = .ok (.ifCond .eq 16, 3) := by decide +kernel
theorem xd_Mo_isElsewhere_29 : decode xb_Mo_isElsewhere 29 = .ok (.aload_n 0, 1) := by decide +kernel
theorem xd_Mo_isElsewhere_30 : decode xb_Mo_isElsewhere 30 = .ok (.iload 5, 2) := by decide +kernel
theorem xd_Mo_isElsewhere_32 : decode xb_Mo_isElsewhere 32 = .ok (.bipush 12, 2) := by decide +kernel
theorem xd_Mo_isElsewhere_34 : decode xb_Mo_isElsewhere 34 = .ok (.irem, 1) := by decide +kernel
theorem xd_Mo_isElsewhere_35 : decode xb_Mo_isElsewhere 35 = .ok (.iload_n 2, 1) := by decide +kernel
theorem xd_Mo_isElsewhere_36 : decode xb_Mo_isElsewhere 36 = .ok (.invokevirtual 143, 3) := by decide +kernel
theorem xd_Mo_isElsewhere_39 : decode xb_Mo_isElsewhere 39 = .ok (.goto 4, 3) := by decide +kernel
theorem xd_Mo_isElsewhere_42 : decode xb_Mo_isElsewhere 42 = .ok (.iconst (-1), 1) := by decide +kernel
theorem xd_Mo_isElsewhere_43 : decode xb_Mo_isElsewhere 43 = .ok (.istore 6, 2) := by decide +kernel
theorem xd_Mo_isElsewhere_45 : decode xb_Mo_isElsewhere 45 = .ok (.iload 4, 2) := by decide +kernel
theorem xd_Mo_isElsewhere_47 : decode xb_Mo_isElsewhere 47 = .ok (.ifCond .ne 18, 3) := by decide +kernel
theorem xd_Mo_isElsewhere_50 : decode xb_Mo_isElsewhere 50 = .ok (.iload 6, 2) := by decide +kernel
theorem xd_Mo_isElsewhere_52 : decode xb_Mo_isElsewhere 52 = .ok (.ifCond .lt 17, 3) := by decide +kernel
theorem xd_Mo_isElsewhere_55 : decode xb_Mo_isElsewhere 55 = .ok (.aload_n 0, 1) := by decide +kernel
theorem xd_Mo_isElsewhere_56 : decode xb_Mo_isElsewhere 56 = .ok (.iload 6, 2) := by decide +kernel
theorem xd_Mo_isElsewhere_58 : decode xb_Mo_isElsewhere 58 = .ok (.iload_n 3, 1) := by decide +kernel
theorem xd_Mo_isElsewhere_59 : decode xb_Mo_isElsewhere 59 = .ok (.invokevirtual 175, 3) := by decide +kernel
theorem xd_Mo_isElsewhere_62 : decode xb_Mo_isElsewhere 62 = .ok (.ifCond .eq 7, 3) := by decide +kernel
theorem xd_Mo_isElsewhere_65 : decode xb_Mo_isElsewhere 65 = .ok (.iconst 1, 1) := by decide +kernel
theorem xd_Mo_isElsewhere_66 : decode xb_Mo_isElsewhere 66 = .ok (.goto 4, 3) := by decide +kernel
theorem xd_Mo_isElsewhere_69 : decode xb_Mo_isElsewhere 69 = .ok (.iconst 0, 1) := by decide +kernel
theorem xd_Mo_isElsewhere_70 : decode xb_Mo_isElsewhere 70 = .ok (.istore 4, 2) := by decide +kernel
theorem xd_Mo_isElsewhere_72 : decode xb_Mo_isElsewhere 72 = .ok (.iinc 5 1, 3) := by decide +kernel
theorem xd_Mo_isElsewhere_75 : decode xb_Mo_isElsewhere 75 = .ok (.goto (-69), 3) := by decide +kernel
theorem xd_Mo_isElsewhere_78 : decode xb_Mo_isElsewhere 78 = .ok (.iload 4, 2) := by decide +kernel
theorem xd_Mo_isElsewhere_80 : decode xb_Mo_isElsewhere 80 = .ok (.ireturn, 1) := by decide +kernel
theorem xd_Mo_isSplit_0 : decode xb_Mo_isSplit 0 = .ok (.aload_n 0, 1) := by decide +kernel
theorem xd_Mo_isSplit_1 : decode xb_Mo_isSplit 1 = .ok (.iload_n 1, 1) := by decide +kernel
theorem xd_Mo_isSplit_2 : decode xb_Mo_isSplit 2 = .ok (.iload_n 2, 1) := by decide +kernel
theorem xd_Mo_isSplit_3 : decode xb_Mo_isSplit 3 = .ok (.invokevirtual 171, 3) := by decide +kernel
theorem xd_Mo_isSplit_6 : decode xb_Mo_isSplit 6 = .ok (.iconst 0, 1) := by decide +kernel
theorem xd_Mo_isSplit_7 : decode xb_Mo_isSplit 7 = .ok (.istore_n 3, 1) := by decide +kernel
theorem xd_Mo_isSplit_8 : decode xb_Mo_isSplit 8 = .ok (.iload_n 3, 1) := by decide +kernel
theorem xd_Mo_isSplit_9 : decode xb_Mo_isSplit 9 = .ok (.bipush 72, 2) := by decide +kernel
theorem xd_Mo_isSplit_11 : decode xb_Mo_isSplit 11 = .ok (.if_icmp .ge 108, 3) := by decide +kernel
theorem xd_Mo_isSplit_14 : decode xb_Mo_isSplit 14 = .ok (.bipush 6, 2) := by decide +kernel
theorem xd_Mo_isSplit_16 : decode xb_Mo_isSplit 16 = .ok (.iload_n 3, 1) := by decide +kernel
theorem xd_Mo_isSplit_17 : decode xb_Mo_isSplit 17 = .ok (.bipush 12, 2) := by decide +kernel
theorem xd_Mo_isSplit_19 : decode xb_Mo_isSplit 19 = .ok (.irem, 1) := by decide +kernel
theorem xd_Mo_isSplit_20 : decode xb_Mo_isSplit 20 = .ok (.imul, 1) := by decide +kernel
theorem xd_Mo_isSplit_21 : decode xb_Mo_isSplit 21 = .ok (.istore 4, 2) := by decide +kernel
theorem xd_Mo_isSplit_23 : decode xb_Mo_isSplit 23 = .ok (.aload_n 0, 1) := by decide +kernel
theorem xd_Mo_isSplit_24 : decode xb_Mo_isSplit 24 = .ok (.getfield 84, 3) := by decide +kernel
theorem xd_Mo_isSplit_27 : decode xb_Mo_isSplit 27 = .ok (.iload_n 3, 1) := by decide +kernel
theorem xd_Mo_isSplit_28 : decode xb_Mo_isSplit 28 = .ok (.baload, 1) := by decide +kernel
theorem xd_Mo_isSplit_29 : decode xb_Mo_isSplit 29 = .ok (.ifCond .eq 84, 3) := by decide +kernel
theorem xd_Mo_isSplit_32 : decode xb_Mo_isSplit 32 = .ok (.iload 4, 2) := by decide +kernel
theorem xd_Mo_isSplit_34 : decode xb_Mo_isSplit 34 = .ok (.bipush 6, 2) := by decide +kernel
theorem xd_Mo_isSplit_36 : decode xb_Mo_isSplit 36 = .ok (.iload_n 3, 1) := by decide +kernel
theorem xd_Mo_isSplit_37 : decode xb_Mo_isSplit 37 = .ok (.bipush 12, 2) := by decide +kernel
theorem xd_Mo_isSplit_39 : decode xb_Mo_isSplit 39 = .ok (.irem, 1) := by decide +kernel
theorem xd_Mo_isSplit_40 : decode xb_Mo_isSplit 40 = .ok (.imul, 1) := by decide +kernel
theorem xd_Mo_isSplit_41 : decode xb_Mo_isSplit 41 = .ok (.aload_n 0, 1) := by decide +kernel
theorem xd_Mo_isSplit_42 : decode xb_Mo_isSplit 42 = .ok (.getfield 26, 3) := by decide +kernel
theorem xd_Mo_isSplit_45 : decode xb_Mo_isSplit 45 = .ok (.iload_n 3, 1) := by decide +kernel
theorem xd_Mo_isSplit_46 : decode xb_Mo_isSplit 46 = .ok (.bipush 12, 2) := by decide +kernel
theorem xd_Mo_isSplit_48 : decode xb_Mo_isSplit 48 = .ok (.irem, 1) := by decide +kernel
theorem xd_Mo_isSplit_49 : decode xb_Mo_isSplit 49 = .ok (.iaload, 1) := by decide +kernel
theorem xd_Mo_isSplit_50 : decode xb_Mo_isSplit 50 = .ok (.iadd, 1) := by decide +kernel
theorem xd_Mo_isSplit_51 : decode xb_Mo_isSplit 51 = .ok (.if_icmp .ge 62, 3) := by decide +kernel
theorem xd_Mo_isSplit_54 : decode xb_Mo_isSplit 54 = .ok (.aload_n 0, 1) := by decide +kernel
theorem xd_Mo_isSplit_55 : decode xb_Mo_isSplit 55 = .ok (.iload 4, 2) := by decide +kernel
theorem xd_Mo_isSplit_57 : decode xb_Mo_isSplit 57 = .ok (.aload_n 0, 1) := by decide +kernel
theorem xd_Mo_isSplit_58 : decode xb_Mo_isSplit 58 = .ok (.getfield 23, 3) := by decide +kernel
theorem xd_Mo_isSplit_61 : decode xb_Mo_isSplit 61 = .ok (.iload_n 2, 1) := by decide +kernel
theorem xd_Mo_isSplit_62 : decode xb_Mo_isSplit 62 = .ok (.iaload, 1) := by decide +kernel
theorem xd_Mo_isSplit_63 : decode xb_Mo_isSplit 63 = .ok (.invokevirtual 175, 3) := by decide +kernel
theorem xd_Mo_isSplit_66 : decode xb_Mo_isSplit 66 = .ok (.ifCond .eq 41, 3) := by decide +kernel
theorem xd_Mo_isSplit_69 : decode xb_Mo_isSplit 69 = .ok (.aload_n 0, 1) := by decide +kernel
theorem xd_Mo_isSplit_70 : decode xb_Mo_isSplit 70 = .ok (.iload_n 2, 1) := by decide +kernel
theorem xd_Mo_isSplit_71 : decode xb_Mo_isSplit 71 = .ok (.aload_n 0, 1) := by decide +kernel
theorem xd_Mo_isSplit_72 : decode xb_Mo_isSplit 72 = .ok (.getfield 29, 3) := by decide +kernel
theorem xd_Mo_isSplit_75 : decode xb_Mo_isSplit 75 = .ok (.iload 4, 2) := by decide +kernel
theorem xd_Mo_isSplit_77 : decode xb_Mo_isSplit 77 = .ok (.iaload, 1) := by decide +kernel
theorem xd_Mo_isSplit_78 : decode xb_Mo_isSplit 78 = .ok (.invokevirtual 143, 3) := by decide +kernel
theorem xd_Mo_isSplit_81 : decode xb_Mo_isSplit 81 = .ok (.ifCond .ge 24, 3) := by decide +kernel
theorem xd_Mo_isSplit_84 : decode xb_Mo_isSplit 84 = .ok (.aload_n 0, 1) := by decide +kernel
theorem xd_Mo_isSplit_85 : decode xb_Mo_isSplit 85 = .ok (.iload_n 3, 1) := by decide +kernel
theorem xd_Mo_isSplit_86 : decode xb_Mo_isSplit 86 = .ok (.aload_n 0, 1) := by decide +kernel
theorem xd_Mo_isSplit_87 : decode xb_Mo_isSplit 87 = .ok (.getfield 29, 3) := by decide +kernel
theorem xd_Mo_isSplit_90 : decode xb_Mo_isSplit 90 = .ok (.iload 4, 2) := by decide +kernel
theorem xd_Mo_isSplit_92 : decode xb_Mo_isSplit 92 = .ok (.iaload, 1) := by decide +kernel
theorem xd_Mo_isSplit_93 : decode xb_Mo_isSplit 93 = .ok (.aload_n 0, 1) := by decide +kernel
theorem xd_Mo_isSplit_94 : decode xb_Mo_isSplit 94 = .ok (.getfield 23, 3) := by decide +kernel
theorem xd_Mo_isSplit_97 : decode xb_Mo_isSplit 97 = .ok (.iload_n 2, 1) := by decide +kernel
theorem xd_Mo_isSplit_98 : decode xb_Mo_isSplit 98 = .ok (.iaload, 1) := by decide +kernel
theorem xd_Mo_isSplit_99 : decode xb_Mo_isSplit 99 = .ok (.invokevirtual 178, 3) := by decide +kernel
theorem xd_Mo_isSplit_102 : decode xb_Mo_isSplit 102 = .ok (.ifCond .eq 5, 3) := by decide +kernel
theorem xd_Mo_isSplit_105 : decode xb_Mo_isSplit 105 = .ok (.iconst 1, 1) := by decide +kernel
theorem xd_Mo_isSplit_106 : decode xb_Mo_isSplit 106 = .ok (.ireturn, 1) := by decide +kernel
theorem xd_Mo_isSplit_107 : decode xb_Mo_isSplit 107 = .ok (.iinc 4 1, 3) := by decide +kernel
theorem xd_Mo_isSplit_110 : decode xb_Mo_isSplit 110 = .ok (.goto (-87), 3) := by decide +kernel
theorem xd_Mo_isSplit_113 : decode xb_Mo_isSplit 113 = .ok (.iinc 3 1, 3) := by decide +kernel
theorem xd_Mo_isSplit_116 : decode xb_Mo_isSplit 116 = .ok (.goto (-108), 3) := by decide +kernel
theorem xd_Mo_isSplit_119 : decode xb_Mo_isSplit 119 = .ok (.iconst 0, 1) := by decide +kernel
theorem xd_Mo_isSplit_120 : decode xb_Mo_isSplit 120 = .ok (.ireturn, 1) := by decide +kernel
theorem xd_Mo_isTo_0 : decode xb_Mo_isTo 0 = .ok (.iload_n 1, 1) := by decide +kernel
theorem xd_Mo_isTo_1 : decode xb_Mo_isTo 1 = .ok (.ifCond .ne 22, 3) := by decide +kernel
theorem xd_Mo_isTo_4 : decode xb_Mo_isTo 4 = .ok (.iload_n 2, 1) := by decide +kernel
theorem xd_Mo_isTo_5 : decode xb_Mo_isTo 5 = .ok (.iload 5, 2) := by decide +kernel
theorem xd_Mo_isTo_7 : decode xb_Mo_isTo 7 = .ok (.if_icmp .eq 16, 3) := by decide +kernel
theorem xd_Mo_isTo_10 : decode xb_Mo_isTo 10 = .ok (.iload_n 3, 1) := by decide +kernel
theorem xd_Mo_isTo_11 : decode xb_Mo_isTo 11 = .ok (.iload 5, 2) := by decide +kernel
theorem xd_Mo_isTo_13 : decode xb_Mo_isTo 13 = .ok (.if_icmp .eq 10, 3) := by decide +kernel
theorem xd_Mo_isTo_16 : decode xb_Mo_isTo 16 = .ok (.iload 4, 2) := by decide +kernel
theorem xd_Mo_isTo_18 : decode xb_Mo_isTo 18 = .ok (.iload 5, 2) := by decide +kernel
theorem xd_Mo_isTo_20 : decode xb_Mo_isTo 20 = .ok (.if_icmp .ne 7, 3) := by decide +kernel
theorem xd_Mo_isTo_23 : decode xb_Mo_isTo 23 = .ok (.iconst 1, 1) := by decide +kernel
theorem xd_Mo_isTo_24 : decode xb_Mo_isTo 24 = .ok (.goto 4, 3) := by decide +kernel
theorem xd_Mo_isTo_27 : decode xb_Mo_isTo 27 = .ok (.iconst 0, 1) := by decide +kernel
theorem xd_Mo_isTo_28 : decode xb_Mo_isTo 28 = .ok (.ireturn, 1) := by decide +kernel
theorem xd_Mo_reason_0 : decode xb_Mo_reason 0 = .ok (.iconst 0, 1) := by decide +kernel
theorem xd_Mo_reason_1 : decode xb_Mo_reason 1 = .ok (.istore_n 1, 1) := by decide +kernel
theorem xd_Mo_reason_2 : decode xb_Mo_reason 2 = .ok (.iconst 0, 1) := by decide +kernel
theorem xd_Mo_reason_3 : decode xb_Mo_reason 3 = .ok (.istore_n 2, 1) := by decide +kernel
theorem xd_Mo_reason_4 : decode xb_Mo_reason 4 = .ok (.bipush 12, 2) := by decide +kernel
theorem xd_Mo_reason_6 : decode xb_Mo_reason 6 = .ok (.aload_n 0, 1) := by decide +kernel
theorem xd_Mo_reason_7 : decode xb_Mo_reason 7 = .ok (.getfield 150, 3) := by decide +kernel
theorem xd_Mo_reason_10 : decode xb_Mo_reason 10 = .ok (.imul, 1) := by decide +kernel
theorem xd_Mo_reason_11 : decode xb_Mo_reason 11 = .ok (.istore_n 3, 1) := by decide +kernel
theorem xd_Mo_reason_12 : decode xb_Mo_reason 12 = .ok (.iload_n 3, 1) := by decide +kernel
theorem xd_Mo_reason_13 : decode xb_Mo_reason 13 = .ok (.bipush 12, 2) := by decide +kernel
theorem xd_Mo_reason_15 : decode xb_Mo_reason 15 = .ok (.aload_n 0, 1) := by decide +kernel
theorem xd_Mo_reason_16 : decode xb_Mo_reason 16 = .ok (.getfield 150, 3) := by decide +kernel
theorem xd_Mo_reason_19 : decode xb_Mo_reason 19 = .ok (.imul, 1) := by decide +kernel
theorem xd_Mo_reason_20 : decode xb_Mo_reason 20 = .ok (.aload_n 0, 1) := by decide +kernel
theorem xd_Mo_reason_21 : decode xb_Mo_reason 21 = .ok (.getfield 72, 3) := by decide +kernel
theorem xd_Mo_reason_24 : decode xb_Mo_reason 24 = .ok (.aload_n 0, 1) := by decide +kernel
theorem xd_Mo_reason_25 : decode xb_Mo_reason 25 = .ok (.getfield 150, 3) := by decide +kernel
theorem xd_Mo_reason_28 : decode xb_Mo_reason 28 = .ok (.iaload, 1) := by decide +kernel
theorem xd_Mo_reason_29 : decode xb_Mo_reason 29 = .ok (.iadd, 1) := by decide +kernel
theorem xd_Mo_reason_30 : decode xb_Mo_reason 30 = .ok (.if_icmp .ge 32, 3) := by decide +kernel
theorem xd_Mo_reason_33 : decode xb_Mo_reason 33 = .ok (.iload_n 1, 1) := by decide +kernel
theorem xd_Mo_reason_34 : decode xb_Mo_reason 34 = .ok (.ifCond .ne 16, 3) := by decide +kernel
theorem xd_Mo_reason_37 : decode xb_Mo_reason 37 = .ok (.aload_n 0, 1) := by decide +kernel
theorem xd_Mo_reason_38 : decode xb_Mo_reason 38 = .ok (.aload_n 0, 1) := by decide +kernel
theorem xd_Mo_reason_39 : decode xb_Mo_reason 39 = .ok (.getfield 75, 3) := by decide +kernel
theorem xd_Mo_reason_42 : decode xb_Mo_reason 42 = .ok (.iload_n 3, 1) := by decide +kernel
theorem xd_Mo_reason_43 : decode xb_Mo_reason 43 = .ok (.iaload, 1) := by decide +kernel
theorem xd_Mo_reason_44 : decode xb_Mo_reason 44 = .ok (.invokevirtual 181, 3) := by decide +kernel
theorem xd_Mo_reason_47 : decode xb_Mo_reason 47 = .ok (.ifCond .eq 7, 3) := by decide +kernel
theorem xd_Mo_reason_50 : decode xb_Mo_reason 50 = .ok (.iconst 1, 1) := by decide +kernel
theorem xd_Mo_reason_51 : decode xb_Mo_reason 51 = .ok (.goto 4, 3) := by decide +kernel
theorem xd_Mo_reason_54 : decode xb_Mo_reason 54 = .ok (.iconst 0, 1) := by decide +kernel
theorem xd_Mo_reason_55 : decode xb_Mo_reason 55 = .ok (.istore_n 1, 1) := by decide +kernel
theorem xd_Mo_reason_56 : decode xb_Mo_reason 56 = .ok (.iinc 3 1, 3) := by decide +kernel
theorem xd_Mo_reason_59 : decode xb_Mo_reason 59 = .ok (.goto (-47), 3) := by decide +kernel
theorem xd_Mo_reason_62 : decode xb_Mo_reason 62 = .ok (.bipush 12, 2) := by decide +kernel
theorem xd_Mo_reason_64 : decode xb_Mo_reason 64 = .ok (.aload_n 0, 1) := by decide +kernel
theorem xd_Mo_reason_65 : decode xb_Mo_reason 65 = .ok (.getfield 150, 3) := by decide +kernel
theorem xd_Mo_reason_68 : decode xb_Mo_reason 68 = .ok (.imul, 1) := by decide +kernel
theorem xd_Mo_reason_69 : decode xb_Mo_reason 69 = .ok (.istore_n 3, 1) := by decide +kernel
theorem xd_Mo_reason_70 : decode xb_Mo_reason 70 = .ok (.iload_n 3, 1) := by decide +kernel
theorem xd_Mo_reason_71 : decode xb_Mo_reason 71 = .ok (.bipush 12, 2) := by decide +kernel
theorem xd_Mo_reason_73 : decode xb_Mo_reason 73 = .ok (.aload_n 0, 1) := by decide +kernel
theorem xd_Mo_reason_74 : decode xb_Mo_reason 74 = .ok (.getfield 150, 3) := by decide +kernel
theorem xd_Mo_reason_77 : decode xb_Mo_reason 77 = .ok (.imul, 1) := by decide +kernel
theorem xd_Mo_reason_78 : decode xb_Mo_reason 78 = .ok (.aload_n 0, 1) := by decide +kernel
theorem xd_Mo_reason_79 : decode xb_Mo_reason 79 = .ok (.getfield 72, 3) := by decide +kernel
theorem xd_Mo_reason_82 : decode xb_Mo_reason 82 = .ok (.aload_n 0, 1) := by decide +kernel
theorem xd_Mo_reason_83 : decode xb_Mo_reason 83 = .ok (.getfield 150, 3) := by decide +kernel
theorem xd_Mo_reason_86 : decode xb_Mo_reason 86 = .ok (.iaload, 1) := by decide +kernel
theorem xd_Mo_reason_87 : decode xb_Mo_reason 87 = .ok (.iadd, 1) := by decide +kernel
theorem xd_Mo_reason_88 : decode xb_Mo_reason 88 = .ok (.if_icmp .ge 40, 3) := by decide +kernel
theorem xd_Mo_reason_91 : decode xb_Mo_reason 91 = .ok (.iload_n 1, 1) := by decide +kernel
theorem xd_Mo_reason_92 : decode xb_Mo_reason 92 = .ok (.ifCond .ne 36, 3) := by decide +kernel
theorem xd_Mo_reason_95 : decode xb_Mo_reason 95 = .ok (.iload_n 2, 1) := by decide +kernel
theorem xd_Mo_reason_96 : decode xb_Mo_reason 96 = .ok (.ifCond .ne 20, 3) := by decide +kernel
theorem xd_Mo_reason_99 : decode xb_Mo_reason 99 = .ok (.aload_n 0, 1) := by decide +kernel
theorem xd_Mo_reason_100 : decode xb_Mo_reason 100 = .ok (.aload_n 0, 1) := by decide +kernel
theorem xd_Mo_reason_101 : decode xb_Mo_reason 101 = .ok (.getfield 150, 3) := by decide +kernel
theorem xd_Mo_reason_104 : decode xb_Mo_reason 104 = .ok (.aload_n 0, 1) := by decide +kernel
theorem xd_Mo_reason_105 : decode xb_Mo_reason 105 = .ok (.getfield 75, 3) := by decide +kernel
theorem xd_Mo_reason_108 : decode xb_Mo_reason 108 = .ok (.iload_n 3, 1) := by decide +kernel
theorem xd_Mo_reason_109 : decode xb_Mo_reason 109 = .ok (.iaload, 1) := by decide +kernel
theorem xd_Mo_reason_110 : decode xb_Mo_reason 110 = .ok (.invokevirtual 184, 3) := by decide +kernel
theorem xd_Mo_reason_113 : decode xb_Mo_reason 113 = .ok (.ifCond .eq 7, 3) := by decide +kernel
theorem xd_Mo_reason_116 : decode xb_Mo_reason 116 = .ok (.iconst 1, 1) := by decide +kernel
theorem xd_Mo_reason_117 : decode xb_Mo_reason 117 = .ok (.goto 4, 3) := by decide +kernel
theorem xd_Mo_reason_120 : decode xb_Mo_reason 120 = .ok (.iconst 0, 1) := by decide +kernel
theorem xd_Mo_reason_121 : decode xb_Mo_reason 121 = .ok (.istore_n 2, 1) := by decide +kernel
theorem xd_Mo_reason_122 : decode xb_Mo_reason 122 = .ok (.iinc 3 1, 3) := by decide +kernel
theorem xd_Mo_reason_125 : decode xb_Mo_reason 125 = .ok (.goto (-55), 3) := by decide +kernel
theorem xd_Mo_reason_128 : decode xb_Mo_reason 128 = .ok (.iload_n 1, 1) := by decide +kernel
theorem xd_Mo_reason_129 : decode xb_Mo_reason 129 = .ok (.ifCond .eq 7, 3) := by decide +kernel
theorem xd_Mo_reason_132 : decode xb_Mo_reason 132 = .ok (.iconst 1, 1) := by decide +kernel
theorem xd_Mo_reason_133 : decode xb_Mo_reason 133 = .ok (.goto 24, 3) := by decide +kernel
theorem xd_Mo_reason_136 : decode xb_Mo_reason 136 = .ok (.iload_n 2, 1) := by decide +kernel
theorem xd_Mo_reason_137 : decode xb_Mo_reason 137 = .ok (.ifCond .eq 7, 3) := by decide +kernel
theorem xd_Mo_reason_140 : decode xb_Mo_reason 140 = .ok (.iconst 2, 1) := by decide +kernel
theorem xd_Mo_reason_141 : decode xb_Mo_reason 141 = .ok (.goto 16, 3) := by decide +kernel
theorem xd_Mo_reason_144 : decode xb_Mo_reason 144 = .ok (.aload_n 0, 1) := by decide +kernel
theorem xd_Mo_reason_145 : decode xb_Mo_reason 145 = .ok (.getfield 150, 3) := by decide +kernel
theorem xd_Mo_reason_148 : decode xb_Mo_reason 148 = .ok (.iconst 5, 1) := by decide +kernel
theorem xd_Mo_reason_149 : decode xb_Mo_reason 149 = .ok (.if_icmp .ne 7, 3) := by decide +kernel
theorem xd_Mo_reason_152 : decode xb_Mo_reason 152 = .ok (.iconst 3, 1) := by decide +kernel
theorem xd_Mo_reason_153 : decode xb_Mo_reason 153 = .ok (.goto 4, 3) := by decide +kernel
theorem xd_Mo_reason_156 : decode xb_Mo_reason 156 = .ok (.iconst 0, 1) := by decide +kernel
theorem xd_Mo_reason_157 : decode xb_Mo_reason 157 = .ok (.ireturn, 1) := by decide +kernel
set_option maxHeartbeats 4000000 in
set_option maxRecDepth 100000 in
theorem xc_Mo_isTo (l : Launch) (D : va_G) (kA : Nat → ClassId) (sz h : Nat) (mm : Nat → Nat) (v : Nat → Int32) (g : Nat → Nat → Int32) (t0 : Int32) (t1 : Int32) (t2 : Int32) (t3 : Int32) (t4 : Int32) : Met l xy_Mo_isTo (.code xy_Mo_isTo xb_Mo_isTo 6 (some .boolean) :: wT) { frames := 0, cells := 0, slots := 0, locals := 0 } (va_Pc [.ref h, .int t0, .int t1, .int t2, .int t3, .int t4] (xPre D kA sz (moW h mm kA v g))) (va_Qi (fun (r : Int32) (u : Unit) => r = 0 ∨ r = 1) (fun (u : Unit) t => va_P D xcl (moW h mm kA v g) t.heap ∧ va_D (va_A (moW h mm kA v g) sz) (moW h mm kA v g)) (va_A (moW h mm kA v g) sz)) 0 0 (va_A (moW h mm kA v g) sz) := by
  refine Met.ofW (cc := xb_Mo_isTo) (maxL := 6) (ret := (some .boolean)) (by decide) rfl ?_
  intro p e s m args below meth c s₁ B hml hv
  obtain ⟨rfl, hsz, hP, hK, hD0⟩ := hv
  have hx := B.exec
  have hb := B.bytes
  have hr := B.returns
  have hT := x_hT B.pre
  have hown : s.vm.findClass xR_Mo = some m.cls := findClass_of_methodNamed B.named
  have hlocks := B.notSynchronized
  subst hsz
  have hD := hD0.self (sz := s.heap.size)
  generalize hAe : va_A (moW h mm kA v g) s.heap.size = A at hD ⊢
  have hA : ∀ q : Nat, s.heap.size ≤ q → A q := fun q h => by rw [← hAe]; exact Or.inr h
  have hS : va_S A s.heap s.heap [] := va_S.rf
  have hl := lv_entry ([.ref h, .int t0, .int t1, .int t2, .int t3, .int t4]) (n := 6) (Nat.le_of_ble_eq_true rfl)
  rw [lg_entry_eq]
  generalize (lg_sl ([.ref h, .int t0, .int t1, .int t2, .int t3, .int t4]) ++ List.replicate (6 - (lg_sl ([.ref h, .int t0, .int t1, .int t2, .int t3, .int t4])).length) Slot.unset).toArray = ls at hl ⊢
  have hl : lv_has ls 6 [(0, .ref h), (1, .int t0), (2, .int t1), (3, .int t2), (4, .int t3), (5, .int t4)] := hl
  have hP : va_P D xcl (moW h mm kA v g) s.heap := hP
  refine lv_iload_n hx hb xd_Mo_isTo_0 rfl (lv_at hl 1 rfl) ?_
  refine lv_if_ne (tgt := 23) hx hb xd_Mo_isTo_1 (by decide) (fun hc1 => ?_) (fun hc1 => ?_)
  · refine lv_iconst (v := 1) hx hb xd_Mo_isTo_23 (by decide) ?_
    refine lv_goto (tgt := 28) hx hb xd_Mo_isTo_24 (by decide) ?_
    exact W.zret (v := 1) hx hb hr rfl (fun t ht hW => ⟨⟨1, (), rfl, Or.inr rfl, by rw [ht]; exact hP, hD⟩, hS.F ht⟩) hS.2.2 xd_Mo_isTo_28
  · refine lv_iload_n hx hb xd_Mo_isTo_4 rfl (lv_at hl 2 rfl) ?_
    refine lv_iload hx hb xd_Mo_isTo_5 (lv_at hl 5 rfl) ?_
    refine lv_icmp_eq (tgt := 23) hx hb xd_Mo_isTo_7 (by decide) (fun hc2 => ?_) (fun hc2 => ?_)
    · refine lv_iconst (v := 1) hx hb xd_Mo_isTo_23 (by decide) ?_
      refine lv_goto (tgt := 28) hx hb xd_Mo_isTo_24 (by decide) ?_
      exact W.zret (v := 1) hx hb hr rfl (fun t ht hW => ⟨⟨1, (), rfl, Or.inr rfl, by rw [ht]; exact hP, hD⟩, hS.F ht⟩) hS.2.2 xd_Mo_isTo_28
    · refine lv_iload_n hx hb xd_Mo_isTo_10 rfl (lv_at hl 3 rfl) ?_
      refine lv_iload hx hb xd_Mo_isTo_11 (lv_at hl 5 rfl) ?_
      refine lv_icmp_eq (tgt := 23) hx hb xd_Mo_isTo_13 (by decide) (fun hc3 => ?_) (fun hc3 => ?_)
      · refine lv_iconst (v := 1) hx hb xd_Mo_isTo_23 (by decide) ?_
        refine lv_goto (tgt := 28) hx hb xd_Mo_isTo_24 (by decide) ?_
        exact W.zret (v := 1) hx hb hr rfl (fun t ht hW => ⟨⟨1, (), rfl, Or.inr rfl, by rw [ht]; exact hP, hD⟩, hS.F ht⟩) hS.2.2 xd_Mo_isTo_28
      · refine lv_iload hx hb xd_Mo_isTo_16 (lv_at hl 4 rfl) ?_
        refine lv_iload hx hb xd_Mo_isTo_18 (lv_at hl 5 rfl) ?_
        refine lv_icmp_ne (tgt := 27) hx hb xd_Mo_isTo_20 (by decide) (fun hc4 => ?_) (fun hc4 => ?_)
        · refine lv_iconst (v := 0) hx hb xd_Mo_isTo_27 (by decide) ?_
          exact W.zret (v := 0) hx hb hr rfl (fun t ht hW => ⟨⟨0, (), rfl, Or.inl rfl, by rw [ht]; exact hP, hD⟩, hS.F ht⟩) hS.2.2 xd_Mo_isTo_28
        · refine lv_iconst (v := 1) hx hb xd_Mo_isTo_23 (by decide) ?_
          refine lv_goto (tgt := 28) hx hb xd_Mo_isTo_24 (by decide) ?_
          exact W.zret (v := 1) hx hb hr rfl (fun t ht hW => ⟨⟨1, (), rfl, Or.inr rfl, by rw [ht]; exact hP, hD⟩, hS.F ht⟩) hS.2.2 xd_Mo_isTo_28
theorem MI_tx {v : Nat → Int32} {g : Nat → Nat → Int32} {n : Nat} {x : Int32} (hn : n < 40) (h : MI v g) : MI v (va_up g 0 (upd (g 0) n (vp_nar .char x))) := by
  obtain ⟨h1, h2, h3, h4⟩ := h
  refine ⟨h1, h2, fun i hi => ?_, h4⟩
  show narrow .char (.int (upd (g 0) n (vp_nar .char x) i)) = .int (upd (g 0) n (vp_nar .char x) i)
  by_cases e : i = n
  · subst e
    rw [pk_us, vp_nar_char]
    exact pk_nc x
  · rw [pk_un e]; exact h3 i hi
abbrev xb_Mo_write : ByteArray := prog_12_method_4_code
def xy_Mo_write : MethodName := ⟨"LayerDeskModel", "write", "(C)Z"⟩
abbrev xb_Mo_fault : ByteArray := prog_12_method_33_code
def xy_Mo_fault : MethodName := ⟨"LayerDeskModel", "fault", "()I"⟩
abbrev xb_Mo_close : ByteArray := prog_12_method_34_code
def xy_Mo_close : MethodName := ⟨"LayerDeskModel", "close", "(I)Z"⟩
abbrev xb_Mo_count : ByteArray := prog_12_method_35_code
def xy_Mo_count : MethodName := ⟨"LayerDeskModel", "count", "(I)I"⟩
abbrev xb_Mo_modules : ByteArray := prog_12_method_36_code
def xy_Mo_modules : MethodName := ⟨"LayerDeskModel", "modules", "(I)I"⟩
abbrev xb_Mo_moduleOf : ByteArray := prog_12_method_37_code
def xy_Mo_moduleOf : MethodName := ⟨"LayerDeskModel", "moduleOf", "(II)I"⟩
abbrev xb_Mo_module : ByteArray := prog_12_method_38_code
def xy_Mo_module : MethodName := ⟨"LayerDeskModel", "module", "(II)I"⟩
abbrev xb_Mo_isThere : ByteArray := prog_12_method_39_code
def xy_Mo_isThere : MethodName := ⟨"LayerDeskModel", "isThere", "(II)Z"⟩
abbrev xb_Mo_reads : ByteArray := prog_12_method_40_code
def xy_Mo_reads : MethodName := ⟨"LayerDeskModel", "reads", "(IIII)Z"⟩
theorem xd_Mo_close_0 : decode xb_Mo_close 0 = .ok (.aload_n 0, 1) := by decide +kernel
theorem xd_Mo_close_1 : decode xb_Mo_close 1 = .ok (.iconst 0, 1) := by decide +kernel
theorem xd_Mo_close_2 : decode xb_Mo_close 2 = .ok (.putfield 87, 3) := by decide +kernel
theorem xd_Mo_close_5 : decode xb_Mo_close 5 = .ok (.aload_n 0, 1) := by decide +kernel
theorem xd_Mo_close_6 : decode xb_Mo_close 6 = .ok (.iload_n 1, 1) := by decide +kernel
theorem xd_Mo_close_7 : decode xb_Mo_close 7 = .ok (.invokevirtual 190, 3) := by decide +kernel
theorem xd_Mo_close_10 : decode xb_Mo_close 10 = .ok (.ifCond .ne 5, 3) := by decide +kernel
theorem xd_Mo_close_13 : decode xb_Mo_close 13 = .ok (.iconst 0, 1) := by decide +kernel
theorem xd_Mo_close_14 : decode xb_Mo_close 14 = .ok (.ireturn, 1) := by decide +kernel
theorem xd_Mo_close_15 : decode xb_Mo_close 15 = .ok (.iconst 0, 1) := by decide +kernel
theorem xd_Mo_close_16 : decode xb_Mo_close 16 = .ok (.istore_n 2, 1) := by decide +kernel
theorem xd_Mo_close_17 : decode xb_Mo_close 17 = .ok (.iload_n 2, 1) := by decide +kernel
theorem xd_Mo_close_18 : decode xb_Mo_close 18 = .ok (.aload_n 0, 1) := by decide +kernel
theorem xd_Mo_close_19 : decode xb_Mo_close 19 = .ok (.getfield 150, 3) := by decide +kernel
theorem xd_Mo_close_22 : decode xb_Mo_close 22 = .ok (.if_icmp .ge 30, 3) := by decide +kernel
theorem xd_Mo_close_25 : decode xb_Mo_close 25 = .ok (.aload_n 0, 1) := by decide +kernel
theorem xd_Mo_close_26 : decode xb_Mo_close 26 = .ok (.getfield 78, 3) := by decide +kernel
theorem xd_Mo_close_29 : decode xb_Mo_close 29 = .ok (.iload_n 2, 1) := by decide +kernel
theorem xd_Mo_close_30 : decode xb_Mo_close 30 = .ok (.baload, 1) := by decide +kernel
theorem xd_Mo_close_31 : decode xb_Mo_close 31 = .ok (.ifCond .eq 15, 3) := by decide +kernel
theorem xd_Mo_close_34 : decode xb_Mo_close 34 = .ok (.aload_n 0, 1) := by decide +kernel
theorem xd_Mo_close_35 : decode xb_Mo_close 35 = .ok (.getfield 69, 3) := by decide +kernel
theorem xd_Mo_close_38 : decode xb_Mo_close 38 = .ok (.iload_n 2, 1) := by decide +kernel
theorem xd_Mo_close_39 : decode xb_Mo_close 39 = .ok (.iaload, 1) := by decide +kernel
theorem xd_Mo_close_40 : decode xb_Mo_close 40 = .ok (.iload_n 1, 1) := by decide +kernel
theorem xd_Mo_close_41 : decode xb_Mo_close 41 = .ok (.if_icmp .ne 5, 3) := by decide +kernel
theorem xd_Mo_close_44 : decode xb_Mo_close 44 = .ok (.iconst 0, 1) := by decide +kernel
theorem xd_Mo_close_45 : decode xb_Mo_close 45 = .ok (.ireturn, 1) := by decide +kernel
theorem xd_Mo_close_46 : decode xb_Mo_close 46 = .ok (.iinc 2 1, 3) := by decide +kernel
theorem xd_Mo_close_49 : decode xb_Mo_close 49 = .ok (.goto (-32), 3) := by decide +kernel
theorem xd_Mo_close_52 : decode xb_Mo_close 52 = .ok (.aload_n 0, 1) := by decide +kernel
theorem xd_Mo_close_53 : decode xb_Mo_close 53 = .ok (.getfield 78, 3) := by decide +kernel
theorem xd_Mo_close_56 : decode xb_Mo_close 56 = .ok (.iload_n 1, 1) := by decide +kernel
theorem xd_Mo_close_57 : decode xb_Mo_close 57 = .ok (.iconst 0, 1) := by decide +kernel
theorem xd_Mo_close_58 : decode xb_Mo_close 58 = .ok (.bastore, 1) := by decide +kernel
theorem xd_Mo_close_59 : decode xb_Mo_close 59 = .ok (.iconst 1, 1) := by decide +kernel
theorem xd_Mo_close_60 : decode xb_Mo_close 60 = .ok (.ireturn, 1) := by decide +kernel
theorem xd_Mo_count_0 : decode xb_Mo_count 0 = .ok (.aload_n 0, 1) := by decide +kernel
theorem xd_Mo_count_1 : decode xb_Mo_count 1 = .ok (.iconst 0, 1) := by decide +kernel
theorem xd_Mo_count_2 : decode xb_Mo_count 2 = .ok (.putfield 87, 3) := by decide +kernel
theorem xd_Mo_count_5 : decode xb_Mo_count 5 = .ok (.iconst 0, 1) := by decide +kernel
theorem xd_Mo_count_6 : decode xb_Mo_count 6 = .ok (.istore_n 2, 1) := by decide +kernel
theorem xd_Mo_count_7 : decode xb_Mo_count 7 = .ok (.iconst 0, 1) := by decide +kernel
theorem xd_Mo_count_8 : decode xb_Mo_count 8 = .ok (.istore_n 3, 1) := by decide +kernel
theorem xd_Mo_count_9 : decode xb_Mo_count 9 = .ok (.iload_n 3, 1) := by decide +kernel
theorem xd_Mo_count_10 : decode xb_Mo_count 10 = .ok (.aload_n 0, 1) := by decide +kernel
theorem xd_Mo_count_11 : decode xb_Mo_count 11 = .ok (.getfield 150, 3) := by decide +kernel
theorem xd_Mo_count_14 : decode xb_Mo_count 14 = .ok (.if_icmp .ge 26, 3) := by decide +kernel
theorem xd_Mo_count_17 : decode xb_Mo_count 17 = .ok (.aload_n 0, 1) := by decide +kernel
theorem xd_Mo_count_18 : decode xb_Mo_count 18 = .ok (.getfield 78, 3) := by decide +kernel
theorem xd_Mo_count_21 : decode xb_Mo_count 21 = .ok (.iload_n 3, 1) := by decide +kernel
theorem xd_Mo_count_22 : decode xb_Mo_count 22 = .ok (.baload, 1) := by decide +kernel
theorem xd_Mo_count_23 : decode xb_Mo_count 23 = .ok (.ifCond .eq 9, 3) := by decide +kernel
theorem xd_Mo_count_26 : decode xb_Mo_count 26 = .ok (.iload_n 2, 1) := by decide +kernel
theorem xd_Mo_count_27 : decode xb_Mo_count 27 = .ok (.iconst 1, 1) := by decide +kernel
theorem xd_Mo_count_28 : decode xb_Mo_count 28 = .ok (.iadd, 1) := by decide +kernel
theorem xd_Mo_count_29 : decode xb_Mo_count 29 = .ok (.goto 4, 3) := by decide +kernel
theorem xd_Mo_count_32 : decode xb_Mo_count 32 = .ok (.iload_n 2, 1) := by decide +kernel
theorem xd_Mo_count_33 : decode xb_Mo_count 33 = .ok (.istore_n 2, 1) := by decide +kernel
theorem xd_Mo_count_34 : decode xb_Mo_count 34 = .ok (.iinc 3 1, 3) := by decide +kernel
theorem xd_Mo_count_37 : decode xb_Mo_count 37 = .ok (.goto (-28), 3) := by decide +kernel
theorem xd_Mo_count_40 : decode xb_Mo_count 40 = .ok (.iload_n 1, 1) := by decide +kernel
theorem xd_Mo_count_41 : decode xb_Mo_count 41 = .ok (.ifCond .ne 10, 3) := by decide +kernel
theorem xd_Mo_count_44 : decode xb_Mo_count 44 = .ok (.aload_n 0, 1) := by decide +kernel
theorem xd_Mo_count_45 : decode xb_Mo_count 45 = .ok (.getfield 140, 3) := by decide +kernel
theorem xd_Mo_count_48 : decode xb_Mo_count 48 = .ok (.goto 25, 3) := by decide +kernel
theorem xd_Mo_count_51 : decode xb_Mo_count 51 = .ok (.iload_n 1, 1) := by decide +kernel
theorem xd_Mo_count_52 : decode xb_Mo_count 52 = .ok (.iconst 1, 1) := by decide +kernel
theorem xd_Mo_count_53 : decode xb_Mo_count 53 = .ok (.if_icmp .ne 10, 3) := by decide +kernel
theorem xd_Mo_count_56 : decode xb_Mo_count 56 = .ok (.aload_n 0, 1) := by decide +kernel
theorem xd_Mo_count_57 : decode xb_Mo_count 57 = .ok (.getfield 150, 3) := by decide +kernel
theorem xd_Mo_count_60 : decode xb_Mo_count 60 = .ok (.goto 13, 3) := by decide +kernel
theorem xd_Mo_count_63 : decode xb_Mo_count 63 = .ok (.iload_n 1, 1) := by decide +kernel
theorem xd_Mo_count_64 : decode xb_Mo_count 64 = .ok (.iconst 2, 1) := by decide +kernel
theorem xd_Mo_count_65 : decode xb_Mo_count 65 = .ok (.if_icmp .ne 7, 3) := by decide +kernel
theorem xd_Mo_count_68 : decode xb_Mo_count 68 = .ok (.iload_n 2, 1) := by decide +kernel
theorem xd_Mo_count_69 : decode xb_Mo_count 69 = .ok (.goto 4, 3) := by decide +kernel
theorem xd_Mo_count_72 : decode xb_Mo_count 72 = .ok (.iconst (-1), 1) := by decide +kernel
theorem xd_Mo_count_73 : decode xb_Mo_count 73 = .ok (.ireturn, 1) := by decide +kernel
theorem xd_Mo_fault_0 : decode xb_Mo_fault 0 = .ok (.aload_n 0, 1) := by decide +kernel
theorem xd_Mo_fault_1 : decode xb_Mo_fault 1 = .ok (.iconst 0, 1) := by decide +kernel
theorem xd_Mo_fault_2 : decode xb_Mo_fault 2 = .ok (.putfield 87, 3) := by decide +kernel
theorem xd_Mo_fault_5 : decode xb_Mo_fault 5 = .ok (.aload_n 0, 1) := by decide +kernel
theorem xd_Mo_fault_6 : decode xb_Mo_fault 6 = .ok (.getfield 187, 3) := by decide +kernel
theorem xd_Mo_fault_9 : decode xb_Mo_fault 9 = .ok (.ireturn, 1) := by decide +kernel
theorem xd_Mo_isThere_0 : decode xb_Mo_isThere 0 = .ok (.aload_n 0, 1) := by decide +kernel
theorem xd_Mo_isThere_1 : decode xb_Mo_isThere 1 = .ok (.iload_n 1, 1) := by decide +kernel
theorem xd_Mo_isThere_2 : decode xb_Mo_isThere 2 = .ok (.invokevirtual 190, 3) := by decide +kernel
theorem xd_Mo_isThere_5 : decode xb_Mo_isThere 5 = .ok (.ifCond .eq 28, 3) := by decide +kernel
theorem xd_Mo_isThere_8 : decode xb_Mo_isThere 8 = .ok (.iload_n 2, 1) := by decide +kernel
theorem xd_Mo_isThere_9 : decode xb_Mo_isThere 9 = .ok (.ifCond .lt 24, 3) := by decide +kernel
theorem xd_Mo_isThere_12 : decode xb_Mo_isThere 12 = .ok (.iload_n 2, 1) := by decide +kernel
theorem xd_Mo_isThere_13 : decode xb_Mo_isThere 13 = .ok (.aload_n 0, 1) := by decide +kernel
theorem xd_Mo_isThere_14 : decode xb_Mo_isThere 14 = .ok (.getfield 140, 3) := by decide +kernel
theorem xd_Mo_isThere_17 : decode xb_Mo_isThere 17 = .ok (.if_icmp .ge 16, 3) := by decide +kernel
theorem xd_Mo_isThere_20 : decode xb_Mo_isThere 20 = .ok (.aload_n 0, 1) := by decide +kernel
theorem xd_Mo_isThere_21 : decode xb_Mo_isThere 21 = .ok (.iload_n 1, 1) := by decide +kernel
theorem xd_Mo_isThere_22 : decode xb_Mo_isThere 22 = .ok (.iload_n 2, 1) := by decide +kernel
theorem xd_Mo_isThere_23 : decode xb_Mo_isThere 23 = .ok (.invokevirtual 156, 3) := by decide +kernel
theorem xd_Mo_isThere_26 : decode xb_Mo_isThere 26 = .ok (.ifCond .eq 7, 3) := by decide +kernel
theorem xd_Mo_isThere_29 : decode xb_Mo_isThere 29 = .ok (.iconst 1, 1) := by decide +kernel
theorem xd_Mo_isThere_30 : decode xb_Mo_isThere 30 = .ok (.goto 4, 3) := by decide +kernel
theorem xd_Mo_isThere_33 : decode xb_Mo_isThere 33 = .ok (.iconst 0, 1) := by decide +kernel
theorem xd_Mo_isThere_34 : decode xb_Mo_isThere 34 = .ok (.ireturn, 1) := by decide +kernel
theorem xd_Mo_module_0 : decode xb_Mo_module 0 = .ok (.aload_n 0, 1) := by decide +kernel
theorem xd_Mo_module_1 : decode xb_Mo_module 1 = .ok (.iconst 0, 1) := by decide +kernel
theorem xd_Mo_module_2 : decode xb_Mo_module 2 = .ok (.putfield 87, 3) := by decide +kernel
theorem xd_Mo_module_5 : decode xb_Mo_module 5 = .ok (.aload_n 0, 1) := by decide +kernel
theorem xd_Mo_module_6 : decode xb_Mo_module 6 = .ok (.iload_n 1, 1) := by decide +kernel
theorem xd_Mo_module_7 : decode xb_Mo_module 7 = .ok (.iload_n 2, 1) := by decide +kernel
theorem xd_Mo_module_8 : decode xb_Mo_module 8 = .ok (.invokevirtual 199, 3) := by decide +kernel
theorem xd_Mo_module_11 : decode xb_Mo_module 11 = .ok (.ireturn, 1) := by decide +kernel
theorem xd_Mo_moduleOf_0 : decode xb_Mo_moduleOf 0 = .ok (.aload_n 0, 1) := by decide +kernel
theorem xd_Mo_moduleOf_1 : decode xb_Mo_moduleOf 1 = .ok (.iload_n 1, 1) := by decide +kernel
theorem xd_Mo_moduleOf_2 : decode xb_Mo_moduleOf 2 = .ok (.invokevirtual 190, 3) := by decide +kernel
theorem xd_Mo_moduleOf_5 : decode xb_Mo_moduleOf 5 = .ok (.ifCond .eq 31, 3) := by decide +kernel
theorem xd_Mo_moduleOf_8 : decode xb_Mo_moduleOf 8 = .ok (.iload_n 2, 1) := by decide +kernel
theorem xd_Mo_moduleOf_9 : decode xb_Mo_moduleOf 9 = .ok (.ifCond .lt 27, 3) := by decide +kernel
theorem xd_Mo_moduleOf_12 : decode xb_Mo_moduleOf 12 = .ok (.iload_n 2, 1) := by decide +kernel
theorem xd_Mo_moduleOf_13 : decode xb_Mo_moduleOf 13 = .ok (.aload_n 0, 1) := by decide +kernel
theorem xd_Mo_moduleOf_14 : decode xb_Mo_moduleOf 14 = .ok (.getfield 72, 3) := by decide +kernel
theorem xd_Mo_moduleOf_17 : decode xb_Mo_moduleOf 17 = .ok (.iload_n 1, 1) := by decide +kernel
theorem xd_Mo_moduleOf_18 : decode xb_Mo_moduleOf 18 = .ok (.iaload, 1) := by decide +kernel
theorem xd_Mo_moduleOf_19 : decode xb_Mo_moduleOf 19 = .ok (.if_icmp .ge 17, 3) := by decide +kernel
theorem xd_Mo_moduleOf_22 : decode xb_Mo_moduleOf 22 = .ok (.aload_n 0, 1) := by decide +kernel
theorem xd_Mo_moduleOf_23 : decode xb_Mo_moduleOf 23 = .ok (.getfield 75, 3) := by decide +kernel
theorem xd_Mo_moduleOf_26 : decode xb_Mo_moduleOf 26 = .ok (.bipush 12, 2) := by decide +kernel
theorem xd_Mo_moduleOf_28 : decode xb_Mo_moduleOf 28 = .ok (.iload_n 1, 1) := by decide +kernel
theorem xd_Mo_moduleOf_29 : decode xb_Mo_moduleOf 29 = .ok (.imul, 1) := by decide +kernel
theorem xd_Mo_moduleOf_30 : decode xb_Mo_moduleOf 30 = .ok (.iload_n 2, 1) := by decide +kernel
theorem xd_Mo_moduleOf_31 : decode xb_Mo_moduleOf 31 = .ok (.iadd, 1) := by decide +kernel
theorem xd_Mo_moduleOf_32 : decode xb_Mo_moduleOf 32 = .ok (.iaload, 1) := by decide +kernel
theorem xd_Mo_moduleOf_33 : decode xb_Mo_moduleOf 33 = .ok (.goto 4, 3) := by decide +kernel
theorem xd_Mo_moduleOf_36 : decode xb_Mo_moduleOf 36 = .ok (.iconst (-1), 1) := by decide +kernel
theorem xd_Mo_moduleOf_37 : decode xb_Mo_moduleOf 37 = .ok (.ireturn, 1) := by decide +kernel
theorem xd_Mo_modules_0 : decode xb_Mo_modules 0 = .ok (.aload_n 0, 1) := by decide +kernel
theorem xd_Mo_modules_1 : decode xb_Mo_modules 1 = .ok (.iconst 0, 1) := by decide +kernel
theorem xd_Mo_modules_2 : decode xb_Mo_modules 2 = .ok (.putfield 87, 3) := by decide +kernel
theorem xd_Mo_modules_5 : decode xb_Mo_modules 5 = .ok (.aload_n 0, 1) := by decide +kernel
theorem xd_Mo_modules_6 : decode xb_Mo_modules 6 = .ok (.iload_n 1, 1) := by decide +kernel
theorem xd_Mo_modules_7 : decode xb_Mo_modules 7 = .ok (.invokevirtual 190, 3) := by decide +kernel
theorem xd_Mo_modules_10 : decode xb_Mo_modules 10 = .ok (.ifCond .eq 12, 3) := by decide +kernel
theorem xd_Mo_modules_13 : decode xb_Mo_modules 13 = .ok (.aload_n 0, 1) := by decide +kernel
theorem xd_Mo_modules_14 : decode xb_Mo_modules 14 = .ok (.getfield 72, 3) := by decide +kernel
theorem xd_Mo_modules_17 : decode xb_Mo_modules 17 = .ok (.iload_n 1, 1) := by decide +kernel
theorem xd_Mo_modules_18 : decode xb_Mo_modules 18 = .ok (.iaload, 1) := by decide +kernel
theorem xd_Mo_modules_19 : decode xb_Mo_modules 19 = .ok (.goto 4, 3) := by decide +kernel
theorem xd_Mo_modules_22 : decode xb_Mo_modules 22 = .ok (.iconst (-1), 1) := by decide +kernel
theorem xd_Mo_modules_23 : decode xb_Mo_modules 23 = .ok (.ireturn, 1) := by decide +kernel
theorem xd_Mo_reads_0 : decode xb_Mo_reads 0 = .ok (.aload_n 0, 1) := by decide +kernel
theorem xd_Mo_reads_1 : decode xb_Mo_reads 1 = .ok (.iconst 0, 1) := by decide +kernel
theorem xd_Mo_reads_2 : decode xb_Mo_reads 2 = .ok (.putfield 87, 3) := by decide +kernel
theorem xd_Mo_reads_5 : decode xb_Mo_reads 5 = .ok (.aload_n 0, 1) := by decide +kernel
theorem xd_Mo_reads_6 : decode xb_Mo_reads 6 = .ok (.iload_n 1, 1) := by decide +kernel
theorem xd_Mo_reads_7 : decode xb_Mo_reads 7 = .ok (.iload_n 2, 1) := by decide +kernel
theorem xd_Mo_reads_8 : decode xb_Mo_reads 8 = .ok (.invokevirtual 199, 3) := by decide +kernel
theorem xd_Mo_reads_11 : decode xb_Mo_reads 11 = .ok (.istore 5, 2) := by decide +kernel
theorem xd_Mo_reads_13 : decode xb_Mo_reads 13 = .ok (.iload 5, 2) := by decide +kernel
theorem xd_Mo_reads_15 : decode xb_Mo_reads 15 = .ok (.ifCond .lt 13, 3) := by decide +kernel
theorem xd_Mo_reads_18 : decode xb_Mo_reads 18 = .ok (.aload_n 0, 1) := by decide +kernel
theorem xd_Mo_reads_19 : decode xb_Mo_reads 19 = .ok (.iload_n 3, 1) := by decide +kernel
theorem xd_Mo_reads_20 : decode xb_Mo_reads 20 = .ok (.iload 4, 2) := by decide +kernel
theorem xd_Mo_reads_22 : decode xb_Mo_reads 22 = .ok (.invokevirtual 202, 3) := by decide +kernel
theorem xd_Mo_reads_25 : decode xb_Mo_reads 25 = .ok (.ifCond .ne 5, 3) := by decide +kernel
theorem xd_Mo_reads_28 : decode xb_Mo_reads 28 = .ok (.iconst 0, 1) := by decide +kernel
theorem xd_Mo_reads_29 : decode xb_Mo_reads 29 = .ok (.ireturn, 1) := by decide +kernel
theorem xd_Mo_reads_30 : decode xb_Mo_reads 30 = .ok (.aload_n 0, 1) := by decide +kernel
theorem xd_Mo_reads_31 : decode xb_Mo_reads 31 = .ok (.iload_n 1, 1) := by decide +kernel
theorem xd_Mo_reads_32 : decode xb_Mo_reads 32 = .ok (.iload 5, 2) := by decide +kernel
theorem xd_Mo_reads_34 : decode xb_Mo_reads 34 = .ok (.invokevirtual 171, 3) := by decide +kernel
theorem xd_Mo_reads_37 : decode xb_Mo_reads 37 = .ok (.aload_n 0, 1) := by decide +kernel
theorem xd_Mo_reads_38 : decode xb_Mo_reads 38 = .ok (.getfield 84, 3) := by decide +kernel
theorem xd_Mo_reads_41 : decode xb_Mo_reads 41 = .ok (.bipush 12, 2) := by decide +kernel
theorem xd_Mo_reads_43 : decode xb_Mo_reads 43 = .ok (.iload_n 3, 1) := by decide +kernel
theorem xd_Mo_reads_44 : decode xb_Mo_reads 44 = .ok (.imul, 1) := by decide +kernel
theorem xd_Mo_reads_45 : decode xb_Mo_reads 45 = .ok (.iload 4, 2) := by decide +kernel
theorem xd_Mo_reads_47 : decode xb_Mo_reads 47 = .ok (.iadd, 1) := by decide +kernel
theorem xd_Mo_reads_48 : decode xb_Mo_reads 48 = .ok (.baload, 1) := by decide +kernel
theorem xd_Mo_reads_49 : decode xb_Mo_reads 49 = .ok (.ireturn, 1) := by decide +kernel
theorem xd_Mo_write_0 : decode xb_Mo_write 0 = .ok (.aload_n 0, 1) := by decide +kernel
theorem xd_Mo_write_1 : decode xb_Mo_write 1 = .ok (.iconst 0, 1) := by decide +kernel
theorem xd_Mo_write_2 : decode xb_Mo_write 2 = .ok (.putfield 87, 3) := by decide +kernel
theorem xd_Mo_write_5 : decode xb_Mo_write 5 = .ok (.iload_n 1, 1) := by decide +kernel
theorem xd_Mo_write_6 : decode xb_Mo_write 6 = .ok (.bipush 32, 2) := by decide +kernel
theorem xd_Mo_write_8 : decode xb_Mo_write 8 = .ok (.if_icmp .lt 18, 3) := by decide +kernel
theorem xd_Mo_write_11 : decode xb_Mo_write 11 = .ok (.iload_n 1, 1) := by decide +kernel
theorem xd_Mo_write_12 : decode xb_Mo_write 12 = .ok (.bipush 126, 2) := by decide +kernel
theorem xd_Mo_write_14 : decode xb_Mo_write 14 = .ok (.if_icmp .gt 12, 3) := by decide +kernel
theorem xd_Mo_write_17 : decode xb_Mo_write 17 = .ok (.aload_n 0, 1) := by decide +kernel
theorem xd_Mo_write_18 : decode xb_Mo_write 18 = .ok (.getfield 91, 3) := by decide +kernel
theorem xd_Mo_write_21 : decode xb_Mo_write 21 = .ok (.bipush 40, 2) := by decide +kernel
theorem xd_Mo_write_23 : decode xb_Mo_write 23 = .ok (.if_icmp .lt 5, 3) := by decide +kernel
theorem xd_Mo_write_26 : decode xb_Mo_write 26 = .ok (.iconst 0, 1) := by decide +kernel
theorem xd_Mo_write_27 : decode xb_Mo_write 27 = .ok (.ireturn, 1) := by decide +kernel
theorem xd_Mo_write_28 : decode xb_Mo_write 28 = .ok (.aload_n 0, 1) := by decide +kernel
theorem xd_Mo_write_29 : decode xb_Mo_write 29 = .ok (.getfield 7, 3) := by decide +kernel
theorem xd_Mo_write_32 : decode xb_Mo_write 32 = .ok (.aload_n 0, 1) := by decide +kernel
theorem xd_Mo_write_33 : decode xb_Mo_write 33 = .ok (.getfield 91, 3) := by decide +kernel
theorem xd_Mo_write_36 : decode xb_Mo_write 36 = .ok (.iload_n 1, 1) := by decide +kernel
theorem xd_Mo_write_37 : decode xb_Mo_write 37 = .ok (.castore, 1) := by decide +kernel
theorem xd_Mo_write_38 : decode xb_Mo_write 38 = .ok (.aload_n 0, 1) := by decide +kernel
theorem xd_Mo_write_39 : decode xb_Mo_write 39 = .ok (.dup, 1) := by decide +kernel
theorem xd_Mo_write_40 : decode xb_Mo_write 40 = .ok (.getfield 91, 3) := by decide +kernel
theorem xd_Mo_write_43 : decode xb_Mo_write 43 = .ok (.iconst 1, 1) := by decide +kernel
theorem xd_Mo_write_44 : decode xb_Mo_write 44 = .ok (.iadd, 1) := by decide +kernel
theorem xd_Mo_write_45 : decode xb_Mo_write 45 = .ok (.putfield 91, 3) := by decide +kernel
theorem xd_Mo_write_48 : decode xb_Mo_write 48 = .ok (.iconst 1, 1) := by decide +kernel
theorem xd_Mo_write_49 : decode xb_Mo_write 49 = .ok (.ireturn, 1) := by decide +kernel
theorem xy3_4 : (Cond.code xy_Mo_isOpen xb_Mo_isOpen 2 (some .boolean)) ∈ wT := wT_t (List.mem_append_right _ (List.mem_append_right _ (List.mem_append_right _ (List.mem_append_right _ (List.mem_of_getElem? (i := 12) rfl))))) rfl
theorem xy3_5 : (Cond.methodLink "LayerDeskModel" 190 xy_Mo_isOpen) ∈ wT := wT_t (List.mem_append_right _ (List.mem_append_right _ (List.mem_append_right _ (List.mem_append_right _ (List.mem_of_getElem? (i := 9) rfl))))) rfl
theorem xy3_6 : (Cond.instanceMethod xy_Mo_isOpen) ∈ wT := wT_t (List.mem_append_right _ (List.mem_append_right _ (List.mem_append_right _ (List.mem_append_right _ (List.mem_of_getElem? (i := 11) rfl))))) rfl
theorem xy3_7 : (Cond.selects "LayerDeskModel" xy_Mo_isOpen xy_Mo_isOpen) ∈ wT := wT_s (q := (xy_Mo_isOpen, 31)) (by decide +kernel) rfl
theorem xy3_8 : (Cond.initialized "LayerDeskModel") ∈ wT := wT_t (List.mem_append_left _ (List.mem_of_getElem? (i := 5) rfl)) rfl
theorem xy3_12 : (Cond.fieldLink "LayerDeskModel" 140 "LayerDeskModel" "descriptors" "I") ∈ wT := wT_t (List.mem_append_right _ (List.mem_append_right _ (List.mem_append_right _ (List.mem_append_left _ (List.mem_of_getElem? (i := 91) rfl))))) rfl
theorem xy3_13 : (Cond.fieldLink "LayerDeskModel" 72 "LayerDeskModel" "modules" "[I") ∈ wT := wT_t (List.mem_append_right _ (List.mem_append_right _ (List.mem_append_right _ (List.mem_append_left _ (List.mem_of_getElem? (i := 110) rfl))))) rfl
theorem xy3_14 : (Cond.fieldLink "LayerDeskModel" 75 "LayerDeskModel" "module" "[I") ∈ wT := wT_t (List.mem_append_right _ (List.mem_append_right _ (List.mem_append_right _ (List.mem_append_left _ (List.mem_of_getElem? (i := 111) rfl))))) rfl
theorem xy3_19 : (Cond.code xy_Mo_isIn xb_Mo_isIn 5 (some .boolean)) ∈ wT := wT_t (List.mem_append_right _ (List.mem_append_right _ (List.mem_append_right _ (List.mem_append_right _ (List.mem_of_getElem? (i := 24) rfl))))) rfl
theorem xy3_20 : (Cond.methodLink "LayerDeskModel" 156 xy_Mo_isIn) ∈ wT := wT_t (List.mem_append_right _ (List.mem_append_right _ (List.mem_append_right _ (List.mem_append_right _ (List.mem_of_getElem? (i := 21) rfl))))) rfl
theorem xy3_21 : (Cond.instanceMethod xy_Mo_isIn) ∈ wT := wT_t (List.mem_append_right _ (List.mem_append_right _ (List.mem_append_right _ (List.mem_append_right _ (List.mem_of_getElem? (i := 23) rfl))))) rfl
theorem xy3_22 : (Cond.selects "LayerDeskModel" xy_Mo_isIn xy_Mo_isIn) ∈ wT := wT_s (q := (xy_Mo_isIn, 31)) (by decide +kernel) rfl
set_option maxHeartbeats 4000000 in
set_option maxRecDepth 100000 in
theorem xc_Mo_moduleOf (l : Launch) (D : va_G) (kA : Nat → ClassId) (sz h : Nat) (mm : Nat → Nat) (v : Nat → Int32) (g : Nat → Nat → Int32) (ly : Int32) (kx : Int32) (nl : Nat) (hnl : v 5 = nI nl) (hnl5 : nl ≤ 5) (hmd : ∀ la, la < 6 → ∃ k, k ≤ 12 ∧ g 20 la = nI k ∧ ∀ j, j < k → ∃ d, d < 12 ∧ g 21 (12 * la + j) = nI d) : Met l xy_Mo_moduleOf (.code xy_Mo_moduleOf xb_Mo_moduleOf 3 (some .int) :: wT) { frames := 1, cells := 0, slots := 0, locals := 21 } (va_Pc [.ref h, .int ly, .int kx] (xPre D kA sz (moW h mm kA v g))) (va_Qi (fun (r : Int32) (u : Unit) => r = -1 ∨ ∃ la d, la < nl ∧ ly = nI la ∧ d < 12 ∧ r = nI d) (fun (u : Unit) t => va_P D xcl (moW h mm kA v g) t.heap ∧ va_D (va_A (moW h mm kA v g) sz) (moW h mm kA v g)) (va_A (moW h mm kA v g) sz)) 0 0 (va_A (moW h mm kA v g) sz) := by
  refine Met.ofW (cc := xb_Mo_moduleOf) (maxL := 3) (ret := (some .int)) (by decide) rfl ?_
  intro p e s m args below meth c s₁ B hml hv
  obtain ⟨rfl, hsz, hP, hK, hD0⟩ := hv
  have hx := B.exec
  have hb := B.bytes
  have hr := B.returns
  have hT := x_hT B.pre
  have hown : s.vm.findClass xR_Mo = some m.cls := findClass_of_methodNamed B.named
  have hlocks := B.notSynchronized
  subst hsz
  have hD := hD0.self (sz := s.heap.size)
  generalize hAe : va_A (moW h mm kA v g) s.heap.size = A at hD ⊢
  have hA : ∀ q : Nat, s.heap.size ≤ q → A q := fun q h => by rw [← hAe]; exact Or.inr h
  have hS : va_S A s.heap s.heap [] := va_S.rf
  have hl := lv_entry ([.ref h, .int ly, .int kx]) (n := 3) (Nat.le_of_ble_eq_true rfl)
  rw [lg_entry_eq]
  generalize (lg_sl ([.ref h, .int ly, .int kx]) ++ List.replicate (3 - (lg_sl ([.ref h, .int ly, .int kx])).length) Slot.unset).toArray = ls at hl ⊢
  have hl : lv_has ls 3 [(0, .ref h), (1, .int ly), (2, .int kx)] := hl
  have hP : va_P D xcl (moW h mm kA v g) s.heap := hP
  refine lv_aload_n hx hb xd_Mo_moduleOf_0 rfl (lv_at hl 0 rfl) ?_
  refine lv_iload_n hx hb xd_Mo_moduleOf_1 rfl (lv_at hl 1 rfl) ?_
  have hFc := va_free (wc := (moW h mm kA v g)) hD hS hA [0, 1, 2, 3, 4, 5, 6, 7, 8, 9, 10, 11, 12, 13, 14, 15, 16, 17, 18, 19, 20, 21, 22, 23, 24, 25] rfl
  refine va_calli (va_runV (As := [.int ly]) (rest := []) ⟨hx, hb, hml, hown, hT⟩ (xc_Mo_isOpen l D kA s.heap.size h mm v g ly nl (by first | assumption | omega) (by first | assumption | omega)) (cwV 1 hT (wT_V xy3_5 xy3_6 xy3_7 xy3_8 xy3_4) rfl rfl rfl (by decide +kernel) ⟨Nat.le_of_ble_eq_true rfl, Nat.le_of_ble_eq_true rfl⟩) (x_preV hK hP hD 0 rfl rfl) rfl rfl hl.1 rfl (lv_room (Nat.le_of_ble_eq_true rfl)) xd_Mo_moduleOf_2 ⟨Nat.le_of_ble_eq_true rfl, Nat.le_of_ble_eq_true rfl⟩) hS (fun q _ h => hFc q h) hFc (fun r1 u2 t H1 locs ht hvm hp3 hB hz1 hk1 hS => ?_)
  obtain ⟨hP1, hD1⟩ := hB
  rw [ht] at hP1
  have hD1 := hD1.weaken (fun _ _ _ h => hFc _ h)
  generalize H1 = H at hP1 hS ⊢
  have hP := hP1
  have hD := hD1
  have hP : va_P D xcl (moW h mm kA v g) H := hP
  have hD : va_D A (moW h mm kA v g) := hD
  rcases hp3 with rfl | ⟨rfl, z4, z5, rfl⟩
  · refine xz_eq (a := 0) (tgt := 36) hx hb xd_Mo_moduleOf_5 (by decide) (by omega) (fun _ => ?_) (fun hc6 => absurd hc6 (by omega))
    refine lv_iconst (v := (-1)) hx hb xd_Mo_moduleOf_36 (by decide) ?_
    exact W.iret (v := (-1)) hx hb hr (fun t ht hW => ⟨⟨(-1), (), rfl, Or.inl rfl, by rw [ht]; exact hP, hD⟩, hS.F ht⟩) hS.2.2 xd_Mo_moduleOf_37
  · have hl : lv_has ls 3 [(0, .ref h), (1, .int (nI z4)), (2, .int kx)] := hl
    refine xz_eq (a := 1) (tgt := 36) hx hb xd_Mo_moduleOf_5 (by decide) (by omega) (fun hc7 => absurd hc7 (by omega)) (fun _ => ?_)
    refine lv_iload_n hx hb xd_Mo_moduleOf_8 rfl (lv_at hl 2 rfl) ?_
    refine lv_if_lt (tgt := 36) hx hb xd_Mo_moduleOf_9 (by decide) (fun hc8 => ?_) (fun hc8 => ?_)
    · refine lv_iconst (v := (-1)) hx hb xd_Mo_moduleOf_36 (by decide) ?_
      exact W.iret (v := (-1)) hx hb hr (fun t ht hW => ⟨⟨(-1), (), rfl, Or.inl rfl, by rw [ht]; exact hP, hD⟩, hS.F ht⟩) hS.2.2 xd_Mo_moduleOf_37
    · obtain ⟨kn, hkn31, hkx⟩ := nI_of hc8
      rw [xb_31] at hkn31
      rw [hkx] at hl
      obtain ⟨mdk, hmdk, emdk, hent⟩ := hmd z4 (by omega)
      refine lv_iload_n hx hb xd_Mo_moduleOf_12 rfl (lv_at hl 2 rfl) ?_
      refine lv_aload_n hx hb xd_Mo_moduleOf_13 rfl (lv_at hl 0 rfl) ?_
      refine va_get (D := D) (ci := 4) (v := .ref (mm 20)) (C := xR_Mo) (T := xT_Mo) (N := 31) hx hb hT xi_Mo hown hK.1 hP 0 rfl rfl 26 (by decide) (hT _ xy3_13) (fun _ h9 => h9) rfl xd_Mo_moduleOf_14 ?_
      refine lv_iload_n hx hb xd_Mo_moduleOf_17 rfl (lv_at hl 1 rfl) ?_
      refine xn_iald (i := z4) hx hb hK.1 hP 21 0 rfl rfl (by omega) (by decide) xd_Mo_moduleOf_18 ?_
      refine xn_top (x := (g 20 z4)) (y := nI mdk) emdk ?_
      refine xn_ge (a := kn) (b := mdk) (tgt := 36) hx hb xd_Mo_moduleOf_19 (by decide) (by omega) (by omega) (fun hc9 => ?_) (fun hc9 => ?_)
      · refine lv_iconst (v := (-1)) hx hb xd_Mo_moduleOf_36 (by decide) ?_
        exact W.iret (v := (-1)) hx hb hr (fun t ht hW => ⟨⟨(-1), (), rfl, Or.inl rfl, by rw [ht]; exact hP, hD⟩, hS.F ht⟩) hS.2.2 xd_Mo_moduleOf_37
      · refine lv_aload_n hx hb xd_Mo_moduleOf_22 rfl (lv_at hl 0 rfl) ?_
        refine va_get (D := D) (ci := 4) (v := .ref (mm 21)) (C := xR_Mo) (T := xT_Mo) (N := 31) hx hb hT xi_Mo hown hK.1 hP 0 rfl rfl 27 (by decide) (hT _ xy3_14) (fun _ h9 => h9) rfl xd_Mo_moduleOf_23 ?_
        refine lv_bipush (v := 12) hx hb xd_Mo_moduleOf_26 (by decide) ?_
        refine lv_iload_n hx hb xd_Mo_moduleOf_28 rfl (lv_at hl 1 rfl) ?_
        refine lv_imul hx hb xd_Mo_moduleOf_29 ?_
        refine xn_top (y := nI (12 * z4)) (pk_mul 12 z4) ?_
        refine lv_iload_n hx hb xd_Mo_moduleOf_30 rfl (lv_at hl 2 rfl) ?_
        refine lv_iadd hx hb xd_Mo_moduleOf_31 ?_
        refine xn_top (y := nI ((12 * z4) + kn)) (nI_add (12 * z4) kn) ?_
        refine xn_iald (i := (12 * z4) + kn) hx hb hK.1 hP 22 0 rfl rfl (by omega) (by decide) xd_Mo_moduleOf_32 ?_
        obtain ⟨k10, hk11, ek12⟩ := hent kn (by omega)
        refine xn_top (x := (g 21 ((12 * z4) + kn))) ek12 ?_
        refine lv_goto (tgt := 37) hx hb xd_Mo_moduleOf_33 (by decide) ?_
        exact W.iret (v := (nI k10)) hx hb hr (fun t ht hW => ⟨⟨(nI k10), (), rfl, Or.inr ⟨z4, k10, by omega, rfl, by omega, rfl⟩, by rw [ht]; exact hP, hD⟩, hS.F ht⟩) hS.2.2 xd_Mo_moduleOf_37
set_option maxHeartbeats 4000000 in
set_option maxRecDepth 100000 in
theorem xc_Mo_isThere (l : Launch) (D : va_G) (kA : Nat → ClassId) (sz h : Nat) (mm : Nat → Nat) (v : Nat → Int32) (g : Nat → Nat → Int32) (ly : Int32) (dx : Int32) (nl : Nat) (nd : Nat) (hnl : v 5 = nI nl) (hnl5 : nl ≤ 5) (hmd : ∀ la, la < 6 → ∃ k, k ≤ 12 ∧ g 20 la = nI k ∧ ∀ j, j < k → ∃ d, d < 12 ∧ g 21 (12 * la + j) = nI d) (hnd : v 4 = nI nd) (hnd12 : nd ≤ 12) : Met l xy_Mo_isThere (.code xy_Mo_isThere xb_Mo_isThere 3 (some .boolean) :: wT) { frames := 1, cells := 0, slots := 0, locals := 24 } (va_Pc [.ref h, .int ly, .int dx] (xPre D kA sz (moW h mm kA v g))) (va_Qi (fun (r : Int32) (u : Unit) => r = 0 ∨ (r = 1 ∧ ∃ la d, la < nl ∧ ly = nI la ∧ d < 12 ∧ dx = nI d)) (fun (u : Unit) t => va_P D xcl (moW h mm kA v g) t.heap ∧ va_D (va_A (moW h mm kA v g) sz) (moW h mm kA v g)) (va_A (moW h mm kA v g) sz)) 0 0 (va_A (moW h mm kA v g) sz) := by
  refine Met.ofW (cc := xb_Mo_isThere) (maxL := 3) (ret := (some .boolean)) (by decide) rfl ?_
  intro p e s m args below meth c s₁ B hml hv
  obtain ⟨rfl, hsz, hP, hK, hD0⟩ := hv
  have hx := B.exec
  have hb := B.bytes
  have hr := B.returns
  have hT := x_hT B.pre
  have hown : s.vm.findClass xR_Mo = some m.cls := findClass_of_methodNamed B.named
  have hlocks := B.notSynchronized
  subst hsz
  have hD := hD0.self (sz := s.heap.size)
  generalize hAe : va_A (moW h mm kA v g) s.heap.size = A at hD ⊢
  have hA : ∀ q : Nat, s.heap.size ≤ q → A q := fun q h => by rw [← hAe]; exact Or.inr h
  have hS : va_S A s.heap s.heap [] := va_S.rf
  have hl := lv_entry ([.ref h, .int ly, .int dx]) (n := 3) (Nat.le_of_ble_eq_true rfl)
  rw [lg_entry_eq]
  generalize (lg_sl ([.ref h, .int ly, .int dx]) ++ List.replicate (3 - (lg_sl ([.ref h, .int ly, .int dx])).length) Slot.unset).toArray = ls at hl ⊢
  have hl : lv_has ls 3 [(0, .ref h), (1, .int ly), (2, .int dx)] := hl
  have hP : va_P D xcl (moW h mm kA v g) s.heap := hP
  refine lv_aload_n hx hb xd_Mo_isThere_0 rfl (lv_at hl 0 rfl) ?_
  refine lv_iload_n hx hb xd_Mo_isThere_1 rfl (lv_at hl 1 rfl) ?_
  have hFc := va_free (wc := (moW h mm kA v g)) hD hS hA [0, 1, 2, 3, 4, 5, 6, 7, 8, 9, 10, 11, 12, 13, 14, 15, 16, 17, 18, 19, 20, 21, 22, 23, 24, 25] rfl
  refine va_calli (va_runV (As := [.int ly]) (rest := []) ⟨hx, hb, hml, hown, hT⟩ (xc_Mo_isOpen l D kA s.heap.size h mm v g ly nl (by first | assumption | omega) (by first | assumption | omega)) (cwV 1 hT (wT_V xy3_5 xy3_6 xy3_7 xy3_8 xy3_4) rfl rfl rfl (by decide +kernel) ⟨Nat.le_of_ble_eq_true rfl, Nat.le_of_ble_eq_true rfl⟩) (x_preV hK hP hD 0 rfl rfl) rfl rfl hl.1 rfl (lv_room (Nat.le_of_ble_eq_true rfl)) xd_Mo_isThere_2 ⟨Nat.le_of_ble_eq_true rfl, Nat.le_of_ble_eq_true rfl⟩) hS (fun q _ h => hFc q h) hFc (fun r1 u2 t H1 locs ht hvm hp3 hB hz1 hk1 hS => ?_)
  obtain ⟨hP1, hD1⟩ := hB
  rw [ht] at hP1
  have hD1 := hD1.weaken (fun _ _ _ h => hFc _ h)
  generalize H1 = H at hP1 hS ⊢
  have hP := hP1
  have hD := hD1
  have hP : va_P D xcl (moW h mm kA v g) H := hP
  have hD : va_D A (moW h mm kA v g) := hD
  rcases hp3 with rfl | ⟨rfl, z4, z5, rfl⟩
  · refine xz_eq (a := 0) (tgt := 33) hx hb xd_Mo_isThere_5 (by decide) (by omega) (fun _ => ?_) (fun hc6 => absurd hc6 (by omega))
    refine lv_iconst (v := 0) hx hb xd_Mo_isThere_33 (by decide) ?_
    exact W.zret (v := 0) hx hb hr rfl (fun t ht hW => ⟨⟨0, (), rfl, Or.inl rfl, by rw [ht]; exact hP, hD⟩, hS.F ht⟩) hS.2.2 xd_Mo_isThere_34
  · have hl : lv_has ls 3 [(0, .ref h), (1, .int (nI z4)), (2, .int dx)] := hl
    refine xz_eq (a := 1) (tgt := 33) hx hb xd_Mo_isThere_5 (by decide) (by omega) (fun hc7 => absurd hc7 (by omega)) (fun _ => ?_)
    refine lv_iload_n hx hb xd_Mo_isThere_8 rfl (lv_at hl 2 rfl) ?_
    refine lv_if_lt (tgt := 33) hx hb xd_Mo_isThere_9 (by decide) (fun hc8 => ?_) (fun hc8 => ?_)
    · refine lv_iconst (v := 0) hx hb xd_Mo_isThere_33 (by decide) ?_
      exact W.zret (v := 0) hx hb hr rfl (fun t ht hW => ⟨⟨0, (), rfl, Or.inl rfl, by rw [ht]; exact hP, hD⟩, hS.F ht⟩) hS.2.2 xd_Mo_isThere_34
    · obtain ⟨dn9, hdn931, hdx⟩ := nI_of hc8
      rw [xb_31] at hdn931
      rw [hdx] at hl
      refine lv_iload_n hx hb xd_Mo_isThere_12 rfl (lv_at hl 2 rfl) ?_
      refine lv_aload_n hx hb xd_Mo_isThere_13 rfl (lv_at hl 0 rfl) ?_
      refine va_get (D := D) (ci := 4) (v := .int (v 4)) (C := xR_Mo) (T := xT_Mo) (N := 31) hx hb hT xi_Mo hown hK.1 hP 0 rfl rfl 7 (by decide) (hT _ xy3_12) (fun _ h9 => h9) rfl xd_Mo_isThere_14 ?_
      refine xn_top (x := (v 4)) (y := nI nd) hnd ?_
      refine xn_ge (a := dn9) (b := nd) (tgt := 33) hx hb xd_Mo_isThere_17 (by decide) (by omega) (by omega) (fun hc9 => ?_) (fun hc9 => ?_)
      · refine lv_iconst (v := 0) hx hb xd_Mo_isThere_33 (by decide) ?_
        exact W.zret (v := 0) hx hb hr rfl (fun t ht hW => ⟨⟨0, (), rfl, Or.inl rfl, by rw [ht]; exact hP, hD⟩, hS.F ht⟩) hS.2.2 xd_Mo_isThere_34
      · obtain ⟨mdk, hmdk, emdk, hent⟩ := hmd z4 (by omega)
        refine lv_aload_n hx hb xd_Mo_isThere_20 rfl (lv_at hl 0 rfl) ?_
        refine lv_iload_n hx hb xd_Mo_isThere_21 rfl (lv_at hl 1 rfl) ?_
        refine lv_iload_n hx hb xd_Mo_isThere_22 rfl (lv_at hl 2 rfl) ?_
        have hFc := va_free (wc := (moW h mm kA v g)) hD hS hA [0, 1, 2, 3, 4, 5, 6, 7, 8, 9, 10, 11, 12, 13, 14, 15, 16, 17, 18, 19, 20, 21, 22, 23, 24, 25] rfl
        refine va_calli (va_runV (As := [.int (nI z4), .int (nI dn9)]) (rest := []) ⟨hx, hb, hml, hown, hT⟩ (xc_Mo_isIn l D kA H.size h mm v g z4 (nI dn9) mdk (by first | assumption | omega) (by first | assumption | omega) (by first | assumption | omega)) (cwV 2 hT (wT_V xy3_20 xy3_21 xy3_22 xy3_8 xy3_19) rfl rfl rfl (by decide +kernel) ⟨Nat.le_of_ble_eq_true rfl, Nat.le_of_ble_eq_true rfl⟩) (x_preV hK hP hD 0 rfl rfl) rfl rfl hl.1 rfl (lv_room (Nat.le_of_ble_eq_true rfl)) xd_Mo_isThere_23 ⟨Nat.le_of_ble_eq_true rfl, Nat.le_of_ble_eq_true rfl⟩) hS (fun q _ h => hFc q h) hFc (fun r10 u11 t H1 locs ht hvm hp12 hB hz1 hk1 hS => ?_)
        obtain ⟨hP1, hD1⟩ := hB
        rw [ht] at hP1
        have hD1 := hD1.weaken (fun _ _ _ h => hFc _ h)
        generalize H1 = H at hP1 hS ⊢
        have hP := hP1
        have hD := hD1
        have hP : va_P D xcl (moW h mm kA v g) H := hP
        have hD : va_D A (moW h mm kA v g) := hD
        rcases hp12 with ⟨rfl, z13, z14, z15, z16⟩ | ⟨rfl, z17⟩
        · refine xz_eq (a := 1) (tgt := 33) hx hb xd_Mo_isThere_26 (by decide) (by omega) (fun hc18 => absurd hc18 (by omega)) (fun _ => ?_)
          refine lv_iconst (v := 1) hx hb xd_Mo_isThere_29 (by decide) ?_
          refine lv_goto (tgt := 34) hx hb xd_Mo_isThere_30 (by decide) ?_
          exact W.zret (v := 1) hx hb hr rfl (fun t ht hW => ⟨⟨1, (), rfl, Or.inr ⟨rfl, z4, dn9, by omega, rfl, by omega, hdx⟩, by rw [ht]; exact hP, hD⟩, hS.F ht⟩) hS.2.2 xd_Mo_isThere_34
        · refine xz_eq (a := 0) (tgt := 33) hx hb xd_Mo_isThere_26 (by decide) (by omega) (fun _ => ?_) (fun hc19 => absurd hc19 (by omega))
          refine lv_iconst (v := 0) hx hb xd_Mo_isThere_33 (by decide) ?_
          exact W.zret (v := 0) hx hb hr rfl (fun t ht hW => ⟨⟨0, (), rfl, Or.inl rfl, by rw [ht]; exact hP, hD⟩, hS.F ht⟩) hS.2.2 xd_Mo_isThere_34
abbrev xb_Mo_oneName : ByteArray := prog_12_method_41_code
def xy_Mo_oneName : MethodName := ⟨"LayerDeskModel", "oneName", "()I"⟩
abbrev xb_Mo_load : ByteArray := prog_12_method_42_code
def xy_Mo_load : MethodName := ⟨"LayerDeskModel", "load", "(II)I"⟩
abbrev xb_Mo_peek : ByteArray := prog_12_method_43_code
def xy_Mo_peek : MethodName := ⟨"LayerDeskModel", "peek", "(IIII)Z"⟩
abbrev xb_Mo_provider : ByteArray := prog_12_method_44_code
def xy_Mo_provider : MethodName := ⟨"LayerDeskModel", "provider", "(II)I"⟩
theorem xd_Mo_load_0 : decode xb_Mo_load 0 = .ok (.aload_n 0, 1) := by decide +kernel
theorem xd_Mo_load_1 : decode xb_Mo_load 1 = .ok (.iconst 0, 1) := by decide +kernel
theorem xd_Mo_load_2 : decode xb_Mo_load 2 = .ok (.putfield 87, 3) := by decide +kernel
theorem xd_Mo_load_5 : decode xb_Mo_load 5 = .ok (.aload_n 0, 1) := by decide +kernel
theorem xd_Mo_load_6 : decode xb_Mo_load 6 = .ok (.invokevirtual 205, 3) := by decide +kernel
theorem xd_Mo_load_9 : decode xb_Mo_load 9 = .ok (.istore_n 3, 1) := by decide +kernel
theorem xd_Mo_load_10 : decode xb_Mo_load 10 = .ok (.aload_n 0, 1) := by decide +kernel
theorem xd_Mo_load_11 : decode xb_Mo_load 11 = .ok (.iload_n 1, 1) := by decide +kernel
theorem xd_Mo_load_12 : decode xb_Mo_load 12 = .ok (.iload_n 2, 1) := by decide +kernel
theorem xd_Mo_load_13 : decode xb_Mo_load 13 = .ok (.invokevirtual 199, 3) := by decide +kernel
theorem xd_Mo_load_16 : decode xb_Mo_load 16 = .ok (.istore 4, 2) := by decide +kernel
theorem xd_Mo_load_18 : decode xb_Mo_load 18 = .ok (.iload_n 3, 1) := by decide +kernel
theorem xd_Mo_load_19 : decode xb_Mo_load 19 = .ok (.ifCond .eq 8, 3) := by decide +kernel
theorem xd_Mo_load_22 : decode xb_Mo_load 22 = .ok (.iload 4, 2) := by decide +kernel
theorem xd_Mo_load_24 : decode xb_Mo_load 24 = .ok (.ifCond .ge 9, 3) := by decide +kernel
theorem xd_Mo_load_27 : decode xb_Mo_load 27 = .ok (.aload_n 0, 1) := by decide +kernel
theorem xd_Mo_load_28 : decode xb_Mo_load 28 = .ok (.iconst 1, 1) := by decide +kernel
theorem xd_Mo_load_29 : decode xb_Mo_load 29 = .ok (.invokevirtual 129, 3) := by decide +kernel
theorem xd_Mo_load_32 : decode xb_Mo_load 32 = .ok (.ireturn, 1) := by decide +kernel
theorem xd_Mo_load_33 : decode xb_Mo_load 33 = .ok (.aload_n 0, 1) := by decide +kernel
theorem xd_Mo_load_34 : decode xb_Mo_load 34 = .ok (.iload 4, 2) := by decide +kernel
theorem xd_Mo_load_36 : decode xb_Mo_load 36 = .ok (.iload_n 3, 1) := by decide +kernel
theorem xd_Mo_load_37 : decode xb_Mo_load 37 = .ok (.invokevirtual 143, 3) := by decide +kernel
theorem xd_Mo_load_40 : decode xb_Mo_load 40 = .ok (.ifCond .lt 11, 3) := by decide +kernel
theorem xd_Mo_load_43 : decode xb_Mo_load 43 = .ok (.bipush 16, 2) := by decide +kernel
theorem xd_Mo_load_45 : decode xb_Mo_load 45 = .ok (.iload_n 1, 1) := by decide +kernel
theorem xd_Mo_load_46 : decode xb_Mo_load 46 = .ok (.imul, 1) := by decide +kernel
theorem xd_Mo_load_47 : decode xb_Mo_load 47 = .ok (.iload 4, 2) := by decide +kernel
theorem xd_Mo_load_49 : decode xb_Mo_load 49 = .ok (.iadd, 1) := by decide +kernel
theorem xd_Mo_load_50 : decode xb_Mo_load 50 = .ok (.ireturn, 1) := by decide +kernel
theorem xd_Mo_load_51 : decode xb_Mo_load 51 = .ok (.aload_n 0, 1) := by decide +kernel
theorem xd_Mo_load_52 : decode xb_Mo_load 52 = .ok (.iload_n 1, 1) := by decide +kernel
theorem xd_Mo_load_53 : decode xb_Mo_load 53 = .ok (.iload 4, 2) := by decide +kernel
theorem xd_Mo_load_55 : decode xb_Mo_load 55 = .ok (.invokevirtual 171, 3) := by decide +kernel
theorem xd_Mo_load_58 : decode xb_Mo_load 58 = .ok (.iconst 0, 1) := by decide +kernel
theorem xd_Mo_load_59 : decode xb_Mo_load 59 = .ok (.istore 5, 2) := by decide +kernel
theorem xd_Mo_load_61 : decode xb_Mo_load 61 = .ok (.iload 5, 2) := by decide +kernel
theorem xd_Mo_load_63 : decode xb_Mo_load 63 = .ok (.bipush 72, 2) := by decide +kernel
theorem xd_Mo_load_65 : decode xb_Mo_load 65 = .ok (.if_icmp .ge 71, 3) := by decide +kernel
theorem xd_Mo_load_68 : decode xb_Mo_load 68 = .ok (.aload_n 0, 1) := by decide +kernel
theorem xd_Mo_load_69 : decode xb_Mo_load 69 = .ok (.getfield 84, 3) := by decide +kernel
theorem xd_Mo_load_72 : decode xb_Mo_load 72 = .ok (.iload 5, 2) := by decide +kernel
theorem xd_Mo_load_74 : decode xb_Mo_load 74 = .ok (.baload, 1) := by decide +kernel
theorem xd_Mo_load_75 : decode xb_Mo_load 75 = .ok (.ifCond .eq 16, 3) := by decide +kernel
theorem xd_Mo_load_78 : decode xb_Mo_load 78 = .ok (.aload_n 0, 1) := by decide +kernel
theorem xd_Mo_load_79 : decode xb_Mo_load 79 = .ok (.iload 5, 2) := by decide +kernel
theorem xd_Mo_load_81 : decode xb_Mo_load 81 = .ok (.bipush 12, 2) := by decide +kernel
theorem xd_Mo_load_83 : decode xb_Mo_load 83 = .ok (.irem, 1) := by decide +kernel
theorem xd_Mo_load_84 : decode xb_Mo_load 84 = .ok (.iload_n 3, 1) := by decide +kernel
theorem xd_Mo_load_85 : decode xb_Mo_load 85 = .ok (.invokevirtual 143, 3) := by decide +kernel
theorem xd_Mo_load_88 : decode xb_Mo_load 88 = .ok (.goto 4, 3) := by decide +kernel
theorem xd_Mo_load_91 : decode xb_Mo_load 91 = .ok (.iconst (-1), 1) := by decide +kernel
theorem xd_Mo_load_92 : decode xb_Mo_load 92 = .ok (.istore 6, 2) := by decide +kernel
theorem xd_Mo_load_94 : decode xb_Mo_load 94 = .ok (.iload 6, 2) := by decide +kernel
theorem xd_Mo_load_96 : decode xb_Mo_load 96 = .ok (.ifCond .lt 34, 3) := by decide +kernel
theorem xd_Mo_load_99 : decode xb_Mo_load 99 = .ok (.aload_n 0, 1) := by decide +kernel
theorem xd_Mo_load_100 : decode xb_Mo_load 100 = .ok (.iload 6, 2) := by decide +kernel
theorem xd_Mo_load_102 : decode xb_Mo_load 102 = .ok (.aload_n 0, 1) := by decide +kernel
theorem xd_Mo_load_103 : decode xb_Mo_load 103 = .ok (.getfield 23, 3) := by decide +kernel
theorem xd_Mo_load_106 : decode xb_Mo_load 106 = .ok (.iload 4, 2) := by decide +kernel
theorem xd_Mo_load_108 : decode xb_Mo_load 108 = .ok (.iaload, 1) := by decide +kernel
theorem xd_Mo_load_109 : decode xb_Mo_load 109 = .ok (.invokevirtual 175, 3) := by decide +kernel
theorem xd_Mo_load_112 : decode xb_Mo_load 112 = .ok (.ifCond .eq 18, 3) := by decide +kernel
theorem xd_Mo_load_115 : decode xb_Mo_load 115 = .ok (.bipush 16, 2) := by decide +kernel
theorem xd_Mo_load_117 : decode xb_Mo_load 117 = .ok (.iload 5, 2) := by decide +kernel
theorem xd_Mo_load_119 : decode xb_Mo_load 119 = .ok (.bipush 12, 2) := by decide +kernel
theorem xd_Mo_load_121 : decode xb_Mo_load 121 = .ok (.idiv, 1) := by decide +kernel
theorem xd_Mo_load_122 : decode xb_Mo_load 122 = .ok (.imul, 1) := by decide +kernel
theorem xd_Mo_load_123 : decode xb_Mo_load 123 = .ok (.iload 5, 2) := by decide +kernel
theorem xd_Mo_load_125 : decode xb_Mo_load 125 = .ok (.bipush 12, 2) := by decide +kernel
theorem xd_Mo_load_127 : decode xb_Mo_load 127 = .ok (.irem, 1) := by decide +kernel
theorem xd_Mo_load_128 : decode xb_Mo_load 128 = .ok (.iadd, 1) := by decide +kernel
theorem xd_Mo_load_129 : decode xb_Mo_load 129 = .ok (.ireturn, 1) := by decide +kernel
theorem xd_Mo_load_130 : decode xb_Mo_load 130 = .ok (.iinc 5 1, 3) := by decide +kernel
theorem xd_Mo_load_133 : decode xb_Mo_load 133 = .ok (.goto (-72), 3) := by decide +kernel
theorem xd_Mo_load_136 : decode xb_Mo_load 136 = .ok (.aload_n 0, 1) := by decide +kernel
theorem xd_Mo_load_137 : decode xb_Mo_load 137 = .ok (.iconst 2, 1) := by decide +kernel
theorem xd_Mo_load_138 : decode xb_Mo_load 138 = .ok (.invokevirtual 129, 3) := by decide +kernel
theorem xd_Mo_load_141 : decode xb_Mo_load 141 = .ok (.ireturn, 1) := by decide +kernel
theorem xd_Mo_oneName_0 : decode xb_Mo_oneName 0 = .ok (.aload_n 0, 1) := by decide +kernel
theorem xd_Mo_oneName_1 : decode xb_Mo_oneName 1 = .ok (.invokevirtual 101, 3) := by decide +kernel
theorem xd_Mo_oneName_4 : decode xb_Mo_oneName 4 = .ok (.aload_n 0, 1) := by decide +kernel
theorem xd_Mo_oneName_5 : decode xb_Mo_oneName 5 = .ok (.getfield 94, 3) := by decide +kernel
theorem xd_Mo_oneName_8 : decode xb_Mo_oneName 8 = .ok (.iconst 1, 1) := by decide +kernel
theorem xd_Mo_oneName_9 : decode xb_Mo_oneName 9 = .ok (.if_icmp .ne 11, 3) := by decide +kernel
theorem xd_Mo_oneName_12 : decode xb_Mo_oneName 12 = .ok (.aload_n 0, 1) := by decide +kernel
theorem xd_Mo_oneName_13 : decode xb_Mo_oneName 13 = .ok (.iconst 0, 1) := by decide +kernel
theorem xd_Mo_oneName_14 : decode xb_Mo_oneName 14 = .ok (.invokevirtual 133, 3) := by decide +kernel
theorem xd_Mo_oneName_17 : decode xb_Mo_oneName 17 = .ok (.goto 4, 3) := by decide +kernel
theorem xd_Mo_oneName_20 : decode xb_Mo_oneName 20 = .ok (.iconst 0, 1) := by decide +kernel
theorem xd_Mo_oneName_21 : decode xb_Mo_oneName 21 = .ok (.ireturn, 1) := by decide +kernel
theorem xd_Mo_peek_0 : decode xb_Mo_peek 0 = .ok (.aload_n 0, 1) := by decide +kernel
theorem xd_Mo_peek_1 : decode xb_Mo_peek 1 = .ok (.iconst 0, 1) := by decide +kernel
theorem xd_Mo_peek_2 : decode xb_Mo_peek 2 = .ok (.putfield 87, 3) := by decide +kernel
theorem xd_Mo_peek_5 : decode xb_Mo_peek 5 = .ok (.aload_n 0, 1) := by decide +kernel
theorem xd_Mo_peek_6 : decode xb_Mo_peek 6 = .ok (.invokevirtual 205, 3) := by decide +kernel
theorem xd_Mo_peek_9 : decode xb_Mo_peek 9 = .ok (.istore 5, 2) := by decide +kernel
theorem xd_Mo_peek_11 : decode xb_Mo_peek 11 = .ok (.aload_n 0, 1) := by decide +kernel
theorem xd_Mo_peek_12 : decode xb_Mo_peek 12 = .ok (.iload_n 1, 1) := by decide +kernel
theorem xd_Mo_peek_13 : decode xb_Mo_peek 13 = .ok (.iload_n 2, 1) := by decide +kernel
theorem xd_Mo_peek_14 : decode xb_Mo_peek 14 = .ok (.invokevirtual 199, 3) := by decide +kernel
theorem xd_Mo_peek_17 : decode xb_Mo_peek 17 = .ok (.istore 6, 2) := by decide +kernel
theorem xd_Mo_peek_19 : decode xb_Mo_peek 19 = .ok (.iload 5, 2) := by decide +kernel
theorem xd_Mo_peek_21 : decode xb_Mo_peek 21 = .ok (.ifCond .eq 18, 3) := by decide +kernel
theorem xd_Mo_peek_24 : decode xb_Mo_peek 24 = .ok (.iload 6, 2) := by decide +kernel
theorem xd_Mo_peek_26 : decode xb_Mo_peek 26 = .ok (.ifCond .lt 13, 3) := by decide +kernel
theorem xd_Mo_peek_29 : decode xb_Mo_peek 29 = .ok (.aload_n 0, 1) := by decide +kernel
theorem xd_Mo_peek_30 : decode xb_Mo_peek 30 = .ok (.iload_n 3, 1) := by decide +kernel
theorem xd_Mo_peek_31 : decode xb_Mo_peek 31 = .ok (.iload 4, 2) := by decide +kernel
theorem xd_Mo_peek_33 : decode xb_Mo_peek 33 = .ok (.invokevirtual 202, 3) := by decide +kernel
theorem xd_Mo_peek_36 : decode xb_Mo_peek 36 = .ok (.ifCond .ne 10, 3) := by decide +kernel
theorem xd_Mo_peek_39 : decode xb_Mo_peek 39 = .ok (.aload_n 0, 1) := by decide +kernel
theorem xd_Mo_peek_40 : decode xb_Mo_peek 40 = .ok (.iconst 1, 1) := by decide +kernel
theorem xd_Mo_peek_41 : decode xb_Mo_peek 41 = .ok (.putfield 87, 3) := by decide +kernel
theorem xd_Mo_peek_44 : decode xb_Mo_peek 44 = .ok (.iconst 0, 1) := by decide +kernel
theorem xd_Mo_peek_45 : decode xb_Mo_peek 45 = .ok (.ireturn, 1) := by decide +kernel
theorem xd_Mo_peek_46 : decode xb_Mo_peek 46 = .ok (.aload_n 0, 1) := by decide +kernel
theorem xd_Mo_peek_47 : decode xb_Mo_peek 47 = .ok (.iload 4, 2) := by decide +kernel
theorem xd_Mo_peek_49 : decode xb_Mo_peek 49 = .ok (.iload 5, 2) := by decide +kernel
theorem xd_Mo_peek_51 : decode xb_Mo_peek 51 = .ok (.invokevirtual 143, 3) := by decide +kernel
theorem xd_Mo_peek_54 : decode xb_Mo_peek 54 = .ok (.istore 7, 2) := by decide +kernel
theorem xd_Mo_peek_56 : decode xb_Mo_peek 56 = .ok (.aload_n 0, 1) := by decide +kernel
theorem xd_Mo_peek_57 : decode xb_Mo_peek 57 = .ok (.iload 7, 2) := by decide +kernel
theorem xd_Mo_peek_59 : decode xb_Mo_peek 59 = .ok (.ifCond .ge 7, 3) := by decide +kernel
theorem xd_Mo_peek_62 : decode xb_Mo_peek 62 = .ok (.iconst 2, 1) := by decide +kernel
theorem xd_Mo_peek_63 : decode xb_Mo_peek 63 = .ok (.goto 4, 3) := by decide +kernel
theorem xd_Mo_peek_66 : decode xb_Mo_peek 66 = .ok (.iconst 0, 1) := by decide +kernel
theorem xd_Mo_peek_67 : decode xb_Mo_peek 67 = .ok (.putfield 87, 3) := by decide +kernel
theorem xd_Mo_peek_70 : decode xb_Mo_peek 70 = .ok (.iload 7, 2) := by decide +kernel
theorem xd_Mo_peek_72 : decode xb_Mo_peek 72 = .ok (.ifCond .ge 5, 3) := by decide +kernel
theorem xd_Mo_peek_75 : decode xb_Mo_peek 75 = .ok (.iconst 0, 1) := by decide +kernel
theorem xd_Mo_peek_76 : decode xb_Mo_peek 76 = .ok (.ireturn, 1) := by decide +kernel
theorem xd_Mo_peek_77 : decode xb_Mo_peek 77 = .ok (.iload_n 1, 1) := by decide +kernel
theorem xd_Mo_peek_78 : decode xb_Mo_peek 78 = .ok (.iload_n 3, 1) := by decide +kernel
theorem xd_Mo_peek_79 : decode xb_Mo_peek 79 = .ok (.if_icmp .ne 12, 3) := by decide +kernel
theorem xd_Mo_peek_82 : decode xb_Mo_peek 82 = .ok (.iload 6, 2) := by decide +kernel
theorem xd_Mo_peek_84 : decode xb_Mo_peek 84 = .ok (.iload 4, 2) := by decide +kernel
theorem xd_Mo_peek_86 : decode xb_Mo_peek 86 = .ok (.if_icmp .ne 5, 3) := by decide +kernel
theorem xd_Mo_peek_89 : decode xb_Mo_peek 89 = .ok (.iconst 1, 1) := by decide +kernel
theorem xd_Mo_peek_90 : decode xb_Mo_peek 90 = .ok (.ireturn, 1) := by decide +kernel
theorem xd_Mo_peek_91 : decode xb_Mo_peek 91 = .ok (.aload_n 0, 1) := by decide +kernel
theorem xd_Mo_peek_92 : decode xb_Mo_peek 92 = .ok (.iload_n 1, 1) := by decide +kernel
theorem xd_Mo_peek_93 : decode xb_Mo_peek 93 = .ok (.iload 6, 2) := by decide +kernel
theorem xd_Mo_peek_95 : decode xb_Mo_peek 95 = .ok (.invokevirtual 171, 3) := by decide +kernel
theorem xd_Mo_peek_98 : decode xb_Mo_peek 98 = .ok (.aload_n 0, 1) := by decide +kernel
theorem xd_Mo_peek_99 : decode xb_Mo_peek 99 = .ok (.getfield 84, 3) := by decide +kernel
theorem xd_Mo_peek_102 : decode xb_Mo_peek 102 = .ok (.bipush 12, 2) := by decide +kernel
theorem xd_Mo_peek_104 : decode xb_Mo_peek 104 = .ok (.iload_n 3, 1) := by decide +kernel
theorem xd_Mo_peek_105 : decode xb_Mo_peek 105 = .ok (.imul, 1) := by decide +kernel
theorem xd_Mo_peek_106 : decode xb_Mo_peek 106 = .ok (.iload 4, 2) := by decide +kernel
theorem xd_Mo_peek_108 : decode xb_Mo_peek 108 = .ok (.iadd, 1) := by decide +kernel
theorem xd_Mo_peek_109 : decode xb_Mo_peek 109 = .ok (.baload, 1) := by decide +kernel
theorem xd_Mo_peek_110 : decode xb_Mo_peek 110 = .ok (.ifCond .eq 59, 3) := by decide +kernel
theorem xd_Mo_peek_113 : decode xb_Mo_peek 113 = .ok (.aload_n 0, 1) := by decide +kernel
theorem xd_Mo_peek_114 : decode xb_Mo_peek 114 = .ok (.aload_n 0, 1) := by decide +kernel
theorem xd_Mo_peek_115 : decode xb_Mo_peek 115 = .ok (.getfield 42, 3) := by decide +kernel
theorem xd_Mo_peek_118 : decode xb_Mo_peek 118 = .ok (.iload 7, 2) := by decide +kernel
theorem xd_Mo_peek_120 : decode xb_Mo_peek 120 = .ok (.baload, 1) := by decide +kernel
theorem xd_Mo_peek_121 : decode xb_Mo_peek 121 = .ok (.aload_n 0, 1) := by decide +kernel
theorem xd_Mo_peek_122 : decode xb_Mo_peek 122 = .ok (.getfield 35, 3) := by decide +kernel
theorem xd_Mo_peek_125 : decode xb_Mo_peek 125 = .ok (.iconst 3, 1) := by decide +kernel
theorem xd_Mo_peek_126 : decode xb_Mo_peek 126 = .ok (.iload 7, 2) := by decide +kernel
theorem xd_Mo_peek_128 : decode xb_Mo_peek 128 = .ok (.imul, 1) := by decide +kernel
theorem xd_Mo_peek_129 : decode xb_Mo_peek 129 = .ok (.iaload, 1) := by decide +kernel
theorem xd_Mo_peek_130 : decode xb_Mo_peek 130 = .ok (.aload_n 0, 1) := by decide +kernel
theorem xd_Mo_peek_131 : decode xb_Mo_peek 131 = .ok (.getfield 35, 3) := by decide +kernel
theorem xd_Mo_peek_134 : decode xb_Mo_peek 134 = .ok (.iconst 3, 1) := by decide +kernel
theorem xd_Mo_peek_135 : decode xb_Mo_peek 135 = .ok (.iload 7, 2) := by decide +kernel
theorem xd_Mo_peek_137 : decode xb_Mo_peek 137 = .ok (.imul, 1) := by decide +kernel
theorem xd_Mo_peek_138 : decode xb_Mo_peek 138 = .ok (.iconst 1, 1) := by decide +kernel
theorem xd_Mo_peek_139 : decode xb_Mo_peek 139 = .ok (.iadd, 1) := by decide +kernel
theorem xd_Mo_peek_140 : decode xb_Mo_peek 140 = .ok (.iaload, 1) := by decide +kernel
theorem xd_Mo_peek_141 : decode xb_Mo_peek 141 = .ok (.aload_n 0, 1) := by decide +kernel
theorem xd_Mo_peek_142 : decode xb_Mo_peek 142 = .ok (.getfield 35, 3) := by decide +kernel
theorem xd_Mo_peek_145 : decode xb_Mo_peek 145 = .ok (.iconst 3, 1) := by decide +kernel
theorem xd_Mo_peek_146 : decode xb_Mo_peek 146 = .ok (.iload 7, 2) := by decide +kernel
theorem xd_Mo_peek_148 : decode xb_Mo_peek 148 = .ok (.imul, 1) := by decide +kernel
theorem xd_Mo_peek_149 : decode xb_Mo_peek 149 = .ok (.iconst 2, 1) := by decide +kernel
theorem xd_Mo_peek_150 : decode xb_Mo_peek 150 = .ok (.iadd, 1) := by decide +kernel
theorem xd_Mo_peek_151 : decode xb_Mo_peek 151 = .ok (.iaload, 1) := by decide +kernel
theorem xd_Mo_peek_152 : decode xb_Mo_peek 152 = .ok (.aload_n 0, 1) := by decide +kernel
theorem xd_Mo_peek_153 : decode xb_Mo_peek 153 = .ok (.getfield 23, 3) := by decide +kernel
theorem xd_Mo_peek_156 : decode xb_Mo_peek 156 = .ok (.iload 6, 2) := by decide +kernel
theorem xd_Mo_peek_158 : decode xb_Mo_peek 158 = .ok (.iaload, 1) := by decide +kernel
theorem xd_Mo_peek_159 : decode xb_Mo_peek 159 = .ok (.invokevirtual 167, 3) := by decide +kernel
theorem xd_Mo_peek_162 : decode xb_Mo_peek 162 = .ok (.ifCond .eq 7, 3) := by decide +kernel
theorem xd_Mo_peek_165 : decode xb_Mo_peek 165 = .ok (.iconst 1, 1) := by decide +kernel
theorem xd_Mo_peek_166 : decode xb_Mo_peek 166 = .ok (.goto 4, 3) := by decide +kernel
theorem xd_Mo_peek_169 : decode xb_Mo_peek 169 = .ok (.iconst 0, 1) := by decide +kernel
theorem xd_Mo_peek_170 : decode xb_Mo_peek 170 = .ok (.ireturn, 1) := by decide +kernel
theorem xd_Mo_provider_0 : decode xb_Mo_provider 0 = .ok (.aload_n 0, 1) := by decide +kernel
theorem xd_Mo_provider_1 : decode xb_Mo_provider 1 = .ok (.iconst 0, 1) := by decide +kernel
theorem xd_Mo_provider_2 : decode xb_Mo_provider 2 = .ok (.putfield 87, 3) := by decide +kernel
theorem xd_Mo_provider_5 : decode xb_Mo_provider 5 = .ok (.aload_n 0, 1) := by decide +kernel
theorem xd_Mo_provider_6 : decode xb_Mo_provider 6 = .ok (.invokevirtual 205, 3) := by decide +kernel
theorem xd_Mo_provider_9 : decode xb_Mo_provider 9 = .ok (.istore_n 3, 1) := by decide +kernel
theorem xd_Mo_provider_10 : decode xb_Mo_provider 10 = .ok (.iload_n 3, 1) := by decide +kernel
theorem xd_Mo_provider_11 : decode xb_Mo_provider 11 = .ok (.ifCond .eq 11, 3) := by decide +kernel
theorem xd_Mo_provider_14 : decode xb_Mo_provider 14 = .ok (.aload_n 0, 1) := by decide +kernel
theorem xd_Mo_provider_15 : decode xb_Mo_provider 15 = .ok (.iload_n 1, 1) := by decide +kernel
theorem xd_Mo_provider_16 : decode xb_Mo_provider 16 = .ok (.invokevirtual 190, 3) := by decide +kernel
theorem xd_Mo_provider_19 : decode xb_Mo_provider 19 = .ok (.ifCond .ne 9, 3) := by decide +kernel
theorem xd_Mo_provider_22 : decode xb_Mo_provider 22 = .ok (.aload_n 0, 1) := by decide +kernel
theorem xd_Mo_provider_23 : decode xb_Mo_provider 23 = .ok (.iconst 1, 1) := by decide +kernel
theorem xd_Mo_provider_24 : decode xb_Mo_provider 24 = .ok (.invokevirtual 129, 3) := by decide +kernel
theorem xd_Mo_provider_27 : decode xb_Mo_provider 27 = .ok (.ireturn, 1) := by decide +kernel
theorem xd_Mo_provider_28 : decode xb_Mo_provider 28 = .ok (.iconst 0, 1) := by decide +kernel
theorem xd_Mo_provider_29 : decode xb_Mo_provider 29 = .ok (.istore 4, 2) := by decide +kernel
theorem xd_Mo_provider_31 : decode xb_Mo_provider 31 = .ok (.iload_n 1, 1) := by decide +kernel
theorem xd_Mo_provider_32 : decode xb_Mo_provider 32 = .ok (.istore 5, 2) := by decide +kernel
theorem xd_Mo_provider_34 : decode xb_Mo_provider 34 = .ok (.iload 5, 2) := by decide +kernel
theorem xd_Mo_provider_36 : decode xb_Mo_provider 36 = .ok (.ifCond .lt 141, 3) := by decide +kernel
theorem xd_Mo_provider_39 : decode xb_Mo_provider 39 = .ok (.bipush 12, 2) := by decide +kernel
theorem xd_Mo_provider_41 : decode xb_Mo_provider 41 = .ok (.iload 5, 2) := by decide +kernel
theorem xd_Mo_provider_43 : decode xb_Mo_provider 43 = .ok (.imul, 1) := by decide +kernel
theorem xd_Mo_provider_44 : decode xb_Mo_provider 44 = .ok (.istore 6, 2) := by decide +kernel
theorem xd_Mo_provider_46 : decode xb_Mo_provider 46 = .ok (.iload 6, 2) := by decide +kernel
theorem xd_Mo_provider_48 : decode xb_Mo_provider 48 = .ok (.bipush 12, 2) := by decide +kernel
theorem xd_Mo_provider_50 : decode xb_Mo_provider 50 = .ok (.iload 5, 2) := by decide +kernel
theorem xd_Mo_provider_52 : decode xb_Mo_provider 52 = .ok (.imul, 1) := by decide +kernel
theorem xd_Mo_provider_53 : decode xb_Mo_provider 53 = .ok (.aload_n 0, 1) := by decide +kernel
theorem xd_Mo_provider_54 : decode xb_Mo_provider 54 = .ok (.getfield 72, 3) := by decide +kernel
theorem xd_Mo_provider_57 : decode xb_Mo_provider 57 = .ok (.iload 5, 2) := by decide +kernel
theorem xd_Mo_provider_59 : decode xb_Mo_provider 59 = .ok (.iaload, 1) := by decide +kernel
theorem xd_Mo_provider_60 : decode xb_Mo_provider 60 = .ok (.iadd, 1) := by decide +kernel
theorem xd_Mo_provider_61 : decode xb_Mo_provider 61 = .ok (.if_icmp .ge 104, 3) := by decide +kernel
theorem xd_Mo_provider_64 : decode xb_Mo_provider 64 = .ok (.aload_n 0, 1) := by decide +kernel
theorem xd_Mo_provider_65 : decode xb_Mo_provider 65 = .ok (.getfield 75, 3) := by decide +kernel
theorem xd_Mo_provider_68 : decode xb_Mo_provider 68 = .ok (.iload 6, 2) := by decide +kernel
theorem xd_Mo_provider_70 : decode xb_Mo_provider 70 = .ok (.iaload, 1) := by decide +kernel
theorem xd_Mo_provider_71 : decode xb_Mo_provider 71 = .ok (.istore 7, 2) := by decide +kernel
theorem xd_Mo_provider_73 : decode xb_Mo_provider 73 = .ok (.aload_n 0, 1) := by decide +kernel
theorem xd_Mo_provider_74 : decode xb_Mo_provider 74 = .ok (.getfield 57, 3) := by decide +kernel
theorem xd_Mo_provider_77 : decode xb_Mo_provider 77 = .ok (.iconst 3, 1) := by decide +kernel
theorem xd_Mo_provider_78 : decode xb_Mo_provider 78 = .ok (.iload 7, 2) := by decide +kernel
theorem xd_Mo_provider_80 : decode xb_Mo_provider 80 = .ok (.imul, 1) := by decide +kernel
theorem xd_Mo_provider_81 : decode xb_Mo_provider 81 = .ok (.iaload, 1) := by decide +kernel
theorem xd_Mo_provider_82 : decode xb_Mo_provider 82 = .ok (.iload_n 3, 1) := by decide +kernel
theorem xd_Mo_provider_83 : decode xb_Mo_provider 83 = .ok (.if_icmp .eq 33, 3) := by decide +kernel
theorem xd_Mo_provider_86 : decode xb_Mo_provider 86 = .ok (.aload_n 0, 1) := by decide +kernel
theorem xd_Mo_provider_87 : decode xb_Mo_provider 87 = .ok (.getfield 57, 3) := by decide +kernel
theorem xd_Mo_provider_90 : decode xb_Mo_provider 90 = .ok (.iconst 3, 1) := by decide +kernel
theorem xd_Mo_provider_91 : decode xb_Mo_provider 91 = .ok (.iload 7, 2) := by decide +kernel
theorem xd_Mo_provider_93 : decode xb_Mo_provider 93 = .ok (.imul, 1) := by decide +kernel
theorem xd_Mo_provider_94 : decode xb_Mo_provider 94 = .ok (.iconst 1, 1) := by decide +kernel
theorem xd_Mo_provider_95 : decode xb_Mo_provider 95 = .ok (.iadd, 1) := by decide +kernel
theorem xd_Mo_provider_96 : decode xb_Mo_provider 96 = .ok (.iaload, 1) := by decide +kernel
theorem xd_Mo_provider_97 : decode xb_Mo_provider 97 = .ok (.iload_n 3, 1) := by decide +kernel
theorem xd_Mo_provider_98 : decode xb_Mo_provider 98 = .ok (.if_icmp .eq 18, 3) := by decide +kernel
theorem xd_Mo_provider_101 : decode xb_Mo_provider 101 = .ok (.aload_n 0, 1) := by decide +kernel
theorem xd_Mo_provider_102 : decode xb_Mo_provider 102 = .ok (.getfield 57, 3) := by decide +kernel
theorem xd_Mo_provider_105 : decode xb_Mo_provider 105 = .ok (.iconst 3, 1) := by decide +kernel
theorem xd_Mo_provider_106 : decode xb_Mo_provider 106 = .ok (.iload 7, 2) := by decide +kernel
theorem xd_Mo_provider_108 : decode xb_Mo_provider 108 = .ok (.imul, 1) := by decide +kernel
theorem xd_Mo_provider_109 : decode xb_Mo_provider 109 = .ok (.iconst 2, 1) := by decide +kernel
theorem xd_Mo_provider_110 : decode xb_Mo_provider 110 = .ok (.iadd, 1) := by decide +kernel
theorem xd_Mo_provider_111 : decode xb_Mo_provider 111 = .ok (.iaload, 1) := by decide +kernel
theorem xd_Mo_provider_112 : decode xb_Mo_provider 112 = .ok (.iload_n 3, 1) := by decide +kernel
theorem xd_Mo_provider_113 : decode xb_Mo_provider 113 = .ok (.if_icmp .ne 7, 3) := by decide +kernel
theorem xd_Mo_provider_116 : decode xb_Mo_provider 116 = .ok (.iconst 1, 1) := by decide +kernel
theorem xd_Mo_provider_117 : decode xb_Mo_provider 117 = .ok (.goto 4, 3) := by decide +kernel
theorem xd_Mo_provider_120 : decode xb_Mo_provider 120 = .ok (.iconst 0, 1) := by decide +kernel
theorem xd_Mo_provider_121 : decode xb_Mo_provider 121 = .ok (.istore 8, 2) := by decide +kernel
theorem xd_Mo_provider_123 : decode xb_Mo_provider 123 = .ok (.iload 8, 2) := by decide +kernel
theorem xd_Mo_provider_125 : decode xb_Mo_provider 125 = .ok (.ifCond .eq 18, 3) := by decide +kernel
theorem xd_Mo_provider_128 : decode xb_Mo_provider 128 = .ok (.iload 4, 2) := by decide +kernel
theorem xd_Mo_provider_130 : decode xb_Mo_provider 130 = .ok (.iload_n 2, 1) := by decide +kernel
theorem xd_Mo_provider_131 : decode xb_Mo_provider 131 = .ok (.if_icmp .ne 12, 3) := by decide +kernel
theorem xd_Mo_provider_134 : decode xb_Mo_provider 134 = .ok (.bipush 16, 2) := by decide +kernel
theorem xd_Mo_provider_136 : decode xb_Mo_provider 136 = .ok (.iload 5, 2) := by decide +kernel
theorem xd_Mo_provider_138 : decode xb_Mo_provider 138 = .ok (.imul, 1) := by decide +kernel
theorem xd_Mo_provider_139 : decode xb_Mo_provider 139 = .ok (.iload 7, 2) := by decide +kernel
theorem xd_Mo_provider_141 : decode xb_Mo_provider 141 = .ok (.iadd, 1) := by decide +kernel
theorem xd_Mo_provider_142 : decode xb_Mo_provider 142 = .ok (.ireturn, 1) := by decide +kernel
theorem xd_Mo_provider_143 : decode xb_Mo_provider 143 = .ok (.iload 8, 2) := by decide +kernel
theorem xd_Mo_provider_145 : decode xb_Mo_provider 145 = .ok (.ifCond .eq 10, 3) := by decide +kernel
theorem xd_Mo_provider_148 : decode xb_Mo_provider 148 = .ok (.iload 4, 2) := by decide +kernel
theorem xd_Mo_provider_150 : decode xb_Mo_provider 150 = .ok (.iconst 1, 1) := by decide +kernel
theorem xd_Mo_provider_151 : decode xb_Mo_provider 151 = .ok (.iadd, 1) := by decide +kernel
theorem xd_Mo_provider_152 : decode xb_Mo_provider 152 = .ok (.goto 5, 3) := by decide +kernel
theorem xd_Mo_provider_155 : decode xb_Mo_provider 155 = .ok (.iload 4, 2) := by decide +kernel
theorem xd_Mo_provider_157 : decode xb_Mo_provider 157 = .ok (.istore 4, 2) := by decide +kernel
theorem xd_Mo_provider_159 : decode xb_Mo_provider 159 = .ok (.iinc 6 1, 3) := by decide +kernel
theorem xd_Mo_provider_162 : decode xb_Mo_provider 162 = .ok (.goto (-116), 3) := by decide +kernel
theorem xd_Mo_provider_165 : decode xb_Mo_provider 165 = .ok (.aload_n 0, 1) := by decide +kernel
theorem xd_Mo_provider_166 : decode xb_Mo_provider 166 = .ok (.getfield 69, 3) := by decide +kernel
theorem xd_Mo_provider_169 : decode xb_Mo_provider 169 = .ok (.iload 5, 2) := by decide +kernel
theorem xd_Mo_provider_171 : decode xb_Mo_provider 171 = .ok (.iaload, 1) := by decide +kernel
theorem xd_Mo_provider_172 : decode xb_Mo_provider 172 = .ok (.istore 5, 2) := by decide +kernel
theorem xd_Mo_provider_174 : decode xb_Mo_provider 174 = .ok (.goto (-140), 3) := by decide +kernel
theorem xd_Mo_provider_177 : decode xb_Mo_provider 177 = .ok (.iconst (-1), 1) := by decide +kernel
theorem xd_Mo_provider_178 : decode xb_Mo_provider 178 = .ok (.ireturn, 1) := by decide +kernel
theorem xy4_0 : (Cond.code xy_Mo_split xb_Mo_split 2 none) ∈ wT := wT_t (List.mem_append_right _ (List.mem_append_right _ (List.mem_append_right _ (List.mem_append_left _ (List.mem_of_getElem? (i := 193) rfl))))) rfl
theorem xy4_1 : (Cond.methodLink "LayerDeskModel" 101 xy_Mo_split) ∈ wT := wT_t (List.mem_append_right _ (List.mem_append_right _ (List.mem_append_right _ (List.mem_append_left _ (List.mem_of_getElem? (i := 190) rfl))))) rfl
theorem xy4_2 : (Cond.instanceMethod xy_Mo_split) ∈ wT := wT_t (List.mem_append_right _ (List.mem_append_right _ (List.mem_append_right _ (List.mem_append_left _ (List.mem_of_getElem? (i := 192) rfl))))) rfl
theorem xy4_3 : (Cond.selects "LayerDeskModel" xy_Mo_split xy_Mo_split) ∈ wT := wT_s (q := (xy_Mo_split, 31)) (by decide +kernel) rfl
theorem xy4_4 : (Cond.initialized "LayerDeskModel") ∈ wT := wT_t (List.mem_append_left _ (List.mem_of_getElem? (i := 5) rfl)) rfl
theorem xy4_5 : (Cond.fieldLink "LayerDeskModel" 94 "LayerDeskModel" "words" "I") ∈ wT := wT_t (List.mem_append_right _ (List.mem_append_right _ (List.mem_append_right _ (List.mem_append_left _ (List.mem_of_getElem? (i := 88) rfl))))) rfl
theorem xy4_6 : (Cond.code xy_Mo_nameOf xb_Mo_nameOf 4 (some .int)) ∈ wT := wT_t (List.mem_append_right _ (List.mem_append_right _ (List.mem_append_right _ (List.mem_append_left _ (List.mem_of_getElem? (i := 212) rfl))))) rfl
theorem xy4_7 : (Cond.methodLink "LayerDeskModel" 133 xy_Mo_nameOf) ∈ wT := wT_t (List.mem_append_right _ (List.mem_append_right _ (List.mem_append_right _ (List.mem_append_left _ (List.mem_of_getElem? (i := 209) rfl))))) rfl
theorem xy4_8 : (Cond.instanceMethod xy_Mo_nameOf) ∈ wT := wT_t (List.mem_append_right _ (List.mem_append_right _ (List.mem_append_right _ (List.mem_append_left _ (List.mem_of_getElem? (i := 211) rfl))))) rfl
theorem xy4_9 : (Cond.selects "LayerDeskModel" xy_Mo_nameOf xy_Mo_nameOf) ∈ wT := wT_s (q := (xy_Mo_nameOf, 31)) (by decide +kernel) rfl
set_option maxHeartbeats 4000000 in
set_option maxRecDepth 100000 in
theorem xc_Mo_oneName (l : Launch) (D : va_G) (kA : Nat → ClassId) (sz h : Nat) (mm : Nat → Nat) (v : Nat → Int32) (g : Nat → Nat → Int32) (wr : Nat) (hwr : v 2 = nI wr) (hwr40 : wr ≤ 40) : Met l xy_Mo_oneName (.code xy_Mo_oneName xb_Mo_oneName 1 (some .int) :: wT) { frames := 1, cells := 0, slots := 0, locals := 23 } (va_Pc [.ref h] (xPre D kA sz (moW h mm kA v g))) (va_Qi (fun (r : Int32) (u : (Nat → Int32) × (Nat → Nat → Int32)) => ∃ wn, u.1 = va_up (va_up v 2 0) 3 (nI wn) ∧ ∀ j, j ≠ 1 → j ≠ 2 → u.2 j = g j) (fun (u : (Nat → Int32) × (Nat → Nat → Int32)) t => va_P D xcl (moW h mm kA u.1 u.2) t.heap ∧ va_D (va_A (moW h mm kA v g) sz) (moW h mm kA u.1 u.2)) (va_A (moW h mm kA v g) sz)) 0 0 (va_A (moW h mm kA v g) sz) := by
  refine Met.ofW (cc := xb_Mo_oneName) (maxL := 1) (ret := (some .int)) (by decide) rfl ?_
  intro p e s m args below meth c s₁ B hml hv
  obtain ⟨rfl, hsz, hP, hK, hD0⟩ := hv
  have hx := B.exec
  have hb := B.bytes
  have hr := B.returns
  have hT := x_hT B.pre
  have hown : s.vm.findClass xR_Mo = some m.cls := findClass_of_methodNamed B.named
  have hlocks := B.notSynchronized
  subst hsz
  have hD := hD0.self (sz := s.heap.size)
  generalize hAe : va_A (moW h mm kA v g) s.heap.size = A at hD ⊢
  have hA : ∀ q : Nat, s.heap.size ≤ q → A q := fun q h => by rw [← hAe]; exact Or.inr h
  have hS : va_S A s.heap s.heap [] := va_S.rf
  have hl := lv_entry ([.ref h]) (n := 1) (Nat.le_of_ble_eq_true rfl)
  rw [lg_entry_eq]
  generalize (lg_sl ([.ref h]) ++ List.replicate (1 - (lg_sl ([.ref h])).length) Slot.unset).toArray = ls at hl ⊢
  have hl : lv_has ls 1 [(0, .ref h)] := hl
  have hP : va_P D xcl (moW h mm kA v g) s.heap := hP
  refine lv_aload_n hx hb xd_Mo_oneName_0 rfl (lv_at hl 0 rfl) ?_
  have hFc := va_free (wc := (moW h mm kA v g)) hD hS hA [0, 1, 2, 3, 4, 5, 6, 7, 8, 9, 10, 11, 12, 13, 14, 15, 16, 17, 18, 19, 20, 21, 22, 23, 24, 25] rfl
  refine va_callv (va_runV (As := []) (rest := []) ⟨hx, hb, hml, hown, hT⟩ (xc_Mo_split l D kA s.heap.size h mm v g wr (by first | assumption | omega) (by first | assumption | omega)) (cwV 0 hT (wT_V xy4_1 xy4_2 xy4_3 xy4_4 xy4_0) rfl rfl rfl (by decide +kernel) ⟨Nat.le_of_ble_eq_true rfl, Nat.le_of_ble_eq_true rfl⟩) (x_preV hK hP hD 0 rfl rfl) rfl rfl hl.1 rfl (lv_room (Nat.le_of_ble_eq_true rfl)) xd_Mo_oneName_1 ⟨Nat.le_of_ble_eq_true rfl, Nat.le_of_ble_eq_true rfl⟩) hS (fun q _ h => hFc q h) hFc (fun u2 t H1 locs ht hvm hp3 hB hz1 hk1 hS => ?_)
  obtain ⟨hP1, hD1⟩ := hB
  rw [ht] at hP1
  have hD1 := hD1.weaken (fun _ _ _ h => hFc _ h)
  obtain ⟨v4, g5⟩ := u2
  generalize H1 = H at hP1 hS ⊢
  have hP := hP1
  have hD := hD1
  have hP : va_P D xcl (moW h mm kA v4 g5) H := hP
  have hD : va_D A (moW h mm kA v4 g5) := hD
  obtain ⟨wn, hwn20, hv9, hgk, hws⟩ := hp3
  have hv9 : v4 = (va_up (va_up v 2 0) 3 (nI wn)) := hv9
  subst hv9
  have hgk : ∀ j, j ≠ 1 → j ≠ 2 → g5 j = g j := hgk
  have hws : ∀ w9, w9 < wn → ∃ b9 e9, b9 < e9 ∧ e9 ≤ 40 ∧ g5 1 w9 = nI b9 ∧ g5 2 w9 = nI e9 := hws
  have hP : va_P D xcl (moW h mm kA (va_up (va_up v 2 0) 3 (nI wn)) g5) H := hP
  have hD : va_D A (moW h mm kA (va_up (va_up v 2 0) 3 (nI wn)) g5) := hD
  refine lv_aload_n hx hb xd_Mo_oneName_4 rfl (lv_at hl 0 rfl) ?_
  refine va_get (D := D) (ci := 4) (v := .int (nI wn)) (C := xR_Mo) (T := xT_Mo) (N := 31) hx hb hT xi_Mo hown hK.1 hP 0 rfl rfl 4 (by decide) (hT _ xy4_5) (fun _ h9 => h9) rfl xd_Mo_oneName_5 ?_
  refine lv_iconst (v := 1) hx hb xd_Mo_oneName_8 (by decide) ?_
  refine xn_ne (a := wn) (b := 1) (tgt := 20) hx hb xd_Mo_oneName_9 (by decide) (by omega) (by omega) (fun hc6 => ?_) (fun hc6 => ?_)
  · refine lv_iconst (v := 0) hx hb xd_Mo_oneName_20 (by decide) ?_
    exact W.iret (v := 0) hx hb hr (fun t ht hW => ⟨⟨0, ((va_up (va_up v 2 0) 3 (nI wn)), g5), rfl, ⟨wn, rfl, hgk⟩, by rw [ht]; exact hP, hD⟩, hS.F ht⟩) hS.2.2 xd_Mo_oneName_21
  · obtain ⟨b0, e0, hbe0, he0, eb0, ee0⟩ := hws 0 (by omega)
    refine lv_aload_n hx hb xd_Mo_oneName_12 rfl (lv_at hl 0 rfl) ?_
    refine lv_iconst (v := 0) hx hb xd_Mo_oneName_13 (by decide) ?_
    have hFc := va_free (wc := (moW h mm kA (va_up (va_up v 2 0) 3 (nI wn)) g5)) hD hS hA [0, 1, 2, 3, 4, 5, 6, 7, 8, 9, 10, 11, 12, 13, 14, 15, 16, 17, 18, 19, 20, 21, 22, 23, 24, 25] rfl
    refine va_calli (va_runV (As := [.int 0]) (rest := []) ⟨hx, hb, hml, hown, hT⟩ (xc_Mo_nameOf l D kA H.size h mm (va_up (va_up v 2 0) 3 (nI wn)) g5 0 b0 e0 (by first | assumption | omega) (by first | assumption | omega) (by first | assumption | omega) (by first | assumption | omega) (by first | assumption | omega)) (cwV 1 hT (wT_V xy4_7 xy4_8 xy4_9 xy4_4 xy4_6) rfl rfl rfl (by decide +kernel) ⟨Nat.le_of_ble_eq_true rfl, Nat.le_of_ble_eq_true rfl⟩) (x_preV hK hP hD 0 rfl rfl) rfl rfl hl.1 rfl (lv_room (Nat.le_of_ble_eq_true rfl)) xd_Mo_oneName_14 ⟨Nat.le_of_ble_eq_true rfl, Nat.le_of_ble_eq_true rfl⟩) hS (fun q _ h => hFc q h) hFc (fun r7 u8 t H1 locs ht hvm hp9 hB hz1 hk1 hS => ?_)
    obtain ⟨hP1, hD1⟩ := hB
    rw [ht] at hP1
    have hD1 := hD1.weaken (fun _ _ _ h => hFc _ h)
    generalize H1 = H at hP1 hS ⊢
    have hP := hP1
    have hD := hD1
    have hP : va_P D xcl (moW h mm kA (va_up (va_up v 2 0) 3 (nI wn)) g5) H := hP
    have hD : va_D A (moW h mm kA (va_up (va_up v 2 0) 3 (nI wn)) g5) := hD
    refine lv_goto (tgt := 21) hx hb xd_Mo_oneName_17 (by decide) ?_
    exact W.iret (v := r7) hx hb hr (fun t ht hW => ⟨⟨r7, ((va_up (va_up v 2 0) 3 (nI wn)), g5), rfl, ⟨wn, rfl, hgk⟩, by rw [ht]; exact hP, hD⟩, hS.F ht⟩) hS.2.2 xd_Mo_oneName_21
theorem nI_inj {a b : Nat} (ha : a ≤ 12) (hb : b ≤ 12) (h : nI a = nI b) : a = b := (nI_eq (by rw [xb_31]; omega) (by rw [xb_31]; omega)).mp h
theorem MI_dr {v : Nat → Int32} {g : Nat → Nat → Int32} {nl : Nat} {x y : Int32} (hv : v 5 = nI nl) (hnl : nl ≤ 5) (h : MI v g) : MI v (va_up (va_up (va_up g 18 (upd (g 18) nl x)) 19 (upd (g 19) nl y)) 20 (upd (g 20) nl 0)) := by
  obtain ⟨h1, ⟨n2, h2, h3, h4⟩, h5, h6, h7, h8, h9⟩ := h
  have en : n2 = nl := nI_inj (by omega) (by omega) (h3.symm.trans hv)
  subst en
  refine ⟨h1, ⟨n2, h2, h3, fun la hla => ?_⟩, h5, h6, h7, fun la hla => ?_, h9⟩
  · show ∃ lq, lq ≤ la ∧ upd (g 19) n2 y la = nI lq - 1
    rw [pk_un (by omega)]; exact h4 la hla
  · show ∃ k, k ≤ 12 ∧ upd (g 20) n2 0 la = nI k ∧ ∀ j, j < k → ∃ d, d < 12 ∧ g 21 (12 * la + j) = nI d
    by_cases e : la = n2
    · subst e
      exact ⟨0, by omega, pk_us, fun j hj => absurd hj (by omega)⟩
    · rw [pk_un e]; exact h8 la hla
theorem MI_nl {v : Nat → Int32} {g : Nat → Nat → Int32} {nl : Nat} (h5 : nl < 5) (hp : ∀ la, la < nl + 1 → ∃ lq, lq ≤ la ∧ g 19 la = nI lq - 1) (h : MI v g) : MI (va_up v 5 (nI (nl + 1))) g := by
  obtain ⟨h1, -, h3⟩ := h
  exact ⟨h1, ⟨nl + 1, by omega, rfl, hp⟩, h3⟩
abbrev xb_Mo_layer : ByteArray := prog_12_method_32_code
def xy_Mo_layer : MethodName := ⟨"LayerDeskModel", "layer", "(IIZ)I"⟩
theorem xd_Mo_layer_0 : decode xb_Mo_layer 0 = .ok (.aload_n 0, 1) := by decide +kernel
theorem xd_Mo_layer_1 : decode xb_Mo_layer 1 = .ok (.iconst 0, 1) := by decide +kernel
theorem xd_Mo_layer_2 : decode xb_Mo_layer 2 = .ok (.putfield 87, 3) := by decide +kernel
theorem xd_Mo_layer_5 : decode xb_Mo_layer 5 = .ok (.aload_n 0, 1) := by decide +kernel
theorem xd_Mo_layer_6 : decode xb_Mo_layer 6 = .ok (.iconst 0, 1) := by decide +kernel
theorem xd_Mo_layer_7 : decode xb_Mo_layer 7 = .ok (.putfield 187, 3) := by decide +kernel
theorem xd_Mo_layer_10 : decode xb_Mo_layer 10 = .ok (.aload_n 0, 1) := by decide +kernel
theorem xd_Mo_layer_11 : decode xb_Mo_layer 11 = .ok (.invokevirtual 101, 3) := by decide +kernel
theorem xd_Mo_layer_14 : decode xb_Mo_layer 14 = .ok (.aload_n 0, 1) := by decide +kernel
theorem xd_Mo_layer_15 : decode xb_Mo_layer 15 = .ok (.getfield 94, 3) := by decide +kernel
theorem xd_Mo_layer_18 : decode xb_Mo_layer 18 = .ok (.iconst 1, 1) := by decide +kernel
theorem xd_Mo_layer_19 : decode xb_Mo_layer 19 = .ok (.if_icmp .lt 15, 3) := by decide +kernel
theorem xd_Mo_layer_22 : decode xb_Mo_layer 22 = .ok (.aload_n 0, 1) := by decide +kernel
theorem xd_Mo_layer_23 : decode xb_Mo_layer 23 = .ok (.getfield 94, 3) := by decide +kernel
theorem xd_Mo_layer_26 : decode xb_Mo_layer 26 = .ok (.iconst 3, 1) := by decide +kernel
theorem xd_Mo_layer_27 : decode xb_Mo_layer 27 = .ok (.if_icmp .gt 7, 3) := by decide +kernel
theorem xd_Mo_layer_30 : decode xb_Mo_layer 30 = .ok (.iconst 1, 1) := by decide +kernel
theorem xd_Mo_layer_31 : decode xb_Mo_layer 31 = .ok (.goto 4, 3) := by decide +kernel
theorem xd_Mo_layer_34 : decode xb_Mo_layer 34 = .ok (.iconst 0, 1) := by decide +kernel
theorem xd_Mo_layer_35 : decode xb_Mo_layer 35 = .ok (.istore 4, 2) := by decide +kernel
theorem xd_Mo_layer_37 : decode xb_Mo_layer 37 = .ok (.iconst 0, 1) := by decide +kernel
theorem xd_Mo_layer_38 : decode xb_Mo_layer 38 = .ok (.istore 5, 2) := by decide +kernel
theorem xd_Mo_layer_40 : decode xb_Mo_layer 40 = .ok (.iload 5, 2) := by decide +kernel
theorem xd_Mo_layer_42 : decode xb_Mo_layer 42 = .ok (.aload_n 0, 1) := by decide +kernel
theorem xd_Mo_layer_43 : decode xb_Mo_layer 43 = .ok (.getfield 94, 3) := by decide +kernel
theorem xd_Mo_layer_46 : decode xb_Mo_layer 46 = .ok (.if_icmp .ge 30, 3) := by decide +kernel
theorem xd_Mo_layer_49 : decode xb_Mo_layer 49 = .ok (.iload 4, 2) := by decide +kernel
theorem xd_Mo_layer_51 : decode xb_Mo_layer 51 = .ok (.ifCond .eq 16, 3) := by decide +kernel
theorem xd_Mo_layer_54 : decode xb_Mo_layer 54 = .ok (.aload_n 0, 1) := by decide +kernel
theorem xd_Mo_layer_55 : decode xb_Mo_layer 55 = .ok (.iload 5, 2) := by decide +kernel
theorem xd_Mo_layer_57 : decode xb_Mo_layer 57 = .ok (.invokevirtual 133, 3) := by decide +kernel
theorem xd_Mo_layer_60 : decode xb_Mo_layer 60 = .ok (.ifCond .le 7, 3) := by decide +kernel
theorem xd_Mo_layer_63 : decode xb_Mo_layer 63 = .ok (.iconst 1, 1) := by decide +kernel
theorem xd_Mo_layer_64 : decode xb_Mo_layer 64 = .ok (.goto 4, 3) := by decide +kernel
theorem xd_Mo_layer_67 : decode xb_Mo_layer 67 = .ok (.iconst 0, 1) := by decide +kernel
theorem xd_Mo_layer_68 : decode xb_Mo_layer 68 = .ok (.istore 4, 2) := by decide +kernel
theorem xd_Mo_layer_70 : decode xb_Mo_layer 70 = .ok (.iinc 5 1, 3) := by decide +kernel
theorem xd_Mo_layer_73 : decode xb_Mo_layer 73 = .ok (.goto (-33), 3) := by decide +kernel
theorem xd_Mo_layer_76 : decode xb_Mo_layer 76 = .ok (.iload 4, 2) := by decide +kernel
theorem xd_Mo_layer_78 : decode xb_Mo_layer 78 = .ok (.ifCond .eq 25, 3) := by decide +kernel
theorem xd_Mo_layer_81 : decode xb_Mo_layer 81 = .ok (.iload_n 1, 1) := by decide +kernel
theorem xd_Mo_layer_82 : decode xb_Mo_layer 82 = .ok (.ifCond .lt 21, 3) := by decide +kernel
theorem xd_Mo_layer_85 : decode xb_Mo_layer 85 = .ok (.iload_n 1, 1) := by decide +kernel
theorem xd_Mo_layer_86 : decode xb_Mo_layer 86 = .ok (.iconst 1, 1) := by decide +kernel
theorem xd_Mo_layer_87 : decode xb_Mo_layer 87 = .ok (.if_icmp .gt 16, 3) := by decide +kernel
theorem xd_Mo_layer_90 : decode xb_Mo_layer 90 = .ok (.iload_n 2, 1) := by decide +kernel
theorem xd_Mo_layer_91 : decode xb_Mo_layer 91 = .ok (.iconst (-1), 1) := by decide +kernel
theorem xd_Mo_layer_92 : decode xb_Mo_layer 92 = .ok (.if_icmp .eq 17, 3) := by decide +kernel
theorem xd_Mo_layer_95 : decode xb_Mo_layer 95 = .ok (.aload_n 0, 1) := by decide +kernel
theorem xd_Mo_layer_96 : decode xb_Mo_layer 96 = .ok (.iload_n 2, 1) := by decide +kernel
theorem xd_Mo_layer_97 : decode xb_Mo_layer 97 = .ok (.invokevirtual 190, 3) := by decide +kernel
theorem xd_Mo_layer_100 : decode xb_Mo_layer 100 = .ok (.ifCond .ne 9, 3) := by decide +kernel
theorem xd_Mo_layer_103 : decode xb_Mo_layer 103 = .ok (.aload_n 0, 1) := by decide +kernel
theorem xd_Mo_layer_104 : decode xb_Mo_layer 104 = .ok (.iconst 1, 1) := by decide +kernel
theorem xd_Mo_layer_105 : decode xb_Mo_layer 105 = .ok (.invokevirtual 129, 3) := by decide +kernel
theorem xd_Mo_layer_108 : decode xb_Mo_layer 108 = .ok (.ireturn, 1) := by decide +kernel
theorem xd_Mo_layer_109 : decode xb_Mo_layer 109 = .ok (.aload_n 0, 1) := by decide +kernel
theorem xd_Mo_layer_110 : decode xb_Mo_layer 110 = .ok (.getfield 66, 3) := by decide +kernel
theorem xd_Mo_layer_113 : decode xb_Mo_layer 113 = .ok (.aload_n 0, 1) := by decide +kernel
theorem xd_Mo_layer_114 : decode xb_Mo_layer 114 = .ok (.getfield 150, 3) := by decide +kernel
theorem xd_Mo_layer_117 : decode xb_Mo_layer 117 = .ok (.iload_n 1, 1) := by decide +kernel
theorem xd_Mo_layer_118 : decode xb_Mo_layer 118 = .ok (.iastore, 1) := by decide +kernel
theorem xd_Mo_layer_119 : decode xb_Mo_layer 119 = .ok (.aload_n 0, 1) := by decide +kernel
theorem xd_Mo_layer_120 : decode xb_Mo_layer 120 = .ok (.getfield 69, 3) := by decide +kernel
theorem xd_Mo_layer_123 : decode xb_Mo_layer 123 = .ok (.aload_n 0, 1) := by decide +kernel
theorem xd_Mo_layer_124 : decode xb_Mo_layer 124 = .ok (.getfield 150, 3) := by decide +kernel
theorem xd_Mo_layer_127 : decode xb_Mo_layer 127 = .ok (.iload_n 2, 1) := by decide +kernel
theorem xd_Mo_layer_128 : decode xb_Mo_layer 128 = .ok (.iastore, 1) := by decide +kernel
theorem xd_Mo_layer_129 : decode xb_Mo_layer 129 = .ok (.aload_n 0, 1) := by decide +kernel
theorem xd_Mo_layer_130 : decode xb_Mo_layer 130 = .ok (.getfield 72, 3) := by decide +kernel
theorem xd_Mo_layer_133 : decode xb_Mo_layer 133 = .ok (.aload_n 0, 1) := by decide +kernel
theorem xd_Mo_layer_134 : decode xb_Mo_layer 134 = .ok (.getfield 150, 3) := by decide +kernel
theorem xd_Mo_layer_137 : decode xb_Mo_layer 137 = .ok (.iconst 0, 1) := by decide +kernel
theorem xd_Mo_layer_138 : decode xb_Mo_layer 138 = .ok (.iastore, 1) := by decide +kernel
theorem xd_Mo_layer_139 : decode xb_Mo_layer 139 = .ok (.iconst 1, 1) := by decide +kernel
theorem xd_Mo_layer_140 : decode xb_Mo_layer 140 = .ok (.istore 5, 2) := by decide +kernel
theorem xd_Mo_layer_142 : decode xb_Mo_layer 142 = .ok (.iconst 0, 1) := by decide +kernel
theorem xd_Mo_layer_143 : decode xb_Mo_layer 143 = .ok (.istore 6, 2) := by decide +kernel
theorem xd_Mo_layer_145 : decode xb_Mo_layer 145 = .ok (.iload 6, 2) := by decide +kernel
theorem xd_Mo_layer_147 : decode xb_Mo_layer 147 = .ok (.aload_n 0, 1) := by decide +kernel
theorem xd_Mo_layer_148 : decode xb_Mo_layer 148 = .ok (.getfield 94, 3) := by decide +kernel
theorem xd_Mo_layer_151 : decode xb_Mo_layer 151 = .ok (.if_icmp .ge 26, 3) := by decide +kernel
theorem xd_Mo_layer_154 : decode xb_Mo_layer 154 = .ok (.iload 5, 2) := by decide +kernel
theorem xd_Mo_layer_156 : decode xb_Mo_layer 156 = .ok (.ifCond .eq 21, 3) := by decide +kernel
theorem xd_Mo_layer_159 : decode xb_Mo_layer 159 = .ok (.aload_n 0, 1) := by decide +kernel
theorem xd_Mo_layer_160 : decode xb_Mo_layer 160 = .ok (.aload_n 0, 1) := by decide +kernel
theorem xd_Mo_layer_161 : decode xb_Mo_layer 161 = .ok (.iload 6, 2) := by decide +kernel
theorem xd_Mo_layer_163 : decode xb_Mo_layer 163 = .ok (.invokevirtual 133, 3) := by decide +kernel
theorem xd_Mo_layer_166 : decode xb_Mo_layer 166 = .ok (.invokevirtual 160, 3) := by decide +kernel
theorem xd_Mo_layer_169 : decode xb_Mo_layer 169 = .ok (.istore 5, 2) := by decide +kernel
theorem xd_Mo_layer_171 : decode xb_Mo_layer 171 = .ok (.iinc 6 1, 3) := by decide +kernel
theorem xd_Mo_layer_174 : decode xb_Mo_layer 174 = .ok (.goto (-29), 3) := by decide +kernel
theorem xd_Mo_layer_177 : decode xb_Mo_layer 177 = .ok (.iload 5, 2) := by decide +kernel
theorem xd_Mo_layer_179 : decode xb_Mo_layer 179 = .ok (.ifCond .ne 9, 3) := by decide +kernel
theorem xd_Mo_layer_182 : decode xb_Mo_layer 182 = .ok (.aload_n 0, 1) := by decide +kernel
theorem xd_Mo_layer_183 : decode xb_Mo_layer 183 = .ok (.iconst 2, 1) := by decide +kernel
theorem xd_Mo_layer_184 : decode xb_Mo_layer 184 = .ok (.invokevirtual 129, 3) := by decide +kernel
theorem xd_Mo_layer_187 : decode xb_Mo_layer 187 = .ok (.ireturn, 1) := by decide +kernel
theorem xd_Mo_layer_188 : decode xb_Mo_layer 188 = .ok (.iload_n 3, 1) := by decide +kernel
theorem xd_Mo_layer_189 : decode xb_Mo_layer 189 = .ok (.ifCond .eq 7, 3) := by decide +kernel
theorem xd_Mo_layer_192 : decode xb_Mo_layer 192 = .ok (.aload_n 0, 1) := by decide +kernel
theorem xd_Mo_layer_193 : decode xb_Mo_layer 193 = .ok (.invokevirtual 193, 3) := by decide +kernel
theorem xd_Mo_layer_196 : decode xb_Mo_layer 196 = .ok (.aload_n 0, 1) := by decide +kernel
theorem xd_Mo_layer_197 : decode xb_Mo_layer 197 = .ok (.aload_n 0, 1) := by decide +kernel
theorem xd_Mo_layer_198 : decode xb_Mo_layer 198 = .ok (.invokevirtual 196, 3) := by decide +kernel
theorem xd_Mo_layer_201 : decode xb_Mo_layer 201 = .ok (.putfield 187, 3) := by decide +kernel
theorem xd_Mo_layer_204 : decode xb_Mo_layer 204 = .ok (.aload_n 0, 1) := by decide +kernel
theorem xd_Mo_layer_205 : decode xb_Mo_layer 205 = .ok (.getfield 187, 3) := by decide +kernel
theorem xd_Mo_layer_208 : decode xb_Mo_layer 208 = .ok (.ifCond .le 9, 3) := by decide +kernel
theorem xd_Mo_layer_211 : decode xb_Mo_layer 211 = .ok (.aload_n 0, 1) := by decide +kernel
theorem xd_Mo_layer_212 : decode xb_Mo_layer 212 = .ok (.iconst 3, 1) := by decide +kernel
theorem xd_Mo_layer_213 : decode xb_Mo_layer 213 = .ok (.invokevirtual 129, 3) := by decide +kernel
theorem xd_Mo_layer_216 : decode xb_Mo_layer 216 = .ok (.ireturn, 1) := by decide +kernel
theorem xd_Mo_layer_217 : decode xb_Mo_layer 217 = .ok (.bipush 12, 2) := by decide +kernel
theorem xd_Mo_layer_219 : decode xb_Mo_layer 219 = .ok (.aload_n 0, 1) := by decide +kernel
theorem xd_Mo_layer_220 : decode xb_Mo_layer 220 = .ok (.getfield 150, 3) := by decide +kernel
theorem xd_Mo_layer_223 : decode xb_Mo_layer 223 = .ok (.imul, 1) := by decide +kernel
theorem xd_Mo_layer_224 : decode xb_Mo_layer 224 = .ok (.istore 6, 2) := by decide +kernel
theorem xd_Mo_layer_226 : decode xb_Mo_layer 226 = .ok (.iload 6, 2) := by decide +kernel
theorem xd_Mo_layer_228 : decode xb_Mo_layer 228 = .ok (.bipush 12, 2) := by decide +kernel
theorem xd_Mo_layer_230 : decode xb_Mo_layer 230 = .ok (.aload_n 0, 1) := by decide +kernel
theorem xd_Mo_layer_231 : decode xb_Mo_layer 231 = .ok (.getfield 150, 3) := by decide +kernel
theorem xd_Mo_layer_234 : decode xb_Mo_layer 234 = .ok (.imul, 1) := by decide +kernel
theorem xd_Mo_layer_235 : decode xb_Mo_layer 235 = .ok (.aload_n 0, 1) := by decide +kernel
theorem xd_Mo_layer_236 : decode xb_Mo_layer 236 = .ok (.getfield 72, 3) := by decide +kernel
theorem xd_Mo_layer_239 : decode xb_Mo_layer 239 = .ok (.aload_n 0, 1) := by decide +kernel
theorem xd_Mo_layer_240 : decode xb_Mo_layer 240 = .ok (.getfield 150, 3) := by decide +kernel
theorem xd_Mo_layer_243 : decode xb_Mo_layer 243 = .ok (.iaload, 1) := by decide +kernel
theorem xd_Mo_layer_244 : decode xb_Mo_layer 244 = .ok (.iadd, 1) := by decide +kernel
theorem xd_Mo_layer_245 : decode xb_Mo_layer 245 = .ok (.if_icmp .ge 22, 3) := by decide +kernel
theorem xd_Mo_layer_248 : decode xb_Mo_layer 248 = .ok (.aload_n 0, 1) := by decide +kernel
theorem xd_Mo_layer_249 : decode xb_Mo_layer 249 = .ok (.getfield 45, 3) := by decide +kernel
theorem xd_Mo_layer_252 : decode xb_Mo_layer 252 = .ok (.aload_n 0, 1) := by decide +kernel
theorem xd_Mo_layer_253 : decode xb_Mo_layer 253 = .ok (.getfield 75, 3) := by decide +kernel
theorem xd_Mo_layer_256 : decode xb_Mo_layer 256 = .ok (.iload 6, 2) := by decide +kernel
theorem xd_Mo_layer_258 : decode xb_Mo_layer 258 = .ok (.iaload, 1) := by decide +kernel
theorem xd_Mo_layer_259 : decode xb_Mo_layer 259 = .ok (.iconst 1, 1) := by decide +kernel
theorem xd_Mo_layer_260 : decode xb_Mo_layer 260 = .ok (.bastore, 1) := by decide +kernel
theorem xd_Mo_layer_261 : decode xb_Mo_layer 261 = .ok (.iinc 6 1, 3) := by decide +kernel
theorem xd_Mo_layer_264 : decode xb_Mo_layer 264 = .ok (.goto (-38), 3) := by decide +kernel
theorem xd_Mo_layer_267 : decode xb_Mo_layer 267 = .ok (.aload_n 0, 1) := by decide +kernel
theorem xd_Mo_layer_268 : decode xb_Mo_layer 268 = .ok (.getfield 78, 3) := by decide +kernel
theorem xd_Mo_layer_271 : decode xb_Mo_layer 271 = .ok (.aload_n 0, 1) := by decide +kernel
theorem xd_Mo_layer_272 : decode xb_Mo_layer 272 = .ok (.getfield 150, 3) := by decide +kernel
theorem xd_Mo_layer_275 : decode xb_Mo_layer 275 = .ok (.iconst 1, 1) := by decide +kernel
theorem xd_Mo_layer_276 : decode xb_Mo_layer 276 = .ok (.bastore, 1) := by decide +kernel
theorem xd_Mo_layer_277 : decode xb_Mo_layer 277 = .ok (.aload_n 0, 1) := by decide +kernel
theorem xd_Mo_layer_278 : decode xb_Mo_layer 278 = .ok (.dup, 1) := by decide +kernel
theorem xd_Mo_layer_279 : decode xb_Mo_layer 279 = .ok (.getfield 150, 3) := by decide +kernel
theorem xd_Mo_layer_282 : decode xb_Mo_layer 282 = .ok (.iconst 1, 1) := by decide +kernel
theorem xd_Mo_layer_283 : decode xb_Mo_layer 283 = .ok (.iadd, 1) := by decide +kernel
theorem xd_Mo_layer_284 : decode xb_Mo_layer 284 = .ok (.putfield 150, 3) := by decide +kernel
theorem xd_Mo_layer_287 : decode xb_Mo_layer 287 = .ok (.aload_n 0, 1) := by decide +kernel
theorem xd_Mo_layer_288 : decode xb_Mo_layer 288 = .ok (.getfield 150, 3) := by decide +kernel
theorem xd_Mo_layer_291 : decode xb_Mo_layer 291 = .ok (.iconst 1, 1) := by decide +kernel
theorem xd_Mo_layer_292 : decode xb_Mo_layer 292 = .ok (.isub, 1) := by decide +kernel
theorem xd_Mo_layer_293 : decode xb_Mo_layer 293 = .ok (.ireturn, 1) := by decide +kernel
theorem nr_or {a b c d : Nat} (h : ¬ (a = b ∧ c = d)) : a ≠ b ∨ c ≠ d := by omega
theorem nr_k {a b x : Nat} (h : a + x = b + x) (n : a ≠ b) : False := n (Nat.add_right_cancel h)
theorem nr_z {n c x : Nat} (h : n = c + x) (l : n < c) : False := by omega
theorem nr_y {n c x : Nat} (h : c + x = n) (l : n < c) : False := by omega
def up2 {α : Type} (E : Nat → Nat → α) (b o : Nat) (e : α) : Nat → Nat → α := va_up E b (va_up (E b) o e)
theorem up2_eq {α : Type} {E : Nat → Nat → α} {b o : Nat} {e : α} : up2 E b o e b o = e := by simp [up2, va_up]
theorem up2_nb {α : Type} {E : Nat → Nat → α} {b o b2 : Nat} {e : α} (h : b2 ≠ b) : up2 E b o e b2 = E b2 := by simp [up2, va_up, h]
theorem up2_no {α : Type} {E : Nat → Nat → α} {b o o2 : Nat} {e : α} (h : o2 ≠ o) : up2 E b o e b o2 = E b o2 := by simp [up2, va_up, h]
theorem up2_ne {α : Type} {E : Nat → Nat → α} {b o b2 o2 : Nat} {e : α} (h : b2 ≠ b ∨ o2 ≠ o) : up2 E b o e b2 o2 = E b2 o2 := by
  by_cases hb : b2 = b
  · subst hb
    exact up2_no (h.resolve_left (fun q => q rfl))
  · rw [up2_nb hb]
def rp (ad : Nat → Nat → Nat) (E : Nat → Nat → va_E) (RL : List (Nat × Nat)) : va_W := RL.map (fun r => (ad r.1 r.2, E r.1 r.2))
theorem rp_ix {ad : Nat → Nat → Nat} {E : Nat → Nat → va_E} {RL : List (Nat × Nat)} {k : Nat} {r : Nat × Nat} (h : RL[k]? = some r) : (rp ad E RL)[k]? = some (ad r.1 r.2, E r.1 r.2) := by
  simp only [rp, List.getElem?_map, h]; rfl
theorem rp_get {ad : Nat → Nat → Nat} {E : Nat → Nat → va_E} {RL : List (Nat × Nat)} {b o : Nat} (h : (b, o) ∈ RL) : ∃ k : Nat, (rp ad E RL)[k]? = some (ad b o, E b o) := by
  obtain ⟨k, hk⟩ := List.getElem?_of_mem h
  exact ⟨k, rp_ix hk⟩
theorem rp_set {A : Nat → Prop} {ad : Nat → Nat → Nat} {E : Nat → Nat → va_E} {RL : List (Nat × Nat)} {b o k : Nat} {e : va_E} (hD : va_D A (rp ad E RL)) (h : (b, o) ∈ RL) (hk : (rp ad E RL)[k]? = some (ad b o, E b o)) : (rp ad E RL).set k (ad b o, e) = rp ad (up2 E b o e) RL := by
  obtain ⟨j, hj⟩ := List.getElem?_of_mem h
  have ekj : k = j := hD.1 k j _ _ hk (rp_ix hj) rfl
  subst ekj
  apply List.ext_getElem?
  intro i
  by_cases e1 : k = i
  · subst e1
    rw [rp_ix hj, up2_eq]
    have hlt : k < (rp ad E RL).length := (List.getElem?_eq_some_iff.mp hk).1
    rw [List.getElem?_set_self hlt]
  · rw [List.getElem?_set_ne e1]
    cases hi : RL[i]? with
    | none => simp only [rp, List.getElem?_map, hi]; rfl
    | some r =>
      rw [rp_ix hi, rp_ix hi]
      have hne : r.1 ≠ b ∨ r.2 ≠ o := by
        by_cases h1 : r.1 = b
        · by_cases h2 : r.2 = o
          · exact absurd (hD.1 k i _ _ hk (rp_ix hi) (by rw [h1, h2])) e1
          · exact Or.inr h2
        · exact Or.inl h1
      rw [up2_ne hne]
theorem rp_in {ad : Nat → Nat → Nat} {E : Nat → Nat → va_E} {RL : List (Nat × Nat)} {k : Nat} {q : Nat × va_E} (h : (rp ad E RL)[k]? = some q) : ∃ r : Nat × Nat, RL[k]? = some r ∧ q = (ad r.1 r.2, E r.1 r.2) := by
  simp only [rp, List.getElem?_map] at h
  cases hr : RL[k]? with
  | none => rw [hr] at h; cases h
  | some r => rw [hr] at h; exact ⟨r, rfl, (Option.some.inj h).symm⟩
def rdel (RL : List (Nat × Nat)) (b o : Nat) : List (Nat × Nat) := RL.filter (fun r => !(r == (b, o)))
theorem rdel_in {RL : List (Nat × Nat)} {b o : Nat} {r : Nat × Nat} : r ∈ rdel RL b o ↔ r ∈ RL ∧ r ≠ (b, o) := by
  simp [rdel, List.mem_filter]
theorem rp_nd {A : Nat → Prop} {ad : Nat → Nat → Nat} {E : Nat → Nat → va_E} {RL : List (Nat × Nat)} : va_D A (rp ad E RL) ↔ (List.Pairwise (fun x y : Nat × Nat => ad x.1 x.2 ≠ ad y.1 y.2) RL ∧ ∀ r ∈ RL, A (ad r.1 r.2)) := by
  constructor
  · intro h
    refine ⟨List.pairwise_iff_getElem.mpr fun i j hi hj hij e => ?_, fun r hr => ?_⟩
    · have := h.1 i j _ _ (rp_ix (List.getElem?_eq_getElem hi)) (rp_ix (List.getElem?_eq_getElem hj)) e
      omega
    · obtain ⟨k, hk⟩ := List.getElem?_of_mem hr
      exact h.2 k _ (rp_ix hk)
  · intro ⟨h1, h2⟩
    refine ⟨fun i j p q hi hj e => ?_, fun k q hk => ?_⟩
    · obtain ⟨r, hr, rfl⟩ := rp_in hi
      obtain ⟨r2, hr2, rfl⟩ := rp_in hj
      obtain ⟨hi1, hi2⟩ := List.getElem?_eq_some_iff.mp hr
      obtain ⟨hj1, hj2⟩ := List.getElem?_eq_some_iff.mp hr2
      have hp := List.pairwise_iff_getElem.mp h1
      rcases Nat.lt_trichotomy i j with h | h | h
      · exact absurd (by rw [hi2, hj2]; exact e) (hp i j hi1 hj1 h)
      · exact h
      · exact absurd (by rw [hi2, hj2]; exact e.symm) (hp j i hj1 hi1 h)
    · obtain ⟨r, hr, rfl⟩ := rp_in hk
      exact h2 r (List.mem_of_getElem? hr)
theorem rp_del_D {A : Nat → Prop} {ad : Nat → Nat → Nat} {E : Nat → Nat → va_E} {RL : List (Nat × Nat)} (b o : Nat) (h : va_D A (rp ad E RL)) : va_D A (rp ad E (rdel RL b o)) := by
  obtain ⟨h1, h2⟩ := rp_nd.mp h
  exact rp_nd.mpr ⟨h1.filter _, fun r hr => h2 r (rdel_in.mp hr).1⟩
theorem rp_del_P {D : va_G} {cl : List vw_C} {ad : Nat → Nat → Nat} {E : Nat → Nat → va_E} {RL : List (Nat × Nat)} {H : Heap} (b o : Nat) (h : va_P D cl (rp ad E RL) H) : va_P D cl (rp ad E (rdel RL b o)) H := fun k q hk => by
  obtain ⟨r, hr, rfl⟩ := rp_in hk
  obtain ⟨j, hj⟩ := rp_get (ad := ad) (E := E) (b := r.1) (o := r.2) (rdel_in.mp (List.mem_of_getElem? hr)).1
  exact h j _ hj
theorem rp_add {ad : Nat → Nat → Nat} {E : Nat → Nat → va_E} {RL : List (Nat × Nat)} {b o a : Nat} {e : va_E} : rp ad E (rdel RL b o) ++ [(a, e)] = rp (up2 ad b o a) (up2 E b o e) (rdel RL b o ++ [(b, o)]) := by
  simp only [rp, List.map_append, List.map_cons, List.map_nil, up2_eq]
  congr 1
  apply List.map_congr_left
  intro r hr
  have h := (rdel_in.mp hr).2
  have hne : r.1 ≠ b ∨ r.2 ≠ o := by
    by_cases h1 : r.1 = b
    · by_cases h2 : r.2 = o
      · exact absurd (by rw [← h1, ← h2]) h
      · exact Or.inr h2
    · exact Or.inl h1
  rw [up2_ne hne, up2_ne hne]
theorem radd_sub {RL : List (Nat × Nat)} {b o : Nat} : ∀ x ∈ RL, x ∈ rdel RL b o ++ [(b, o)] := fun x hx => by
  by_cases h : x = (b, o)
  · exact List.mem_append_right _ (by rw [h]; exact List.mem_cons_self)
  · exact List.mem_append_left _ (rdel_in.mpr ⟨hx, h⟩)
theorem radd_self {RL : List (Nat × Nat)} {b o : Nat} : (b, o) ∈ rdel RL b o ++ [(b, o)] := List.mem_append_right _ List.mem_cons_self
theorem px_free {A0 : Nat → Prop} {ws : va_W} {H0 H : Heap} {locs : List Loc} (hD : va_D A0 ws) (hS : va_S A0 H0 H locs) (hA : ∀ q, H0.size ≤ q → A0 q) : ∀ q, va_A ws H.size q → A0 q := fun q h => by
  rcases h with ⟨k, e, h⟩ | h
  · exact hD.2 k _ h
  · exact hA q (Nat.le_trans hS.1 h)
theorem rp_inj {A : Nat → Prop} {ad : Nat → Nat → Nat} {E : Nat → Nat → va_E} {RL : List (Nat × Nat)} (h : va_D A (rp ad E RL)) {b o b2 o2 : Nat} (h1 : (b, o) ∈ RL) (h2 : (b2, o2) ∈ RL) (e : ad b o = ad b2 o2) : b = b2 ∧ o = o2 := by
  obtain ⟨j, hj⟩ := List.getElem?_of_mem h1
  obtain ⟨k, hk⟩ := List.getElem?_of_mem h2
  have ejk : j = k := h.1 j k _ _ (rp_ix hj) (rp_ix hk) e
  subst ejk
  rw [hj] at hk
  exact ⟨congrArg Prod.fst (Option.some.inj hk), congrArg Prod.snd (Option.some.inj hk)⟩
section XP
variable {p : Program} {l : Launch} {e : Env} {R : Room} {s : State} {m : MethodId} {args : Array Value} {below : List Frame} {meth : Method} {c : Code} {H : Heap} {locs : List Loc} {cells slots : Nat} {Q : State → Prop}
variable {cc : ByteArray} {pc : Nat} {ls : Array Slot} {rest : List Value} {D : va_G} {cl : List vw_C} {tys : List (ClassId × FieldType)} {A : Nat → Prop} {H0 : Heap} {ad : Nat → Nat → Nat} {E : Nat → Nat → va_E} {RL : List (Nat × Nat)} {b o : Nat}
theorem px_preV {kA : Nat → ClassId} {As : List Value} {ci : Nat} {fs : List Value} {q : vw_C} (hK : xK D kA s) (hP : va_P D xcl (rp ad E RL) H) (hD : va_D A (rp ad E RL)) (hm : (b, o) ∈ RL) (he : E b o = .inr (ci, fs)) (hc : xcl[ci]? = some q) : PreV s H q.1 (ad b o) (va_Pc (.ref (ad b o) :: As) (xPre D kA H.size (rp ad E RL))) As := by
  obtain ⟨q0, h0⟩ := rp_get (ad := ad) (E := E) hm
  rw [he] at h0
  exact x_preV hK hP hD q0 h0 hc
theorem px_get (hexec : p.tables.exec = Jvm.exec) (hb : c.code = cc) {own ref C : String} {T : u_T} {N ci index : Nat} {Ts : List Cond} (hts : ∀ w ∈ Ts, w.before args s = true) (hin : ∀ w ∈ u_ws C T N, w ∈ Ts) (hown : s.vm.findClass own = some m.cls) (hK : va_K D cl tys s) (hP : va_P D cl (rp ad E RL) H) (hm : (b, o) ∈ RL) {fs : List Value} (he : E b o = .inr (ci, fs)) (hc : cl[ci]? = some (C, T, N)) (k : Nat) (hk : k < N) (hlink : (Cond.fieldLink own index ref (T k).2.1 (T k).2.2.1).before args s = true) (hsame : ∀ x, s.fieldFound? (T k).1 (T k).2.1 (T k).2.2.1 = some x → s.fieldFound? ref (T k).2.1 (T k).2.2.1 = some x) {v : Value} (hv : fs[k]? = some v) (hdg : decode cc pc = .ok (.getfield index, 3))
    (kk : W p l e R s m args below meth c H locs cells slots Q (F0 m (pc + 3) ls (v :: rest))) : W p l e R s m args below meth c H locs cells slots Q (F0 m pc ls (.ref (ad b o) :: rest)) := by
  obtain ⟨q0, h0⟩ := rp_get (ad := ad) (E := E) hm
  rw [he] at h0
  exact va_get hexec hb hts hin hown hK hP q0 h0 hc k hk hlink hsame hv hdg kk
theorem px_put (hexec : p.tables.exec = Jvm.exec) (hb : c.code = cc) {own ref C : String} {T : u_T} {N ci index : Nat} {Ts : List Cond} (hts : ∀ w ∈ Ts, w.before args s = true) (hin : ∀ w ∈ u_ws C T N, w ∈ Ts) (ty0 : Nat → FieldType) (hty : ∀ k, k < N → parseFieldDescriptor (T k).2.2.1 = some (ty0 k)) (hnm : ∀ a, a < N → ∀ b, b < N → a ≠ b → (T a).2.1 ≠ (T b).2.1) (hown : s.vm.findClass own = some m.cls) (hK : va_K D cl tys s) (hP : va_P D cl (rp ad E RL) H) (hD : va_D A (rp ad E RL)) (hS0 : va_S A H0 H locs) (hm : (b, o) ∈ RL) {fs : List Value} (he : E b o = .inr (ci, fs)) (hc : cl[ci]? = some (C, T, N)) (k : Nat) (hk : k < N) (hlink : (Cond.fieldLink own index ref (T k).2.1 (T k).2.2.1).before args s = true) (hsame : ∀ x, s.fieldFound? (T k).1 (T k).2.1 (T k).2.2.1 = some x → s.fieldFound? ref (T k).2.1 (T k).2.2.1 = some x) (hfin : (T k).2.2.2 = false) {ty : FieldType} {v : Value} (hd : parseFieldDescriptor (T k).2.2.1 = some ty) (hn : narrow ty v = v) (hfit : fits ty v = true) (hl : k < fs.length) (hdg : decode cc pc = .ok (.putfield index, 3))
    (kk : ∀ (H1 : Heap) (locs1 : List Loc), va_P D cl (rp ad (up2 E b o (.inr (ci, fs.set k v))) RL) H1 → va_D A (rp ad (up2 E b o (.inr (ci, fs.set k v))) RL) → va_S A H0 H1 locs1 → W p l e R s m args below meth c H1 locs1 cells slots Q (F0 m (pc + 3) ls rest)) : W p l e R s m args below meth c H locs cells slots Q (F0 m pc ls (v :: .ref (ad b o) :: rest)) := by
  obtain ⟨q0, h0⟩ := rp_get (ad := ad) (E := E) hm
  have h1 := h0
  rw [he] at h1
  exact va_put hexec hb hts hin ty0 hty hnm hown hK hP hD hS0 q0 h1 hc k hk hlink hsame hfin hd hn hfit hl hdg (by rw [rp_set hD hm h0]; exact kk)
theorem px_putF (hexec : p.tables.exec = Jvm.exec) (hb : c.code = cc) {own ref C : String} {T : u_T} {N ci index : Nat} {Ts : List Cond} (hts : ∀ w ∈ Ts, w.before args s = true) (hin : ∀ w ∈ u_ws C T N, w ∈ Ts) (ty0 : Nat → FieldType) (hty : ∀ k, k < N → parseFieldDescriptor (T k).2.2.1 = some (ty0 k)) (hnm : ∀ a, a < N → ∀ b, b < N → a ≠ b → (T a).2.1 ≠ (T b).2.1) (hown : s.vm.findClass own = some m.cls) (hK : va_K D cl tys s) (hP : va_P D cl (rp ad E RL) H) (hD : va_D A (rp ad E RL)) (hS0 : va_S A H0 H locs) (hm : (b, o) ∈ RL) {fs : List Value} (he : E b o = .inr (ci, fs)) (hc : cl[ci]? = some (C, T, N)) (k : Nat) (hk : k < N) (hlink : (Cond.fieldLink own index ref (T k).2.1 (T k).2.2.1).before args s = true) (hsame : ∀ x, s.fieldFound? (T k).1 (T k).2.1 (T k).2.2.1 = some x → s.fieldFound? ref (T k).2.1 (T k).2.2.1 = some x) (hfin : (T k).2.2.2 = true) (hin2 : meth.name = "<init>") (hdecl : (T k).1 = own) {ty : FieldType} {v : Value} (hd : parseFieldDescriptor (T k).2.2.1 = some ty) (hn : narrow ty v = v) (hfit : fits ty v = true) (hl : k < fs.length) (hdg : decode cc pc = .ok (.putfield index, 3))
    (kk : ∀ (H1 : Heap) (locs1 : List Loc), va_P D cl (rp ad (up2 E b o (.inr (ci, fs.set k v))) RL) H1 → va_D A (rp ad (up2 E b o (.inr (ci, fs.set k v))) RL) → va_S A H0 H1 locs1 → W p l e R s m args below meth c H1 locs1 cells slots Q (F0 m (pc + 3) ls rest)) : W p l e R s m args below meth c H locs cells slots Q (F0 m pc ls (v :: .ref (ad b o) :: rest)) := by
  obtain ⟨q0, h0⟩ := rp_get (ad := ad) (E := E) hm
  have h1 := h0
  rw [he] at h1
  exact va_putF hexec hb hts hin ty0 hty hnm hown hK hP hD hS0 q0 h1 hc k hk hlink hsame hfin hin2 hdecl hd hn hfit hl hdg (by rw [rp_set hD hm h0]; exact kk)
theorem px_iald (hexec : p.tables.exec = Jvm.exec) (hb : c.code = cc) (hK : va_K D cl tys s) (hP : va_P D cl (rp ad E RL) H) (hm : (b, o) ∈ RL) {cA : ClassId} {n : Nat} {f : Nat → Int32} (he : E b o = .inl (cA, n, .inl f)) (t0 : Nat) (ht : tys[t0]? = some (cA, .int)) {i : Nat} (hi : i < n) (hn : n < 2147483648) (hdg : decode cc pc = .ok (.iaload, 1))
    (kk : W p l e R s m args below meth c H locs cells slots Q (F0 m (pc + 1) ls (.int (f i) :: rest))) : W p l e R s m args below meth c H locs cells slots Q (F0 m pc ls (.int (nI i) :: .ref (ad b o) :: rest)) := by
  obtain ⟨q0, h0⟩ := rp_get (ad := ad) (E := E) hm
  rw [he] at h0
  exact xn_iald hexec hb hK hP q0 t0 h0 ht hi hn hdg kk
theorem px_zald (hexec : p.tables.exec = Jvm.exec) (hb : c.code = cc) (hK : va_K D cl tys s) (hP : va_P D cl (rp ad E RL) H) (hm : (b, o) ∈ RL) {cA : ClassId} {n : Nat} {f : Nat → Int32} (he : E b o = .inl (cA, n, .inl f)) (t0 : Nat) (ht : tys[t0]? = some (cA, .boolean)) {i : Nat} (hi : i < n) (hn : n < 2147483648) (hdg : decode cc pc = .ok (.baload, 1))
    (kk : W p l e R s m args below meth c H locs cells slots Q (F0 m (pc + 1) ls (.int (f i) :: rest))) : W p l e R s m args below meth c H locs cells slots Q (F0 m pc ls (.int (nI i) :: .ref (ad b o) :: rest)) := by
  obtain ⟨q0, h0⟩ := rp_get (ad := ad) (E := E) hm
  rw [he] at h0
  exact xn_zald hexec hb hK hP q0 t0 h0 ht hi hn hdg kk
theorem px_cald (hexec : p.tables.exec = Jvm.exec) (hb : c.code = cc) (hK : va_K D cl tys s) (hP : va_P D cl (rp ad E RL) H) (hm : (b, o) ∈ RL) {cA : ClassId} {n : Nat} {f : Nat → Int32} (he : E b o = .inl (cA, n, .inl f)) (t0 : Nat) (ht : tys[t0]? = some (cA, .char)) {i : Nat} (hi : i < n) (hn : n < 2147483648) (hdg : decode cc pc = .ok (.caload, 1))
    (kk : W p l e R s m args below meth c H locs cells slots Q (F0 m (pc + 1) ls (.int (f i) :: rest))) : W p l e R s m args below meth c H locs cells slots Q (F0 m pc ls (.int (nI i) :: .ref (ad b o) :: rest)) := by
  obtain ⟨q0, h0⟩ := rp_get (ad := ad) (E := E) hm
  rw [he] at h0
  exact xn_cald hexec hb hK hP q0 t0 h0 ht hi hn hdg kk
theorem px_iast (hexec : p.tables.exec = Jvm.exec) (hb : c.code = cc) (hK : va_K D cl tys s) (hP : va_P D cl (rp ad E RL) H) (hD : va_D A (rp ad E RL)) (hS : va_S A H0 H locs) (hm : (b, o) ∈ RL) {cA : ClassId} {n : Nat} {f : Nat → Int32} (he : E b o = .inl (cA, n, .inl f)) (t0 : Nat) (ht : tys[t0]? = some (cA, .int)) {i : Nat} {x : Int32} (hi : i < n) (hn : n < 2147483648) (hdg : decode cc pc = .ok (.iastore, 1))
    (kk : ∀ (H1 : Heap) (locs1 : List Loc), va_P D cl (rp ad (up2 E b o (.inl (cA, n, .inl (upd f i x)))) RL) H1 → va_D A (rp ad (up2 E b o (.inl (cA, n, .inl (upd f i x)))) RL) → va_S A H0 H1 locs1 → W p l e R s m args below meth c H1 locs1 cells slots Q (F0 m (pc + 1) ls rest)) : W p l e R s m args below meth c H locs cells slots Q (F0 m pc ls (.int x :: .int (nI i) :: .ref (ad b o) :: rest)) := by
  obtain ⟨q0, h0⟩ := rp_get (ad := ad) (E := E) hm
  have h1 := h0
  rw [he] at h1
  exact xn_iast hexec hb hK hP hD hS q0 t0 h1 ht hi hn hdg (by rw [rp_set hD hm h0]; exact kk)
theorem px_zast (hexec : p.tables.exec = Jvm.exec) (hb : c.code = cc) (hK : va_K D cl tys s) (hP : va_P D cl (rp ad E RL) H) (hD : va_D A (rp ad E RL)) (hS : va_S A H0 H locs) (hm : (b, o) ∈ RL) {cA : ClassId} {n : Nat} {f : Nat → Int32} (he : E b o = .inl (cA, n, .inl f)) (t0 : Nat) (ht : tys[t0]? = some (cA, .boolean)) {i : Nat} {x : Int32} (hi : i < n) (hn : n < 2147483648) (hdg : decode cc pc = .ok (.bastore, 1))
    (kk : ∀ (H1 : Heap) (locs1 : List Loc), va_P D cl (rp ad (up2 E b o (.inl (cA, n, .inl (upd f i (vp_nar .boolean x))))) RL) H1 → va_D A (rp ad (up2 E b o (.inl (cA, n, .inl (upd f i (vp_nar .boolean x))))) RL) → va_S A H0 H1 locs1 → W p l e R s m args below meth c H1 locs1 cells slots Q (F0 m (pc + 1) ls rest)) : W p l e R s m args below meth c H locs cells slots Q (F0 m pc ls (.int x :: .int (nI i) :: .ref (ad b o) :: rest)) := by
  obtain ⟨q0, h0⟩ := rp_get (ad := ad) (E := E) hm
  have h1 := h0
  rw [he] at h1
  exact xn_zast hexec hb hK hP hD hS q0 t0 h1 ht hi hn hdg (by rw [rp_set hD hm h0]; exact kk)
theorem px_cast (hexec : p.tables.exec = Jvm.exec) (hb : c.code = cc) (hK : va_K D cl tys s) (hP : va_P D cl (rp ad E RL) H) (hD : va_D A (rp ad E RL)) (hS : va_S A H0 H locs) (hm : (b, o) ∈ RL) {cA : ClassId} {n : Nat} {f : Nat → Int32} (he : E b o = .inl (cA, n, .inl f)) (t0 : Nat) (ht : tys[t0]? = some (cA, .char)) {i : Nat} {x : Int32} (hi : i < n) (hn : n < 2147483648) (hdg : decode cc pc = .ok (.castore, 1))
    (kk : ∀ (H1 : Heap) (locs1 : List Loc), va_P D cl (rp ad (up2 E b o (.inl (cA, n, .inl (upd f i (vp_nar .char x))))) RL) H1 → va_D A (rp ad (up2 E b o (.inl (cA, n, .inl (upd f i (vp_nar .char x))))) RL) → va_S A H0 H1 locs1 → W p l e R s m args below meth c H1 locs1 cells slots Q (F0 m (pc + 1) ls rest)) : W p l e R s m args below meth c H locs cells slots Q (F0 m pc ls (.int x :: .int (nI i) :: .ref (ad b o) :: rest)) := by
  obtain ⟨q0, h0⟩ := rp_get (ad := ad) (E := E) hm
  have h1 := h0
  rw [he] at h1
  exact xn_cast hexec hb hK hP hD hS q0 t0 h1 ht hi hn hdg (by rw [rp_set hD hm h0]; exact kk)
theorem px_aald (hexec : p.tables.exec = Jvm.exec) (hb : c.code = cc) (hK : va_K D cl tys s) (hP : va_P D cl (rp ad E RL) H) (hm : (b, o) ∈ RL) {cA : ClassId} {C : String} {n : Nat} {f : Nat → Option Nat} (he : E b o = .inl (cA, n, .inr (.inr (.inr (.inr f))))) (t0 : Nat) (ht : tys[t0]? = some (cA, .object C)) {i : Nat} {x : Option Nat} (hf : f i = x) (hi : i < n) (hn : n < 2147483648) (hdg : decode cc pc = .ok (.aaload, 1))
    (kk : W p l e R s m args below meth c H locs cells slots Q (F0 m (pc + 1) ls (va_rf x :: rest))) : W p l e R s m args below meth c H locs cells slots Q (F0 m pc ls (.int (nI i) :: .ref (ad b o) :: rest)) := by
  obtain ⟨q0, h0⟩ := rp_get (ad := ad) (E := E) hm
  rw [he] at h0
  exact va_aldq hexec hb hK hP q0 t0 h0 ht (vp_in_nI hi hn) hdg (by rw [nI_clamp (n := i) (by rw [xb_31]; omega), hf]; exact kk)
theorem px_aast (hexec : p.tables.exec = Jvm.exec) (hb : c.code = cc) (hK : va_K D cl tys s) (hP : va_P D cl (rp ad E RL) H) (hD : va_D A (rp ad E RL)) (hS : va_S A H0 H locs) (hm : (b, o) ∈ RL) {cA : ClassId} {n : Nat} {f : Nat → Option Nat} (he : E b o = .inl (cA, n, .inr (.inr (.inr (.inr f))))) (t0 : Nat) {r : vw_C} (ht : tys[t0]? = some (cA, .object r.1)) {b2 o2 ci : Nat} {vs : List Value} (hm2 : (b2, o2) ∈ RL) (hv : E b2 o2 = .inr (ci, vs)) (hc : cl[ci]? = some r) {i : Nat} (hi : i < n) (hn : n < 2147483648) (hdg : decode cc pc = .ok (.aastore, 1))
    (kk : ∀ (H1 : Heap) (locs1 : List Loc), va_P D cl (rp ad (up2 E b o (.inl (cA, n, .inr (.inr (.inr (.inr (va_up f i (some (ad b2 o2))))))))) RL) H1 → va_D A (rp ad (up2 E b o (.inl (cA, n, .inr (.inr (.inr (.inr (va_up f i (some (ad b2 o2))))))))) RL) → va_S A H0 H1 locs1 → W p l e R s m args below meth c H1 locs1 cells slots Q (F0 m (pc + 1) ls rest)) : W p l e R s m args below meth c H locs cells slots Q (F0 m pc ls (.ref (ad b2 o2) :: .int (nI i) :: .ref (ad b o) :: rest)) := by
  obtain ⟨q0, h0⟩ := rp_get (ad := ad) (E := E) hm
  obtain ⟨q1, h2⟩ := rp_get (ad := ad) (E := E) hm2
  have h1 := h0
  rw [he] at h1
  rw [hv] at h2
  exact va_astq hexec hb hK hP hD hS q0 t0 q1 ci h1 ht h2 hc (vp_in_nI hi hn) hdg (by rw [nI_clamp (n := i) (by rw [xb_31]; omega), rp_set hD hm h0]; exact kk)
theorem px_aastN (hexec : p.tables.exec = Jvm.exec) (hb : c.code = cc) (hK : va_K D cl tys s) (hP : va_P D cl (rp ad E RL) H) (hD : va_D A (rp ad E RL)) (hS : va_S A H0 H locs) (hm : (b, o) ∈ RL) {cA : ClassId} {n : Nat} {f : Nat → Option Nat} (he : E b o = .inl (cA, n, .inr (.inr (.inr (.inr f))))) (t0 : Nat) {C : String} (ht : tys[t0]? = some (cA, .object C)) {i : Nat} (hi : i < n) (hn : n < 2147483648) (hdg : decode cc pc = .ok (.aastore, 1))
    (kk : ∀ (H1 : Heap) (locs1 : List Loc), va_P D cl (rp ad (up2 E b o (.inl (cA, n, .inr (.inr (.inr (.inr (va_up f i none))))))) RL) H1 → va_D A (rp ad (up2 E b o (.inl (cA, n, .inr (.inr (.inr (.inr (va_up f i none))))))) RL) → va_S A H0 H1 locs1 → W p l e R s m args below meth c H1 locs1 cells slots Q (F0 m (pc + 1) ls rest)) : W p l e R s m args below meth c H locs cells slots Q (F0 m pc ls (.null :: .int (nI i) :: .ref (ad b o) :: rest)) := by
  obtain ⟨q0, h0⟩ := rp_get (ad := ad) (E := E) hm
  have h1 := h0
  rw [he] at h1
  exact va_astqN hexec hb hK hP hD hS q0 t0 h1 ht (vp_in_nI hi hn) hdg (by rw [nI_clamp (n := i) (by rw [xb_31]; omega), rp_set hD hm h0]; exact kk)
theorem px_alen (hexec : p.tables.exec = Jvm.exec) (hb : c.code = cc) (hK : va_K D cl tys s) (hP : va_P D cl (rp ad E RL) H) (hm : (b, o) ∈ RL) {cA : ClassId} {x : vp_A} (he : E b o = .inl (cA, x)) (t0 : Nat) {ty : FieldType} (ht : tys[t0]? = some (cA, ty)) (hdg : decode cc pc = .ok (.arraylength, 1))
    (kk : W p l e R s m args below meth c H locs cells slots Q (F0 m (pc + 1) ls (.int (nI x.1) :: rest))) : W p l e R s m args below meth c H locs cells slots Q (F0 m pc ls (.ref (ad b o) :: rest)) := by
  obtain ⟨q0, h0⟩ := rp_get (ad := ad) (E := E) hm
  rw [he] at h0
  exact va_alen hexec hb hK hP q0 t0 h0 ht (v := nI x.1) rfl hdg kk
theorem px_new {own C : String} {T : u_T} {N ci index : Nat} {Ts : List Cond} (b o : Nat) (hexec : p.tables.exec = Jvm.exec) (hb : c.code = cc) (hts : ∀ w ∈ Ts, w.before args s = true) (hin : ∀ w ∈ u_ws C T N, w ∈ Ts) (ty : Nat → FieldType) (hty : ∀ k, k < N → parseFieldDescriptor (T k).2.2.1 = some (ty k)) (hown : s.vm.findClass own = some m.cls) (hcl : (Cond.classLink own index C).before args s = true) (hinst : (Cond.instantiable C N).before args s = true) (hini : (Cond.initialized C).before args s = true)
    (hK : va_K D cl tys s) (hP : va_P D cl (rp ad E RL) H) (hD : va_D A (rp ad E RL)) (hS : va_S A H0 H locs) (hA : ∀ q, H0.size ≤ q → A q) (hc : cl[ci]? = some (C, T, N)) {fs : List Value} (hfs : ∀ j, j < N → defaultValue (ty j) = vp_V fs j) (hcells : cells + 1 ≤ R.cells) (hslots : slots + N ≤ R.slots) (hdg : decode cc pc = .ok (.new index, 3))
    (kk : ∀ (ad1 : Nat → Nat → Nat) (E1 : Nat → Nat → va_E) (RL1 : List (Nat × Nat)) (H1 : Heap), ad1 = up2 ad b o (ad1 b o) → E1 = up2 E b o (.inr (ci, fs)) → (∀ x ∈ RL, x ∈ RL1) → (b, o) ∈ RL1 → va_P D cl (rp ad1 E1 RL1) H1 → va_D A (rp ad1 E1 RL1) → va_S A H0 H1 locs →
      W p l e R s m args below meth c H1 locs (cells + 1) (slots + N) Q (F0 m (pc + 3) ls (.ref (ad1 b o) :: rest))) : W p l e R s m args below meth c H locs cells slots Q (F0 m pc ls rest) := by
  refine va_new hexec hb hts hin ty hty hown hcl hinst hini hK (rp_del_P b o hP) (rp_del_D b o hD) hS hA hc hfs hcells hslots hdg (fun q H1 hP1 hD1 hS1 => ?_)
  rw [rp_add] at hP1 hD1
  have h := kk _ _ _ H1 (by rw [up2_eq]) rfl radd_sub radd_self hP1 hD1 hS1
  rw [up2_eq] at h
  exact h
theorem px_newa {atype : ArrayType} (b o : Nat) (hexec : p.tables.exec = Jvm.exec) (hb : c.code = cc) (harr : (Cond.arrayClass (newarray.typeOf atype)).before args s = true) {ty : FieldType} (hty : newarray.typeOf atype = ty) (hra : ∀ cA : ClassId, va_RA s cA ty → s.vm.findClass ("[" ++ ty.toString) = some cA) (hK : va_K D cl tys s) (t0 : Nat) {cA0 : ClassId} (ht : tys[t0]? = some (cA0, ty)) (hP : va_P D cl (rp ad E RL) H) (hD : va_D A (rp ad E RL)) (hS : va_S A H0 H locs) (hA : ∀ q, H0.size ≤ q → A q)
    {N' : Nat} {a0 : vp_A} (ha : ∀ cA : ClassId, vp_cell cA a0 = arrV cA N' (fun _ => defaultValue ty)) (hn : N' < 2147483648) (hbytes : N' * componentBytes ty ≤ 536870912) (hcells : cells + 1 ≤ R.cells) (hslots : slots + N' ≤ R.slots) (hdg : decode cc pc = .ok (.newarray atype, 2))
    (kk : ∀ (ad1 : Nat → Nat → Nat) (E1 : Nat → Nat → va_E) (RL1 : List (Nat × Nat)) (H1 : Heap), ad1 = up2 ad b o (ad1 b o) → E1 = up2 E b o (.inl (cA0, a0)) → (∀ x ∈ RL, x ∈ RL1) → (b, o) ∈ RL1 → va_P D cl (rp ad1 E1 RL1) H1 → va_D A (rp ad1 E1 RL1) → va_S A H0 H1 locs →
      W p l e R s m args below meth c H1 locs (cells + 1) (slots + N') Q (F0 m (pc + 2) ls (.ref (ad1 b o) :: rest))) : W p l e R s m args below meth c H locs cells slots Q (F0 m pc ls (.int (nI N') :: rest)) := by
  refine xa_newa (a0 := a0) (N' := N') hexec hb harr hty hra hK t0 ht (rp_del_P b o hP) (rp_del_D b o hD) hS hA ha (nI_pos (by rw [xb_31]; exact hn)) (nI_clamp (by rw [xb_31]; exact hn)) hbytes hcells hslots hdg (fun q H1 hP1 hD1 hS1 => ?_)
  rw [rp_add] at hP1 hD1
  have h := kk _ _ _ H1 (by rw [up2_eq]) rfl radd_sub radd_self hP1 hD1 hS1
  rw [up2_eq] at h
  exact h
theorem px_newq {own C : String} {index : Nat} (b o : Nat) (hexec : p.tables.exec = Jvm.exec) (hb : c.code = cc) (hown : s.vm.findClass own = some m.cls) (hclink : (Cond.classLink own index C).before args s = true) (hover : va_AO C s) (hK : va_K D cl tys s) (t0 : Nat) {cA0 : ClassId} (ht : tys[t0]? = some (cA0, .object C)) (hP : va_P D cl (rp ad E RL) H) (hD : va_D A (rp ad E RL)) (hS : va_S A H0 H locs) (hA : ∀ q, H0.size ≤ q → A q)
    {N' : Nat} (hn : N' < 2147483648) (hbytes : N' * 4 ≤ 536870912) (hcells : cells + 1 ≤ R.cells) (hslots : slots + N' ≤ R.slots) (hdg : decode cc pc = .ok (.anewarray index, 3))
    (kk : ∀ (ad1 : Nat → Nat → Nat) (E1 : Nat → Nat → va_E) (RL1 : List (Nat × Nat)) (H1 : Heap), ad1 = up2 ad b o (ad1 b o) → E1 = up2 E b o (.inl (cA0, N', .inr (.inr (.inr (.inr (fun _ => none)))))) → (∀ x ∈ RL, x ∈ RL1) → (b, o) ∈ RL1 → va_P D cl (rp ad1 E1 RL1) H1 → va_D A (rp ad1 E1 RL1) → va_S A H0 H1 locs →
      W p l e R s m args below meth c H1 locs (cells + 1) (slots + N') Q (F0 m (pc + 3) ls (.ref (ad1 b o) :: rest))) : W p l e R s m args below meth c H locs cells slots Q (F0 m pc ls (.int (nI N') :: rest)) := by
  refine xa_newq (N' := N') hexec hb hown hclink hover hK t0 ht (rp_del_P b o hP) (rp_del_D b o hD) hS hA (nI_pos (by rw [xb_31]; exact hn)) (nI_clamp (by rw [xb_31]; exact hn)) hbytes hcells hslots hdg (fun q H1 hP1 hD1 hS1 => ?_)
  rw [rp_add] at hP1 hD1
  have h := kk _ _ _ H1 (by rw [up2_eq]) rfl radd_sub radd_self hP1 hD1 hS1
  rw [up2_eq] at h
  exact h
theorem xlabC {σ : Type} {ml : Nat} (pc0 : Nat) (lv : σ → List (Nat × Value)) (stk : σ → List Value) (wl : σ → va_W) (cs ss : σ → Nat) (I : σ → Prop) (μ : σ → Nat)
    (step : ∀ (n : Nat) (ih : ∀ (b : σ) (ls : Array Slot) (H : Heap) (locs : List Loc), μ b < n → lv_has ls ml (lv b) → va_P D cl (wl b) H → va_D A (wl b) → va_S A H0 H locs → I b → W p l e R s m args below meth c H locs (cs b) (ss b) Q (F0 m pc0 ls (stk b))) (a : σ) (ls : Array Slot) (H : Heap) (locs : List Loc), μ a = n → lv_has ls ml (lv a) → va_P D cl (wl a) H → va_D A (wl a) → va_S A H0 H locs → I a → W p l e R s m args below meth c H locs (cs a) (ss a) Q (F0 m pc0 ls (stk a)))
    (a : σ) (ls : Array Slot) (H : Heap) (locs : List Loc) (hl : lv_has ls ml (lv a)) (hP : va_P D cl (wl a) H) (hD : va_D A (wl a)) (hS : va_S A H0 H locs) (hI : I a) : W p l e R s m args below meth c H locs (cs a) (ss a) Q (F0 m pc0 ls (stk a)) := by
  have key : ∀ (n : Nat) (a : σ) (ls : Array Slot) (H : Heap) (locs : List Loc), μ a = n → lv_has ls ml (lv a) → va_P D cl (wl a) H → va_D A (wl a) → va_S A H0 H locs → I a → W p l e R s m args below meth c H locs (cs a) (ss a) Q (F0 m pc0 ls (stk a)) := by
    intro n
    induction n using Nat.strongRecOn with
    | ind n ih => exact step n (fun b ls H locs hb => ih (μ b) hb b ls H locs rfl)
  exact key (μ a) a ls H locs rfl hl hP hD hS hI
end XP
abbrev xb_Na_at : ByteArray := prog_8_method_2_code
def xy_Na_at : MethodName := ⟨"LayerDesk$Names", "at", "(I)I"⟩
abbrev xb_Na_indexOf : ByteArray := prog_8_method_3_code
def xy_Na_indexOf : MethodName := ⟨"LayerDesk$Names", "indexOf", "(I)I"⟩
abbrev xb_Na_holds : ByteArray := prog_8_method_4_code
def xy_Na_holds : MethodName := ⟨"LayerDesk$Names", "holds", "(I)Z"⟩
abbrev xb_Na_isFull : ByteArray := prog_8_method_5_code
def xy_Na_isFull : MethodName := ⟨"LayerDesk$Names", "isFull", "()Z"⟩
abbrev xb_Na_append : ByteArray := prog_8_method_6_code
def xy_Na_append : MethodName := ⟨"LayerDesk$Names", "append", "(I)V"⟩
theorem xd_Na_append_0 : decode xb_Na_append 0 = .ok (.aload_n 0, 1) := by decide +kernel
theorem xd_Na_append_1 : decode xb_Na_append 1 = .ok (.invokevirtual 23, 3) := by decide +kernel
theorem xd_Na_append_4 : decode xb_Na_append 4 = .ok (.ifCond .ne 23, 3) := by decide +kernel
theorem xd_Na_append_7 : decode xb_Na_append 7 = .ok (.aload_n 0, 1) := by decide +kernel
theorem xd_Na_append_8 : decode xb_Na_append 8 = .ok (.getfield 7, 3) := by decide +kernel
theorem xd_Na_append_11 : decode xb_Na_append 11 = .ok (.aload_n 0, 1) := by decide +kernel
theorem xd_Na_append_12 : decode xb_Na_append 12 = .ok (.getfield 13, 3) := by decide +kernel
theorem xd_Na_append_15 : decode xb_Na_append 15 = .ok (.iload_n 1, 1) := by decide +kernel
theorem xd_Na_append_16 : decode xb_Na_append 16 = .ok (.iastore, 1) := by decide +kernel
theorem xd_Na_append_17 : decode xb_Na_append 17 = .ok (.aload_n 0, 1) := by decide +kernel
theorem xd_Na_append_18 : decode xb_Na_append 18 = .ok (.dup, 1) := by decide +kernel
theorem xd_Na_append_19 : decode xb_Na_append 19 = .ok (.getfield 13, 3) := by decide +kernel
theorem xd_Na_append_22 : decode xb_Na_append 22 = .ok (.iconst 1, 1) := by decide +kernel
theorem xd_Na_append_23 : decode xb_Na_append 23 = .ok (.iadd, 1) := by decide +kernel
theorem xd_Na_append_24 : decode xb_Na_append 24 = .ok (.putfield 13, 3) := by decide +kernel
theorem xd_Na_append_27 : decode xb_Na_append 27 = .ok (.return_, 1) := by decide +kernel
theorem xd_Na_at_0 : decode xb_Na_at 0 = .ok (.iload_n 1, 1) := by decide +kernel
theorem xd_Na_at_1 : decode xb_Na_at 1 = .ok (.ifCond .lt 11, 3) := by decide +kernel
theorem xd_Na_at_4 : decode xb_Na_at 4 = .ok (.iload_n 1, 1) := by decide +kernel
theorem xd_Na_at_5 : decode xb_Na_at 5 = .ok (.aload_n 0, 1) := by decide +kernel
theorem xd_Na_at_6 : decode xb_Na_at 6 = .ok (.getfield 13, 3) := by decide +kernel
theorem xd_Na_at_9 : decode xb_Na_at 9 = .ok (.if_icmp .lt 7, 3) := by decide +kernel
theorem xd_Na_at_12 : decode xb_Na_at 12 = .ok (.iconst 0, 1) := by decide +kernel
theorem xd_Na_at_13 : decode xb_Na_at 13 = .ok (.goto 9, 3) := by decide +kernel
theorem xd_Na_at_16 : decode xb_Na_at 16 = .ok (.aload_n 0, 1) := by decide +kernel
theorem xd_Na_at_17 : decode xb_Na_at 17 = .ok (.getfield 7, 3) := by decide +kernel
theorem xd_Na_at_20 : decode xb_Na_at 20 = .ok (.iload_n 1, 1) := by decide +kernel
theorem xd_Na_at_21 : decode xb_Na_at 21 = .ok (.iaload, 1) := by decide +kernel
theorem xd_Na_at_22 : decode xb_Na_at 22 = .ok (.ireturn, 1) := by decide +kernel
theorem xd_Na_holds_0 : decode xb_Na_holds 0 = .ok (.aload_n 0, 1) := by decide +kernel
theorem xd_Na_holds_1 : decode xb_Na_holds 1 = .ok (.iload_n 1, 1) := by decide +kernel
theorem xd_Na_holds_2 : decode xb_Na_holds 2 = .ok (.invokevirtual 19, 3) := by decide +kernel
theorem xd_Na_holds_5 : decode xb_Na_holds 5 = .ok (.ifCond .lt 7, 3) := by decide +kernel
theorem xd_Na_holds_8 : decode xb_Na_holds 8 = .ok (.iconst 1, 1) := by decide +kernel
theorem xd_Na_holds_9 : decode xb_Na_holds 9 = .ok (.goto 4, 3) := by decide +kernel
theorem xd_Na_holds_12 : decode xb_Na_holds 12 = .ok (.iconst 0, 1) := by decide +kernel
theorem xd_Na_holds_13 : decode xb_Na_holds 13 = .ok (.ireturn, 1) := by decide +kernel
theorem xd_Na_indexOf_0 : decode xb_Na_indexOf 0 = .ok (.iconst 0, 1) := by decide +kernel
theorem xd_Na_indexOf_1 : decode xb_Na_indexOf 1 = .ok (.istore_n 2, 1) := by decide +kernel
theorem xd_Na_indexOf_2 : decode xb_Na_indexOf 2 = .ok (.iload_n 2, 1) := by decide +kernel
theorem xd_Na_indexOf_3 : decode xb_Na_indexOf 3 = .ok (.aload_n 0, 1) := by decide +kernel
theorem xd_Na_indexOf_4 : decode xb_Na_indexOf 4 = .ok (.getfield 13, 3) := by decide +kernel
theorem xd_Na_indexOf_7 : decode xb_Na_indexOf 7 = .ok (.if_icmp .ge 21, 3) := by decide +kernel
theorem xd_Na_indexOf_10 : decode xb_Na_indexOf 10 = .ok (.aload_n 0, 1) := by decide +kernel
theorem xd_Na_indexOf_11 : decode xb_Na_indexOf 11 = .ok (.getfield 7, 3) := by decide +kernel
theorem xd_Na_indexOf_14 : decode xb_Na_indexOf 14 = .ok (.iload_n 2, 1) := by decide +kernel
theorem xd_Na_indexOf_15 : decode xb_Na_indexOf 15 = .ok (.iaload, 1) := by decide +kernel
theorem xd_Na_indexOf_16 : decode xb_Na_indexOf 16 = .ok (.iload_n 1, 1) := by decide +kernel
theorem xd_Na_indexOf_17 : decode xb_Na_indexOf 17 = .ok (.if_icmp .ne 5, 3) := by decide +kernel
theorem xd_Na_indexOf_20 : decode xb_Na_indexOf 20 = .ok (.iload_n 2, 1) := by decide +kernel
theorem xd_Na_indexOf_21 : decode xb_Na_indexOf 21 = .ok (.ireturn, 1) := by decide +kernel
theorem xd_Na_indexOf_22 : decode xb_Na_indexOf 22 = .ok (.iinc 2 1, 3) := by decide +kernel
theorem xd_Na_indexOf_25 : decode xb_Na_indexOf 25 = .ok (.goto (-23), 3) := by decide +kernel
theorem xd_Na_indexOf_28 : decode xb_Na_indexOf 28 = .ok (.iconst (-1), 1) := by decide +kernel
theorem xd_Na_indexOf_29 : decode xb_Na_indexOf 29 = .ok (.ireturn, 1) := by decide +kernel
theorem xd_Na_isFull_0 : decode xb_Na_isFull 0 = .ok (.aload_n 0, 1) := by decide +kernel
theorem xd_Na_isFull_1 : decode xb_Na_isFull 1 = .ok (.getfield 13, 3) := by decide +kernel
theorem xd_Na_isFull_4 : decode xb_Na_isFull 4 = .ok (.aload_n 0, 1) := by decide +kernel
theorem xd_Na_isFull_5 : decode xb_Na_isFull 5 = .ok (.getfield 7, 3) := by decide +kernel
theorem xd_Na_isFull_8 : decode xb_Na_isFull 8 = .ok (.arraylength, 1) := by decide +kernel
theorem xd_Na_isFull_9 : decode xb_Na_isFull 9 = .ok (.if_icmp .lt 7, 3) := by decide +kernel
theorem xd_Na_isFull_12 : decode xb_Na_isFull 12 = .ok (.iconst 1, 1) := by decide +kernel
theorem xd_Na_isFull_13 : decode xb_Na_isFull 13 = .ok (.goto 4, 3) := by decide +kernel
theorem xd_Na_isFull_16 : decode xb_Na_isFull 16 = .ok (.iconst 0, 1) := by decide +kernel
theorem xd_Na_isFull_17 : decode xb_Na_isFull 17 = .ok (.ireturn, 1) := by decide +kernel
theorem yk_0 : (Cond.fieldLink "LayerDesk$Names" 13 "LayerDesk$Names" "size" "I") ∈ wT := wT_t (List.mem_append_right _ (List.mem_append_left _ (List.mem_of_getElem? (i := 34) rfl))) rfl
theorem yk_1 : (Cond.fieldLink "LayerDesk$Names" 7 "LayerDesk$Names" "entries" "[I") ∈ wT := wT_t (List.mem_append_right _ (List.mem_append_left _ (List.mem_of_getElem? (i := 33) rfl))) rfl
theorem yk_2 : (Cond.code xy_Na_indexOf xb_Na_indexOf 3 (some .int)) ∈ wT := wT_t (List.mem_append_right _ (List.mem_append_left _ (List.mem_of_getElem? (i := 127) rfl))) rfl
theorem yk_3 : (Cond.methodLink "LayerDesk$Names" 19 xy_Na_indexOf) ∈ wT := wT_t (List.mem_append_right _ (List.mem_append_left _ (List.mem_of_getElem? (i := 124) rfl))) rfl
theorem yk_4 : (Cond.instanceMethod xy_Na_indexOf) ∈ wT := wT_t (List.mem_append_right _ (List.mem_append_left _ (List.mem_of_getElem? (i := 125) rfl))) rfl
theorem yk_5 : (Cond.selects "LayerDesk$Names" xy_Na_indexOf xy_Na_indexOf) ∈ wT := wT_t (List.mem_append_right _ (List.mem_append_left _ (List.mem_of_getElem? (i := 126) rfl))) rfl
theorem yk_6 : (Cond.initialized "LayerDesk$Names") ∈ wT := wT_t (List.mem_append_left _ (List.mem_of_getElem? (i := 11) rfl)) rfl
theorem yk_7 : (Cond.code xy_Na_isFull xb_Na_isFull 1 (some .boolean)) ∈ wT := wT_t (List.mem_append_right _ (List.mem_append_left _ (List.mem_of_getElem? (i := 131) rfl))) rfl
theorem yk_8 : (Cond.methodLink "LayerDesk$Names" 23 xy_Na_isFull) ∈ wT := wT_t (List.mem_append_right _ (List.mem_append_left _ (List.mem_of_getElem? (i := 155) rfl))) rfl
theorem yk_9 : (Cond.instanceMethod xy_Na_isFull) ∈ wT := wT_t (List.mem_append_right _ (List.mem_append_left _ (List.mem_of_getElem? (i := 129) rfl))) rfl
theorem yk_10 : (Cond.selects "LayerDesk$Names" xy_Na_isFull xy_Na_isFull) ∈ wT := wT_t (List.mem_append_right _ (List.mem_append_left _ (List.mem_of_getElem? (i := 130) rfl))) rfl
set_option maxHeartbeats 4000000 in
set_option maxRecDepth 100000 in
theorem xc_Na_at (l : Launch) (D : va_G) (kA : Nat → ClassId) (sz : Nat) (ad : Nat → Nat → Nat) (E : Nat → Nat → va_E) (RL : List (Nat × Nat)) (b : Nat) (o : Nat) (oa : Nat) (cp : Nat) (n : Nat) (f : Nat → Int32) (k : Nat) (ym0 : (b, o) ∈ RL) (yc0 : E b o = .inr (8, [.ref (ad b oa), .int (nI n)])) (ym1 : (b, oa) ∈ RL) (yc1 : E b oa = .inl (kA 0, cp, .inl f)) (hn : n ≤ cp) (hcp : cp ≤ 12) (hk : k ≤ 100) : Met l xy_Na_at (.code xy_Na_at xb_Na_at 2 (some .int) :: wT) { frames := 0, cells := 0, slots := 0, locals := 0 } (va_Pc [.ref (ad b o), .int (nI k)] (xPre D kA sz (rp ad E RL))) (va_Qi (fun (r : Int32) (u : Unit) => (k < n ∧ r = f k) ∨ (n ≤ k ∧ r = 0)) (fun (u : Unit) t => va_P D xcl (rp ad E RL) t.heap ∧ va_D (va_A (rp ad E RL) sz) (rp ad E RL)) (va_A (rp ad E RL) sz)) 0 0 (va_A (rp ad E RL) sz) := by
  refine Met.ofW (cc := xb_Na_at) (maxL := 2) (ret := (some .int)) (by decide) rfl ?_
  intro p e s m args below meth c s₁ B hml hv
  obtain ⟨rfl, hsz, hP, hK, hD0⟩ := hv
  have hx := B.exec
  have hb := B.bytes
  have hr := B.returns
  have hT := x_hT B.pre
  have hown : s.vm.findClass xR_Na = some m.cls := findClass_of_methodNamed B.named
  have hlocks := B.notSynchronized
  subst hsz
  have hD := hD0.self (sz := s.heap.size)
  generalize hAe : va_A (rp ad E RL) s.heap.size = A at hD ⊢
  have hA : ∀ q : Nat, s.heap.size ≤ q → A q := fun q h => by rw [← hAe]; exact Or.inr h
  have hS : va_S A s.heap s.heap [] := va_S.rf
  have hl := lv_entry ([.ref (ad b o), .int (nI k)]) (n := 2) (Nat.le_of_ble_eq_true rfl)
  rw [lg_entry_eq]
  generalize (lg_sl ([.ref (ad b o), .int (nI k)]) ++ List.replicate (2 - (lg_sl ([.ref (ad b o), .int (nI k)])).length) Slot.unset).toArray = ls at hl ⊢
  have hl : lv_has ls 2 [(0, .ref (ad b o)), (1, .int (nI k))] := hl
  have hP : va_P D xcl (rp ad E RL) s.heap := hP
  refine lv_iload_n hx hb xd_Na_at_0 rfl (lv_at hl 1 rfl) ?_
  refine xz_lt (a := k) (tgt := 12) hx hb xd_Na_at_1 (by decide) (by omega) ?_
  refine lv_iload_n hx hb xd_Na_at_4 rfl (lv_at hl 1 rfl) ?_
  refine lv_aload_n hx hb xd_Na_at_5 rfl (lv_at hl 0 rfl) ?_
  refine px_get (D := D) (ci := 8) (v := .int (nI n)) (C := xR_Na) (T := xT_Na) (N := 2) hx hb hT xi_Na hown hK.1 hP ym0 yc0 rfl 1 (by decide) (hT _ yk_0) (fun _ h9 => h9) rfl xd_Na_at_6 ?_
  refine xn_lt (a := k) (b := n) (tgt := 16) hx hb xd_Na_at_9 (by decide) (by omega) (by omega) (fun hc2 => ?_) (fun hc2 => ?_)
  · refine lv_aload_n hx hb xd_Na_at_16 rfl (lv_at hl 0 rfl) ?_
    refine px_get (D := D) (ci := 8) (v := .ref (ad b oa)) (C := xR_Na) (T := xT_Na) (N := 2) hx hb hT xi_Na hown hK.1 hP ym0 yc0 rfl 0 (by decide) (hT _ yk_1) (fun _ h9 => h9) rfl xd_Na_at_17 ?_
    refine lv_iload_n hx hb xd_Na_at_20 rfl (lv_at hl 1 rfl) ?_
    refine px_iald (i := k) hx hb hK.1 hP ym1 yc1 0 rfl (by omega) (by omega) xd_Na_at_21 ?_
    exact W.iret (v := (f k)) hx hb hr (fun t ht hW => ⟨⟨(f k), (), rfl, Or.inl ⟨by omega, rfl⟩, by rw [ht]; exact hP, hD⟩, hS.F ht⟩) hS.2.2 xd_Na_at_22
  · refine lv_iconst (v := 0) hx hb xd_Na_at_12 (by decide) ?_
    refine lv_goto (tgt := 22) hx hb xd_Na_at_13 (by decide) ?_
    exact W.iret (v := 0) hx hb hr (fun t ht hW => ⟨⟨0, (), rfl, Or.inr ⟨by omega, rfl⟩, by rw [ht]; exact hP, hD⟩, hS.F ht⟩) hS.2.2 xd_Na_at_22
set_option maxHeartbeats 4000000 in
set_option maxRecDepth 100000 in
theorem xc_Na_indexOf (l : Launch) (D : va_G) (kA : Nat → ClassId) (sz : Nat) (ad : Nat → Nat → Nat) (E : Nat → Nat → va_E) (RL : List (Nat × Nat)) (b : Nat) (o : Nat) (oa : Nat) (cp : Nat) (n : Nat) (f : Nat → Int32) (nm : Int32) (ym0 : (b, o) ∈ RL) (yc0 : E b o = .inr (8, [.ref (ad b oa), .int (nI n)])) (ym1 : (b, oa) ∈ RL) (yc1 : E b oa = .inl (kA 0, cp, .inl f)) (hn : n ≤ cp) (hcp : cp ≤ 12) : Met l xy_Na_indexOf (.code xy_Na_indexOf xb_Na_indexOf 3 (some .int) :: wT) { frames := 0, cells := 0, slots := 0, locals := 0 } (va_Pc [.ref (ad b o), .int nm] (xPre D kA sz (rp ad E RL))) (va_Qi (fun (r : Int32) (u : Unit) => (∃ k, k < n ∧ r = nI k ∧ f k = nm ∧ ∀ j, j < k → ¬ f j = nm) ∨ (r = -1 ∧ ∀ j, j < n → ¬ f j = nm)) (fun (u : Unit) t => va_P D xcl (rp ad E RL) t.heap ∧ va_D (va_A (rp ad E RL) sz) (rp ad E RL)) (va_A (rp ad E RL) sz)) 0 0 (va_A (rp ad E RL) sz) := by
  refine Met.ofW (cc := xb_Na_indexOf) (maxL := 3) (ret := (some .int)) (by decide) rfl ?_
  intro p e s m args below meth c s₁ B hml hv
  obtain ⟨rfl, hsz, hP, hK, hD0⟩ := hv
  have hx := B.exec
  have hb := B.bytes
  have hr := B.returns
  have hT := x_hT B.pre
  have hown : s.vm.findClass xR_Na = some m.cls := findClass_of_methodNamed B.named
  have hlocks := B.notSynchronized
  subst hsz
  have hD := hD0.self (sz := s.heap.size)
  generalize hAe : va_A (rp ad E RL) s.heap.size = A at hD ⊢
  have hA : ∀ q : Nat, s.heap.size ≤ q → A q := fun q h => by rw [← hAe]; exact Or.inr h
  have hS : va_S A s.heap s.heap [] := va_S.rf
  have hl := lv_entry ([.ref (ad b o), .int nm]) (n := 3) (Nat.le_of_ble_eq_true rfl)
  rw [lg_entry_eq]
  generalize (lg_sl ([.ref (ad b o), .int nm]) ++ List.replicate (3 - (lg_sl ([.ref (ad b o), .int nm])).length) Slot.unset).toArray = ls at hl ⊢
  have hl : lv_has ls 3 [(0, .ref (ad b o)), (1, .int nm)] := hl
  have hP : va_P D xcl (rp ad E RL) s.heap := hP
  refine lv_iconst (v := 0) hx hb xd_Na_indexOf_0 (by decide) ?_
  refine lv_istore_n hx hb xd_Na_indexOf_1 rfl hl (Nat.le_of_ble_eq_true rfl) rfl (fun ls hl => ?_)
  have hl : lv_has ls 3 [(2, .int 0), (0, .ref (ad b o)), (1, .int nm)] := hl
  refine xlab (σ := Nat) (ml := 3) 2 (fun (i : Nat) => [(2, .int (nI i)), (0, .ref (ad b o)), (1, .int nm)]) (fun (i : Nat) => []) (fun (i : Nat) => rp ad E RL) (fun (i : Nat) => (i ≤ n) ∧ (∀ j, j < i → ¬ f j = nm)) (fun (i : Nat) => n - i) ?_ 0 _ _ _ (lv_sub hl [0, 1, 2] rfl) hP hD hS ⟨(show 0 ≤ n from by first | assumption | omega), (show ∀ j, j < 0 → ¬ f j = nm from fun j hj => absurd hj (by omega))⟩
  intro n9 ih1 a9 ls H locs hμ hl hP hD hS hI
  subst hμ
  obtain ⟨i, rfl⟩ : ∃ z, z = a9 := ⟨_, rfl⟩
  obtain ⟨hi, hno⟩ := hI
  have hi : i ≤ n := hi
  have hno : ∀ j, j < i → ¬ f j = nm := hno
  have hl : lv_has ls 3 [(2, .int (nI i)), (0, .ref (ad b o)), (1, .int nm)] := hl
  have hP : va_P D xcl (rp ad E RL) H := hP
  have hD : va_D A (rp ad E RL) := hD
  refine lv_iload_n hx hb xd_Na_indexOf_2 rfl (lv_at hl 0 rfl) ?_
  refine lv_aload_n hx hb xd_Na_indexOf_3 rfl (lv_at hl 1 rfl) ?_
  refine px_get (D := D) (ci := 8) (v := .int (nI n)) (C := xR_Na) (T := xT_Na) (N := 2) hx hb hT xi_Na hown hK.1 hP ym0 yc0 rfl 1 (by decide) (hT _ yk_0) (fun _ h9 => h9) rfl xd_Na_indexOf_4 ?_
  refine xn_ge (a := i) (b := n) (tgt := 28) hx hb xd_Na_indexOf_7 (by decide) (by omega) (by omega) (fun hc2 => ?_) (fun hc2 => ?_)
  · refine lv_iconst (v := (-1)) hx hb xd_Na_indexOf_28 (by decide) ?_
    exact W.iret (v := (-1)) hx hb hr (fun t ht hW => ⟨⟨(-1), (), rfl, Or.inr ⟨rfl, fun j hj => hno j (by omega)⟩, by rw [ht]; exact hP, hD⟩, hS.F ht⟩) hS.2.2 xd_Na_indexOf_29
  · refine lv_aload_n hx hb xd_Na_indexOf_10 rfl (lv_at hl 1 rfl) ?_
    refine px_get (D := D) (ci := 8) (v := .ref (ad b oa)) (C := xR_Na) (T := xT_Na) (N := 2) hx hb hT xi_Na hown hK.1 hP ym0 yc0 rfl 0 (by decide) (hT _ yk_1) (fun _ h9 => h9) rfl xd_Na_indexOf_11 ?_
    refine lv_iload_n hx hb xd_Na_indexOf_14 rfl (lv_at hl 0 rfl) ?_
    refine px_iald (i := i) hx hb hK.1 hP ym1 yc1 0 rfl (by omega) (by omega) xd_Na_indexOf_15 ?_
    refine lv_iload_n hx hb xd_Na_indexOf_16 rfl (lv_at hl 2 rfl) ?_
    refine lv_icmp_ne (tgt := 22) hx hb xd_Na_indexOf_17 (by decide) (fun hc3 => ?_) (fun hc3 => ?_)
    · refine lv_iinc (k := 0) (x := (nI i)) (v := (nI (i + 1))) hx hb xd_Na_indexOf_22 hl rfl (xb_inc i 1) (Nat.le_of_ble_eq_true rfl) rfl (fun ls hl => ?_)
      have hl : lv_has ls 3 [(2, .int (nI (i + 1))), (0, .ref (ad b o)), (1, .int nm)] := hl
      refine lv_goto (tgt := 2) hx hb xd_Na_indexOf_25 (by decide) ?_
      exact ih1 (i + 1) _ _ _ (show n - (i + 1) < n - i by omega) (lv_sub hl [0, 1, 2] rfl) hP hD hS ⟨(show (i + 1) ≤ n from by first | assumption | omega), (show ∀ j, j < (i + 1) → ¬ f j = nm from lt_s hno hc3)⟩
    · refine lv_iload_n hx hb xd_Na_indexOf_20 rfl (lv_at hl 0 rfl) ?_
      exact W.iret (v := (nI i)) hx hb hr (fun t ht hW => ⟨⟨(nI i), (), rfl, Or.inl ⟨i, by omega, rfl, hc3, hno⟩, by rw [ht]; exact hP, hD⟩, hS.F ht⟩) hS.2.2 xd_Na_indexOf_21
set_option maxHeartbeats 4000000 in
set_option maxRecDepth 100000 in
theorem xc_Na_holds (l : Launch) (D : va_G) (kA : Nat → ClassId) (sz : Nat) (ad : Nat → Nat → Nat) (E : Nat → Nat → va_E) (RL : List (Nat × Nat)) (b : Nat) (o : Nat) (oa : Nat) (cp : Nat) (n : Nat) (f : Nat → Int32) (nm : Int32) (ym0 : (b, o) ∈ RL) (yc0 : E b o = .inr (8, [.ref (ad b oa), .int (nI n)])) (ym1 : (b, oa) ∈ RL) (yc1 : E b oa = .inl (kA 0, cp, .inl f)) (hn : n ≤ cp) (hcp : cp ≤ 12) : Met l xy_Na_holds (.code xy_Na_holds xb_Na_holds 2 (some .boolean) :: wT) { frames := 1, cells := 0, slots := 0, locals := 22 } (va_Pc [.ref (ad b o), .int nm] (xPre D kA sz (rp ad E RL))) (va_Qi (fun (r : Int32) (u : Unit) => (r = 1 ∧ ∃ k, k < n ∧ f k = nm) ∨ (r = 0 ∧ ∀ j, j < n → ¬ f j = nm)) (fun (u : Unit) t => va_P D xcl (rp ad E RL) t.heap ∧ va_D (va_A (rp ad E RL) sz) (rp ad E RL)) (va_A (rp ad E RL) sz)) 0 0 (va_A (rp ad E RL) sz) := by
  refine Met.ofW (cc := xb_Na_holds) (maxL := 2) (ret := (some .boolean)) (by decide) rfl ?_
  intro p e s m args below meth c s₁ B hml hv
  obtain ⟨rfl, hsz, hP, hK, hD0⟩ := hv
  have hx := B.exec
  have hb := B.bytes
  have hr := B.returns
  have hT := x_hT B.pre
  have hown : s.vm.findClass xR_Na = some m.cls := findClass_of_methodNamed B.named
  have hlocks := B.notSynchronized
  subst hsz
  have hD := hD0.self (sz := s.heap.size)
  generalize hAe : va_A (rp ad E RL) s.heap.size = A at hD ⊢
  have hA : ∀ q : Nat, s.heap.size ≤ q → A q := fun q h => by rw [← hAe]; exact Or.inr h
  have hS : va_S A s.heap s.heap [] := va_S.rf
  have hl := lv_entry ([.ref (ad b o), .int nm]) (n := 2) (Nat.le_of_ble_eq_true rfl)
  rw [lg_entry_eq]
  generalize (lg_sl ([.ref (ad b o), .int nm]) ++ List.replicate (2 - (lg_sl ([.ref (ad b o), .int nm])).length) Slot.unset).toArray = ls at hl ⊢
  have hl : lv_has ls 2 [(0, .ref (ad b o)), (1, .int nm)] := hl
  have hP : va_P D xcl (rp ad E RL) s.heap := hP
  refine lv_aload_n hx hb xd_Na_holds_0 rfl (lv_at hl 0 rfl) ?_
  refine lv_iload_n hx hb xd_Na_holds_1 rfl (lv_at hl 1 rfl) ?_
  have hFc := px_free hD hS hA
  refine va_calli (va_runV (As := [.int nm]) (rest := []) ⟨hx, hb, hml, hown, hT⟩ (xc_Na_indexOf l D kA s.heap.size ad E RL b o oa cp n f nm ym0 yc0 ym1 yc1 (by first | assumption | omega) (by first | assumption | omega)) (cwV 1 hT (wT_V yk_3 yk_4 yk_5 yk_6 yk_2) rfl rfl rfl (by decide +kernel) ⟨Nat.le_of_ble_eq_true rfl, Nat.le_of_ble_eq_true rfl⟩) (px_preV hK hP hD ym0 yc0 rfl) rfl rfl hl.1 rfl (lv_room (Nat.le_of_ble_eq_true rfl)) xd_Na_holds_2 ⟨(Nat.le_of_ble_eq_true rfl), (Nat.le_of_ble_eq_true rfl)⟩) hS (fun q _ h => hFc q h) hFc (fun r1 u2 t H1 locs ht hvm hp3 hB hz1 hk1 hS => ?_)
  obtain ⟨hP1, hD1⟩ := hB
  rw [ht] at hP1
  have hD1 := hD1.weaken (fun _ _ _ h => hFc _ h)
  generalize H1 = H at hP1 hS ⊢
  have hP := hP1
  have hD := hD1
  have hP : va_P D xcl (rp ad E RL) H := hP
  have hD : va_D A (rp ad E RL) := hD
  rcases hp3 with ⟨z4, z5, rfl, z6, z7⟩ | ⟨rfl, z8⟩
  · refine W.eq (g2 := F0 m 5 ls [.int (nI z4)]) rfl ?_
    refine xz_lt (a := z4) (tgt := 12) hx hb xd_Na_holds_5 (by decide) (by omega) ?_
    refine lv_iconst (v := 1) hx hb xd_Na_holds_8 (by decide) ?_
    refine lv_goto (tgt := 13) hx hb xd_Na_holds_9 (by decide) ?_
    exact W.zret (v := 1) hx hb hr rfl (fun t ht hW => ⟨⟨1, (), rfl, Or.inl ⟨rfl, z4, z5, z6⟩, by rw [ht]; exact hP, hD⟩, hS.F ht⟩) hS.2.2 xd_Na_holds_13
  · refine W.eq (g2 := F0 m 5 ls [.int (-1)]) rfl ?_
    refine lv_if_lt (tgt := 12) hx hb xd_Na_holds_5 (by decide) (fun _ => ?_) (fun hc10 => absurd (by decide) hc10)
    refine lv_iconst (v := 0) hx hb xd_Na_holds_12 (by decide) ?_
    exact W.zret (v := 0) hx hb hr rfl (fun t ht hW => ⟨⟨0, (), rfl, Or.inr ⟨rfl, z8⟩, by rw [ht]; exact hP, hD⟩, hS.F ht⟩) hS.2.2 xd_Na_holds_13
set_option maxHeartbeats 4000000 in
set_option maxRecDepth 100000 in
theorem xc_Na_isFull (l : Launch) (D : va_G) (kA : Nat → ClassId) (sz : Nat) (ad : Nat → Nat → Nat) (E : Nat → Nat → va_E) (RL : List (Nat × Nat)) (b : Nat) (o : Nat) (oa : Nat) (cp : Nat) (n : Nat) (f : Nat → Int32) (ym0 : (b, o) ∈ RL) (yc0 : E b o = .inr (8, [.ref (ad b oa), .int (nI n)])) (ym1 : (b, oa) ∈ RL) (yc1 : E b oa = .inl (kA 0, cp, .inl f)) (hn : n ≤ cp) (hcp : cp ≤ 12) : Met l xy_Na_isFull (.code xy_Na_isFull xb_Na_isFull 1 (some .boolean) :: wT) { frames := 0, cells := 0, slots := 0, locals := 0 } (va_Pc [.ref (ad b o)] (xPre D kA sz (rp ad E RL))) (va_Qi (fun (r : Int32) (u : Unit) => (r = 1 ∧ cp ≤ n) ∨ (r = 0 ∧ n < cp)) (fun (u : Unit) t => va_P D xcl (rp ad E RL) t.heap ∧ va_D (va_A (rp ad E RL) sz) (rp ad E RL)) (va_A (rp ad E RL) sz)) 0 0 (va_A (rp ad E RL) sz) := by
  refine Met.ofW (cc := xb_Na_isFull) (maxL := 1) (ret := (some .boolean)) (by decide) rfl ?_
  intro p e s m args below meth c s₁ B hml hv
  obtain ⟨rfl, hsz, hP, hK, hD0⟩ := hv
  have hx := B.exec
  have hb := B.bytes
  have hr := B.returns
  have hT := x_hT B.pre
  have hown : s.vm.findClass xR_Na = some m.cls := findClass_of_methodNamed B.named
  have hlocks := B.notSynchronized
  subst hsz
  have hD := hD0.self (sz := s.heap.size)
  generalize hAe : va_A (rp ad E RL) s.heap.size = A at hD ⊢
  have hA : ∀ q : Nat, s.heap.size ≤ q → A q := fun q h => by rw [← hAe]; exact Or.inr h
  have hS : va_S A s.heap s.heap [] := va_S.rf
  have hl := lv_entry ([.ref (ad b o)]) (n := 1) (Nat.le_of_ble_eq_true rfl)
  rw [lg_entry_eq]
  generalize (lg_sl ([.ref (ad b o)]) ++ List.replicate (1 - (lg_sl ([.ref (ad b o)])).length) Slot.unset).toArray = ls at hl ⊢
  have hl : lv_has ls 1 [(0, .ref (ad b o))] := hl
  have hP : va_P D xcl (rp ad E RL) s.heap := hP
  refine lv_aload_n hx hb xd_Na_isFull_0 rfl (lv_at hl 0 rfl) ?_
  refine px_get (D := D) (ci := 8) (v := .int (nI n)) (C := xR_Na) (T := xT_Na) (N := 2) hx hb hT xi_Na hown hK.1 hP ym0 yc0 rfl 1 (by decide) (hT _ yk_0) (fun _ h9 => h9) rfl xd_Na_isFull_1 ?_
  refine lv_aload_n hx hb xd_Na_isFull_4 rfl (lv_at hl 0 rfl) ?_
  refine px_get (D := D) (ci := 8) (v := .ref (ad b oa)) (C := xR_Na) (T := xT_Na) (N := 2) hx hb hT xi_Na hown hK.1 hP ym0 yc0 rfl 0 (by decide) (hT _ yk_1) (fun _ h9 => h9) rfl xd_Na_isFull_5 ?_
  refine px_alen hx hb hK.1 hP ym1 yc1 0 rfl xd_Na_isFull_8 ?_
  refine W.eq (g2 := F0 m 9 ls [.int (nI cp), .int (nI n)]) rfl ?_
  refine xn_lt (a := n) (b := cp) (tgt := 16) hx hb xd_Na_isFull_9 (by decide) (by omega) (by omega) (fun hc1 => ?_) (fun hc1 => ?_)
  · refine lv_iconst (v := 0) hx hb xd_Na_isFull_16 (by decide) ?_
    exact W.zret (v := 0) hx hb hr rfl (fun t ht hW => ⟨⟨0, (), rfl, Or.inr ⟨rfl, by omega⟩, by rw [ht]; exact hP, hD⟩, hS.F ht⟩) hS.2.2 xd_Na_isFull_17
  · refine lv_iconst (v := 1) hx hb xd_Na_isFull_12 (by decide) ?_
    refine lv_goto (tgt := 17) hx hb xd_Na_isFull_13 (by decide) ?_
    exact W.zret (v := 1) hx hb hr rfl (fun t ht hW => ⟨⟨1, (), rfl, Or.inl ⟨rfl, by omega⟩, by rw [ht]; exact hP, hD⟩, hS.F ht⟩) hS.2.2 xd_Na_isFull_17
set_option maxHeartbeats 4000000 in
set_option maxRecDepth 100000 in
theorem xc_Na_append (l : Launch) (D : va_G) (kA : Nat → ClassId) (sz : Nat) (ad : Nat → Nat → Nat) (E : Nat → Nat → va_E) (RL : List (Nat × Nat)) (b : Nat) (o : Nat) (oa : Nat) (cp : Nat) (n : Nat) (f : Nat → Int32) (nm : Int32) (ym0 : (b, o) ∈ RL) (yc0 : E b o = .inr (8, [.ref (ad b oa), .int (nI n)])) (ym1 : (b, oa) ∈ RL) (yc1 : E b oa = .inl (kA 0, cp, .inl f)) (hn : n ≤ cp) (hcp : cp ≤ 12) (hoa : o ≠ oa) : Met l xy_Na_append (.code xy_Na_append xb_Na_append 2 none :: wT) { frames := 1, cells := 0, slots := 0, locals := 20 } (va_Pc [.ref (ad b o), .int nm] (xPre D kA sz (rp ad E RL))) (va_Qv (fun (u : Nat → Nat → va_E) => ∃ n2 : Nat, ∃ f2 : Nat → Int32, (n2 ≤ cp ∧ ((n < cp ∧ n2 = n + 1 ∧ f2 = upd f n nm) ∨ (cp ≤ n ∧ n2 = n ∧ f2 = f))) ∧ (u b o = .inr (8, [.ref (ad b oa), .int (nI n2)])) ∧ (u b oa = .inl (kA 0, cp, .inl f2)) ∧ ((∀ b2 o2, ¬ (b2 = b ∧ o2 = o) → ¬ (b2 = b ∧ o2 = oa) → u b2 o2 = E b2 o2))) (fun (u : Nat → Nat → va_E) t => va_P D xcl (rp ad u RL) t.heap ∧ va_D (va_A (rp ad E RL) sz) (rp ad u RL)) (va_A (rp ad E RL) sz)) 0 0 (va_A (rp ad E RL) sz) := by
  refine Met.ofW (cc := xb_Na_append) (maxL := 2) (ret := none) (by decide) rfl ?_
  intro p e s m args below meth c s₁ B hml hv
  obtain ⟨rfl, hsz, hP, hK, hD0⟩ := hv
  have hx := B.exec
  have hb := B.bytes
  have hr := B.returns
  have hT := x_hT B.pre
  have hown : s.vm.findClass xR_Na = some m.cls := findClass_of_methodNamed B.named
  have hlocks := B.notSynchronized
  subst hsz
  have hD := hD0.self (sz := s.heap.size)
  generalize hAe : va_A (rp ad E RL) s.heap.size = A at hD ⊢
  have hA : ∀ q : Nat, s.heap.size ≤ q → A q := fun q h => by rw [← hAe]; exact Or.inr h
  have hS : va_S A s.heap s.heap [] := va_S.rf
  have hl := lv_entry ([.ref (ad b o), .int nm]) (n := 2) (Nat.le_of_ble_eq_true rfl)
  rw [lg_entry_eq]
  generalize (lg_sl ([.ref (ad b o), .int nm]) ++ List.replicate (2 - (lg_sl ([.ref (ad b o), .int nm])).length) Slot.unset).toArray = ls at hl ⊢
  have hl : lv_has ls 2 [(0, .ref (ad b o)), (1, .int nm)] := hl
  have hP : va_P D xcl (rp ad E RL) s.heap := hP
  refine lv_aload_n hx hb xd_Na_append_0 rfl (lv_at hl 0 rfl) ?_
  have hFc := px_free hD hS hA
  refine va_calli (va_runV (As := []) (rest := []) ⟨hx, hb, hml, hown, hT⟩ (xc_Na_isFull l D kA s.heap.size ad E RL b o oa cp n f ym0 yc0 ym1 yc1 (by first | assumption | omega) (by first | assumption | omega)) (cwV 0 hT (wT_V yk_8 yk_9 yk_10 yk_6 yk_7) rfl rfl rfl (by decide +kernel) ⟨Nat.le_of_ble_eq_true rfl, Nat.le_of_ble_eq_true rfl⟩) (px_preV hK hP hD ym0 yc0 rfl) rfl rfl hl.1 rfl (lv_room (Nat.le_of_ble_eq_true rfl)) xd_Na_append_1 ⟨(Nat.le_of_ble_eq_true rfl), (Nat.le_of_ble_eq_true rfl)⟩) hS (fun q _ h => hFc q h) hFc (fun r1 u2 t H1 locs ht hvm hp3 hB hz1 hk1 hS => ?_)
  obtain ⟨hP1, hD1⟩ := hB
  rw [ht] at hP1
  have hD1 := hD1.weaken (fun _ _ _ h => hFc _ h)
  generalize H1 = H at hP1 hS ⊢
  have hP := hP1
  have hD := hD1
  have hP : va_P D xcl (rp ad E RL) H := hP
  have hD : va_D A (rp ad E RL) := hD
  rcases hp3 with ⟨rfl, z4⟩ | ⟨rfl, z5⟩
  · refine W.eq (g2 := F0 m 4 ls [.int 1]) rfl ?_
    refine lv_if_ne (tgt := 27) hx hb xd_Na_append_4 (by decide) (fun _ => ?_) (fun hc6 => absurd hc6 (by decide))
    exact W.vret hx hb hr (fun t ht hW => ⟨⟨E, rfl, ⟨n, f, ⟨by omega, Or.inr ⟨by omega, rfl, rfl⟩⟩, yc0, yc1, (fun b2 o2 h09 h19 => rfl)⟩, by rw [ht]; exact hP, hD⟩, hS.F ht⟩) hS.2.2 xd_Na_append_27
  · refine W.eq (g2 := F0 m 4 ls [.int 0]) rfl ?_
    refine lv_if_ne (tgt := 27) hx hb xd_Na_append_4 (by decide) (fun hc7 => absurd (by decide) hc7) (fun _ => ?_)
    refine lv_aload_n hx hb xd_Na_append_7 rfl (lv_at hl 0 rfl) ?_
    refine px_get (D := D) (ci := 8) (v := .ref (ad b oa)) (C := xR_Na) (T := xT_Na) (N := 2) hx hb hT xi_Na hown hK.1 hP ym0 yc0 rfl 0 (by decide) (hT _ yk_1) (fun _ h9 => h9) rfl xd_Na_append_8 ?_
    refine lv_aload_n hx hb xd_Na_append_11 rfl (lv_at hl 0 rfl) ?_
    refine px_get (D := D) (ci := 8) (v := .int (nI n)) (C := xR_Na) (T := xT_Na) (N := 2) hx hb hT xi_Na hown hK.1 hP ym0 yc0 rfl 1 (by decide) (hT _ yk_0) (fun _ h9 => h9) rfl xd_Na_append_12 ?_
    refine lv_iload_n hx hb xd_Na_append_15 rfl (lv_at hl 1 rfl) ?_
    refine px_iast (i := n) hx hb hK.1 hP hD hS ym1 yc1 0 rfl (by omega) (by omega) xd_Na_append_16 (fun H locs hP hD hS => ?_)
    have hP : va_P D xcl (rp ad (up2 E b oa (.inl (kA 0, cp, .inl (upd f n nm)))) RL) H := hP
    have hD : va_D A (rp ad (up2 E b oa (.inl (kA 0, cp, .inl (upd f n nm)))) RL) := hD
    generalize hE9 : up2 E b oa (.inl (kA 0, cp, .inl (upd f n nm))) = E8 at hP hD
    have fE10 : ∀ b2 o2, ¬ (b2 = b ∧ o2 = oa) → E8 b2 o2 = E b2 o2 := fun b2 o2 h9 => by rw [← hE9]; exact up2_ne (nr_or h9)
    have c_11 : E8 b oa = .inl (kA 0, cp, .inl (upd f n nm)) := by rw [← hE9]; exact up2_eq
    have c_12 : E8 b o = .inr (8, [.ref (ad b oa), .int (nI n)]) := (fE10 b o (by omega)).trans yc0
    refine lv_aload_n hx hb xd_Na_append_17 rfl (lv_at hl 0 rfl) ?_
    refine lv_dup hx hb xd_Na_append_18 rfl ?_
    refine px_get (D := D) (ci := 8) (v := .int (nI n)) (C := xR_Na) (T := xT_Na) (N := 2) hx hb hT xi_Na hown hK.1 hP ym0 c_12 rfl 1 (by decide) (hT _ yk_0) (fun _ h9 => h9) rfl xd_Na_append_19 ?_
    refine lv_iconst (v := 1) hx hb xd_Na_append_22 (by decide) ?_
    refine lv_iadd hx hb xd_Na_append_23 ?_
    refine xn_top (y := nI (n + 1)) (nI_add n 1) ?_
    refine px_put (D := D) (ci := 8) (v := .int (nI (n + 1))) (ty := .int) (C := xR_Na) (T := xT_Na) (N := 2) hx hb hT xi_Na xt_Na xt_Na_ok xn_Na hown hK.1 hP hD hS ym0 c_12 rfl 1 (by decide) (hT _ yk_0) (fun _ h9 => h9) rfl (by decide +kernel) rfl rfl (Nat.le_of_ble_eq_true rfl) xd_Na_append_24 (fun H locs hP hD hS => ?_)
    have hP : va_P D xcl (rp ad (up2 E8 b o (.inr (8, [.ref (ad b oa), .int (nI (n + 1))]))) RL) H := hP
    have hD : va_D A (rp ad (up2 E8 b o (.inr (8, [.ref (ad b oa), .int (nI (n + 1))]))) RL) := hD
    generalize hE14 : up2 E8 b o (.inr (8, [.ref (ad b oa), .int (nI (n + 1))])) = E13 at hP hD
    have fE15 : ∀ b2 o2, ¬ (b2 = b ∧ o2 = o) → E13 b2 o2 = E8 b2 o2 := fun b2 o2 h9 => by rw [← hE14]; exact up2_ne (nr_or h9)
    have c_16 : E13 b o = .inr (8, [.ref (ad b oa), .int (nI (n + 1))]) := by rw [← hE14]; exact up2_eq
    have c_17 : E13 b oa = .inl (kA 0, cp, .inl (upd f n nm)) := (fE15 b oa (by omega)).trans c_11
    exact W.vret hx hb hr (fun t ht hW => ⟨⟨E13, rfl, ⟨n + 1, upd f n nm, ⟨by omega, Or.inl ⟨by omega, rfl, rfl⟩⟩, c_16, c_17, (fun b2 o2 h09 h19 => by show E13 b2 o2 = _; rw [fE15 b2 o2 (by omega), fE10 b2 o2 (by omega)])⟩, by rw [ht]; exact hP, hD⟩, hS.F ht⟩) hS.2.2 xd_Na_append_27
def GI (kA : Nat → ClassId) (a : Nat → Nat) (e : Nat → va_E) (m : Nat → Prop) (g gn ga : Nat) : Prop := m g ∧ m gn ∧ m ga ∧ ∃ (ta : Int32) (n : Nat) (f : Nat → Int32), n ≤ 3 ∧ e g = .inr (9, [.ref (a gn), .int ta]) ∧ e gn = .inr (8, [.ref (a ga), .int (nI n)]) ∧ e ga = .inl (kA 0, 3, .inl f)
def DI (kA : Nat → ClassId) (d : Nat) (a : Nat → Nat) (e : Nat → va_E) (m : Nat → Prop) : Prop := (∀ o, o < 13 → m o) ∧ ∃ (fd nm st : Int32) (k0 k1 k2 k3 : Nat) (f0 f1 f2 f3 : Nat → Int32) (fe fo : Nat → Option Nat) (tr op : Nat → Int32), k0 ≤ 6 ∧ k1 ≤ 5 ∧ k2 ≤ 3 ∧ k3 ≤ 3 ∧ e 0 = .inr (7, [.int (nI d), .int fd, .int nm, .ref (a 1), .ref (a 9), .ref (a 10), .ref (a 2), .ref (a 11), .ref (a 12), .ref (a 3), .ref (a 4), .int st]) ∧ e 1 = .inr (8, [.ref (a 5), .int (nI k0)]) ∧ e 2 = .inr (8, [.ref (a 6), .int (nI k1)]) ∧ e 3 = .inr (8, [.ref (a 7), .int (nI k2)]) ∧ e 4 = .inr (8, [.ref (a 8), .int (nI k3)]) ∧ e 5 = .inl (kA 0, 6, .inl f0) ∧ e 6 = .inl (kA 0, 5, .inl f1) ∧ e 7 = .inl (kA 0, 3, .inl f2) ∧ e 8 = .inl (kA 0, 3, .inl f3) ∧ e 9 = .inl (kA 8, 6, .inr (.inr (.inr (.inr fe)))) ∧ e 10 = .inl (kA 8, 6, .inr (.inr (.inr (.inr fo)))) ∧ e 11 = .inl (kA 2, 5, .inl tr) ∧ e 12 = .inl (kA 2, 5, .inl op) ∧ ∀ i, i < k0 → fe i = some (a (20 + 3 * i)) ∧ fo i = some (a (38 + 3 * i)) ∧ GI kA a e m (20 + 3 * i) (21 + 3 * i) (22 + 3 * i) ∧ GI kA a e m (38 + 3 * i) (39 + 3 * i) (40 + 3 * i)
def DIs (kA : Nat → ClassId) (ad : Nat → Nat → Nat) (E : Nat → Nat → va_E) (RL : List (Nat × Nat)) (nd : Nat) : Prop := ∀ d, d < nd → DI kA d (ad (1 + d)) (E (1 + d)) (fun o => (1 + d, o) ∈ RL)
def MEI (kA : Nat → ClassId) (ad : Nat → Nat → Nat) (E : Nat → Nat → va_E) (RL : List (Nat × Nat)) (nd n k : Nat) : Prop := (∀ j, j < 8 → (20 + n, 10 + j + 10 * k) ∈ RL) ∧ ∃ (d rs : Nat) (fr : Nat → Option Nat) (g2 g3 g4 : Nat → Int32), d < nd ∧ rs ≤ 5 ∧ E (20 + n) (10 + 10 * k) = .inr (6, [.ref (ad (20 + n) 0), .ref (ad (1 + d) 0), .ref (ad (20 + n) (11 + 10 * k)), .ref (ad (20 + n) (12 + 10 * k)), .ref (ad (20 + n) (13 + 10 * k)), .ref (ad (20 + n) (14 + 10 * k))]) ∧ E (20 + n) (11 + 10 * k) = .inl (kA 6, rs, .inr (.inr (.inr (.inr fr)))) ∧ E (20 + n) (12 + 10 * k) = .inr (10, [.ref (ad (20 + n) (15 + 10 * k))]) ∧ E (20 + n) (13 + 10 * k) = .inr (10, [.ref (ad (20 + n) (16 + 10 * k))]) ∧ E (20 + n) (14 + 10 * k) = .inr (10, [.ref (ad (20 + n) (17 + 10 * k))]) ∧ E (20 + n) (15 + 10 * k) = .inl (kA 0, 6, .inl g2) ∧ E (20 + n) (16 + 10 * k) = .inl (kA 0, 6, .inl g3) ∧ E (20 + n) (17 + 10 * k) = .inl (kA 0, 6, .inl g4)
def LI (kA : Nat → ClassId) (ad : Nat → Nat → Nat) (E : Nat → Nat → va_E) (RL : List (Nat × Nat)) (nd n : Nat) : Prop := (20 + n, 0) ∈ RL ∧ (20 + n, 1) ∈ RL ∧ ∃ (pv : Value) (op : Int32) (mk : Nat) (fm : Nat → Option Nat), mk ≤ 12 ∧ (pv = .null ∨ ∃ x, x < n ∧ pv = .ref (ad (20 + x) 0)) ∧ E (20 + n) 0 = .inr (5, [.int (nI n), pv, .ref (ad (20 + n) 1), .int op]) ∧ E (20 + n) 1 = .inl (kA 6, mk, .inr (.inr (.inr (.inr fm)))) ∧ ∀ k, k < mk → fm k = some (ad (20 + n) (10 + 10 * k)) ∧ MEI kA ad E RL nd n k
def LIs (kA : Nat → ClassId) (ad : Nat → Nat → Nat) (E : Nat → Nat → va_E) (RL : List (Nat × Nat)) (nd nL : Nat) : Prop := ∀ n, n < nL → LI kA ad E RL nd n
def cDk (ad : Nat → Nat → Nat) (E : Nat → Nat → va_E) (ml : Nat) : Prop := ∃ lf : Int32, E 0 0 = .inr (0, [.ref (ad 0 1), .ref (ad 0 5), .ref (ad 0 7), .ref (ad 0 9), .int (nI ml), .int lf])
def cLi (kA : Nat → ClassId) (ad : Nat → Nat → Nat) (E : Nat → Nat → va_E) (len wn : Nat) : Prop := ∃ (tx fb fe : Nat → Int32), len ≤ 40 ∧ wn ≤ 20 ∧ E 0 1 = .inr (1, [.ref (ad 0 2), .ref (ad 0 3), .ref (ad 0 4), .int (nI len), .int (nI wn)]) ∧ E 0 2 = .inl (kA 1, 40, .inl tx) ∧ E 0 3 = .inl (kA 0, 20, .inl fb) ∧ E 0 4 = .inl (kA 0, 20, .inl fe) ∧ ∀ w, w < wn → ∃ b9 e9, b9 < e9 ∧ e9 ≤ 40 ∧ fb w = nI b9 ∧ fe w = nI e9
def cSh (kA : Nat → ClassId) (ad : Nat → Nat → Nat) (E : Nat → Nat → va_E) (nd : Nat) : Prop := ∃ fd : Nat → Option Nat, nd ≤ 12 ∧ E 0 5 = .inr (2, [.ref (ad 0 6), .int (nI nd)]) ∧ E 0 6 = .inl (kA 4, 12, .inr (.inr (.inr (.inr fd)))) ∧ ∀ d, d < nd → fd d = some (ad (1 + d) 0)
def cCh (kA : Nat → ClassId) (ad : Nat → Nat → Nat) (E : Nat → Nat → va_E) (ml nd cs : Nat) : Prop := ∃ (cf : Int32) (pv : Value) (fc : Nat → Option Nat), cs ≤ 12 ∧ (pv = .null ∨ ∃ x, x < ml ∧ pv = .ref (ad (20 + x) 0)) ∧ E 0 7 = .inr (3, [.ref (ad 0 5), .ref (ad 0 8), .int (nI cs), .int cf, pv]) ∧ E 0 8 = .inl (kA 4, 12, .inr (.inr (.inr (.inr fc)))) ∧ ∀ k, k < cs → ∃ d, d < nd ∧ fc k = some (ad (1 + d) 0)
def cLa (kA : Nat → ClassId) (ad : Nat → Nat → Nat) (E : Nat → Nat → va_E) (ml : Nat) : Prop := ∃ fl : Nat → Option Nat, ml ≤ 5 ∧ E 0 9 = .inl (kA 5, 5, .inr (.inr (.inr (.inr fl)))) ∧ ∀ n, n < ml → fl n = some (ad (20 + n) 0)
def CI (kA : Nat → ClassId) (ad : Nat → Nat → Nat) (E : Nat → Nat → va_E) (RL : List (Nat × Nat)) (ml nd len wn cs : Nat) : Prop := (∀ o, o < 10 → (0, o) ∈ RL) ∧ cDk ad E ml ∧ cLi kA ad E len wn ∧ cSh kA ad E nd ∧ cCh kA ad E ml nd cs ∧ cLa kA ad E ml ∧ DIs kA ad E RL nd ∧ LIs kA ad E RL nd ml
def lyv (ad : Nat → Nat → Nat) : Nat → Value
  | 0 => .null
  | y + 1 => .ref (ad (20 + y) 0)
theorem GI_mono {kA : Nat → ClassId} {a : Nat → Nat} {e : Nat → va_E} {m m' : Nat → Prop} {g gn ga : Nat} (hm : ∀ o, m o → m' o) (h : GI kA a e m g gn ga) : GI kA a e m' g gn ga := ⟨hm _ h.1, hm _ h.2.1, hm _ h.2.2.1, h.2.2.2⟩
theorem DI_mono {kA : Nat → ClassId} {d : Nat} {a : Nat → Nat} {e : Nat → va_E} {m m' : Nat → Prop} (hm : ∀ o, m o → m' o) (h : DI kA d a e m) : DI kA d a e m' := by
  obtain ⟨h1, fd, nm, st, k0, k1, k2, k3, f0, f1, f2, f3, fe, fo, tr, op, g0, g1, g2, g3, c0, c1, c2, c3, c4, c5, c6, c7, c8, c9, c10, c11, c12, hg⟩ := h
  exact ⟨fun o ho => hm o (h1 o ho), fd, nm, st, k0, k1, k2, k3, f0, f1, f2, f3, fe, fo, tr, op, g0, g1, g2, g3, c0, c1, c2, c3, c4, c5, c6, c7, c8, c9, c10, c11, c12, fun i hi => ⟨(hg i hi).1, (hg i hi).2.1, GI_mono hm (hg i hi).2.2.1, GI_mono hm (hg i hi).2.2.2⟩⟩
theorem DIs_same {kA : Nat → ClassId} {ad ad' : Nat → Nat → Nat} {E E' : Nat → Nat → va_E} {RL RL' : List (Nat × Nat)} {nd : Nat} (hE : ∀ d, d < nd → E' (1 + d) = E (1 + d)) (ha : ∀ d, d < nd → ad' (1 + d) = ad (1 + d)) (hm : ∀ x ∈ RL, x ∈ RL') (h : DIs kA ad E RL nd) : DIs kA ad' E' RL' nd := fun d hd => by
  rw [hE d hd, ha d hd]
  exact DI_mono (fun o ho => hm _ ho) (h d hd)
theorem MEI_same {kA : Nat → ClassId} {ad ad' : Nat → Nat → Nat} {E E' : Nat → Nat → va_E} {RL RL' : List (Nat × Nat)} {nd nd' n k : Nat} (hn : nd ≤ nd') (hE : E' (20 + n) = E (20 + n)) (ha : ad' (20 + n) = ad (20 + n)) (had : ∀ d, d < nd → ad' (1 + d) 0 = ad (1 + d) 0) (hm : ∀ x ∈ RL, x ∈ RL') (h : MEI kA ad E RL nd n k) : MEI kA ad' E' RL' nd' n k := by
  obtain ⟨h1, d, rs, fr, g2, g3, g4, hd, hrs, c⟩ := h
  refine ⟨fun j hj => hm _ (h1 j hj), d, rs, fr, g2, g3, g4, by omega, hrs, ?_⟩
  rw [hE, ha, had d hd]; exact c
theorem LI_same {kA : Nat → ClassId} {ad ad' : Nat → Nat → Nat} {E E' : Nat → Nat → va_E} {RL RL' : List (Nat × Nat)} {nd nd' n : Nat} (hn : nd ≤ nd') (hE : E' (20 + n) = E (20 + n)) (ha : ad' (20 + n) = ad (20 + n)) (had : ∀ d, d < nd → ad' (1 + d) 0 = ad (1 + d) 0) (hax : ∀ x, x < n → ad' (20 + x) 0 = ad (20 + x) 0) (hm : ∀ x ∈ RL, x ∈ RL') (h : LI kA ad E RL nd n) : LI kA ad' E' RL' nd' n := by
  obtain ⟨h1, h2, pv, op, mk, fm, hmk, hpv, c0, c1, hk⟩ := h
  refine ⟨hm _ h1, hm _ h2, pv, op, mk, fm, hmk, ?_, ?_, ?_, fun k hk9 => ⟨?_, MEI_same hn hE ha had hm (hk k hk9).2⟩⟩
  · rcases hpv with h | ⟨x, hx, h⟩
    · exact Or.inl h
    · exact Or.inr ⟨x, hx, by rw [hax x hx]; exact h⟩
  · rw [hE, ha]; exact c0
  · rw [hE]; exact c1
  · rw [ha]; exact (hk k hk9).1
theorem LIs_same {kA : Nat → ClassId} {ad ad' : Nat → Nat → Nat} {E E' : Nat → Nat → va_E} {RL RL' : List (Nat × Nat)} {nd nd' nL : Nat} (hn : nd ≤ nd') (hE : ∀ n, n < nL → E' (20 + n) = E (20 + n)) (ha : ∀ n, n < nL → ad' (20 + n) = ad (20 + n)) (had : ∀ d, d < nd → ad' (1 + d) 0 = ad (1 + d) 0) (hm : ∀ x ∈ RL, x ∈ RL') (h : LIs kA ad E RL nd nL) : LIs kA ad' E' RL' nd' nL := fun n hn9 => LI_same hn (hE n hn9) (ha n hn9) had (fun x hx => by rw [ha x (by omega)]) hm (h n hn9)
theorem fun2 {α : Type} {E E' : Nat → Nat → α} {b : Nat} (h : ∀ o, E' b o = E b o) : E' b = E b := funext h
abbrev xb_Gr_covers : ByteArray := prog_4_method_2_code
def xy_Gr_covers : MethodName := ⟨"LayerDesk$Grant", "covers", "(I)Z"⟩
abbrev xb_Gr_hasRoomFor : ByteArray := prog_4_method_3_code
def xy_Gr_hasRoomFor : MethodName := ⟨"LayerDesk$Grant", "hasRoomFor", "(I)Z"⟩
abbrev xb_Gr_extendTo : ByteArray := prog_4_method_4_code
def xy_Gr_extendTo : MethodName := ⟨"LayerDesk$Grant", "extendTo", "(I)V"⟩
theorem xd_Gr_covers_0 : decode xb_Gr_covers 0 = .ok (.aload_n 0, 1) := by decide +kernel
theorem xd_Gr_covers_1 : decode xb_Gr_covers 1 = .ok (.getfield 20, 3) := by decide +kernel
theorem xd_Gr_covers_4 : decode xb_Gr_covers 4 = .ok (.ifCond .ne 14, 3) := by decide +kernel
theorem xd_Gr_covers_7 : decode xb_Gr_covers 7 = .ok (.aload_n 0, 1) := by decide +kernel
theorem xd_Gr_covers_8 : decode xb_Gr_covers 8 = .ok (.getfield 16, 3) := by decide +kernel
theorem xd_Gr_covers_11 : decode xb_Gr_covers 11 = .ok (.iload_n 1, 1) := by decide +kernel
theorem xd_Gr_covers_12 : decode xb_Gr_covers 12 = .ok (.invokevirtual 24, 3) := by decide +kernel
theorem xd_Gr_covers_15 : decode xb_Gr_covers 15 = .ok (.ifCond .lt 7, 3) := by decide +kernel
theorem xd_Gr_covers_18 : decode xb_Gr_covers 18 = .ok (.iconst 1, 1) := by decide +kernel
theorem xd_Gr_covers_19 : decode xb_Gr_covers 19 = .ok (.goto 4, 3) := by decide +kernel
theorem xd_Gr_covers_22 : decode xb_Gr_covers 22 = .ok (.iconst 0, 1) := by decide +kernel
theorem xd_Gr_covers_23 : decode xb_Gr_covers 23 = .ok (.ireturn, 1) := by decide +kernel
theorem xd_Gr_extendTo_0 : decode xb_Gr_extendTo 0 = .ok (.iload_n 1, 1) := by decide +kernel
theorem xd_Gr_extendTo_1 : decode xb_Gr_extendTo 1 = .ok (.ifCond .ne 11, 3) := by decide +kernel
theorem xd_Gr_extendTo_4 : decode xb_Gr_extendTo 4 = .ok (.aload_n 0, 1) := by decide +kernel
theorem xd_Gr_extendTo_5 : decode xb_Gr_extendTo 5 = .ok (.iconst 1, 1) := by decide +kernel
theorem xd_Gr_extendTo_6 : decode xb_Gr_extendTo 6 = .ok (.putfield 20, 3) := by decide +kernel
theorem xd_Gr_extendTo_9 : decode xb_Gr_extendTo 9 = .ok (.goto 19, 3) := by decide +kernel
theorem xd_Gr_extendTo_12 : decode xb_Gr_extendTo 12 = .ok (.aload_n 0, 1) := by decide +kernel
theorem xd_Gr_extendTo_13 : decode xb_Gr_extendTo 13 = .ok (.iload_n 1, 1) := by decide +kernel
theorem xd_Gr_extendTo_14 : decode xb_Gr_extendTo 14 = .ok (.invokevirtual 28, 3) := by decide +kernel
theorem xd_Gr_extendTo_17 : decode xb_Gr_extendTo 17 = .ok (.ifCond .ne 11, 3) := by decide +kernel
theorem xd_Gr_extendTo_20 : decode xb_Gr_extendTo 20 = .ok (.aload_n 0, 1) := by decide +kernel
theorem xd_Gr_extendTo_21 : decode xb_Gr_extendTo 21 = .ok (.getfield 16, 3) := by decide +kernel
theorem xd_Gr_extendTo_24 : decode xb_Gr_extendTo 24 = .ok (.iload_n 1, 1) := by decide +kernel
theorem xd_Gr_extendTo_25 : decode xb_Gr_extendTo 25 = .ok (.invokevirtual 36, 3) := by decide +kernel
theorem xd_Gr_extendTo_28 : decode xb_Gr_extendTo 28 = .ok (.return_, 1) := by decide +kernel
theorem xd_Gr_hasRoomFor_0 : decode xb_Gr_hasRoomFor 0 = .ok (.iload_n 1, 1) := by decide +kernel
theorem xd_Gr_hasRoomFor_1 : decode xb_Gr_hasRoomFor 1 = .ok (.ifCond .eq 21, 3) := by decide +kernel
theorem xd_Gr_hasRoomFor_4 : decode xb_Gr_hasRoomFor 4 = .ok (.aload_n 0, 1) := by decide +kernel
theorem xd_Gr_hasRoomFor_5 : decode xb_Gr_hasRoomFor 5 = .ok (.iload_n 1, 1) := by decide +kernel
theorem xd_Gr_hasRoomFor_6 : decode xb_Gr_hasRoomFor 6 = .ok (.invokevirtual 28, 3) := by decide +kernel
theorem xd_Gr_hasRoomFor_9 : decode xb_Gr_hasRoomFor 9 = .ok (.ifCond .ne 13, 3) := by decide +kernel
theorem xd_Gr_hasRoomFor_12 : decode xb_Gr_hasRoomFor 12 = .ok (.aload_n 0, 1) := by decide +kernel
theorem xd_Gr_hasRoomFor_13 : decode xb_Gr_hasRoomFor 13 = .ok (.getfield 16, 3) := by decide +kernel
theorem xd_Gr_hasRoomFor_16 : decode xb_Gr_hasRoomFor 16 = .ok (.invokevirtual 32, 3) := by decide +kernel
theorem xd_Gr_hasRoomFor_19 : decode xb_Gr_hasRoomFor 19 = .ok (.ifCond .ne 7, 3) := by decide +kernel
theorem xd_Gr_hasRoomFor_22 : decode xb_Gr_hasRoomFor 22 = .ok (.iconst 1, 1) := by decide +kernel
theorem xd_Gr_hasRoomFor_23 : decode xb_Gr_hasRoomFor 23 = .ok (.goto 4, 3) := by decide +kernel
theorem xd_Gr_hasRoomFor_26 : decode xb_Gr_hasRoomFor 26 = .ok (.iconst 0, 1) := by decide +kernel
theorem xd_Gr_hasRoomFor_27 : decode xb_Gr_hasRoomFor 27 = .ok (.ireturn, 1) := by decide +kernel
theorem yl_0 : (Cond.fieldLink "LayerDesk$Grant" 20 "LayerDesk$Grant" "toAll" "Z") ∈ wT := wT_t (List.mem_append_right _ (List.mem_append_left _ (List.mem_of_getElem? (i := 145) rfl))) rfl
theorem yl_1 : (Cond.fieldLink "LayerDesk$Grant" 16 "LayerDesk$Grant" "names" "LLayerDesk$Names;") ∈ wT := wT_t (List.mem_append_right _ (List.mem_append_left _ (List.mem_of_getElem? (i := 144) rfl))) rfl
theorem yl_2 : (Cond.code xy_Na_indexOf xb_Na_indexOf 3 (some .int)) ∈ wT := wT_t (List.mem_append_right _ (List.mem_append_left _ (List.mem_of_getElem? (i := 127) rfl))) rfl
theorem yl_3 : (Cond.methodLink "LayerDesk$Grant" 24 xy_Na_indexOf) ∈ wT := wT_t (List.mem_append_right _ (List.mem_append_left _ (List.mem_of_getElem? (i := 180) rfl))) rfl
theorem yl_4 : (Cond.instanceMethod xy_Na_indexOf) ∈ wT := wT_t (List.mem_append_right _ (List.mem_append_left _ (List.mem_of_getElem? (i := 125) rfl))) rfl
theorem yl_5 : (Cond.selects "LayerDesk$Names" xy_Na_indexOf xy_Na_indexOf) ∈ wT := wT_t (List.mem_append_right _ (List.mem_append_left _ (List.mem_of_getElem? (i := 126) rfl))) rfl
theorem yl_6 : (Cond.initialized "LayerDesk$Names") ∈ wT := wT_t (List.mem_append_left _ (List.mem_of_getElem? (i := 11) rfl)) rfl
set_option maxHeartbeats 4000000 in
set_option maxRecDepth 100000 in
theorem xc_Gr_covers (l : Launch) (D : va_G) (kA : Nat → ClassId) (sz : Nat) (ad : Nat → Nat → Nat) (E : Nat → Nat → va_E) (RL : List (Nat × Nat)) (b : Nat) (g : Nat) (gn : Nat) (ga : Nat) (ta : Int32) (n : Nat) (f : Nat → Int32) (nm : Int32) (ym0 : (b, g) ∈ RL) (yc0 : E b g = .inr (9, [.ref (ad b gn), .int ta])) (ym1 : (b, gn) ∈ RL) (yc1 : E b gn = .inr (8, [.ref (ad b ga), .int (nI n)])) (ym2 : (b, ga) ∈ RL) (yc2 : E b ga = .inl (kA 0, 3, .inl f)) (hn3 : n ≤ 3) : Met l xy_Gr_covers (.code xy_Gr_covers xb_Gr_covers 2 (some .boolean) :: wT) { frames := 1, cells := 0, slots := 0, locals := 22 } (va_Pc [.ref (ad b g), .int nm] (xPre D kA sz (rp ad E RL))) (va_Qi (fun (r : Int32) (u : Unit) => (r = 1 ∧ (¬ ta = 0 ∨ ∃ k, k < n ∧ f k = nm)) ∨ (r = 0 ∧ ta = 0 ∧ ∀ j, j < n → ¬ f j = nm)) (fun (u : Unit) t => va_P D xcl (rp ad E RL) t.heap ∧ va_D (va_A (rp ad E RL) sz) (rp ad E RL)) (va_A (rp ad E RL) sz)) 0 0 (va_A (rp ad E RL) sz) := by
  refine Met.ofW (cc := xb_Gr_covers) (maxL := 2) (ret := (some .boolean)) (by decide) rfl ?_
  intro p e s m args below meth c s₁ B hml hv
  obtain ⟨rfl, hsz, hP, hK, hD0⟩ := hv
  have hx := B.exec
  have hb := B.bytes
  have hr := B.returns
  have hT := x_hT B.pre
  have hown : s.vm.findClass xR_Gr = some m.cls := findClass_of_methodNamed B.named
  have hlocks := B.notSynchronized
  subst hsz
  have hD := hD0.self (sz := s.heap.size)
  generalize hAe : va_A (rp ad E RL) s.heap.size = A at hD ⊢
  have hA : ∀ q : Nat, s.heap.size ≤ q → A q := fun q h => by rw [← hAe]; exact Or.inr h
  have hS : va_S A s.heap s.heap [] := va_S.rf
  have hl := lv_entry ([.ref (ad b g), .int nm]) (n := 2) (Nat.le_of_ble_eq_true rfl)
  rw [lg_entry_eq]
  generalize (lg_sl ([.ref (ad b g), .int nm]) ++ List.replicate (2 - (lg_sl ([.ref (ad b g), .int nm])).length) Slot.unset).toArray = ls at hl ⊢
  have hl : lv_has ls 2 [(0, .ref (ad b g)), (1, .int nm)] := hl
  have hP : va_P D xcl (rp ad E RL) s.heap := hP
  refine lv_aload_n hx hb xd_Gr_covers_0 rfl (lv_at hl 0 rfl) ?_
  refine px_get (D := D) (ci := 9) (v := .int ta) (C := xR_Gr) (T := xT_Gr) (N := 2) hx hb hT xi_Gr hown hK.1 hP ym0 yc0 rfl 1 (by decide) (hT _ yl_0) (fun _ h9 => h9) rfl xd_Gr_covers_1 ?_
  refine lv_if_ne (tgt := 18) hx hb xd_Gr_covers_4 (by decide) (fun hc1 => ?_) (fun hc1 => ?_)
  · refine lv_iconst (v := 1) hx hb xd_Gr_covers_18 (by decide) ?_
    refine lv_goto (tgt := 23) hx hb xd_Gr_covers_19 (by decide) ?_
    exact W.zret (v := 1) hx hb hr rfl (fun t ht hW => ⟨⟨1, (), rfl, Or.inl ⟨rfl, Or.inl hc1⟩, by rw [ht]; exact hP, hD⟩, hS.F ht⟩) hS.2.2 xd_Gr_covers_23
  · refine lv_aload_n hx hb xd_Gr_covers_7 rfl (lv_at hl 0 rfl) ?_
    refine px_get (D := D) (ci := 9) (v := .ref (ad b gn)) (C := xR_Gr) (T := xT_Gr) (N := 2) hx hb hT xi_Gr hown hK.1 hP ym0 yc0 rfl 0 (by decide) (hT _ yl_1) (fun _ h9 => h9) rfl xd_Gr_covers_8 ?_
    refine lv_iload_n hx hb xd_Gr_covers_11 rfl (lv_at hl 1 rfl) ?_
    have hFc := px_free hD hS hA
    refine va_calli (va_runV (As := [.int nm]) (rest := []) ⟨hx, hb, hml, hown, hT⟩ (xc_Na_indexOf l D kA s.heap.size ad E RL b gn ga 3 n f nm ym1 yc1 ym2 yc2 (by first | assumption | omega) (by first | assumption | omega)) (cwV 1 hT (wT_V yl_3 yl_4 yl_5 yl_6 yl_2) rfl rfl rfl (by decide +kernel) ⟨Nat.le_of_ble_eq_true rfl, Nat.le_of_ble_eq_true rfl⟩) (px_preV hK hP hD ym1 yc1 rfl) rfl rfl hl.1 rfl (lv_room (Nat.le_of_ble_eq_true rfl)) xd_Gr_covers_12 ⟨(Nat.le_of_ble_eq_true rfl), (Nat.le_of_ble_eq_true rfl)⟩) hS (fun q _ h => hFc q h) hFc (fun r2 u3 t H1 locs ht hvm hp4 hB hz1 hk1 hS => ?_)
    obtain ⟨hP1, hD1⟩ := hB
    rw [ht] at hP1
    have hD1 := hD1.weaken (fun _ _ _ h => hFc _ h)
    generalize H1 = H at hP1 hS ⊢
    have hP := hP1
    have hD := hD1
    have hP : va_P D xcl (rp ad E RL) H := hP
    have hD : va_D A (rp ad E RL) := hD
    rcases hp4 with ⟨z5, z6, rfl, z7, z8⟩ | ⟨rfl, z9⟩
    · refine W.eq (g2 := F0 m 15 ls [.int (nI z5)]) rfl ?_
      refine xz_lt (a := z5) (tgt := 22) hx hb xd_Gr_covers_15 (by decide) (by omega) ?_
      refine lv_iconst (v := 1) hx hb xd_Gr_covers_18 (by decide) ?_
      refine lv_goto (tgt := 23) hx hb xd_Gr_covers_19 (by decide) ?_
      exact W.zret (v := 1) hx hb hr rfl (fun t ht hW => ⟨⟨1, (), rfl, Or.inl ⟨rfl, Or.inr ⟨z5, z6, z7⟩⟩, by rw [ht]; exact hP, hD⟩, hS.F ht⟩) hS.2.2 xd_Gr_covers_23
    · refine W.eq (g2 := F0 m 15 ls [.int (-1)]) rfl ?_
      refine lv_if_lt (tgt := 22) hx hb xd_Gr_covers_15 (by decide) (fun _ => ?_) (fun hc11 => absurd (by decide) hc11)
      refine lv_iconst (v := 0) hx hb xd_Gr_covers_22 (by decide) ?_
      exact W.zret (v := 0) hx hb hr rfl (fun t ht hW => ⟨⟨0, (), rfl, Or.inr ⟨rfl, hc1, z9⟩, by rw [ht]; exact hP, hD⟩, hS.F ht⟩) hS.2.2 xd_Gr_covers_23
