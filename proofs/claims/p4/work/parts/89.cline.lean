abbrev xb_La_law : ByteArray := code
def xy_La_law : MethodName := ⟨"LayerDeskLaw", "law", "([I)Z"⟩
abbrev xb_Mo_thrown : ByteArray := prog_12_method_2_code
def xy_Mo_thrown : MethodName := ⟨"LayerDeskModel", "thrown", "()I"⟩
theorem xd_La_law_23 : decode xb_La_law 23 = .ok (.iload 4, 2) := by decide +kernel
theorem xd_La_law_25 : decode xb_La_law 25 = .ok (.aload_n 0, 1) := by decide +kernel
theorem xd_La_law_26 : decode xb_La_law 26 = .ok (.arraylength, 1) := by decide +kernel
theorem xd_La_law_27 : decode xb_La_law 27 = .ok (.iconst 5, 1) := by decide +kernel
theorem xd_La_law_28 : decode xb_La_law 28 = .ok (.isub, 1) := by decide +kernel
theorem xd_La_law_29 : decode xb_La_law 29 = .ok (.if_icmp .gt 546, 3) := by decide +kernel
theorem xd_La_law_32 : decode xb_La_law 32 = .ok (.aload_n 0, 1) := by decide +kernel
theorem xd_La_law_33 : decode xb_La_law 33 = .ok (.iload 4, 2) := by decide +kernel
theorem xd_La_law_35 : decode xb_La_law 35 = .ok (.iaload, 1) := by decide +kernel
theorem xd_La_law_36 : decode xb_La_law 36 = .ok (.bipush 15, 2) := by decide +kernel
theorem xd_La_law_38 : decode xb_La_law 38 = .ok (.iand, 1) := by decide +kernel
theorem xd_La_law_39 : decode xb_La_law 39 = .ok (.tableswitch 530 0 11 #[61, 88, 104, 200, 213, 238, 263, 288, 325, 386, 426, 490], 61) := by decide +kernel
theorem xd_La_law_100 : decode xb_La_law 100 = .ok (.aload_n 1, 1) := by decide +kernel
theorem xd_La_law_101 : decode xb_La_law 101 = .ok (.aload_n 0, 1) := by decide +kernel
theorem xd_La_law_102 : decode xb_La_law 102 = .ok (.iload 4, 2) := by decide +kernel
theorem xd_La_law_104 : decode xb_La_law 104 = .ok (.iconst 1, 1) := by decide +kernel
theorem xd_La_law_105 : decode xb_La_law 105 = .ok (.iadd, 1) := by decide +kernel
theorem xd_La_law_106 : decode xb_La_law 106 = .ok (.iaload, 1) := by decide +kernel
theorem xd_La_law_107 : decode xb_La_law 107 = .ok (.i2c, 1) := by decide +kernel
theorem xd_La_law_108 : decode xb_La_law 108 = .ok (.invokevirtual 38, 3) := by decide +kernel
theorem xd_La_law_111 : decode xb_La_law 111 = .ok (.pop, 1) := by decide +kernel
theorem xd_La_law_112 : decode xb_La_law 112 = .ok (.aload_n 2, 1) := by decide +kernel
theorem xd_La_law_113 : decode xb_La_law 113 = .ok (.aload_n 0, 1) := by decide +kernel
theorem xd_La_law_114 : decode xb_La_law 114 = .ok (.iload 4, 2) := by decide +kernel
theorem xd_La_law_116 : decode xb_La_law 116 = .ok (.iconst 1, 1) := by decide +kernel
theorem xd_La_law_117 : decode xb_La_law 117 = .ok (.iadd, 1) := by decide +kernel
theorem xd_La_law_118 : decode xb_La_law 118 = .ok (.iaload, 1) := by decide +kernel
theorem xd_La_law_119 : decode xb_La_law 119 = .ok (.i2c, 1) := by decide +kernel
theorem xd_La_law_120 : decode xb_La_law 120 = .ok (.invokevirtual 42, 3) := by decide +kernel
theorem xd_La_law_123 : decode xb_La_law 123 = .ok (.pop, 1) := by decide +kernel
theorem xd_La_law_124 : decode xb_La_law 124 = .ok (.goto 445, 3) := by decide +kernel
theorem xd_La_law_127 : decode xb_La_law 127 = .ok (.aload_n 1, 1) := by decide +kernel
theorem xd_La_law_128 : decode xb_La_law 128 = .ok (.aload_n 3, 1) := by decide +kernel
theorem xd_La_law_129 : decode xb_La_law 129 = .ok (.invokestatic 43, 3) := by decide +kernel
theorem xd_La_law_132 : decode xb_La_law 132 = .ok (.istore 5, 2) := by decide +kernel
theorem xd_La_law_134 : decode xb_La_law 134 = .ok (.aload_n 2, 1) := by decide +kernel
theorem xd_La_law_135 : decode xb_La_law 135 = .ok (.invokevirtual 48, 3) := by decide +kernel
theorem xd_La_law_138 : decode xb_La_law 138 = .ok (.istore 6, 2) := by decide +kernel
theorem xd_La_law_140 : decode xb_La_law 140 = .ok (.goto 429, 3) := by decide +kernel
theorem xd_La_law_143 : decode xb_La_law 143 = .ok (.aload_n 1, 1) := by decide +kernel
theorem xd_La_law_144 : decode xb_La_law 144 = .ok (.aload_n 0, 1) := by decide +kernel
theorem xd_La_law_145 : decode xb_La_law 145 = .ok (.iload 4, 2) := by decide +kernel
theorem xd_La_law_147 : decode xb_La_law 147 = .ok (.iconst 1, 1) := by decide +kernel
theorem xd_La_law_148 : decode xb_La_law 148 = .ok (.iadd, 1) := by decide +kernel
theorem xd_La_law_149 : decode xb_La_law 149 = .ok (.iaload, 1) := by decide +kernel
theorem xd_La_law_150 : decode xb_La_law 150 = .ok (.aload_n 0, 1) := by decide +kernel
theorem xd_La_law_151 : decode xb_La_law 151 = .ok (.iload 4, 2) := by decide +kernel
theorem xd_La_law_153 : decode xb_La_law 153 = .ok (.iconst 2, 1) := by decide +kernel
theorem xd_La_law_154 : decode xb_La_law 154 = .ok (.iadd, 1) := by decide +kernel
theorem xd_La_law_155 : decode xb_La_law 155 = .ok (.iaload, 1) := by decide +kernel
theorem xd_La_law_156 : decode xb_La_law 156 = .ok (.aload_n 0, 1) := by decide +kernel
theorem xd_La_law_157 : decode xb_La_law 157 = .ok (.iload 4, 2) := by decide +kernel
theorem xd_La_law_159 : decode xb_La_law 159 = .ok (.iconst 3, 1) := by decide +kernel
theorem xd_La_law_160 : decode xb_La_law 160 = .ok (.iadd, 1) := by decide +kernel
theorem xd_La_law_161 : decode xb_La_law 161 = .ok (.iaload, 1) := by decide +kernel
theorem xd_La_law_162 : decode xb_La_law 162 = .ok (.ifCond .eq 7, 3) := by decide +kernel
theorem xd_La_law_169 : decode xb_La_law 169 = .ok (.iconst 0, 1) := by decide +kernel
theorem xd_La_law_170 : decode xb_La_law 170 = .ok (.aload_n 3, 1) := by decide +kernel
theorem xd_La_law_171 : decode xb_La_law 171 = .ok (.invokestatic 49, 3) := by decide +kernel
theorem xd_La_law_174 : decode xb_La_law 174 = .ok (.istore 5, 2) := by decide +kernel
theorem xd_La_law_176 : decode xb_La_law 176 = .ok (.aload_n 2, 1) := by decide +kernel
theorem xd_La_law_177 : decode xb_La_law 177 = .ok (.aload_n 0, 1) := by decide +kernel
theorem xd_La_law_178 : decode xb_La_law 178 = .ok (.iload 4, 2) := by decide +kernel
theorem xd_La_law_180 : decode xb_La_law 180 = .ok (.iconst 1, 1) := by decide +kernel
theorem xd_La_law_181 : decode xb_La_law 181 = .ok (.iadd, 1) := by decide +kernel
theorem xd_La_law_182 : decode xb_La_law 182 = .ok (.iaload, 1) := by decide +kernel
theorem xd_La_law_183 : decode xb_La_law 183 = .ok (.aload_n 0, 1) := by decide +kernel
theorem xd_La_law_184 : decode xb_La_law 184 = .ok (.iload 4, 2) := by decide +kernel
theorem xd_La_law_186 : decode xb_La_law 186 = .ok (.iconst 2, 1) := by decide +kernel
theorem xd_La_law_187 : decode xb_La_law 187 = .ok (.iadd, 1) := by decide +kernel
theorem xd_La_law_188 : decode xb_La_law 188 = .ok (.iaload, 1) := by decide +kernel
theorem xd_La_law_189 : decode xb_La_law 189 = .ok (.aload_n 0, 1) := by decide +kernel
theorem xd_La_law_190 : decode xb_La_law 190 = .ok (.iload 4, 2) := by decide +kernel
theorem xd_La_law_192 : decode xb_La_law 192 = .ok (.iconst 3, 1) := by decide +kernel
theorem xd_La_law_193 : decode xb_La_law 193 = .ok (.iadd, 1) := by decide +kernel
theorem xd_La_law_194 : decode xb_La_law 194 = .ok (.iaload, 1) := by decide +kernel
theorem xd_La_law_195 : decode xb_La_law 195 = .ok (.ifCond .eq 7, 3) := by decide +kernel
theorem xd_La_law_202 : decode xb_La_law 202 = .ok (.iconst 0, 1) := by decide +kernel
theorem xd_La_law_203 : decode xb_La_law 203 = .ok (.invokevirtual 52, 3) := by decide +kernel
theorem xd_La_law_206 : decode xb_La_law 206 = .ok (.istore 6, 2) := by decide +kernel
theorem xd_La_law_208 : decode xb_La_law 208 = .ok (.aload_n 2, 1) := by decide +kernel
theorem xd_La_law_209 : decode xb_La_law 209 = .ok (.invokevirtual 53, 3) := by decide +kernel
theorem xd_La_law_212 : decode xb_La_law 212 = .ok (.iload 5, 2) := by decide +kernel
theorem xd_La_law_214 : decode xb_La_law 214 = .ok (.if_icmp .eq 5, 3) := by decide +kernel
theorem xd_La_law_219 : decode xb_La_law 219 = .ok (.iload 5, 2) := by decide +kernel
theorem xd_La_law_221 : decode xb_La_law 221 = .ok (.ifCond .ne 15, 3) := by decide +kernel
theorem xd_La_law_224 : decode xb_La_law 224 = .ok (.aload_n 3, 1) := by decide +kernel
theorem xd_La_law_225 : decode xb_La_law 225 = .ok (.iconst 0, 1) := by decide +kernel
theorem xd_La_law_226 : decode xb_La_law 226 = .ok (.laload, 1) := by decide +kernel
theorem xd_La_law_236 : decode xb_La_law 236 = .ok (.goto 333, 3) := by decide +kernel
theorem xd_La_law_569 : decode xb_La_law 569 = .ok (.iinc 4 5, 3) := by decide +kernel
theorem xd_La_law_572 : decode xb_La_law 572 = .ok (.goto (-549), 3) := by decide +kernel
theorem xd_La_law_575 : decode xb_La_law 575 = .ok (.iconst 1, 1) := by decide +kernel
theorem xd_La_law_576 : decode xb_La_law 576 = .ok (.ireturn, 1) := by decide +kernel
theorem k5a_0 : (Cond.code xy_JS_checkIndex xb_JS_checkIndex 2 none) ∈ wT := wT_t (List.mem_append_left _ (List.mem_of_getElem? (i := 223) rfl)) rfl
theorem k5a_1 : (Cond.methodLink "java/lang/StringLatin1" 9 xy_JS_checkIndex) ∈ wT := wT_t (List.mem_append_left _ (List.mem_of_getElem? (i := 221) rfl)) rfl
theorem k5a_2 : (Cond.static xy_JS_checkIndex) ∈ wT := wT_t (List.mem_append_left _ (List.mem_of_getElem? (i := 222) rfl)) rfl
theorem k5a_3 : (Cond.initialized "java/lang/String") ∈ wT := wT_t (List.mem_append_left _ (List.mem_of_getElem? (i := 6) rfl)) rfl
theorem k5a_4 : (Cond.code xy_JS_isLatin1 xb_JS_isLatin1 1 (some .boolean)) ∈ wT := wT_t (List.mem_append_left _ (List.mem_of_getElem? (i := 217) rfl)) rfl
theorem k5a_5 : (Cond.methodLink "java/lang/String" 492 xy_JS_isLatin1) ∈ wT := wT_t (List.mem_append_left _ (List.mem_of_getElem? (i := 214) rfl)) rfl
theorem k5a_6 : (Cond.instanceMethod xy_JS_isLatin1) ∈ wT := wT_t (List.mem_append_left _ (List.mem_of_getElem? (i := 215) rfl)) rfl
theorem k5a_7 : (Cond.selects "java/lang/String" xy_JS_isLatin1 xy_JS_isLatin1) ∈ wT := wT_t (List.mem_append_left _ (List.mem_of_getElem? (i := 216) rfl)) rfl
theorem k5a_8 : (Cond.fieldLink "java/lang/String" 9 "java/lang/String" "value" "[B") ∈ wT := wT_t (List.mem_append_right _ (List.mem_append_right _ (List.mem_append_right _ (List.mem_append_right _ (List.mem_of_getElem? (i := 111) rfl))))) rfl
theorem k5a_9 : (Cond.code xy_JL_charAt xb_JL_charAt 2 (some .char)) ∈ wT := wT_t (List.mem_append_left _ (List.mem_of_getElem? (i := 220) rfl)) rfl
theorem k5a_10 : (Cond.methodLink "java/lang/String" 495 xy_JL_charAt) ∈ wT := wT_t (List.mem_append_left _ (List.mem_of_getElem? (i := 218) rfl)) rfl
theorem k5a_11 : (Cond.static xy_JL_charAt) ∈ wT := wT_t (List.mem_append_left _ (List.mem_of_getElem? (i := 219) rfl)) rfl
theorem k5a_12 : (Cond.initialized "java/lang/StringLatin1") ∈ wT := wT_t (List.mem_append_left _ (List.mem_of_getElem? (i := 7) rfl)) rfl
theorem k5a_13 : (Cond.fieldLink "LayerDesk$Line" 20 "LayerDesk$Line" "length" "I") ∈ wT := wT_t (List.mem_append_left _ (List.mem_of_getElem? (i := 39) rfl)) rfl
theorem k5a_14 : (Cond.fieldLink "LayerDesk$Line" 9 "LayerDesk$Line" "text" "[C") ∈ wT := wT_t (List.mem_append_left _ (List.mem_of_getElem? (i := 36) rfl)) rfl
theorem k5a_15 : (Cond.fieldLink "LayerDesk$Line" 24 "LayerDesk$Line" "words" "I") ∈ wT := wT_t (List.mem_append_left _ (List.mem_of_getElem? (i := 40) rfl)) rfl
theorem k5a_16 : (Cond.fieldLink "LayerDesk$Line" 13 "LayerDesk$Line" "starts" "[I") ∈ wT := wT_t (List.mem_append_left _ (List.mem_of_getElem? (i := 37) rfl)) rfl
theorem k5a_17 : (Cond.fieldLink "LayerDesk$Line" 17 "LayerDesk$Line" "ends" "[I") ∈ wT := wT_t (List.mem_append_left _ (List.mem_of_getElem? (i := 38) rfl)) rfl
set_option maxHeartbeats 4000000 in
set_option maxRecDepth 100000 in
theorem xc_JL_charAtX (l : Launch) (D : va_G) (kA : Nat → ClassId) (sz : Nat) (ad : Nat → Nat → Nat) (E : Nat → Nat → va_E) (RL : List (Nat × Nat)) (Z : zT) (si : Nat) (k : Nat) (hsi : si < 12) (hk : k < zL.getD si 0) : Met l xy_JL_charAt (.code xy_JL_charAt xb_JL_charAt 2 (some .char) :: wT) { frames := 2, cells := 0, slots := 0, locals := 43 } (va_Pc [.ref (Z.2.1 si), .int (nI k)] (xPreZ D kA sz (rp ad E RL) Z)) (va_Qi (fun (r : Int32) (u : Unit) => r = ((zB.getD si []).getD k 0 &&& 255)) (fun (u : Unit) t => va_P D xcl (rp ad E RL) t.heap ∧ va_D (va_A (rp ad E RL) sz) (rp ad E RL)) (va_A (rp ad E RL) sz)) 0 0 (va_A (rp ad E RL) sz) := by
  refine Met.ofW (cc := xb_JL_charAt) (maxL := 2) (ret := (some .char)) (by decide) rfl ?_
  intro p e s m args below meth c s₁ B hml hv
  obtain ⟨rfl, ⟨hsz, hP, hK, hD0⟩, hZ⟩ := hv
  have hx := B.exec
  have hb := B.bytes
  have hr := B.returns
  have hT := x_hT B.pre
  have hown : s.vm.findClass xR_JL = some m.cls := findClass_of_methodNamed B.named
  have hlocks := B.notSynchronized
  subst hsz
  have hD := hD0.self (sz := s.heap.size)
  generalize hAe : va_A (rp ad E RL) s.heap.size = A at hD hZ ⊢
  have hA : ∀ q : Nat, s.heap.size ≤ q → A q := fun q h => by rw [← hAe]; exact Or.inr h
  have hS : va_S A s.heap s.heap [] := va_S.rf
  have hl := lv_entry ([.ref (Z.2.1 si), .int (nI k)]) (n := 2) (Nat.le_of_ble_eq_true rfl)
  rw [lg_entry_eq]
  generalize (lg_sl ([.ref (Z.2.1 si), .int (nI k)]) ++ List.replicate (2 - (lg_sl ([.ref (Z.2.1 si), .int (nI k)])).length) Slot.unset).toArray = ls at hl ⊢
  have hl : lv_has ls 2 [(0, .ref (Z.2.1 si)), (1, .int (nI k))] := hl
  have hP : va_P D xcl (rp ad E RL) s.heap := hP
  have hz9 := z_len si hsi
  refine lv_iload_n hx hb xd_JL_charAt_0 rfl (lv_at hl 1 rfl) ?_
  refine lv_aload_n hx hb xd_JL_charAt_1 rfl (lv_at hl 0 rfl) ?_
  refine va_tlen (v := nI (zL.getD si 0)) hx hb (hZ.2.1.1 si hsi).2.2.2 hS rfl xd_JL_charAt_2 ?_
  have hFc := px_free hD hS hA
  refine va_callv (va_runS (As := [.int (nI k), .int (nI ((zL.getD si 0)))]) (rest := []) ⟨hx, hb, hml, hown, hT⟩ (xc_JS_checkIndex l D kA s.heap.size ad E RL Z k (zL.getD si 0) (by first | assumption | omega) (by first | assumption | omega)) (va_cwS 2 hT (wT_S k5a_1 k5a_2 k5a_3 k5a_0) rfl rfl rfl (by decide +kernel) ⟨Nat.le_of_ble_eq_true rfl, Nat.le_of_ble_eq_true rfl⟩) (x_preSZ hK hP hD hFc (hZ.kept hS)) rfl rfl hl.1 rfl (lv_room (Nat.le_of_ble_eq_true rfl)) xd_JL_charAt_3 ⟨(Nat.le_of_ble_eq_true rfl), (Nat.le_of_ble_eq_true rfl)⟩) hS (fun q _ h => hFc q h) hFc (fun u2 t H1 locs ht hvm hp3 hB hz1 hk1 hS => ?_)
  obtain ⟨hP1, hD1⟩ := hB
  rw [ht] at hP1
  have hD1 := hD1.weaken (fun _ _ _ h => hFc _ h)
  generalize H1 = H at hP1 hS ⊢
  have hP := hP1
  have hD := hD1
  have hP : va_P D xcl (rp ad E RL) H := hP
  have hD : va_D A (rp ad E RL) := hD
  refine lv_aload_n hx hb xd_JL_charAt_6 rfl (lv_at hl 0 rfl) ?_
  refine lv_iload_n hx hb xd_JL_charAt_7 rfl (lv_at hl 1 rfl) ?_
  refine va_tb (i := nI k) (v := .int ((zB.getD si []).getD k 0)) hx hb (hZ.2.1.1 si hsi).2.2.2 hS (vp_in_nI (by omega) (by have := z_len si hsi; omega)) (by rw [nI_clamp (by have := z_len si hsi; omega)]) xd_JL_charAt_8 ?_
  refine lv_sipush (v := 255) hx hb xd_JL_charAt_9 (by decide) ?_
  refine lv_iand hx hb xd_JL_charAt_12 ?_
  refine lv_i2c (v := ((zB.getD si []).getD k 0 &&& 255)) hx hb xd_JL_charAt_13 (sc_c2 _) ?_
  exact W.zret (v := ((zB.getD si []).getD k 0 &&& 255)) hx hb hr (sc_nar _) (fun t ht hW => ⟨⟨((zB.getD si []).getD k 0 &&& 255), (), rfl, rfl, by rw [ht]; exact hP, hD⟩, hS.F ht⟩) hS.2.2 xd_JL_charAt_14
set_option maxHeartbeats 4000000 in
set_option maxRecDepth 100000 in
theorem xc_JS_charAtX (l : Launch) (D : va_G) (kA : Nat → ClassId) (sz : Nat) (ad : Nat → Nat → Nat) (E : Nat → Nat → va_E) (RL : List (Nat × Nat)) (Z : zT) (si : Nat) (k : Nat) (hsi : si < 12) (hk : k < zL.getD si 0) : Met l xy_JS_charAt (.code xy_JS_charAt xb_JS_charAt 2 (some .char) :: wT) { frames := 3, cells := 0, slots := 0, locals := 64 } (va_Pc [.ref (Z.1 si), .int (nI k)] (xPreZ D kA sz (rp ad E RL) Z)) (va_Qi (fun (r : Int32) (u : Unit) => r = ((zB.getD si []).getD k 0 &&& 255)) (fun (u : Unit) t => va_P D xcl (rp ad E RL) t.heap ∧ va_D (va_A (rp ad E RL) sz) (rp ad E RL)) (va_A (rp ad E RL) sz)) 0 0 (va_A (rp ad E RL) sz) := by
  refine Met.ofW (cc := xb_JS_charAt) (maxL := 2) (ret := (some .char)) (by decide) rfl ?_
  intro p e s m args below meth c s₁ B hml hv
  obtain ⟨rfl, ⟨hsz, hP, hK, hD0⟩, hZ⟩ := hv
  have hx := B.exec
  have hb := B.bytes
  have hr := B.returns
  have hT := x_hT B.pre
  have hown : s.vm.findClass xR_JS = some m.cls := findClass_of_methodNamed B.named
  have hlocks := B.notSynchronized
  subst hsz
  have hD := hD0.self (sz := s.heap.size)
  generalize hAe : va_A (rp ad E RL) s.heap.size = A at hD hZ ⊢
  have hA : ∀ q : Nat, s.heap.size ≤ q → A q := fun q h => by rw [← hAe]; exact Or.inr h
  have hS : va_S A s.heap s.heap [] := va_S.rf
  have hl := lv_entry ([.ref (Z.1 si), .int (nI k)]) (n := 2) (Nat.le_of_ble_eq_true rfl)
  rw [lg_entry_eq]
  generalize (lg_sl ([.ref (Z.1 si), .int (nI k)]) ++ List.replicate (2 - (lg_sl ([.ref (Z.1 si), .int (nI k)])).length) Slot.unset).toArray = ls at hl ⊢
  have hl : lv_has ls 2 [(0, .ref (Z.1 si)), (1, .int (nI k))] := hl
  have hP : va_P D xcl (rp ad E RL) s.heap := hP
  refine lv_aload_n hx hb xd_JS_charAt_0 rfl (lv_at hl 0 rfl) ?_
  have hFc := px_free hD hS hA
  refine va_calli (va_runV (As := []) (rest := []) ⟨hx, hb, hml, hown, hT⟩ (xc_JS_isLatin1 l D kA s.heap.size ad E RL Z si (by first | assumption | omega)) (cwV 0 hT (wT_V k5a_5 k5a_6 k5a_7 k5a_3 k5a_4) rfl rfl rfl (by decide +kernel) ⟨Nat.le_of_ble_eq_true rfl, Nat.le_of_ble_eq_true rfl⟩) (x_preTZ (vk_recv hZ.2.1 hsi hS) hK hP hD hFc (hZ.kept hS)) rfl rfl hl.1 rfl (lv_room (Nat.le_of_ble_eq_true rfl)) xd_JS_charAt_1 ⟨(Nat.le_of_ble_eq_true rfl), (Nat.le_of_ble_eq_true rfl)⟩) hS (fun q _ h => hFc q h) hFc (fun r1 u2 t H1 locs ht hvm hp3 hB hz1 hk1 hS => ?_)
  obtain ⟨hP1, hD1⟩ := hB
  rw [ht] at hP1
  have hD1 := hD1.weaken (fun _ _ _ h => hFc _ h)
  generalize H1 = H at hP1 hS ⊢
  have hP := hP1
  have hD := hD1
  have hP : va_P D xcl (rp ad E RL) H := hP
  have hD : va_D A (rp ad E RL) := hD
  rcases hp3 with rfl
  · refine W.eq (g2 := F0 m 4 ls [.int 1]) rfl ?_
    refine lv_if_eq (tgt := 16) hx hb xd_JS_charAt_4 (by decide) (fun hc4 => absurd hc4 (by decide)) (fun _ => ?_)
    refine lv_aload_n hx hb xd_JS_charAt_7 rfl (lv_at hl 0 rfl) ?_
    refine vk_getf (o := "java/lang/String") (n := "value") (d := "[B") (ref := "java/lang/String") hx hb (hZ.2.1.1 si hsi).2.2.1 hS hown (hT _ k5a_8) (fun _ h9 => h9) xd_JS_charAt_8 ?_
    refine lv_iload_n hx hb xd_JS_charAt_11 rfl (lv_at hl 1 rfl) ?_
    have hFc := px_free hD hS hA
    refine va_calli (va_runS (As := [.ref (Z.2.1 si), .int (nI k)]) (rest := []) ⟨hx, hb, hml, hown, hT⟩ (xc_JL_charAtX l D kA H.size ad E RL Z si k (by first | assumption | omega) (by first | assumption | omega)) (va_cwS 2 hT (wT_S k5a_10 k5a_11 k5a_12 k5a_9) rfl rfl rfl (by decide +kernel) ⟨Nat.le_of_ble_eq_true rfl, Nat.le_of_ble_eq_true rfl⟩) (x_preSZ hK hP hD hFc (hZ.kept hS)) rfl rfl hl.1 rfl (lv_room (Nat.le_of_ble_eq_true rfl)) xd_JS_charAt_12 ⟨(Nat.le_of_ble_eq_true rfl), (Nat.le_of_ble_eq_true rfl)⟩) hS (fun q _ h => hFc q h) hFc (fun r5 u6 t H1 locs ht hvm hp7 hB hz1 hk1 hS => ?_)
    obtain ⟨hP1, hD1⟩ := hB
    rw [ht] at hP1
    have hD1 := hD1.weaken (fun _ _ _ h => hFc _ h)
    generalize H1 = H at hP1 hS ⊢
    have hP := hP1
    have hD := hD1
    have hP : va_P D xcl (rp ad E RL) H := hP
    have hD : va_D A (rp ad E RL) := hD
    have hb8 := hp7
    exact W.zret (v := r5) hx hb hr (by rw [hb8]; exact sc_nar _) (fun t ht hW => ⟨⟨r5, (), rfl, hb8, by rw [ht]; exact hP, hD⟩, hS.F ht⟩) hS.2.2 xd_JS_charAt_15
set_option maxHeartbeats 4000000 in
set_option maxRecDepth 100000 in
theorem xc_Li_appendX (l : Launch) (D : va_G) (kA : Nat → ClassId) (sz : Nat) (ad : Nat → Nat → Nat) (E : Nat → Nat → va_E) (RL : List (Nat × Nat)) (len : Nat) (wn : Nat) (tx : Nat → Int32) (cc9 : Int32) (ym0 : (0, 1) ∈ RL) (yc0 : E 0 1 = .inr (1, [.ref (ad 0 2), .ref (ad 0 3), .ref (ad 0 4), .int (nI len), .int (nI wn)])) (ym1 : (0, 2) ∈ RL) (yc1 : E 0 2 = .inl (kA 1, 40, .inl tx)) (hl40 : len ≤ 40) : Met l xy_Li_append (.code xy_Li_append xb_Li_append 2 (some .boolean) :: wT) { frames := 0, cells := 0, slots := 0, locals := 0 } (va_Pc [.ref (ad 0 1), .int cc9] (xPre D kA sz (rp ad E RL))) (va_Qi (fun (r : Int32) (u : Nat → Nat → va_E) => ∃ len2 : Nat, ∃ tx2 : Nat → Int32, ((r = 0 ∧ len2 = len ∧ tx2 = tx ∧ (cc9 < 32 ∨ 126 < cc9 ∨ len = 40)) ∨ (r = 1 ∧ len2 = len + 1 ∧ tx2 = upd tx len (vp_nar .char cc9) ∧ len < 40 ∧ ¬ cc9 < 32 ∧ ¬ 126 < cc9)) ∧ (u 0 1 = .inr (1, [.ref (ad 0 2), .ref (ad 0 3), .ref (ad 0 4), .int (nI len2), .int (nI wn)])) ∧ (u 0 2 = .inl (kA 1, 40, .inl tx2)) ∧ ((∀ b2 o2, ¬ (b2 = 0 ∧ o2 = 1) → ¬ (b2 = 0 ∧ o2 = 2) → u b2 o2 = E b2 o2))) (fun (u : Nat → Nat → va_E) t => va_P D xcl (rp ad u RL) t.heap ∧ va_D (va_A (rp ad E RL) sz) (rp ad u RL)) (va_A (rp ad E RL) sz)) 0 0 (va_A (rp ad E RL) sz) := by
  refine Met.ofW (cc := xb_Li_append) (maxL := 2) (ret := (some .boolean)) (by decide) rfl ?_
  intro p e s m args below meth c s₁ B hml hv
  obtain ⟨rfl, hsz, hP, hK, hD0⟩ := hv
  have hx := B.exec
  have hb := B.bytes
  have hr := B.returns
  have hT := x_hT B.pre
  have hown : s.vm.findClass xR_Li = some m.cls := findClass_of_methodNamed B.named
  have hlocks := B.notSynchronized
  subst hsz
  have hD := hD0.self (sz := s.heap.size)
  generalize hAe : va_A (rp ad E RL) s.heap.size = A at hD ⊢
  have hA : ∀ q : Nat, s.heap.size ≤ q → A q := fun q h => by rw [← hAe]; exact Or.inr h
  have hS : va_S A s.heap s.heap [] := va_S.rf
  have hl := lv_entry ([.ref (ad 0 1), .int cc9]) (n := 2) (Nat.le_of_ble_eq_true rfl)
  rw [lg_entry_eq]
  generalize (lg_sl ([.ref (ad 0 1), .int cc9]) ++ List.replicate (2 - (lg_sl ([.ref (ad 0 1), .int cc9])).length) Slot.unset).toArray = ls at hl ⊢
  have hl : lv_has ls 2 [(0, .ref (ad 0 1)), (1, .int cc9)] := hl
  have hP : va_P D xcl (rp ad E RL) s.heap := hP
  refine lv_aload_n hx hb xd_Li_append_0 rfl (lv_at hl 0 rfl) ?_
  refine px_get (D := D) (ci := 1) (v := .int (nI len)) (C := xR_Li) (T := xT_Li) (N := 5) hx hb hT xi_Li hown hK.1 hP ym0 yc0 rfl 3 (by decide) (hT _ k5a_13) (fun _ h9 => h9) rfl xd_Li_append_1 ?_
  refine lv_bipush (v := 40) hx hb xd_Li_append_4 (by decide) ?_
  refine xn_ge (a := len) (b := 40) (tgt := 21) hx hb xd_Li_append_6 (by decide) (by omega) (by omega) (fun hc1 => ?_) (fun hc1 => ?_)
  · refine lv_iconst (v := 0) hx hb xd_Li_append_21 (by decide) ?_
    exact W.zret (v := 0) hx hb hr rfl (fun t ht hW => ⟨⟨0, E, rfl, ⟨len, tx, (Or.inl ⟨rfl, rfl, rfl, Or.inr (Or.inr (by omega))⟩), yc0, yc1, (fun b2 o2 h09 h19 => rfl)⟩, by rw [ht]; exact hP, hD⟩, hS.F ht⟩) hS.2.2 xd_Li_append_22
  · refine lv_iload_n hx hb xd_Li_append_9 rfl (lv_at hl 1 rfl) ?_
    refine lv_bipush (v := 32) hx hb xd_Li_append_10 (by decide) ?_
    refine lv_icmp_lt (tgt := 21) hx hb xd_Li_append_12 (by decide) (fun hc2 => ?_) (fun hc2 => ?_)
    · refine lv_iconst (v := 0) hx hb xd_Li_append_21 (by decide) ?_
      exact W.zret (v := 0) hx hb hr rfl (fun t ht hW => ⟨⟨0, E, rfl, ⟨len, tx, (Or.inl ⟨rfl, rfl, rfl, Or.inl hc2⟩), yc0, yc1, (fun b2 o2 h09 h19 => rfl)⟩, by rw [ht]; exact hP, hD⟩, hS.F ht⟩) hS.2.2 xd_Li_append_22
    · refine lv_iload_n hx hb xd_Li_append_15 rfl (lv_at hl 1 rfl) ?_
      refine lv_bipush (v := 126) hx hb xd_Li_append_16 (by decide) ?_
      refine lv_icmp_le (tgt := 23) hx hb xd_Li_append_18 (by decide) (fun hc3 => ?_) (fun hc3 => ?_)
      · refine lv_aload_n hx hb xd_Li_append_23 rfl (lv_at hl 0 rfl) ?_
        refine px_get (D := D) (ci := 1) (v := .ref (ad 0 2)) (C := xR_Li) (T := xT_Li) (N := 5) hx hb hT xi_Li hown hK.1 hP ym0 yc0 rfl 0 (by decide) (hT _ k5a_14) (fun _ h9 => h9) rfl xd_Li_append_24 ?_
        refine lv_aload_n hx hb xd_Li_append_27 rfl (lv_at hl 0 rfl) ?_
        refine px_get (D := D) (ci := 1) (v := .int (nI len)) (C := xR_Li) (T := xT_Li) (N := 5) hx hb hT xi_Li hown hK.1 hP ym0 yc0 rfl 3 (by decide) (hT _ k5a_13) (fun _ h9 => h9) rfl xd_Li_append_28 ?_
        refine lv_iload_n hx hb xd_Li_append_31 rfl (lv_at hl 1 rfl) ?_
        refine px_cast (i := len) hx hb hK.1 hP hD hS ym1 yc1 1 rfl (by omega) (by decide) xd_Li_append_32 (fun H locs hP hD hS => ?_)
        have hP : va_P D xcl (rp ad (up2 E 0 2 (.inl (kA 1, 40, .inl (upd tx len (vp_nar .char cc9))))) RL) H := hP
        have hD : va_D A (rp ad (up2 E 0 2 (.inl (kA 1, 40, .inl (upd tx len (vp_nar .char cc9))))) RL) := hD
        generalize hE5 : up2 E 0 2 (.inl (kA 1, 40, .inl (upd tx len (vp_nar .char cc9)))) = E4 at hP hD
        have fE6 : ∀ b2 o2, ¬ (b2 = 0 ∧ o2 = 2) → E4 b2 o2 = E b2 o2 := fun b2 o2 h9 => by rw [← hE5]; exact up2_ne (by omega)
        have c_7 : E4 0 2 = .inl (kA 1, 40, .inl (upd tx len (vp_nar .char cc9))) := by rw [← hE5]; exact up2_eq
        have c_8 : E4 0 1 = .inr (1, [.ref (ad 0 2), .ref (ad 0 3), .ref (ad 0 4), .int (nI len), .int (nI wn)]) := (fE6 0 1 (by omega)).trans yc0
        refine lv_aload_n hx hb xd_Li_append_33 rfl (lv_at hl 0 rfl) ?_
        refine lv_dup hx hb xd_Li_append_34 rfl ?_
        refine px_get (D := D) (ci := 1) (v := .int (nI len)) (C := xR_Li) (T := xT_Li) (N := 5) hx hb hT xi_Li hown hK.1 hP ym0 c_8 rfl 3 (by decide) (hT _ k5a_13) (fun _ h9 => h9) rfl xd_Li_append_35 ?_
        refine lv_iconst (v := 1) hx hb xd_Li_append_38 (by decide) ?_
        refine lv_iadd hx hb xd_Li_append_39 ?_
        refine xn_top (y := nI (len + 1)) (nI_add len 1) ?_
        refine px_put (D := D) (ci := 1) (v := .int (nI (len + 1))) (ty := .int) (C := xR_Li) (T := xT_Li) (N := 5) hx hb hT xi_Li xt_Li xt_Li_ok xn_Li hown hK.1 hP hD hS ym0 c_8 rfl 3 (by decide) (hT _ k5a_13) (fun _ h9 => h9) rfl (by decide +kernel) rfl rfl (Nat.le_of_ble_eq_true rfl) xd_Li_append_40 (fun H locs hP hD hS => ?_)
        have hP : va_P D xcl (rp ad (up2 E4 0 1 (.inr (1, [.ref (ad 0 2), .ref (ad 0 3), .ref (ad 0 4), .int (nI (len + 1)), .int (nI wn)]))) RL) H := hP
        have hD : va_D A (rp ad (up2 E4 0 1 (.inr (1, [.ref (ad 0 2), .ref (ad 0 3), .ref (ad 0 4), .int (nI (len + 1)), .int (nI wn)]))) RL) := hD
        generalize hE10 : up2 E4 0 1 (.inr (1, [.ref (ad 0 2), .ref (ad 0 3), .ref (ad 0 4), .int (nI (len + 1)), .int (nI wn)])) = E9 at hP hD
        have fE11 : ∀ b2 o2, ¬ (b2 = 0 ∧ o2 = 1) → E9 b2 o2 = E4 b2 o2 := fun b2 o2 h9 => by rw [← hE10]; exact up2_ne (by omega)
        have c_12 : E9 0 1 = .inr (1, [.ref (ad 0 2), .ref (ad 0 3), .ref (ad 0 4), .int (nI (len + 1)), .int (nI wn)]) := by rw [← hE10]; exact up2_eq
        have c_13 : E9 0 2 = .inl (kA 1, 40, .inl (upd tx len (vp_nar .char cc9))) := (fE11 0 2 (by omega)).trans c_7
        refine lv_iconst (v := 1) hx hb xd_Li_append_43 (by decide) ?_
        exact W.zret (v := 1) hx hb hr rfl (fun t ht hW => ⟨⟨1, E9, rfl, ⟨len + 1, (upd tx len (vp_nar .char cc9)), (Or.inr ⟨rfl, rfl, rfl, by omega, hc2, Int32.not_lt.mpr hc3⟩), c_12, c_13, (fun b2 o2 h09 h19 => by show E9 b2 o2 = _; rw [fE11 b2 o2 (by omega), fE6 b2 o2 (by omega)])⟩, by rw [ht]; exact hP, hD⟩, hS.F ht⟩) hS.2.2 xd_Li_append_44
      · refine lv_iconst (v := 0) hx hb xd_Li_append_21 (by decide) ?_
        exact W.zret (v := 0) hx hb hr rfl (fun t ht hW => ⟨⟨0, E, rfl, ⟨len, tx, (Or.inl ⟨rfl, rfl, rfl, Or.inr (Or.inl (Int32.not_le.mp hc3))⟩), yc0, yc1, (fun b2 o2 h09 h19 => rfl)⟩, by rw [ht]; exact hP, hD⟩, hS.F ht⟩) hS.2.2 xd_Li_append_22
set_option maxHeartbeats 4000000 in
set_option maxRecDepth 100000 in
theorem xc_Li_takeX (l : Launch) (D : va_G) (kA : Nat → ClassId) (sz : Nat) (ad : Nat → Nat → Nat) (E : Nat → Nat → va_E) (RL : List (Nat × Nat)) (len : Nat) (wn : Nat) (tx : Nat → Int32) (fb : Nat → Int32) (fe : Nat → Int32) (ym0 : (0, 1) ∈ RL) (yc0 : E 0 1 = .inr (1, [.ref (ad 0 2), .ref (ad 0 3), .ref (ad 0 4), .int (nI len), .int (nI wn)])) (ym1 : (0, 2) ∈ RL) (yc1 : E 0 2 = .inl (kA 1, 40, .inl tx)) (ym2 : (0, 3) ∈ RL) (yc2 : E 0 3 = .inl (kA 0, 20, .inl fb)) (ym3 : (0, 4) ∈ RL) (yc3 : E 0 4 = .inl (kA 0, 20, .inl fe)) (hl40 : len ≤ 40) : Met l xy_Li_take (.code xy_Li_take xb_Li_take 3 none :: wT) { frames := 0, cells := 0, slots := 0, locals := 0 } (va_Pc [.ref (ad 0 1)] (xPre D kA sz (rp ad E RL))) (va_Qv (fun (u : Nat → Nat → va_E) => ∃ wn2 : Nat, ∃ fb2 : Nat → Int32, ∃ fe2 : Nat → Int32, (wn2 ≤ 20 ∧ WP wn2 fb2 fe2 ∧ wn2 = (w_all tx len).length ∧ fT (fun _ _ => 0) fb2 fe2 (w_all tx len)) ∧ (u 0 1 = .inr (1, [.ref (ad 0 2), .ref (ad 0 3), .ref (ad 0 4), .int 0, .int (nI wn2)])) ∧ (u 0 3 = .inl (kA 0, 20, .inl fb2)) ∧ (u 0 4 = .inl (kA 0, 20, .inl fe2)) ∧ ((∀ b2 o2, ¬ (b2 = 0 ∧ o2 = 1) → ¬ (b2 = 0 ∧ o2 = 3) → ¬ (b2 = 0 ∧ o2 = 4) → u b2 o2 = E b2 o2))) (fun (u : Nat → Nat → va_E) t => va_P D xcl (rp ad u RL) t.heap ∧ va_D (va_A (rp ad E RL) sz) (rp ad u RL)) (va_A (rp ad E RL) sz)) 0 0 (va_A (rp ad E RL) sz) := by
  refine Met.ofW (cc := xb_Li_take) (maxL := 3) (ret := none) (by decide) rfl ?_
  intro p e s m args below meth c s₁ B hml hv
  obtain ⟨rfl, hsz, hP, hK, hD0⟩ := hv
  have hx := B.exec
  have hb := B.bytes
  have hr := B.returns
  have hT := x_hT B.pre
  have hown : s.vm.findClass xR_Li = some m.cls := findClass_of_methodNamed B.named
  have hlocks := B.notSynchronized
  subst hsz
  have hD := hD0.self (sz := s.heap.size)
  generalize hAe : va_A (rp ad E RL) s.heap.size = A at hD ⊢
  have hA : ∀ q : Nat, s.heap.size ≤ q → A q := fun q h => by rw [← hAe]; exact Or.inr h
  have hS : va_S A s.heap s.heap [] := va_S.rf
  have hl := lv_entry ([.ref (ad 0 1)]) (n := 3) (Nat.le_of_ble_eq_true rfl)
  rw [lg_entry_eq]
  generalize (lg_sl ([.ref (ad 0 1)]) ++ List.replicate (3 - (lg_sl ([.ref (ad 0 1)])).length) Slot.unset).toArray = ls at hl ⊢
  have hl : lv_has ls 3 [(0, .ref (ad 0 1))] := hl
  have hP : va_P D xcl (rp ad E RL) s.heap := hP
  refine lv_aload_n hx hb xd_Li_take_0 rfl (lv_at hl 0 rfl) ?_
  refine lv_iconst (v := 0) hx hb xd_Li_take_1 (by decide) ?_
  refine px_put (D := D) (ci := 1) (v := .int 0) (ty := .int) (C := xR_Li) (T := xT_Li) (N := 5) hx hb hT xi_Li xt_Li xt_Li_ok xn_Li hown hK.1 hP hD hS ym0 yc0 rfl 4 (by decide) (hT _ k5a_15) (fun _ h9 => h9) rfl (by decide +kernel) rfl rfl (Nat.le_of_ble_eq_true rfl) xd_Li_take_2 (fun H locs hP hD hS => ?_)
  have hP : va_P D xcl (rp ad (up2 E 0 1 (.inr (1, [.ref (ad 0 2), .ref (ad 0 3), .ref (ad 0 4), .int (nI len), .int 0]))) RL) H := hP
  have hD : va_D A (rp ad (up2 E 0 1 (.inr (1, [.ref (ad 0 2), .ref (ad 0 3), .ref (ad 0 4), .int (nI len), .int 0]))) RL) := hD
  generalize hE2 : up2 E 0 1 (.inr (1, [.ref (ad 0 2), .ref (ad 0 3), .ref (ad 0 4), .int (nI len), .int 0])) = E1 at hP hD
  have fE3 : ∀ b2 o2, ¬ (b2 = 0 ∧ o2 = 1) → E1 b2 o2 = E b2 o2 := fun b2 o2 h9 => by rw [← hE2]; exact up2_ne (by omega)
  have c_4 : E1 0 1 = .inr (1, [.ref (ad 0 2), .ref (ad 0 3), .ref (ad 0 4), .int (nI len), .int 0]) := by rw [← hE2]; exact up2_eq
  have c_5 : E1 0 2 = .inl (kA 1, 40, .inl tx) := (fE3 0 2 (by omega)).trans yc1
  have c_6 : E1 0 3 = .inl (kA 0, 20, .inl fb) := (fE3 0 3 (by omega)).trans yc2
  have c_7 : E1 0 4 = .inl (kA 0, 20, .inl fe) := (fE3 0 4 (by omega)).trans yc3
  refine lv_iconst (v := 0) hx hb xd_Li_take_5 (by decide) ?_
  refine lv_istore_n hx hb xd_Li_take_6 rfl hl (Nat.le_of_ble_eq_true rfl) rfl (fun ls hl => ?_)
  have hl : lv_has ls 3 [(1, .int 0), (0, .ref (ad 0 1))] := hl
  refine lv_iconst (v := 0) hx hb xd_Li_take_7 (by decide) ?_
  refine lv_istore_n hx hb xd_Li_take_8 rfl hl (Nat.le_of_ble_eq_true rfl) rfl (fun ls hl => ?_)
  have hl : lv_has ls 3 [(2, .int 0), (1, .int 0), (0, .ref (ad 0 1))] := hl
  refine xlab (σ := Nat × Nat × (Nat → Nat → va_E) × Nat × (Nat → Int32) × (Nat → Int32)) (ml := 3) 9 (fun (i, stt, E1, wn1, fb1, fe1) => [(2, .int (nI i)), (1, .int (nI stt)), (0, .ref (ad 0 1))]) (fun (i, stt, E1, wn1, fb1, fe1) => []) (fun (i, stt, E1, wn1, fb1, fe1) => rp ad E1 RL) (fun (i, stt, E1, wn1, fb1, fe1) => (i ≤ len + 1) ∧ (stt ≤ i) ∧ (wn1 ≤ 20) ∧ ((i ≤ len ∧ (wn1 = (w_l tx i).length ∧ fT (fun _ _ => 0) fb1 fe1 (w_l tx i)) ∧ stt = w_st tx i) ∨ (i = len + 1 ∧ wn1 = (w_all tx len).length ∧ fT (fun _ _ => 0) fb1 fe1 (w_all tx len))) ∧ (E1 0 1 = .inr (1, [.ref (ad 0 2), .ref (ad 0 3), .ref (ad 0 4), .int (nI len), .int (nI wn1)])) ∧ (E1 0 3 = .inl (kA 0, 20, .inl fb1)) ∧ (E1 0 4 = .inl (kA 0, 20, .inl fe1)) ∧ (∀ b2 o2, ¬ (b2 = 0 ∧ o2 = 1) → ¬ (b2 = 0 ∧ o2 = 3) → ¬ (b2 = 0 ∧ o2 = 4) → E1 b2 o2 = E b2 o2)) (fun (i, stt, E1, wn1, fb1, fe1) => len + 1 - i) ?_ (0, 0, E1, 0, fb, fe) _ _ _ (lv_sub hl [0, 1, 2] rfl) hP hD hS ⟨(show 0 ≤ len + 1 from by first | assumption | omega), (show 0 ≤ 0 from by first | assumption | omega), (show 0 ≤ 20 from by first | assumption | omega), (show (0 ≤ len ∧ (0 = (w_l tx 0).length ∧ fT (fun _ _ => 0) fb fe (w_l tx 0)) ∧ 0 = w_st tx 0) ∨ (0 = len + 1 ∧ 0 = (w_all tx len).length ∧ fT (fun _ _ => 0) fb fe (w_all tx len)) from Or.inl ⟨by omega, ⟨rfl, fun i hi => absurd hi (Nat.not_lt_zero i)⟩, rfl⟩), (show E1 0 1 = .inr (1, [.ref (ad 0 2), .ref (ad 0 3), .ref (ad 0 4), .int (nI len), .int (nI 0)]) from c_4), (show E1 0 3 = .inl (kA 0, 20, .inl fb) from c_6), (show E1 0 4 = .inl (kA 0, 20, .inl fe) from c_7), (show ∀ b2 o2, ¬ (b2 = 0 ∧ o2 = 1) → ¬ (b2 = 0 ∧ o2 = 3) → ¬ (b2 = 0 ∧ o2 = 4) → E1 b2 o2 = E b2 o2 from fun b2 o2 h09 h19 h29 => by rw [fE3 b2 o2 (by omega)])⟩
  intro n9 ih8 a9 ls H locs hμ hl hP hD hS hI
  subst hμ
  obtain ⟨i, stt, E1, wn1, fb1, fe1⟩ := a9
  obtain ⟨hi, hst, hwn, hTw, hc1, hc3, hc4, hfr⟩ := hI
  have hi : i ≤ len + 1 := hi
  have hst : stt ≤ i := hst
  have hwn : wn1 ≤ 20 := hwn
  have hTw : (i ≤ len ∧ (wn1 = (w_l tx i).length ∧ fT (fun _ _ => 0) fb1 fe1 (w_l tx i)) ∧ stt = w_st tx i) ∨ (i = len + 1 ∧ wn1 = (w_all tx len).length ∧ fT (fun _ _ => 0) fb1 fe1 (w_all tx len)) := hTw
  have hc1 : E1 0 1 = .inr (1, [.ref (ad 0 2), .ref (ad 0 3), .ref (ad 0 4), .int (nI len), .int (nI wn1)]) := hc1
  have hc3 : E1 0 3 = .inl (kA 0, 20, .inl fb1) := hc3
  have hc4 : E1 0 4 = .inl (kA 0, 20, .inl fe1) := hc4
  have hfr : ∀ b2 o2, ¬ (b2 = 0 ∧ o2 = 1) → ¬ (b2 = 0 ∧ o2 = 3) → ¬ (b2 = 0 ∧ o2 = 4) → E1 b2 o2 = E b2 o2 := hfr
  have hl : lv_has ls 3 [(2, .int (nI i)), (1, .int (nI stt)), (0, .ref (ad 0 1))] := hl
  have hP : va_P D xcl (rp ad E1 RL) H := hP
  have hD : va_D A (rp ad E1 RL) := hD
  have c_9 : E1 0 2 = .inl (kA 1, 40, .inl tx) := (hfr 0 2 (by omega) (by omega) (by omega)).trans yc1
  refine lv_iload_n hx hb xd_Li_take_9 rfl (lv_at hl 0 rfl) ?_
  refine lv_aload_n hx hb xd_Li_take_10 rfl (lv_at hl 2 rfl) ?_
  refine px_get (D := D) (ci := 1) (v := .int (nI len)) (C := xR_Li) (T := xT_Li) (N := 5) hx hb hT xi_Li hown hK.1 hP ym0 hc1 rfl 3 (by decide) (hT _ k5a_13) (fun _ h9 => h9) rfl xd_Li_take_11 ?_
  refine xn_gt (a := i) (b := len) (tgt := 90) hx hb xd_Li_take_14 (by decide) (by omega) (by omega) (fun hc10 => ?_) (fun hc10 => ?_)
  · refine lv_aload_n hx hb xd_Li_take_90 rfl (lv_at hl 2 rfl) ?_
    refine lv_iconst (v := 0) hx hb xd_Li_take_91 (by decide) ?_
    refine px_put (D := D) (ci := 1) (v := .int 0) (ty := .int) (C := xR_Li) (T := xT_Li) (N := 5) hx hb hT xi_Li xt_Li xt_Li_ok xn_Li hown hK.1 hP hD hS ym0 hc1 rfl 3 (by decide) (hT _ k5a_13) (fun _ h9 => h9) rfl (by decide +kernel) rfl rfl (Nat.le_of_ble_eq_true rfl) xd_Li_take_92 (fun H locs hP hD hS => ?_)
    have hP : va_P D xcl (rp ad (up2 E1 0 1 (.inr (1, [.ref (ad 0 2), .ref (ad 0 3), .ref (ad 0 4), .int 0, .int (nI wn1)]))) RL) H := hP
    have hD : va_D A (rp ad (up2 E1 0 1 (.inr (1, [.ref (ad 0 2), .ref (ad 0 3), .ref (ad 0 4), .int 0, .int (nI wn1)]))) RL) := hD
    generalize hE12 : up2 E1 0 1 (.inr (1, [.ref (ad 0 2), .ref (ad 0 3), .ref (ad 0 4), .int 0, .int (nI wn1)])) = E11 at hP hD
    have fE13 : ∀ b2 o2, ¬ (b2 = 0 ∧ o2 = 1) → E11 b2 o2 = E1 b2 o2 := fun b2 o2 h9 => by rw [← hE12]; exact up2_ne (by omega)
    have c_14 : E11 0 1 = .inr (1, [.ref (ad 0 2), .ref (ad 0 3), .ref (ad 0 4), .int 0, .int (nI wn1)]) := by rw [← hE12]; exact up2_eq
    have c_15 : E11 0 3 = .inl (kA 0, 20, .inl fb1) := (fE13 0 3 (by omega)).trans hc3
    have c_16 : E11 0 4 = .inl (kA 0, 20, .inl fe1) := (fE13 0 4 (by omega)).trans hc4
    have c_17 : E11 0 2 = .inl (kA 1, 40, .inl tx) := (fE13 0 2 (by omega)).trans c_9
    exact W.vret hx hb hr (fun t ht hW => ⟨⟨E11, rfl, ⟨wn1, fb1, fe1, (by
        have hT9 : wn1 = (w_all tx len).length ∧ fT (fun _ _ => 0) fb1 fe1 (w_all tx len) := by
          rcases hTw with ⟨q, _⟩ | ⟨_, q⟩
          · omega
          · exact q
        have hw := WL_all tx hl40
        exact ⟨by rw [hT9.1]; exact hw.1, fun w hw9 => ⟨wb (w_all tx len) w, we (w_all tx len) w, (hw.2 w (by rw [← hT9.1]; exact hw9)).1, (hw.2 w (by rw [← hT9.1]; exact hw9)).2, (hT9.2 w (by rw [← hT9.1]; exact hw9)).1, (hT9.2 w (by rw [← hT9.1]; exact hw9)).2⟩, hT9.1, hT9.2⟩), c_14, c_15, c_16, (fun b2 o2 h09 h19 h29 => by show E11 b2 o2 = _; rw [fE13 b2 o2 (by omega), hfr b2 o2 (by omega) (by omega) (by omega)])⟩, by rw [ht]; exact hP, hD⟩, hS.F ht⟩) hS.2.2 xd_Li_take_95
  · have hT9 : (wn1 = (w_l tx i).length ∧ fT (fun _ _ => 0) fb1 fe1 (w_l tx i)) ∧ stt = w_st tx i := by
      rcases hTw with ⟨_, q1, q2⟩ | ⟨q, _⟩
      · exact ⟨q1, q2⟩
      · omega
    have hwll := w_l_len tx i
    have hwst := w_st_le tx i
    obtain ⟨⟨hT1, hT2⟩, hT3⟩ := id hT9
    rw [← hT1, ← hT3] at hwll
    refine lv_iload_n hx hb xd_Li_take_17 rfl (lv_at hl 0 rfl) ?_
    refine lv_aload_n hx hb xd_Li_take_18 rfl (lv_at hl 2 rfl) ?_
    refine px_get (D := D) (ci := 1) (v := .int (nI len)) (C := xR_Li) (T := xT_Li) (N := 5) hx hb hT xi_Li hown hK.1 hP ym0 hc1 rfl 3 (by decide) (hT _ k5a_13) (fun _ h9 => h9) rfl xd_Li_take_19 ?_
    refine xn_eq (a := i) (b := len) (tgt := 36) hx hb xd_Li_take_22 (by decide) (by omega) (by omega) (fun hc18 => ?_) (fun hc18 => ?_)
    · refine lv_iload_n hx hb xd_Li_take_36 rfl (lv_at hl 0 rfl) ?_
      refine lv_iload_n hx hb xd_Li_take_37 rfl (lv_at hl 1 rfl) ?_
      refine xn_le (a := i) (b := stt) (tgt := 80) hx hb xd_Li_take_38 (by decide) (by omega) (by omega) (fun hc19 => ?_) (fun hc19 => ?_)
      · refine lv_iload_n hx hb xd_Li_take_80 rfl (lv_at hl 0 rfl) ?_
        refine lv_iconst (v := 1) hx hb xd_Li_take_81 (by decide) ?_
        refine lv_iadd hx hb xd_Li_take_82 ?_
        refine xn_top (y := nI (i + 1)) (nI_add i 1) ?_
        refine lv_istore_n hx hb xd_Li_take_83 rfl hl (Nat.le_of_ble_eq_true rfl) rfl (fun ls hl => ?_)
        have hl : lv_has ls 3 [(1, .int (nI (i + 1))), (2, .int (nI i)), (0, .ref (ad 0 1))] := hl
        refine lv_iinc (k := 1) (x := (nI i)) (v := (nI (i + 1))) hx hb xd_Li_take_84 hl rfl (xb_inc i 1) (Nat.le_of_ble_eq_true rfl) rfl (fun ls hl => ?_)
        have hl : lv_has ls 3 [(2, .int (nI (i + 1))), (1, .int (nI (i + 1))), (0, .ref (ad 0 1))] := hl
        refine lv_goto (tgt := 9) hx hb xd_Li_take_87 (by decide) ?_
        exact ih8 (i + 1, i + 1, E1, wn1, fb1, fe1) _ _ _ (show len + 1 - (i + 1) < len + 1 - i by omega) (lv_sub hl [0, 1, 2] rfl) hP hD hS ⟨(show (i + 1) ≤ len + 1 from by first | assumption | omega), (show (i + 1) ≤ (i + 1) from by first | assumption | omega), (show wn1 ≤ 20 from by first | assumption | omega), (show ((i + 1) ≤ len ∧ (wn1 = (w_l tx (i + 1)).length ∧ fT (fun _ _ => 0) fb1 fe1 (w_l tx (i + 1))) ∧ (i + 1) = w_st tx (i + 1)) ∨ ((i + 1) = len + 1 ∧ wn1 = (w_all tx len).length ∧ fT (fun _ _ => 0) fb1 fe1 (w_all tx len)) from Or.inr ⟨by omega, by rw [← show i = len by omega, w_all_st (by omega)]; exact ⟨hT1, hT2⟩⟩), (show E1 0 1 = .inr (1, [.ref (ad 0 2), .ref (ad 0 3), .ref (ad 0 4), .int (nI len), .int (nI wn1)]) from hc1), (show E1 0 3 = .inl (kA 0, 20, .inl fb1) from hc3), (show E1 0 4 = .inl (kA 0, 20, .inl fe1) from hc4), (show ∀ b2 o2, ¬ (b2 = 0 ∧ o2 = 1) → ¬ (b2 = 0 ∧ o2 = 3) → ¬ (b2 = 0 ∧ o2 = 4) → E1 b2 o2 = E b2 o2 from fun b2 o2 h09 h19 h29 => by rw [hfr b2 o2 (by omega) (by omega) (by omega)])⟩
      · refine lv_aload_n hx hb xd_Li_take_41 rfl (lv_at hl 2 rfl) ?_
        refine px_get (D := D) (ci := 1) (v := .int (nI wn1)) (C := xR_Li) (T := xT_Li) (N := 5) hx hb hT xi_Li hown hK.1 hP ym0 hc1 rfl 4 (by decide) (hT _ k5a_15) (fun _ h9 => h9) rfl xd_Li_take_42 ?_
        refine lv_bipush (v := 20) hx hb xd_Li_take_45 (by decide) ?_
        refine xn_ge (a := wn1) (b := 20) (tgt := 80) hx hb xd_Li_take_47 (by decide) (by omega) (by omega) (fun hc20 => absurd hc20 (by omega)) (fun _ => ?_)
        refine lv_aload_n hx hb xd_Li_take_50 rfl (lv_at hl 2 rfl) ?_
        refine px_get (D := D) (ci := 1) (v := .ref (ad 0 3)) (C := xR_Li) (T := xT_Li) (N := 5) hx hb hT xi_Li hown hK.1 hP ym0 hc1 rfl 1 (by decide) (hT _ k5a_16) (fun _ h9 => h9) rfl xd_Li_take_51 ?_
        refine lv_aload_n hx hb xd_Li_take_54 rfl (lv_at hl 2 rfl) ?_
        refine px_get (D := D) (ci := 1) (v := .int (nI wn1)) (C := xR_Li) (T := xT_Li) (N := 5) hx hb hT xi_Li hown hK.1 hP ym0 hc1 rfl 4 (by decide) (hT _ k5a_15) (fun _ h9 => h9) rfl xd_Li_take_55 ?_
        refine lv_iload_n hx hb xd_Li_take_58 rfl (lv_at hl 1 rfl) ?_
        refine px_iast (i := wn1) hx hb hK.1 hP hD hS ym2 hc3 0 rfl (by omega) (by decide) xd_Li_take_59 (fun H locs hP hD hS => ?_)
        have hP : va_P D xcl (rp ad (up2 E1 0 3 (.inl (kA 0, 20, .inl (upd fb1 wn1 (nI stt))))) RL) H := hP
        have hD : va_D A (rp ad (up2 E1 0 3 (.inl (kA 0, 20, .inl (upd fb1 wn1 (nI stt))))) RL) := hD
        generalize hE22 : up2 E1 0 3 (.inl (kA 0, 20, .inl (upd fb1 wn1 (nI stt)))) = E21 at hP hD
        have fE23 : ∀ b2 o2, ¬ (b2 = 0 ∧ o2 = 3) → E21 b2 o2 = E1 b2 o2 := fun b2 o2 h9 => by rw [← hE22]; exact up2_ne (by omega)
        have c_24 : E21 0 3 = .inl (kA 0, 20, .inl (upd fb1 wn1 (nI stt))) := by rw [← hE22]; exact up2_eq
        have c_25 : E21 0 1 = .inr (1, [.ref (ad 0 2), .ref (ad 0 3), .ref (ad 0 4), .int (nI len), .int (nI wn1)]) := (fE23 0 1 (by omega)).trans hc1
        have c_26 : E21 0 4 = .inl (kA 0, 20, .inl fe1) := (fE23 0 4 (by omega)).trans hc4
        have c_27 : E21 0 2 = .inl (kA 1, 40, .inl tx) := (fE23 0 2 (by omega)).trans c_9
        refine lv_aload_n hx hb xd_Li_take_60 rfl (lv_at hl 2 rfl) ?_
        refine px_get (D := D) (ci := 1) (v := .ref (ad 0 4)) (C := xR_Li) (T := xT_Li) (N := 5) hx hb hT xi_Li hown hK.1 hP ym0 c_25 rfl 2 (by decide) (hT _ k5a_17) (fun _ h9 => h9) rfl xd_Li_take_61 ?_
        refine lv_aload_n hx hb xd_Li_take_64 rfl (lv_at hl 2 rfl) ?_
        refine px_get (D := D) (ci := 1) (v := .int (nI wn1)) (C := xR_Li) (T := xT_Li) (N := 5) hx hb hT xi_Li hown hK.1 hP ym0 c_25 rfl 4 (by decide) (hT _ k5a_15) (fun _ h9 => h9) rfl xd_Li_take_65 ?_
        refine lv_iload_n hx hb xd_Li_take_68 rfl (lv_at hl 0 rfl) ?_
        refine px_iast (i := wn1) hx hb hK.1 hP hD hS ym3 c_26 0 rfl (by omega) (by decide) xd_Li_take_69 (fun H locs hP hD hS => ?_)
        have hP : va_P D xcl (rp ad (up2 E21 0 4 (.inl (kA 0, 20, .inl (upd fe1 wn1 (nI i))))) RL) H := hP
        have hD : va_D A (rp ad (up2 E21 0 4 (.inl (kA 0, 20, .inl (upd fe1 wn1 (nI i))))) RL) := hD
        generalize hE29 : up2 E21 0 4 (.inl (kA 0, 20, .inl (upd fe1 wn1 (nI i)))) = E28 at hP hD
        have fE30 : ∀ b2 o2, ¬ (b2 = 0 ∧ o2 = 4) → E28 b2 o2 = E21 b2 o2 := fun b2 o2 h9 => by rw [← hE29]; exact up2_ne (by omega)
        have c_31 : E28 0 4 = .inl (kA 0, 20, .inl (upd fe1 wn1 (nI i))) := by rw [← hE29]; exact up2_eq
        have c_32 : E28 0 3 = .inl (kA 0, 20, .inl (upd fb1 wn1 (nI stt))) := (fE30 0 3 (by omega)).trans c_24
        have c_33 : E28 0 1 = .inr (1, [.ref (ad 0 2), .ref (ad 0 3), .ref (ad 0 4), .int (nI len), .int (nI wn1)]) := (fE30 0 1 (by omega)).trans c_25
        have c_34 : E28 0 2 = .inl (kA 1, 40, .inl tx) := (fE30 0 2 (by omega)).trans c_27
        refine lv_aload_n hx hb xd_Li_take_70 rfl (lv_at hl 2 rfl) ?_
        refine lv_dup hx hb xd_Li_take_71 rfl ?_
        refine px_get (D := D) (ci := 1) (v := .int (nI wn1)) (C := xR_Li) (T := xT_Li) (N := 5) hx hb hT xi_Li hown hK.1 hP ym0 c_33 rfl 4 (by decide) (hT _ k5a_15) (fun _ h9 => h9) rfl xd_Li_take_72 ?_
        refine lv_iconst (v := 1) hx hb xd_Li_take_75 (by decide) ?_
        refine lv_iadd hx hb xd_Li_take_76 ?_
        refine xn_top (y := nI (wn1 + 1)) (nI_add wn1 1) ?_
        refine px_put (D := D) (ci := 1) (v := .int (nI (wn1 + 1))) (ty := .int) (C := xR_Li) (T := xT_Li) (N := 5) hx hb hT xi_Li xt_Li xt_Li_ok xn_Li hown hK.1 hP hD hS ym0 c_33 rfl 4 (by decide) (hT _ k5a_15) (fun _ h9 => h9) rfl (by decide +kernel) rfl rfl (Nat.le_of_ble_eq_true rfl) xd_Li_take_77 (fun H locs hP hD hS => ?_)
        have hP : va_P D xcl (rp ad (up2 E28 0 1 (.inr (1, [.ref (ad 0 2), .ref (ad 0 3), .ref (ad 0 4), .int (nI len), .int (nI (wn1 + 1))]))) RL) H := hP
        have hD : va_D A (rp ad (up2 E28 0 1 (.inr (1, [.ref (ad 0 2), .ref (ad 0 3), .ref (ad 0 4), .int (nI len), .int (nI (wn1 + 1))]))) RL) := hD
        generalize hE36 : up2 E28 0 1 (.inr (1, [.ref (ad 0 2), .ref (ad 0 3), .ref (ad 0 4), .int (nI len), .int (nI (wn1 + 1))])) = E35 at hP hD
        have fE37 : ∀ b2 o2, ¬ (b2 = 0 ∧ o2 = 1) → E35 b2 o2 = E28 b2 o2 := fun b2 o2 h9 => by rw [← hE36]; exact up2_ne (by omega)
        have c_38 : E35 0 1 = .inr (1, [.ref (ad 0 2), .ref (ad 0 3), .ref (ad 0 4), .int (nI len), .int (nI (wn1 + 1))]) := by rw [← hE36]; exact up2_eq
        have c_39 : E35 0 4 = .inl (kA 0, 20, .inl (upd fe1 wn1 (nI i))) := (fE37 0 4 (by omega)).trans c_31
        have c_40 : E35 0 3 = .inl (kA 0, 20, .inl (upd fb1 wn1 (nI stt))) := (fE37 0 3 (by omega)).trans c_32
        have c_41 : E35 0 2 = .inl (kA 1, 40, .inl tx) := (fE37 0 2 (by omega)).trans c_34
        refine lv_iload_n hx hb xd_Li_take_80 rfl (lv_at hl 0 rfl) ?_
        refine lv_iconst (v := 1) hx hb xd_Li_take_81 (by decide) ?_
        refine lv_iadd hx hb xd_Li_take_82 ?_
        refine xn_top (y := nI (i + 1)) (nI_add i 1) ?_
        refine lv_istore_n hx hb xd_Li_take_83 rfl hl (Nat.le_of_ble_eq_true rfl) rfl (fun ls hl => ?_)
        have hl : lv_has ls 3 [(1, .int (nI (i + 1))), (2, .int (nI i)), (0, .ref (ad 0 1))] := hl
        refine lv_iinc (k := 1) (x := (nI i)) (v := (nI (i + 1))) hx hb xd_Li_take_84 hl rfl (xb_inc i 1) (Nat.le_of_ble_eq_true rfl) rfl (fun ls hl => ?_)
        have hl : lv_has ls 3 [(2, .int (nI (i + 1))), (1, .int (nI (i + 1))), (0, .ref (ad 0 1))] := hl
        refine lv_goto (tgt := 9) hx hb xd_Li_take_87 (by decide) ?_
        exact ih8 (i + 1, i + 1, E35, wn1 + 1, (upd fb1 wn1 (nI stt)), (upd fe1 wn1 (nI i))) _ _ _ (show len + 1 - (i + 1) < len + 1 - i by omega) (lv_sub hl [0, 1, 2] rfl) hP hD hS ⟨(show (i + 1) ≤ len + 1 from by first | assumption | omega), (show (i + 1) ≤ (i + 1) from by first | assumption | omega), (show (wn1 + 1) ≤ 20 from by first | assumption | omega), (show ((i + 1) ≤ len ∧ ((wn1 + 1) = (w_l tx (i + 1)).length ∧ fT (fun _ _ => 0) (upd fb1 wn1 (nI stt)) (upd fe1 wn1 (nI i)) (w_l tx (i + 1))) ∧ (i + 1) = w_st tx (i + 1)) ∨ ((i + 1) = len + 1 ∧ (wn1 + 1) = (w_all tx len).length ∧ fT (fun _ _ => 0) (upd fb1 wn1 (nI stt)) (upd fe1 wn1 (nI i)) (w_all tx len)) from Or.inr ⟨by omega, by
        have q := (fT_add (g := (fun _ _ => 0)) (b := stt) (e := i) hT2)
        rw [← hT1] at q
        rw [← show i = len by omega, w_all_run (by rw [← hT3]; omega), List.length_append, ← hT1, ← hT3]
        exact ⟨rfl, q⟩⟩), (show E35 0 1 = .inr (1, [.ref (ad 0 2), .ref (ad 0 3), .ref (ad 0 4), .int (nI len), .int (nI (wn1 + 1))]) from c_38), (show E35 0 3 = .inl (kA 0, 20, .inl (upd fb1 wn1 (nI stt))) from c_40), (show E35 0 4 = .inl (kA 0, 20, .inl (upd fe1 wn1 (nI i))) from c_39), (show ∀ b2 o2, ¬ (b2 = 0 ∧ o2 = 1) → ¬ (b2 = 0 ∧ o2 = 3) → ¬ (b2 = 0 ∧ o2 = 4) → E35 b2 o2 = E b2 o2 from fun b2 o2 h09 h19 h29 => by rw [fE37 b2 o2 (by omega), fE30 b2 o2 (by omega), fE23 b2 o2 (by omega), hfr b2 o2 (by omega) (by omega) (by omega)])⟩
    · refine lv_aload_n hx hb xd_Li_take_25 rfl (lv_at hl 2 rfl) ?_
      refine px_get (D := D) (ci := 1) (v := .ref (ad 0 2)) (C := xR_Li) (T := xT_Li) (N := 5) hx hb hT xi_Li hown hK.1 hP ym0 hc1 rfl 0 (by decide) (hT _ k5a_14) (fun _ h9 => h9) rfl xd_Li_take_26 ?_
      refine lv_iload_n hx hb xd_Li_take_29 rfl (lv_at hl 0 rfl) ?_
      refine px_cald (i := i) hx hb hK.1 hP ym1 c_9 1 rfl (by omega) (by decide) xd_Li_take_30 ?_
      refine lv_bipush (v := 32) hx hb xd_Li_take_31 (by decide) ?_
      refine lv_icmp_ne (tgt := 84) hx hb xd_Li_take_33 (by decide) (fun hc42 => ?_) (fun hc42 => ?_)
      · refine lv_iinc (k := 0) (x := (nI i)) (v := (nI (i + 1))) hx hb xd_Li_take_84 hl rfl (xb_inc i 1) (Nat.le_of_ble_eq_true rfl) rfl (fun ls hl => ?_)
        have hl : lv_has ls 3 [(2, .int (nI (i + 1))), (1, .int (nI stt)), (0, .ref (ad 0 1))] := hl
        refine lv_goto (tgt := 9) hx hb xd_Li_take_87 (by decide) ?_
        exact ih8 (i + 1, stt, E1, wn1, fb1, fe1) _ _ _ (show len + 1 - (i + 1) < len + 1 - i by omega) (lv_sub hl [0, 1, 2] rfl) hP hD hS ⟨(show (i + 1) ≤ len + 1 from by first | assumption | omega), (show stt ≤ (i + 1) from by first | assumption | omega), (show wn1 ≤ 20 from by first | assumption | omega), (show ((i + 1) ≤ len ∧ (wn1 = (w_l tx (i + 1)).length ∧ fT (fun _ _ => 0) fb1 fe1 (w_l tx (i + 1))) ∧ stt = w_st tx (i + 1)) ∨ ((i + 1) = len + 1 ∧ wn1 = (w_all tx len).length ∧ fT (fun _ _ => 0) fb1 fe1 (w_all tx len)) from Or.inl ⟨by omega, by rw [(w_ns (t := tx) hc42).1]; exact ⟨hT1, hT2⟩, by rw [(w_ns (t := tx) hc42).2]; exact hT3⟩), (show E1 0 1 = .inr (1, [.ref (ad 0 2), .ref (ad 0 3), .ref (ad 0 4), .int (nI len), .int (nI wn1)]) from hc1), (show E1 0 3 = .inl (kA 0, 20, .inl fb1) from hc3), (show E1 0 4 = .inl (kA 0, 20, .inl fe1) from hc4), (show ∀ b2 o2, ¬ (b2 = 0 ∧ o2 = 1) → ¬ (b2 = 0 ∧ o2 = 3) → ¬ (b2 = 0 ∧ o2 = 4) → E1 b2 o2 = E b2 o2 from fun b2 o2 h09 h19 h29 => by rw [hfr b2 o2 (by omega) (by omega) (by omega)])⟩
      · refine lv_iload_n hx hb xd_Li_take_36 rfl (lv_at hl 0 rfl) ?_
        refine lv_iload_n hx hb xd_Li_take_37 rfl (lv_at hl 1 rfl) ?_
        refine xn_le (a := i) (b := stt) (tgt := 80) hx hb xd_Li_take_38 (by decide) (by omega) (by omega) (fun hc43 => ?_) (fun hc43 => ?_)
        · refine lv_iload_n hx hb xd_Li_take_80 rfl (lv_at hl 0 rfl) ?_
          refine lv_iconst (v := 1) hx hb xd_Li_take_81 (by decide) ?_
          refine lv_iadd hx hb xd_Li_take_82 ?_
          refine xn_top (y := nI (i + 1)) (nI_add i 1) ?_
          refine lv_istore_n hx hb xd_Li_take_83 rfl hl (Nat.le_of_ble_eq_true rfl) rfl (fun ls hl => ?_)
          have hl : lv_has ls 3 [(1, .int (nI (i + 1))), (2, .int (nI i)), (0, .ref (ad 0 1))] := hl
          refine lv_iinc (k := 1) (x := (nI i)) (v := (nI (i + 1))) hx hb xd_Li_take_84 hl rfl (xb_inc i 1) (Nat.le_of_ble_eq_true rfl) rfl (fun ls hl => ?_)
          have hl : lv_has ls 3 [(2, .int (nI (i + 1))), (1, .int (nI (i + 1))), (0, .ref (ad 0 1))] := hl
          refine lv_goto (tgt := 9) hx hb xd_Li_take_87 (by decide) ?_
          exact ih8 (i + 1, i + 1, E1, wn1, fb1, fe1) _ _ _ (show len + 1 - (i + 1) < len + 1 - i by omega) (lv_sub hl [0, 1, 2] rfl) hP hD hS ⟨(show (i + 1) ≤ len + 1 from by first | assumption | omega), (show (i + 1) ≤ (i + 1) from by first | assumption | omega), (show wn1 ≤ 20 from by first | assumption | omega), (show ((i + 1) ≤ len ∧ (wn1 = (w_l tx (i + 1)).length ∧ fT (fun _ _ => 0) fb1 fe1 (w_l tx (i + 1))) ∧ (i + 1) = w_st tx (i + 1)) ∨ ((i + 1) = len + 1 ∧ wn1 = (w_all tx len).length ∧ fT (fun _ _ => 0) fb1 fe1 (w_all tx len)) from Or.inl ⟨by omega, by rw [(w_sp (t := tx) hc42).1, w_all_st (by omega)]; exact ⟨hT1, hT2⟩, by rw [(w_sp (t := tx) hc42).2]⟩), (show E1 0 1 = .inr (1, [.ref (ad 0 2), .ref (ad 0 3), .ref (ad 0 4), .int (nI len), .int (nI wn1)]) from hc1), (show E1 0 3 = .inl (kA 0, 20, .inl fb1) from hc3), (show E1 0 4 = .inl (kA 0, 20, .inl fe1) from hc4), (show ∀ b2 o2, ¬ (b2 = 0 ∧ o2 = 1) → ¬ (b2 = 0 ∧ o2 = 3) → ¬ (b2 = 0 ∧ o2 = 4) → E1 b2 o2 = E b2 o2 from fun b2 o2 h09 h19 h29 => by rw [hfr b2 o2 (by omega) (by omega) (by omega)])⟩
        · refine lv_aload_n hx hb xd_Li_take_41 rfl (lv_at hl 2 rfl) ?_
          refine px_get (D := D) (ci := 1) (v := .int (nI wn1)) (C := xR_Li) (T := xT_Li) (N := 5) hx hb hT xi_Li hown hK.1 hP ym0 hc1 rfl 4 (by decide) (hT _ k5a_15) (fun _ h9 => h9) rfl xd_Li_take_42 ?_
          refine lv_bipush (v := 20) hx hb xd_Li_take_45 (by decide) ?_
          refine xn_ge (a := wn1) (b := 20) (tgt := 80) hx hb xd_Li_take_47 (by decide) (by omega) (by omega) (fun hc44 => absurd hc44 (by omega)) (fun _ => ?_)
          refine lv_aload_n hx hb xd_Li_take_50 rfl (lv_at hl 2 rfl) ?_
          refine px_get (D := D) (ci := 1) (v := .ref (ad 0 3)) (C := xR_Li) (T := xT_Li) (N := 5) hx hb hT xi_Li hown hK.1 hP ym0 hc1 rfl 1 (by decide) (hT _ k5a_16) (fun _ h9 => h9) rfl xd_Li_take_51 ?_
          refine lv_aload_n hx hb xd_Li_take_54 rfl (lv_at hl 2 rfl) ?_
          refine px_get (D := D) (ci := 1) (v := .int (nI wn1)) (C := xR_Li) (T := xT_Li) (N := 5) hx hb hT xi_Li hown hK.1 hP ym0 hc1 rfl 4 (by decide) (hT _ k5a_15) (fun _ h9 => h9) rfl xd_Li_take_55 ?_
          refine lv_iload_n hx hb xd_Li_take_58 rfl (lv_at hl 1 rfl) ?_
          refine px_iast (i := wn1) hx hb hK.1 hP hD hS ym2 hc3 0 rfl (by omega) (by decide) xd_Li_take_59 (fun H locs hP hD hS => ?_)
          have hP : va_P D xcl (rp ad (up2 E1 0 3 (.inl (kA 0, 20, .inl (upd fb1 wn1 (nI stt))))) RL) H := hP
          have hD : va_D A (rp ad (up2 E1 0 3 (.inl (kA 0, 20, .inl (upd fb1 wn1 (nI stt))))) RL) := hD
          generalize hE46 : up2 E1 0 3 (.inl (kA 0, 20, .inl (upd fb1 wn1 (nI stt)))) = E45 at hP hD
          have fE47 : ∀ b2 o2, ¬ (b2 = 0 ∧ o2 = 3) → E45 b2 o2 = E1 b2 o2 := fun b2 o2 h9 => by rw [← hE46]; exact up2_ne (by omega)
          have c_48 : E45 0 3 = .inl (kA 0, 20, .inl (upd fb1 wn1 (nI stt))) := by rw [← hE46]; exact up2_eq
          have c_49 : E45 0 1 = .inr (1, [.ref (ad 0 2), .ref (ad 0 3), .ref (ad 0 4), .int (nI len), .int (nI wn1)]) := (fE47 0 1 (by omega)).trans hc1
          have c_50 : E45 0 4 = .inl (kA 0, 20, .inl fe1) := (fE47 0 4 (by omega)).trans hc4
          have c_51 : E45 0 2 = .inl (kA 1, 40, .inl tx) := (fE47 0 2 (by omega)).trans c_9
          refine lv_aload_n hx hb xd_Li_take_60 rfl (lv_at hl 2 rfl) ?_
          refine px_get (D := D) (ci := 1) (v := .ref (ad 0 4)) (C := xR_Li) (T := xT_Li) (N := 5) hx hb hT xi_Li hown hK.1 hP ym0 c_49 rfl 2 (by decide) (hT _ k5a_17) (fun _ h9 => h9) rfl xd_Li_take_61 ?_
          refine lv_aload_n hx hb xd_Li_take_64 rfl (lv_at hl 2 rfl) ?_
          refine px_get (D := D) (ci := 1) (v := .int (nI wn1)) (C := xR_Li) (T := xT_Li) (N := 5) hx hb hT xi_Li hown hK.1 hP ym0 c_49 rfl 4 (by decide) (hT _ k5a_15) (fun _ h9 => h9) rfl xd_Li_take_65 ?_
          refine lv_iload_n hx hb xd_Li_take_68 rfl (lv_at hl 0 rfl) ?_
          refine px_iast (i := wn1) hx hb hK.1 hP hD hS ym3 c_50 0 rfl (by omega) (by decide) xd_Li_take_69 (fun H locs hP hD hS => ?_)
          have hP : va_P D xcl (rp ad (up2 E45 0 4 (.inl (kA 0, 20, .inl (upd fe1 wn1 (nI i))))) RL) H := hP
          have hD : va_D A (rp ad (up2 E45 0 4 (.inl (kA 0, 20, .inl (upd fe1 wn1 (nI i))))) RL) := hD
          generalize hE53 : up2 E45 0 4 (.inl (kA 0, 20, .inl (upd fe1 wn1 (nI i)))) = E52 at hP hD
          have fE54 : ∀ b2 o2, ¬ (b2 = 0 ∧ o2 = 4) → E52 b2 o2 = E45 b2 o2 := fun b2 o2 h9 => by rw [← hE53]; exact up2_ne (by omega)
          have c_55 : E52 0 4 = .inl (kA 0, 20, .inl (upd fe1 wn1 (nI i))) := by rw [← hE53]; exact up2_eq
          have c_56 : E52 0 3 = .inl (kA 0, 20, .inl (upd fb1 wn1 (nI stt))) := (fE54 0 3 (by omega)).trans c_48
          have c_57 : E52 0 1 = .inr (1, [.ref (ad 0 2), .ref (ad 0 3), .ref (ad 0 4), .int (nI len), .int (nI wn1)]) := (fE54 0 1 (by omega)).trans c_49
          have c_58 : E52 0 2 = .inl (kA 1, 40, .inl tx) := (fE54 0 2 (by omega)).trans c_51
          refine lv_aload_n hx hb xd_Li_take_70 rfl (lv_at hl 2 rfl) ?_
          refine lv_dup hx hb xd_Li_take_71 rfl ?_
          refine px_get (D := D) (ci := 1) (v := .int (nI wn1)) (C := xR_Li) (T := xT_Li) (N := 5) hx hb hT xi_Li hown hK.1 hP ym0 c_57 rfl 4 (by decide) (hT _ k5a_15) (fun _ h9 => h9) rfl xd_Li_take_72 ?_
          refine lv_iconst (v := 1) hx hb xd_Li_take_75 (by decide) ?_
          refine lv_iadd hx hb xd_Li_take_76 ?_
          refine xn_top (y := nI (wn1 + 1)) (nI_add wn1 1) ?_
          refine px_put (D := D) (ci := 1) (v := .int (nI (wn1 + 1))) (ty := .int) (C := xR_Li) (T := xT_Li) (N := 5) hx hb hT xi_Li xt_Li xt_Li_ok xn_Li hown hK.1 hP hD hS ym0 c_57 rfl 4 (by decide) (hT _ k5a_15) (fun _ h9 => h9) rfl (by decide +kernel) rfl rfl (Nat.le_of_ble_eq_true rfl) xd_Li_take_77 (fun H locs hP hD hS => ?_)
          have hP : va_P D xcl (rp ad (up2 E52 0 1 (.inr (1, [.ref (ad 0 2), .ref (ad 0 3), .ref (ad 0 4), .int (nI len), .int (nI (wn1 + 1))]))) RL) H := hP
          have hD : va_D A (rp ad (up2 E52 0 1 (.inr (1, [.ref (ad 0 2), .ref (ad 0 3), .ref (ad 0 4), .int (nI len), .int (nI (wn1 + 1))]))) RL) := hD
          generalize hE60 : up2 E52 0 1 (.inr (1, [.ref (ad 0 2), .ref (ad 0 3), .ref (ad 0 4), .int (nI len), .int (nI (wn1 + 1))])) = E59 at hP hD
          have fE61 : ∀ b2 o2, ¬ (b2 = 0 ∧ o2 = 1) → E59 b2 o2 = E52 b2 o2 := fun b2 o2 h9 => by rw [← hE60]; exact up2_ne (by omega)
          have c_62 : E59 0 1 = .inr (1, [.ref (ad 0 2), .ref (ad 0 3), .ref (ad 0 4), .int (nI len), .int (nI (wn1 + 1))]) := by rw [← hE60]; exact up2_eq
          have c_63 : E59 0 4 = .inl (kA 0, 20, .inl (upd fe1 wn1 (nI i))) := (fE61 0 4 (by omega)).trans c_55
          have c_64 : E59 0 3 = .inl (kA 0, 20, .inl (upd fb1 wn1 (nI stt))) := (fE61 0 3 (by omega)).trans c_56
          have c_65 : E59 0 2 = .inl (kA 1, 40, .inl tx) := (fE61 0 2 (by omega)).trans c_58
          refine lv_iload_n hx hb xd_Li_take_80 rfl (lv_at hl 0 rfl) ?_
          refine lv_iconst (v := 1) hx hb xd_Li_take_81 (by decide) ?_
          refine lv_iadd hx hb xd_Li_take_82 ?_
          refine xn_top (y := nI (i + 1)) (nI_add i 1) ?_
          refine lv_istore_n hx hb xd_Li_take_83 rfl hl (Nat.le_of_ble_eq_true rfl) rfl (fun ls hl => ?_)
          have hl : lv_has ls 3 [(1, .int (nI (i + 1))), (2, .int (nI i)), (0, .ref (ad 0 1))] := hl
          refine lv_iinc (k := 1) (x := (nI i)) (v := (nI (i + 1))) hx hb xd_Li_take_84 hl rfl (xb_inc i 1) (Nat.le_of_ble_eq_true rfl) rfl (fun ls hl => ?_)
          have hl : lv_has ls 3 [(2, .int (nI (i + 1))), (1, .int (nI (i + 1))), (0, .ref (ad 0 1))] := hl
          refine lv_goto (tgt := 9) hx hb xd_Li_take_87 (by decide) ?_
          exact ih8 (i + 1, i + 1, E59, wn1 + 1, (upd fb1 wn1 (nI stt)), (upd fe1 wn1 (nI i))) _ _ _ (show len + 1 - (i + 1) < len + 1 - i by omega) (lv_sub hl [0, 1, 2] rfl) hP hD hS ⟨(show (i + 1) ≤ len + 1 from by first | assumption | omega), (show (i + 1) ≤ (i + 1) from by first | assumption | omega), (show (wn1 + 1) ≤ 20 from by first | assumption | omega), (show ((i + 1) ≤ len ∧ ((wn1 + 1) = (w_l tx (i + 1)).length ∧ fT (fun _ _ => 0) (upd fb1 wn1 (nI stt)) (upd fe1 wn1 (nI i)) (w_l tx (i + 1))) ∧ (i + 1) = w_st tx (i + 1)) ∨ ((i + 1) = len + 1 ∧ (wn1 + 1) = (w_all tx len).length ∧ fT (fun _ _ => 0) (upd fb1 wn1 (nI stt)) (upd fe1 wn1 (nI i)) (w_all tx len)) from Or.inl ⟨by omega, by
        have q := (fT_add (g := (fun _ _ => 0)) (b := stt) (e := i) hT2)
        rw [← hT1] at q
        rw [(w_sp (t := tx) hc42).1, w_all_run (by rw [← hT3]; omega), List.length_append, ← hT1, ← hT3]
        exact ⟨rfl, q⟩, by rw [(w_sp (t := tx) hc42).2]⟩), (show E59 0 1 = .inr (1, [.ref (ad 0 2), .ref (ad 0 3), .ref (ad 0 4), .int (nI len), .int (nI (wn1 + 1))]) from c_62), (show E59 0 3 = .inl (kA 0, 20, .inl (upd fb1 wn1 (nI stt))) from c_64), (show E59 0 4 = .inl (kA 0, 20, .inl (upd fe1 wn1 (nI i))) from c_63), (show ∀ b2 o2, ¬ (b2 = 0 ∧ o2 = 1) → ¬ (b2 = 0 ∧ o2 = 3) → ¬ (b2 = 0 ∧ o2 = 4) → E59 b2 o2 = E b2 o2 from fun b2 o2 h09 h19 h29 => by rw [fE61 b2 o2 (by omega), fE54 b2 o2 (by omega), fE47 b2 o2 (by omega), hfr b2 o2 (by omega) (by omega) (by omega)])⟩
