abbrev xb_Mo_layer : ByteArray := prog_12_method_32_code
def xy_Mo_layer : MethodName := ⟨"LayerDeskModel", "layer", "(IIZ)I"⟩
theorem xd_Mo_layer_0 : decode xb_Mo_layer 0 = .ok (.aload_n 0, 1) := by decide +kernel
theorem xd_Mo_layer_1 : decode xb_Mo_layer 1 = .ok (.iconst 0, 1) := by decide +kernel
theorem xd_Mo_layer_2 : decode xb_Mo_layer 2 = .ok (.putfield 87, 3) := by decide +kernel
theorem xd_Mo_layer_5 : decode xb_Mo_layer 5 = .ok (.aload_n 0, 1) := by decide +kernel
theorem xd_Mo_layer_6 : decode xb_Mo_layer 6 = .ok (.iconst 0, 1) := by decide +kernel
theorem xd_Mo_layer_7 : decode xb_Mo_layer 7 = .ok (.putfield 187, 3) := by decide +kernel
theorem xd_Mo_layer_10 : decode xb_Mo_layer 10 = .ok (.aload_n 0, 1) := by decide +kernel
theorem xd_Mo_layer_11 : decode xb_Mo_layer 11 = .ok (.invokevirtual 101, 3) := by decide +kernel
theorem xd_Mo_layer_14 : decode xb_Mo_layer 14 = .ok (.aload_n 0, 1) := by decide +kernel
theorem xd_Mo_layer_15 : decode xb_Mo_layer 15 = .ok (.getfield 94, 3) := by decide +kernel
theorem xd_Mo_layer_18 : decode xb_Mo_layer 18 = .ok (.iconst 1, 1) := by decide +kernel
theorem xd_Mo_layer_19 : decode xb_Mo_layer 19 = .ok (.if_icmp .lt 15, 3) := by decide +kernel
theorem xd_Mo_layer_22 : decode xb_Mo_layer 22 = .ok (.aload_n 0, 1) := by decide +kernel
theorem xd_Mo_layer_23 : decode xb_Mo_layer 23 = .ok (.getfield 94, 3) := by decide +kernel
theorem xd_Mo_layer_26 : decode xb_Mo_layer 26 = .ok (.iconst 3, 1) := by decide +kernel
theorem xd_Mo_layer_27 : decode xb_Mo_layer 27 = .ok (.if_icmp .gt 7, 3) := by decide +kernel
theorem xd_Mo_layer_30 : decode xb_Mo_layer 30 = .ok (.iconst 1, 1) := by decide +kernel
theorem xd_Mo_layer_31 : decode xb_Mo_layer 31 = .ok (.goto 4, 3) := by decide +kernel
theorem xd_Mo_layer_34 : decode xb_Mo_layer 34 = .ok (.iconst 0, 1) := by decide +kernel
theorem xd_Mo_layer_35 : decode xb_Mo_layer 35 = .ok (.istore 4, 2) := by decide +kernel
theorem xd_Mo_layer_37 : decode xb_Mo_layer 37 = .ok (.iconst 0, 1) := by decide +kernel
theorem xd_Mo_layer_38 : decode xb_Mo_layer 38 = .ok (.istore 5, 2) := by decide +kernel
theorem xd_Mo_layer_40 : decode xb_Mo_layer 40 = .ok (.iload 5, 2) := by decide +kernel
theorem xd_Mo_layer_42 : decode xb_Mo_layer 42 = .ok (.aload_n 0, 1) := by decide +kernel
theorem xd_Mo_layer_43 : decode xb_Mo_layer 43 = .ok (.getfield 94, 3) := by decide +kernel
theorem xd_Mo_layer_46 : decode xb_Mo_layer 46 = .ok (.if_icmp .ge 30, 3) := by decide +kernel
theorem xd_Mo_layer_49 : decode xb_Mo_layer 49 = .ok (.iload 4, 2) := by decide +kernel
theorem xd_Mo_layer_51 : decode xb_Mo_layer 51 = .ok (.ifCond .eq 16, 3) := by decide +kernel
theorem xd_Mo_layer_54 : decode xb_Mo_layer 54 = .ok (.aload_n 0, 1) := by decide +kernel
theorem xd_Mo_layer_55 : decode xb_Mo_layer 55 = .ok (.iload 5, 2) := by decide +kernel
theorem xd_Mo_layer_57 : decode xb_Mo_layer 57 = .ok (.invokevirtual 133, 3) := by decide +kernel
theorem xd_Mo_layer_60 : decode xb_Mo_layer 60 = .ok (.ifCond .le 7, 3) := by decide +kernel
theorem xd_Mo_layer_63 : decode xb_Mo_layer 63 = .ok (.iconst 1, 1) := by decide +kernel
theorem xd_Mo_layer_64 : decode xb_Mo_layer 64 = .ok (.goto 4, 3) := by decide +kernel
theorem xd_Mo_layer_67 : decode xb_Mo_layer 67 = .ok (.iconst 0, 1) := by decide +kernel
theorem xd_Mo_layer_68 : decode xb_Mo_layer 68 = .ok (.istore 4, 2) := by decide +kernel
theorem xd_Mo_layer_70 : decode xb_Mo_layer 70 = .ok (.iinc 5 1, 3) := by decide +kernel
theorem xd_Mo_layer_73 : decode xb_Mo_layer 73 = .ok (.goto (-33), 3) := by decide +kernel
theorem xd_Mo_layer_76 : decode xb_Mo_layer 76 = .ok (.iload 4, 2) := by decide +kernel
theorem xd_Mo_layer_78 : decode xb_Mo_layer 78 = .ok (.ifCond .eq 25, 3) := by decide +kernel
theorem xd_Mo_layer_81 : decode xb_Mo_layer 81 = .ok (.iload_n 1, 1) := by decide +kernel
theorem xd_Mo_layer_82 : decode xb_Mo_layer 82 = .ok (.ifCond .lt 21, 3) := by decide +kernel
theorem xd_Mo_layer_85 : decode xb_Mo_layer 85 = .ok (.iload_n 1, 1) := by decide +kernel
theorem xd_Mo_layer_86 : decode xb_Mo_layer 86 = .ok (.iconst 1, 1) := by decide +kernel
theorem xd_Mo_layer_87 : decode xb_Mo_layer 87 = .ok (.if_icmp .gt 16, 3) := by decide +kernel
theorem xd_Mo_layer_90 : decode xb_Mo_layer 90 = .ok (.iload_n 2, 1) := by decide +kernel
theorem xd_Mo_layer_91 : decode xb_Mo_layer 91 = .ok (.iconst (-1), 1) := by decide +kernel
theorem xd_Mo_layer_92 : decode xb_Mo_layer 92 = .ok (.if_icmp .eq 17, 3) := by decide +kernel
theorem xd_Mo_layer_95 : decode xb_Mo_layer 95 = .ok (.aload_n 0, 1) := by decide +kernel
theorem xd_Mo_layer_96 : decode xb_Mo_layer 96 = .ok (.iload_n 2, 1) := by decide +kernel
theorem xd_Mo_layer_97 : decode xb_Mo_layer 97 = .ok (.invokevirtual 190, 3) := by decide +kernel
theorem xd_Mo_layer_100 : decode xb_Mo_layer 100 = .ok (.ifCond .ne 9, 3) := by decide +kernel
theorem xd_Mo_layer_103 : decode xb_Mo_layer 103 = .ok (.aload_n 0, 1) := by decide +kernel
theorem xd_Mo_layer_104 : decode xb_Mo_layer 104 = .ok (.iconst 1, 1) := by decide +kernel
theorem xd_Mo_layer_105 : decode xb_Mo_layer 105 = .ok (.invokevirtual 129, 3) := by decide +kernel
theorem xd_Mo_layer_108 : decode xb_Mo_layer 108 = .ok (.ireturn, 1) := by decide +kernel
theorem xd_Mo_layer_109 : decode xb_Mo_layer 109 = .ok (.aload_n 0, 1) := by decide +kernel
theorem xd_Mo_layer_110 : decode xb_Mo_layer 110 = .ok (.getfield 66, 3) := by decide +kernel
theorem xd_Mo_layer_113 : decode xb_Mo_layer 113 = .ok (.aload_n 0, 1) := by decide +kernel
theorem xd_Mo_layer_114 : decode xb_Mo_layer 114 = .ok (.getfield 150, 3) := by decide +kernel
theorem xd_Mo_layer_117 : decode xb_Mo_layer 117 = .ok (.iload_n 1, 1) := by decide +kernel
theorem xd_Mo_layer_118 : decode xb_Mo_layer 118 = .ok (.iastore, 1) := by decide +kernel
theorem xd_Mo_layer_119 : decode xb_Mo_layer 119 = .ok (.aload_n 0, 1) := by decide +kernel
theorem xd_Mo_layer_120 : decode xb_Mo_layer 120 = .ok (.getfield 69, 3) := by decide +kernel
theorem xd_Mo_layer_123 : decode xb_Mo_layer 123 = .ok (.aload_n 0, 1) := by decide +kernel
theorem xd_Mo_layer_124 : decode xb_Mo_layer 124 = .ok (.getfield 150, 3) := by decide +kernel
theorem xd_Mo_layer_127 : decode xb_Mo_layer 127 = .ok (.iload_n 2, 1) := by decide +kernel
theorem xd_Mo_layer_128 : decode xb_Mo_layer 128 = .ok (.iastore, 1) := by decide +kernel
theorem xd_Mo_layer_129 : decode xb_Mo_layer 129 = .ok (.aload_n 0, 1) := by decide +kernel
theorem xd_Mo_layer_130 : decode xb_Mo_layer 130 = .ok (.getfield 72, 3) := by decide +kernel
theorem xd_Mo_layer_133 : decode xb_Mo_layer 133 = .ok (.aload_n 0, 1) := by decide +kernel
theorem xd_Mo_layer_134 : decode xb_Mo_layer 134 = .ok (.getfield 150, 3) := by decide +kernel
theorem xd_Mo_layer_137 : decode xb_Mo_layer 137 = .ok (.iconst 0, 1) := by decide +kernel
theorem xd_Mo_layer_138 : decode xb_Mo_layer 138 = .ok (.iastore, 1) := by decide +kernel
theorem xd_Mo_layer_139 : decode xb_Mo_layer 139 = .ok (.iconst 1, 1) := by decide +kernel
theorem xd_Mo_layer_140 : decode xb_Mo_layer 140 = .ok (.istore 5, 2) := by decide +kernel
theorem xd_Mo_layer_142 : decode xb_Mo_layer 142 = .ok (.iconst 0, 1) := by decide +kernel
theorem xd_Mo_layer_143 : decode xb_Mo_layer 143 = .ok (.istore 6, 2) := by decide +kernel
theorem xd_Mo_layer_145 : decode xb_Mo_layer 145 = .ok (.iload 6, 2) := by decide +kernel
theorem xd_Mo_layer_147 : decode xb_Mo_layer 147 = .ok (.aload_n 0, 1) := by decide +kernel
theorem xd_Mo_layer_148 : decode xb_Mo_layer 148 = .ok (.getfield 94, 3) := by decide +kernel
theorem xd_Mo_layer_151 : decode xb_Mo_layer 151 = .ok (.if_icmp .ge 26, 3) := by decide +kernel
theorem xd_Mo_layer_154 : decode xb_Mo_layer 154 = .ok (.iload 5, 2) := by decide +kernel
theorem xd_Mo_layer_156 : decode xb_Mo_layer 156 = .ok (.ifCond .eq 21, 3) := by decide +kernel
theorem xd_Mo_layer_159 : decode xb_Mo_layer 159 = .ok (.aload_n 0, 1) := by decide +kernel
theorem xd_Mo_layer_160 : decode xb_Mo_layer 160 = .ok (.aload_n 0, 1) := by decide +kernel
theorem xd_Mo_layer_161 : decode xb_Mo_layer 161 = .ok (.iload 6, 2) := by decide +kernel
theorem xd_Mo_layer_163 : decode xb_Mo_layer 163 = .ok (.invokevirtual 133, 3) := by decide +kernel
theorem xd_Mo_layer_166 : decode xb_Mo_layer 166 = .ok (.invokevirtual 160, 3) := by decide +kernel
theorem xd_Mo_layer_169 : decode xb_Mo_layer 169 = .ok (.istore 5, 2) := by decide +kernel
theorem xd_Mo_layer_171 : decode xb_Mo_layer 171 = .ok (.iinc 6 1, 3) := by decide +kernel
theorem xd_Mo_layer_174 : decode xb_Mo_layer 174 = .ok (.goto (-29), 3) := by decide +kernel
theorem xd_Mo_layer_177 : decode xb_Mo_layer 177 = .ok (.iload 5, 2) := by decide +kernel
theorem xd_Mo_layer_179 : decode xb_Mo_layer 179 = .ok (.ifCond .ne 9, 3) := by decide +kernel
theorem xd_Mo_layer_182 : decode xb_Mo_layer 182 = .ok (.aload_n 0, 1) := by decide +kernel
theorem xd_Mo_layer_183 : decode xb_Mo_layer 183 = .ok (.iconst 2, 1) := by decide +kernel
theorem xd_Mo_layer_184 : decode xb_Mo_layer 184 = .ok (.invokevirtual 129, 3) := by decide +kernel
theorem xd_Mo_layer_187 : decode xb_Mo_layer 187 = .ok (.ireturn, 1) := by decide +kernel
theorem xd_Mo_layer_188 : decode xb_Mo_layer 188 = .ok (.iload_n 3, 1) := by decide +kernel
theorem xd_Mo_layer_189 : decode xb_Mo_layer 189 = .ok (.ifCond .eq 7, 3) := by decide +kernel
theorem xd_Mo_layer_192 : decode xb_Mo_layer 192 = .ok (.aload_n 0, 1) := by decide +kernel
theorem xd_Mo_layer_193 : decode xb_Mo_layer 193 = .ok (.invokevirtual 193, 3) := by decide +kernel
theorem xd_Mo_layer_196 : decode xb_Mo_layer 196 = .ok (.aload_n 0, 1) := by decide +kernel
theorem xd_Mo_layer_197 : decode xb_Mo_layer 197 = .ok (.aload_n 0, 1) := by decide +kernel
theorem xd_Mo_layer_198 : decode xb_Mo_layer 198 = .ok (.invokevirtual 196, 3) := by decide +kernel
theorem xd_Mo_layer_201 : decode xb_Mo_layer 201 = .ok (.putfield 187, 3) := by decide +kernel
theorem xd_Mo_layer_204 : decode xb_Mo_layer 204 = .ok (.aload_n 0, 1) := by decide +kernel
theorem xd_Mo_layer_205 : decode xb_Mo_layer 205 = .ok (.getfield 187, 3) := by decide +kernel
theorem xd_Mo_layer_208 : decode xb_Mo_layer 208 = .ok (.ifCond .le 9, 3) := by decide +kernel
theorem xd_Mo_layer_211 : decode xb_Mo_layer 211 = .ok (.aload_n 0, 1) := by decide +kernel
theorem xd_Mo_layer_212 : decode xb_Mo_layer 212 = .ok (.iconst 3, 1) := by decide +kernel
theorem xd_Mo_layer_213 : decode xb_Mo_layer 213 = .ok (.invokevirtual 129, 3) := by decide +kernel
theorem xd_Mo_layer_216 : decode xb_Mo_layer 216 = .ok (.ireturn, 1) := by decide +kernel
theorem xd_Mo_layer_217 : decode xb_Mo_layer 217 = .ok (.bipush 12, 2) := by decide +kernel
theorem xd_Mo_layer_219 : decode xb_Mo_layer 219 = .ok (.aload_n 0, 1) := by decide +kernel
theorem xd_Mo_layer_220 : decode xb_Mo_layer 220 = .ok (.getfield 150, 3) := by decide +kernel
theorem xd_Mo_layer_223 : decode xb_Mo_layer 223 = .ok (.imul, 1) := by decide +kernel
theorem xd_Mo_layer_224 : decode xb_Mo_layer 224 = .ok (.istore 6, 2) := by decide +kernel
theorem xd_Mo_layer_226 : decode xb_Mo_layer 226 = .ok (.iload 6, 2) := by decide +kernel
theorem xd_Mo_layer_228 : decode xb_Mo_layer 228 = .ok (.bipush 12, 2) := by decide +kernel
theorem xd_Mo_layer_230 : decode xb_Mo_layer 230 = .ok (.aload_n 0, 1) := by decide +kernel
theorem xd_Mo_layer_231 : decode xb_Mo_layer 231 = .ok (.getfield 150, 3) := by decide +kernel
theorem xd_Mo_layer_234 : decode xb_Mo_layer 234 = .ok (.imul, 1) := by decide +kernel
theorem xd_Mo_layer_235 : decode xb_Mo_layer 235 = .ok (.aload_n 0, 1) := by decide +kernel
theorem xd_Mo_layer_236 : decode xb_Mo_layer 236 = .ok (.getfield 72, 3) := by decide +kernel
theorem xd_Mo_layer_239 : decode xb_Mo_layer 239 = .ok (.aload_n 0, 1) := by decide +kernel
theorem xd_Mo_layer_240 : decode xb_Mo_layer 240 = .ok (.getfield 150, 3) := by decide +kernel
theorem xd_Mo_layer_243 : decode xb_Mo_layer 243 = .ok (.iaload, 1) := by decide +kernel
theorem xd_Mo_layer_244 : decode xb_Mo_layer 244 = .ok (.iadd, 1) := by decide +kernel
theorem xd_Mo_layer_245 : decode xb_Mo_layer 245 = .ok (.if_icmp .ge 22, 3) := by decide +kernel
theorem xd_Mo_layer_248 : decode xb_Mo_layer 248 = .ok (.aload_n 0, 1) := by decide +kernel
theorem xd_Mo_layer_249 : decode xb_Mo_layer 249 = .ok (.getfield 45, 3) := by decide +kernel
theorem xd_Mo_layer_252 : decode xb_Mo_layer 252 = .ok (.aload_n 0, 1) := by decide +kernel
theorem xd_Mo_layer_253 : decode xb_Mo_layer 253 = .ok (.getfield 75, 3) := by decide +kernel
theorem xd_Mo_layer_256 : decode xb_Mo_layer 256 = .ok (.iload 6, 2) := by decide +kernel
theorem xd_Mo_layer_258 : decode xb_Mo_layer 258 = .ok (.iaload, 1) := by decide +kernel
theorem xd_Mo_layer_259 : decode xb_Mo_layer 259 = .ok (.iconst 1, 1) := by decide +kernel
theorem xd_Mo_layer_260 : decode xb_Mo_layer 260 = .ok (.bastore, 1) := by decide +kernel
theorem xd_Mo_layer_261 : decode xb_Mo_layer 261 = .ok (.iinc 6 1, 3) := by decide +kernel
theorem xd_Mo_layer_264 : decode xb_Mo_layer 264 = .ok (.goto (-38), 3) := by decide +kernel
theorem xd_Mo_layer_267 : decode xb_Mo_layer 267 = .ok (.aload_n 0, 1) := by decide +kernel
theorem xd_Mo_layer_268 : decode xb_Mo_layer 268 = .ok (.getfield 78, 3) := by decide +kernel
theorem xd_Mo_layer_271 : decode xb_Mo_layer 271 = .ok (.aload_n 0, 1) := by decide +kernel
theorem xd_Mo_layer_272 : decode xb_Mo_layer 272 = .ok (.getfield 150, 3) := by decide +kernel
theorem xd_Mo_layer_275 : decode xb_Mo_layer 275 = .ok (.iconst 1, 1) := by decide +kernel
theorem xd_Mo_layer_276 : decode xb_Mo_layer 276 = .ok (.bastore, 1) := by decide +kernel
theorem xd_Mo_layer_277 : decode xb_Mo_layer 277 = .ok (.aload_n 0, 1) := by decide +kernel
theorem xd_Mo_layer_278 : decode xb_Mo_layer 278 = .ok (.dup, 1) := by decide +kernel
theorem xd_Mo_layer_279 : decode xb_Mo_layer 279 = .ok (.getfield 150, 3) := by decide +kernel
theorem xd_Mo_layer_282 : decode xb_Mo_layer 282 = .ok (.iconst 1, 1) := by decide +kernel
theorem xd_Mo_layer_283 : decode xb_Mo_layer 283 = .ok (.iadd, 1) := by decide +kernel
theorem xd_Mo_layer_284 : decode xb_Mo_layer 284 = .ok (.putfield 150, 3) := by decide +kernel
theorem xd_Mo_layer_287 : decode xb_Mo_layer 287 = .ok (.aload_n 0, 1) := by decide +kernel
theorem xd_Mo_layer_288 : decode xb_Mo_layer 288 = .ok (.getfield 150, 3) := by decide +kernel
theorem xd_Mo_layer_291 : decode xb_Mo_layer 291 = .ok (.iconst 1, 1) := by decide +kernel
theorem xd_Mo_layer_292 : decode xb_Mo_layer 292 = .ok (.isub, 1) := by decide +kernel
theorem xd_Mo_layer_293 : decode xb_Mo_layer 293 = .ok (.ireturn, 1) := by decide +kernel
theorem xy5_0 : (Cond.fieldLink "LayerDeskModel" 87 "LayerDeskModel" "fault" "I") ∈ wT := wT_t (List.mem_append_right _ (List.mem_append_right _ (List.mem_append_right _ (List.mem_append_left _ (List.mem_of_getElem? (i := 84) rfl))))) rfl
theorem xy5_1 : (Cond.fieldLink "LayerDeskModel" 187 "LayerDeskModel" "why" "I") ∈ wT := wT_t (List.mem_append_right _ (List.mem_append_right _ (List.mem_append_right _ (List.mem_append_left _ (List.mem_of_getElem? (i := 85) rfl))))) rfl
theorem xy5_2 : (Cond.code xy_Mo_split xb_Mo_split 2 none) ∈ wT := wT_t (List.mem_append_right _ (List.mem_append_right _ (List.mem_append_right _ (List.mem_append_left _ (List.mem_of_getElem? (i := 193) rfl))))) rfl
theorem xy5_3 : (Cond.methodLink "LayerDeskModel" 101 xy_Mo_split) ∈ wT := wT_t (List.mem_append_right _ (List.mem_append_right _ (List.mem_append_right _ (List.mem_append_left _ (List.mem_of_getElem? (i := 190) rfl))))) rfl
theorem xy5_4 : (Cond.instanceMethod xy_Mo_split) ∈ wT := wT_t (List.mem_append_right _ (List.mem_append_right _ (List.mem_append_right _ (List.mem_append_left _ (List.mem_of_getElem? (i := 192) rfl))))) rfl
theorem xy5_5 : (Cond.selects "LayerDeskModel" xy_Mo_split xy_Mo_split) ∈ wT := wT_s (q := (xy_Mo_split, 31)) (by decide +kernel) rfl
theorem xy5_6 : (Cond.initialized "LayerDeskModel") ∈ wT := wT_t (List.mem_append_left _ (List.mem_of_getElem? (i := 5) rfl)) rfl
theorem xy5_7 : (Cond.fieldLink "LayerDeskModel" 94 "LayerDeskModel" "words" "I") ∈ wT := wT_t (List.mem_append_right _ (List.mem_append_right _ (List.mem_append_right _ (List.mem_append_left _ (List.mem_of_getElem? (i := 88) rfl))))) rfl
theorem xy5_8 : (Cond.code xy_Mo_fails xb_Mo_fails 2 (some .int)) ∈ wT := wT_t (List.mem_append_right _ (List.mem_append_right _ (List.mem_append_right _ (List.mem_append_right _ (List.mem_of_getElem? (i := 4) rfl))))) rfl
theorem xy5_9 : (Cond.methodLink "LayerDeskModel" 129 xy_Mo_fails) ∈ wT := wT_t (List.mem_append_right _ (List.mem_append_right _ (List.mem_append_right _ (List.mem_append_right _ (List.mem_of_getElem? (i := 1) rfl))))) rfl
theorem xy5_10 : (Cond.instanceMethod xy_Mo_fails) ∈ wT := wT_t (List.mem_append_right _ (List.mem_append_right _ (List.mem_append_right _ (List.mem_append_right _ (List.mem_of_getElem? (i := 3) rfl))))) rfl
theorem xy5_11 : (Cond.selects "LayerDeskModel" xy_Mo_fails xy_Mo_fails) ∈ wT := wT_s (q := (xy_Mo_fails, 31)) (by decide +kernel) rfl
theorem xy5_12 : (Cond.fieldLink "LayerDeskModel" 66 "LayerDeskModel" "finderOf" "[I") ∈ wT := wT_t (List.mem_append_right _ (List.mem_append_right _ (List.mem_append_right _ (List.mem_append_left _ (List.mem_of_getElem? (i := 108) rfl))))) rfl
theorem xy5_13 : (Cond.fieldLink "LayerDeskModel" 150 "LayerDeskModel" "layers" "I") ∈ wT := wT_t (List.mem_append_right _ (List.mem_append_right _ (List.mem_append_right _ (List.mem_append_left _ (List.mem_of_getElem? (i := 107) rfl))))) rfl
theorem xy5_14 : (Cond.fieldLink "LayerDeskModel" 69 "LayerDeskModel" "parent" "[I") ∈ wT := wT_t (List.mem_append_right _ (List.mem_append_right _ (List.mem_append_right _ (List.mem_append_left _ (List.mem_of_getElem? (i := 109) rfl))))) rfl
theorem xy5_15 : (Cond.fieldLink "LayerDeskModel" 72 "LayerDeskModel" "modules" "[I") ∈ wT := wT_t (List.mem_append_right _ (List.mem_append_right _ (List.mem_append_right _ (List.mem_append_left _ (List.mem_of_getElem? (i := 110) rfl))))) rfl
theorem xy5_16 : (Cond.code xy_Mo_reason xb_Mo_reason 4 (some .int)) ∈ wT := wT_t (List.mem_append_right _ (List.mem_append_right _ (List.mem_append_right _ (List.mem_append_right _ (List.mem_of_getElem? (i := 36) rfl))))) rfl
theorem xy5_17 : (Cond.methodLink "LayerDeskModel" 196 xy_Mo_reason) ∈ wT := wT_t (List.mem_append_right _ (List.mem_append_right _ (List.mem_append_right _ (List.mem_append_right _ (List.mem_of_getElem? (i := 33) rfl))))) rfl
theorem xy5_18 : (Cond.instanceMethod xy_Mo_reason) ∈ wT := wT_t (List.mem_append_right _ (List.mem_append_right _ (List.mem_append_right _ (List.mem_append_right _ (List.mem_of_getElem? (i := 35) rfl))))) rfl
theorem xy5_19 : (Cond.selects "LayerDeskModel" xy_Mo_reason xy_Mo_reason) ∈ wT := wT_s (q := (xy_Mo_reason, 31)) (by decide +kernel) rfl
theorem xy5_20 : (Cond.fieldLink "LayerDeskModel" 78 "LayerDeskModel" "open" "[Z") ∈ wT := wT_t (List.mem_append_right _ (List.mem_append_right _ (List.mem_append_right _ (List.mem_append_left _ (List.mem_of_getElem? (i := 112) rfl))))) rfl
theorem xy5_21 : (Cond.fieldLink "LayerDeskModel" 45 "LayerDeskModel" "locked" "[Z") ∈ wT := wT_t (List.mem_append_right _ (List.mem_append_right _ (List.mem_append_right _ (List.mem_append_left _ (List.mem_of_getElem? (i := 100) rfl))))) rfl
theorem xy5_22 : (Cond.fieldLink "LayerDeskModel" 75 "LayerDeskModel" "module" "[I") ∈ wT := wT_t (List.mem_append_right _ (List.mem_append_right _ (List.mem_append_right _ (List.mem_append_left _ (List.mem_of_getElem? (i := 111) rfl))))) rfl
theorem xy5_23 : (Cond.code xy_Mo_binding xb_Mo_binding 5 none) ∈ wT := wT_t (List.mem_append_right _ (List.mem_append_right _ (List.mem_append_right _ (List.mem_append_right _ (List.mem_of_getElem? (i := 28) rfl))))) rfl
theorem xy5_24 : (Cond.methodLink "LayerDeskModel" 193 xy_Mo_binding) ∈ wT := wT_t (List.mem_append_right _ (List.mem_append_right _ (List.mem_append_right _ (List.mem_append_right _ (List.mem_of_getElem? (i := 25) rfl))))) rfl
theorem xy5_25 : (Cond.instanceMethod xy_Mo_binding) ∈ wT := wT_t (List.mem_append_right _ (List.mem_append_right _ (List.mem_append_right _ (List.mem_append_right _ (List.mem_of_getElem? (i := 27) rfl))))) rfl
theorem xy5_26 : (Cond.selects "LayerDeskModel" xy_Mo_binding xy_Mo_binding) ∈ wT := wT_s (q := (xy_Mo_binding, 31)) (by decide +kernel) rfl
theorem xy5_27 : (Cond.code xy_Mo_nameOf xb_Mo_nameOf 4 (some .int)) ∈ wT := wT_t (List.mem_append_right _ (List.mem_append_right _ (List.mem_append_right _ (List.mem_append_left _ (List.mem_of_getElem? (i := 212) rfl))))) rfl
theorem xy5_28 : (Cond.methodLink "LayerDeskModel" 133 xy_Mo_nameOf) ∈ wT := wT_t (List.mem_append_right _ (List.mem_append_right _ (List.mem_append_right _ (List.mem_append_left _ (List.mem_of_getElem? (i := 209) rfl))))) rfl
theorem xy5_29 : (Cond.instanceMethod xy_Mo_nameOf) ∈ wT := wT_t (List.mem_append_right _ (List.mem_append_right _ (List.mem_append_right _ (List.mem_append_left _ (List.mem_of_getElem? (i := 211) rfl))))) rfl
theorem xy5_30 : (Cond.selects "LayerDeskModel" xy_Mo_nameOf xy_Mo_nameOf) ∈ wT := wT_s (q := (xy_Mo_nameOf, 31)) (by decide +kernel) rfl
theorem xy5_31 : (Cond.code xy_Mo_adds xb_Mo_adds 6 (some .boolean)) ∈ wT := wT_t (List.mem_append_right _ (List.mem_append_right _ (List.mem_append_right _ (List.mem_append_right _ (List.mem_of_getElem? (i := 16) rfl))))) rfl
theorem xy5_32 : (Cond.methodLink "LayerDeskModel" 160 xy_Mo_adds) ∈ wT := wT_t (List.mem_append_right _ (List.mem_append_right _ (List.mem_append_right _ (List.mem_append_right _ (List.mem_of_getElem? (i := 13) rfl))))) rfl
theorem xy5_33 : (Cond.instanceMethod xy_Mo_adds) ∈ wT := wT_t (List.mem_append_right _ (List.mem_append_right _ (List.mem_append_right _ (List.mem_append_right _ (List.mem_of_getElem? (i := 15) rfl))))) rfl
theorem xy5_34 : (Cond.selects "LayerDeskModel" xy_Mo_adds xy_Mo_adds) ∈ wT := wT_s (q := (xy_Mo_adds, 31)) (by decide +kernel) rfl
theorem xy5_35 : (Cond.code xy_Mo_isOpen xb_Mo_isOpen 2 (some .boolean)) ∈ wT := wT_t (List.mem_append_right _ (List.mem_append_right _ (List.mem_append_right _ (List.mem_append_right _ (List.mem_of_getElem? (i := 12) rfl))))) rfl
theorem xy5_36 : (Cond.methodLink "LayerDeskModel" 190 xy_Mo_isOpen) ∈ wT := wT_t (List.mem_append_right _ (List.mem_append_right _ (List.mem_append_right _ (List.mem_append_right _ (List.mem_of_getElem? (i := 9) rfl))))) rfl
theorem xy5_37 : (Cond.instanceMethod xy_Mo_isOpen) ∈ wT := wT_t (List.mem_append_right _ (List.mem_append_right _ (List.mem_append_right _ (List.mem_append_right _ (List.mem_of_getElem? (i := 11) rfl))))) rfl
theorem xy5_38 : (Cond.selects "LayerDeskModel" xy_Mo_isOpen xy_Mo_isOpen) ∈ wT := wT_s (q := (xy_Mo_isOpen, 31)) (by decide +kernel) rfl
set_option maxHeartbeats 4000000 in
set_option maxRecDepth 100000 in
theorem xc_Mo_layer (l : Launch) (D : va_G) (kA : Nat → ClassId) (sz h : Nat) (mm : Nat → Nat) (v : Nat → Int32) (g : Nat → Nat → Int32) (fi : Int32) (pa : Int32) (bi : Int32) (wr : Nat) (hMI : MI v g) (hwr : v 2 = nI wr) (hwr40 : wr ≤ 40) : Met l xy_Mo_layer (.code xy_Mo_layer xb_Mo_layer 7 (some .int) :: wT) { frames := 5, cells := 0, slots := 0, locals := 120 } (va_Pc [.ref h, .int fi, .int pa, .int bi] (xPre D kA sz (moW h mm kA v g))) (va_Qi (fun (r : Int32) (u : (Nat → Int32) × (Nat → Nat → Int32)) => MI u.1 u.2 ∧ u.1 2 = 0) (fun (u : (Nat → Int32) × (Nat → Nat → Int32)) t => va_P D xcl (moW h mm kA u.1 u.2) t.heap ∧ va_D (va_A (moW h mm kA v g) sz) (moW h mm kA u.1 u.2)) (va_A (moW h mm kA v g) sz)) 0 0 (va_A (moW h mm kA v g) sz) := by
  refine Met.ofW (cc := xb_Mo_layer) (maxL := 7) (ret := (some .int)) (by decide) rfl ?_
  intro p e s m args below meth c s₁ B hml hv
  obtain ⟨rfl, hsz, hP, hK, hD0⟩ := hv
  have hx := B.exec
  have hb := B.bytes
  have hr := B.returns
  have hT := x_hT B.pre
  have hown : s.vm.findClass xR_Mo = some m.cls := findClass_of_methodNamed B.named
  have hlocks := B.notSynchronized
  subst hsz
  have hD := hD0.self (sz := s.heap.size)
  generalize hAe : va_A (moW h mm kA v g) s.heap.size = A at hD ⊢
  have hA : ∀ q : Nat, s.heap.size ≤ q → A q := fun q h => by rw [← hAe]; exact Or.inr h
  have hS : va_S A s.heap s.heap [] := va_S.rf
  have hl := lv_entry ([.ref h, .int fi, .int pa, .int bi]) (n := 7) (Nat.le_of_ble_eq_true rfl)
  rw [lg_entry_eq]
  generalize (lg_sl ([.ref h, .int fi, .int pa, .int bi]) ++ List.replicate (7 - (lg_sl ([.ref h, .int fi, .int pa, .int bi])).length) Slot.unset).toArray = ls at hl ⊢
  have hl : lv_has ls 7 [(0, .ref h), (1, .int fi), (2, .int pa), (3, .int bi)] := hl
  have hP : va_P D xcl (moW h mm kA v g) s.heap := hP
  refine lv_aload_n hx hb xd_Mo_layer_0 rfl (lv_at hl 0 rfl) ?_
  refine lv_iconst (v := 0) hx hb xd_Mo_layer_1 (by decide) ?_
  refine va_put (D := D) (ci := 4) (v := .int 0) (ty := .int) (C := xR_Mo) (T := xT_Mo) (N := 31) hx hb hT xi_Mo xt_Mo xt_Mo_ok xn_Mo hown hK.1 hP hD hS 0 rfl rfl 0 (by decide) (hT _ xy5_0) (fun _ h9 => h9) rfl (by decide +kernel) rfl rfl (Nat.le_of_ble_eq_true rfl) xd_Mo_layer_2 (fun H locs hP hD hS => ?_)
  have hP : va_P D xcl (moW h mm kA (va_up v 0 0) g) H := hP
  have hD : va_D A (moW h mm kA (va_up v 0 0) g) := hD
  refine lv_aload_n hx hb xd_Mo_layer_5 rfl (lv_at hl 0 rfl) ?_
  refine lv_iconst (v := 0) hx hb xd_Mo_layer_6 (by decide) ?_
  refine va_put (D := D) (ci := 4) (v := .int 0) (ty := .int) (C := xR_Mo) (T := xT_Mo) (N := 31) hx hb hT xi_Mo xt_Mo xt_Mo_ok xn_Mo hown hK.1 hP hD hS 0 rfl rfl 1 (by decide) (hT _ xy5_1) (fun _ h9 => h9) rfl (by decide +kernel) rfl rfl (Nat.le_of_ble_eq_true rfl) xd_Mo_layer_7 (fun H locs hP hD hS => ?_)
  have hP : va_P D xcl (moW h mm kA (va_up (va_up v 0 0) 1 0) g) H := hP
  have hD : va_D A (moW h mm kA (va_up (va_up v 0 0) 1 0) g) := hD
  refine lv_aload_n hx hb xd_Mo_layer_10 rfl (lv_at hl 0 rfl) ?_
  have hFc := va_free (wc := (moW h mm kA (va_up (va_up v 0 0) 1 0) g)) hD hS hA [0, 1, 2, 3, 4, 5, 6, 7, 8, 9, 10, 11, 12, 13, 14, 15, 16, 17, 18, 19, 20, 21, 22, 23, 24, 25] rfl
  refine va_callv (va_runV (As := []) (rest := []) ⟨hx, hb, hml, hown, hT⟩ (xc_Mo_split l D kA H.size h mm (va_up (va_up v 0 0) 1 0) g wr (by first | assumption | omega) (by first | assumption | omega)) (cwV 0 hT (wT_V xy5_3 xy5_4 xy5_5 xy5_6 xy5_2) rfl rfl rfl (by decide +kernel) ⟨Nat.le_of_ble_eq_true rfl, Nat.le_of_ble_eq_true rfl⟩) (x_preV hK hP hD 0 rfl rfl) rfl rfl hl.1 rfl (lv_room (Nat.le_of_ble_eq_true rfl)) xd_Mo_layer_11 ⟨Nat.le_of_ble_eq_true rfl, Nat.le_of_ble_eq_true rfl⟩) hS (fun q _ h => hFc q h) hFc (fun u2 t H1 locs ht hvm hp3 hB hz1 hk1 hS => ?_)
  obtain ⟨hP1, hD1⟩ := hB
  rw [ht] at hP1
  have hD1 := hD1.weaken (fun _ _ _ h => hFc _ h)
  obtain ⟨v4, g5⟩ := u2
  generalize H1 = H at hP1 hS ⊢
  have hP := hP1
  have hD := hD1
  have hP : va_P D xcl (moW h mm kA v4 g5) H := hP
  have hD : va_D A (moW h mm kA v4 g5) := hD
  obtain ⟨wn, hwn20, hv9, hgk, hws⟩ := hp3
  have hv9 : v4 = va_up (va_up (va_up (va_up v 0 0) 1 0) 2 0) 3 (nI wn) := hv9
  have hgk : ∀ j, j ≠ 1 → j ≠ 2 → g5 j = g j := hgk
  have hws : ∀ w9, w9 < wn → ∃ b9 e9, b9 < e9 ∧ e9 ≤ 40 ∧ g5 1 w9 = nI b9 ∧ g5 2 w9 = nI e9 := hws
  have hv2 : v4 2 = 0 := by rw [hv9]; rfl
  have hv3 : v4 3 = nI wn := by rw [hv9]; rfl
  have hM1 : MI v4 g5 := MI_g (hgk 0 (by decide) (by decide)) (hgk 3 (by decide) (by decide)) (hgk 4 (by decide) (by decide)) (hgk 5 (by decide) (by decide)) (hgk 12 (by decide) (by decide)) (hgk 19 (by decide) (by decide)) (hgk 20 (by decide) (by decide)) (hgk 21 (by decide) (by decide)) (MI_v (by rw [hv9]; rfl) (by rw [hv9]; rfl) hMI)
  obtain ⟨⟨nd, hnd12, hnd⟩, ⟨nl, hnl5, hnl, hpar⟩, hch, hpk, hrq, hmd, huq⟩ := id hM1
  refine xjoin (D := D) (cl := xcl) (A := A) (H0 := s.heap) (σ := Nat) (ml := 7) 35 (fun (n0 : Nat) => [(0, .ref h), (1, .int fi), (2, .int pa), (3, .int bi)]) (fun (n0 : Nat) => [.int (nI n0)]) (fun (n0 : Nat) => moW h mm kA v4 g5) (fun (n0 : Nat) => (n0 ≤ 1)) ?_ (fun jn6 => ?_)
  · intro a9 ls H locs hl hP hD hS hI
    obtain ⟨n0, rfl⟩ : ∃ z, z = a9 := ⟨_, rfl⟩
    have hn0 : n0 ≤ 1 := hI
    have hl : lv_has ls 7 [(0, .ref h), (1, .int fi), (2, .int pa), (3, .int bi)] := hl
    have hP : va_P D xcl (moW h mm kA v4 g5) H := hP
    have hD : va_D A (moW h mm kA v4 g5) := hD
    refine lv_istore hx hb xd_Mo_layer_35 hl (Nat.le_of_ble_eq_true rfl) rfl (fun ls hl => ?_)
    have hl : lv_has ls 7 [(4, .int (nI n0)), (0, .ref h), (1, .int fi), (2, .int pa), (3, .int bi)] := hl
    refine lv_iconst (v := 0) hx hb xd_Mo_layer_37 (by decide) ?_
    refine lv_istore hx hb xd_Mo_layer_38 hl (Nat.le_of_ble_eq_true rfl) rfl (fun ls hl => ?_)
    have hl : lv_has ls 7 [(5, .int 0), (4, .int (nI n0)), (0, .ref h), (1, .int fi), (2, .int pa), (3, .int bi)] := hl
    refine xlab (σ := Nat × Nat) (ml := 7) 40 (fun (w5, n4) => [(5, .int (nI w5)), (4, .int (nI n4)), (2, .int pa), (0, .ref h), (1, .int fi), (3, .int bi)]) (fun (w5, n4) => []) (fun (w5, n4) => moW h mm kA v4 g5) (fun (w5, n4) => (w5 ≤ wn) ∧ (n4 ≤ 1)) (fun (w5, n4) => wn - w5) ?_ (0, n0) _ _ _ (lv_sub hl [0, 1, 4, 2, 3, 5] rfl) hP hD hS ⟨(show 0 ≤ wn from by first | assumption | omega), (show n0 ≤ 1 from by first | assumption | omega)⟩
    intro n9 ih7 a9 ls H locs hμ hl hP hD hS hI
    subst hμ
    obtain ⟨w5, n4⟩ := a9
    obtain ⟨hw5, hn4⟩ := hI
    have hw5 : w5 ≤ wn := hw5
    have hn4 : n4 ≤ 1 := hn4
    have hl : lv_has ls 7 [(5, .int (nI w5)), (4, .int (nI n4)), (2, .int pa), (0, .ref h), (1, .int fi), (3, .int bi)] := hl
    have hP : va_P D xcl (moW h mm kA v4 g5) H := hP
    have hD : va_D A (moW h mm kA v4 g5) := hD
    refine lv_iload hx hb xd_Mo_layer_40 (lv_at hl 0 rfl) ?_
    refine lv_aload_n hx hb xd_Mo_layer_42 rfl (lv_at hl 3 rfl) ?_
    refine va_get (D := D) (ci := 4) (v := .int (v4 3)) (C := xR_Mo) (T := xT_Mo) (N := 31) hx hb hT xi_Mo hown hK.1 hP 0 rfl rfl 4 (by decide) (hT _ xy5_7) (fun _ h9 => h9) rfl xd_Mo_layer_43 ?_
    refine xn_top (x := (v4 3)) (y := nI wn) hv3 ?_
    refine xn_ge (a := w5) (b := wn) (tgt := 76) hx hb xd_Mo_layer_46 (by decide) (by omega) (by omega) (fun hc8 => ?_) (fun hc8 => ?_)
    · refine lv_iload hx hb xd_Mo_layer_76 (lv_at hl 1 rfl) ?_
      refine xz_eq (a := n4) (tgt := 103) hx hb xd_Mo_layer_78 (by decide) (by omega) (fun hc9 => ?_) (fun hc9 => ?_)
      · refine lv_aload_n hx hb xd_Mo_layer_103 rfl (lv_at hl 3 rfl) ?_
        refine lv_iconst (v := 1) hx hb xd_Mo_layer_104 (by decide) ?_
        have hFc := va_free (wc := (moW h mm kA v4 g5)) hD hS hA [0, 1, 2, 3, 4, 5, 6, 7, 8, 9, 10, 11, 12, 13, 14, 15, 16, 17, 18, 19, 20, 21, 22, 23, 24, 25] rfl
        refine va_calli (va_runV (As := [.int 1]) (rest := []) ⟨hx, hb, hml, hown, hT⟩ (xc_Mo_fails l D kA H.size h mm v4 g5 1) (cwV 1 hT (wT_V xy5_9 xy5_10 xy5_11 xy5_6 xy5_8) rfl rfl rfl (by decide +kernel) ⟨Nat.le_of_ble_eq_true rfl, Nat.le_of_ble_eq_true rfl⟩) (x_preV hK hP hD 0 rfl rfl) rfl rfl hl.1 rfl (lv_room (Nat.le_of_ble_eq_true rfl)) xd_Mo_layer_105 ⟨Nat.le_of_ble_eq_true rfl, Nat.le_of_ble_eq_true rfl⟩) hS (fun q _ h => hFc q h) hFc (fun r10 u11 t H1 locs ht hvm hp12 hB hz1 hk1 hS => ?_)
        obtain ⟨hP1, hD1⟩ := hB
        rw [ht] at hP1
        have hD1 := hD1.weaken (fun _ _ _ h => hFc _ h)
        obtain ⟨v13, g14⟩ := u11
        generalize H1 = H at hP1 hS ⊢
        have hP := hP1
        have hD := hD1
        have hP : va_P D xcl (moW h mm kA v13 g14) H := hP
        have hD : va_D A (moW h mm kA v13 g14) := hD
        obtain ⟨hr9, hu9⟩ := hp12
        subst hr9
        obtain ⟨hu1, hu2⟩ := Prod.mk.inj hu9
        subst hu1
        have hu2 := hu2.symm
        subst hu2
        have hP : va_P D xcl (moW h mm kA (va_up v4 0 1) g5) H := hP
        have hD : va_D A (moW h mm kA (va_up v4 0 1) g5) := hD
        exact W.iret (v := 0) hx hb hr (fun t ht hW => ⟨⟨0, ((va_up v4 0 1), g5), rfl, ⟨MI_v rfl rfl hM1, hv2⟩, by rw [ht]; exact hP, hD⟩, hS.F ht⟩) hS.2.2 xd_Mo_layer_108
      · refine lv_iload_n hx hb xd_Mo_layer_81 rfl (lv_at hl 4 rfl) ?_
        refine lv_if_lt (tgt := 103) hx hb xd_Mo_layer_82 (by decide) (fun hc15 => ?_) (fun hc15 => ?_)
        · refine lv_aload_n hx hb xd_Mo_layer_103 rfl (lv_at hl 3 rfl) ?_
          refine lv_iconst (v := 1) hx hb xd_Mo_layer_104 (by decide) ?_
          have hFc := va_free (wc := (moW h mm kA v4 g5)) hD hS hA [0, 1, 2, 3, 4, 5, 6, 7, 8, 9, 10, 11, 12, 13, 14, 15, 16, 17, 18, 19, 20, 21, 22, 23, 24, 25] rfl
          refine va_calli (va_runV (As := [.int 1]) (rest := []) ⟨hx, hb, hml, hown, hT⟩ (xc_Mo_fails l D kA H.size h mm v4 g5 1) (cwV 1 hT (wT_V xy5_9 xy5_10 xy5_11 xy5_6 xy5_8) rfl rfl rfl (by decide +kernel) ⟨Nat.le_of_ble_eq_true rfl, Nat.le_of_ble_eq_true rfl⟩) (x_preV hK hP hD 0 rfl rfl) rfl rfl hl.1 rfl (lv_room (Nat.le_of_ble_eq_true rfl)) xd_Mo_layer_105 ⟨Nat.le_of_ble_eq_true rfl, Nat.le_of_ble_eq_true rfl⟩) hS (fun q _ h => hFc q h) hFc (fun r16 u17 t H1 locs ht hvm hp18 hB hz1 hk1 hS => ?_)
          obtain ⟨hP1, hD1⟩ := hB
          rw [ht] at hP1
          have hD1 := hD1.weaken (fun _ _ _ h => hFc _ h)
          obtain ⟨v19, g20⟩ := u17
          generalize H1 = H at hP1 hS ⊢
          have hP := hP1
          have hD := hD1
          have hP : va_P D xcl (moW h mm kA v19 g20) H := hP
          have hD : va_D A (moW h mm kA v19 g20) := hD
          obtain ⟨hr9, hu9⟩ := hp18
          subst hr9
          obtain ⟨hu1, hu2⟩ := Prod.mk.inj hu9
          subst hu1
          have hu2 := hu2.symm
          subst hu2
          have hP : va_P D xcl (moW h mm kA (va_up v4 0 1) g5) H := hP
          have hD : va_D A (moW h mm kA (va_up v4 0 1) g5) := hD
          exact W.iret (v := 0) hx hb hr (fun t ht hW => ⟨⟨0, ((va_up v4 0 1), g5), rfl, ⟨MI_v rfl rfl hM1, hv2⟩, by rw [ht]; exact hP, hD⟩, hS.F ht⟩) hS.2.2 xd_Mo_layer_108
        · refine lv_iload_n hx hb xd_Mo_layer_85 rfl (lv_at hl 4 rfl) ?_
          refine lv_iconst (v := 1) hx hb xd_Mo_layer_86 (by decide) ?_
          refine lv_icmp_gt (tgt := 103) hx hb xd_Mo_layer_87 (by decide) (fun hc21 => ?_) (fun hc21 => ?_)
          · refine lv_aload_n hx hb xd_Mo_layer_103 rfl (lv_at hl 3 rfl) ?_
            refine lv_iconst (v := 1) hx hb xd_Mo_layer_104 (by decide) ?_
            have hFc := va_free (wc := (moW h mm kA v4 g5)) hD hS hA [0, 1, 2, 3, 4, 5, 6, 7, 8, 9, 10, 11, 12, 13, 14, 15, 16, 17, 18, 19, 20, 21, 22, 23, 24, 25] rfl
            refine va_calli (va_runV (As := [.int 1]) (rest := []) ⟨hx, hb, hml, hown, hT⟩ (xc_Mo_fails l D kA H.size h mm v4 g5 1) (cwV 1 hT (wT_V xy5_9 xy5_10 xy5_11 xy5_6 xy5_8) rfl rfl rfl (by decide +kernel) ⟨Nat.le_of_ble_eq_true rfl, Nat.le_of_ble_eq_true rfl⟩) (x_preV hK hP hD 0 rfl rfl) rfl rfl hl.1 rfl (lv_room (Nat.le_of_ble_eq_true rfl)) xd_Mo_layer_105 ⟨Nat.le_of_ble_eq_true rfl, Nat.le_of_ble_eq_true rfl⟩) hS (fun q _ h => hFc q h) hFc (fun r22 u23 t H1 locs ht hvm hp24 hB hz1 hk1 hS => ?_)
            obtain ⟨hP1, hD1⟩ := hB
            rw [ht] at hP1
            have hD1 := hD1.weaken (fun _ _ _ h => hFc _ h)
            obtain ⟨v25, g26⟩ := u23
            generalize H1 = H at hP1 hS ⊢
            have hP := hP1
            have hD := hD1
            have hP : va_P D xcl (moW h mm kA v25 g26) H := hP
            have hD : va_D A (moW h mm kA v25 g26) := hD
            obtain ⟨hr9, hu9⟩ := hp24
            subst hr9
            obtain ⟨hu1, hu2⟩ := Prod.mk.inj hu9
            subst hu1
            have hu2 := hu2.symm
            subst hu2
            have hP : va_P D xcl (moW h mm kA (va_up v4 0 1) g5) H := hP
            have hD : va_D A (moW h mm kA (va_up v4 0 1) g5) := hD
            exact W.iret (v := 0) hx hb hr (fun t ht hW => ⟨⟨0, ((va_up v4 0 1), g5), rfl, ⟨MI_v rfl rfl hM1, hv2⟩, by rw [ht]; exact hP, hD⟩, hS.F ht⟩) hS.2.2 xd_Mo_layer_108
          · refine xjoin (D := D) (cl := xcl) (A := A) (H0 := s.heap) (σ := Nat) (ml := 7) 109 (fun (lq : Nat) => [(0, .ref h), (1, .int fi), (2, .int (nI lq - 1)), (3, .int bi)]) (fun (lq : Nat) => []) (fun (lq : Nat) => moW h mm kA v4 g5) (fun (lq : Nat) => (lq ≤ nl)) ?_ (fun jn27 => ?_)
            · intro a9 ls H locs hl hP hD hS hI
              obtain ⟨lq, rfl⟩ : ∃ z, z = a9 := ⟨_, rfl⟩
              have hlq : lq ≤ nl := hI
              have hl : lv_has ls 7 [(0, .ref h), (1, .int fi), (2, .int (nI lq - 1)), (3, .int bi)] := hl
              have hP : va_P D xcl (moW h mm kA v4 g5) H := hP
              have hD : va_D A (moW h mm kA v4 g5) := hD
              refine lv_aload_n hx hb xd_Mo_layer_109 rfl (lv_at hl 0 rfl) ?_
              refine va_get (D := D) (ci := 4) (v := .ref (mm 18)) (C := xR_Mo) (T := xT_Mo) (N := 31) hx hb hT xi_Mo hown hK.1 hP 0 rfl rfl 24 (by decide) (hT _ xy5_12) (fun _ h9 => h9) rfl xd_Mo_layer_110 ?_
              refine lv_aload_n hx hb xd_Mo_layer_113 rfl (lv_at hl 0 rfl) ?_
              refine va_get (D := D) (ci := 4) (v := .int (v4 5)) (C := xR_Mo) (T := xT_Mo) (N := 31) hx hb hT xi_Mo hown hK.1 hP 0 rfl rfl 23 (by decide) (hT _ xy5_13) (fun _ h9 => h9) rfl xd_Mo_layer_114 ?_
              refine xn_top (x := (v4 5)) (y := nI nl) hnl ?_
              refine lv_iload_n hx hb xd_Mo_layer_117 rfl (lv_at hl 1 rfl) ?_
              refine xn_iast (i := nl) hx hb hK.1 hP hD hS 19 0 rfl rfl (by omega) (by decide) xd_Mo_layer_118 (fun H locs hP hD hS => ?_)
              have hP : va_P D xcl (moW h mm kA v4 (va_up g5 18 (upd (g5 18) nl fi))) H := hP
              have hD : va_D A (moW h mm kA v4 (va_up g5 18 (upd (g5 18) nl fi))) := hD
              refine lv_aload_n hx hb xd_Mo_layer_119 rfl (lv_at hl 0 rfl) ?_
              refine va_get (D := D) (ci := 4) (v := .ref (mm 19)) (C := xR_Mo) (T := xT_Mo) (N := 31) hx hb hT xi_Mo hown hK.1 hP 0 rfl rfl 25 (by decide) (hT _ xy5_14) (fun _ h9 => h9) rfl xd_Mo_layer_120 ?_
              refine lv_aload_n hx hb xd_Mo_layer_123 rfl (lv_at hl 0 rfl) ?_
              refine va_get (D := D) (ci := 4) (v := .int (v4 5)) (C := xR_Mo) (T := xT_Mo) (N := 31) hx hb hT xi_Mo hown hK.1 hP 0 rfl rfl 23 (by decide) (hT _ xy5_13) (fun _ h9 => h9) rfl xd_Mo_layer_124 ?_
              refine xn_top (x := (v4 5)) (y := nI nl) hnl ?_
              refine lv_iload_n hx hb xd_Mo_layer_127 rfl (lv_at hl 2 rfl) ?_
              refine xn_iast (i := nl) hx hb hK.1 hP hD hS 20 0 rfl rfl (by omega) (by decide) xd_Mo_layer_128 (fun H locs hP hD hS => ?_)
              have hP : va_P D xcl (moW h mm kA v4 (va_up (va_up g5 18 (upd (g5 18) nl fi)) 19 (upd (g5 19) nl (nI lq - 1)))) H := hP
              have hD : va_D A (moW h mm kA v4 (va_up (va_up g5 18 (upd (g5 18) nl fi)) 19 (upd (g5 19) nl (nI lq - 1)))) := hD
              refine lv_aload_n hx hb xd_Mo_layer_129 rfl (lv_at hl 0 rfl) ?_
              refine va_get (D := D) (ci := 4) (v := .ref (mm 20)) (C := xR_Mo) (T := xT_Mo) (N := 31) hx hb hT xi_Mo hown hK.1 hP 0 rfl rfl 26 (by decide) (hT _ xy5_15) (fun _ h9 => h9) rfl xd_Mo_layer_130 ?_
              refine lv_aload_n hx hb xd_Mo_layer_133 rfl (lv_at hl 0 rfl) ?_
              refine va_get (D := D) (ci := 4) (v := .int (v4 5)) (C := xR_Mo) (T := xT_Mo) (N := 31) hx hb hT xi_Mo hown hK.1 hP 0 rfl rfl 23 (by decide) (hT _ xy5_13) (fun _ h9 => h9) rfl xd_Mo_layer_134 ?_
              refine xn_top (x := (v4 5)) (y := nI nl) hnl ?_
              refine lv_iconst (v := 0) hx hb xd_Mo_layer_137 (by decide) ?_
              refine xn_iast (i := nl) hx hb hK.1 hP hD hS 21 0 rfl rfl (by omega) (by decide) xd_Mo_layer_138 (fun H locs hP hD hS => ?_)
              have hP : va_P D xcl (moW h mm kA v4 (va_up (va_up (va_up g5 18 (upd (g5 18) nl fi)) 19 (upd (g5 19) nl (nI lq - 1))) 20 (upd (g5 20) nl 0))) H := hP
              have hD : va_D A (moW h mm kA v4 (va_up (va_up (va_up g5 18 (upd (g5 18) nl fi)) 19 (upd (g5 19) nl (nI lq - 1))) 20 (upd (g5 20) nl 0))) := hD
              have hMz : MI v4 (va_up (va_up (va_up g5 18 (upd (g5 18) nl fi)) 19 (upd (g5 19) nl (nI lq - 1))) 20 (upd (g5 20) nl 0)) := MI_dr hnl hnl5 hM1
              have hpz : ∀ la, la < nl + 1 → ∃ lz, lz ≤ la ∧ (va_up (va_up (va_up g5 18 (upd (g5 18) nl fi)) 19 (upd (g5 19) nl (nI lq - 1))) 20 (upd (g5 20) nl 0)) 19 la = nI lz - 1 := fun la hla => by
                show ∃ lz, lz ≤ la ∧ upd (g5 19) nl (nI lq - 1) la = nI lz - 1
                by_cases e : la = nl
                · subst e; exact ⟨lq, hlq, pk_us⟩
                · rw [pk_un e]; exact hpar la (by omega)
              have hmz : (va_up (va_up (va_up g5 18 (upd (g5 18) nl fi)) 19 (upd (g5 19) nl (nI lq - 1))) 20 (upd (g5 20) nl 0)) 20 nl = nI 0 := pk_us
              have hNz : NDp (va_up (va_up (va_up g5 18 (upd (g5 18) nl fi)) 19 (upd (g5 19) nl (nI lq - 1))) 20 (upd (g5 20) nl 0)) nl 0 := fun i j hi => absurd hi (by omega)
              have hgz : ∀ j, j ≠ 18 → j ≠ 19 → j ≠ 20 → (va_up (va_up (va_up g5 18 (upd (g5 18) nl fi)) 19 (upd (g5 19) nl (nI lq - 1))) 20 (upd (g5 20) nl 0)) j = g5 j := fun j h1 h2 h3 => by simp [va_up, h1, h2, h3]
              generalize hGe : (va_up (va_up (va_up g5 18 (upd (g5 18) nl fi)) 19 (upd (g5 19) nl (nI lq - 1))) 20 (upd (g5 20) nl 0)) = gz at hP hD hMz hpz hmz hNz hgz
              have hP : va_P D xcl (moW h mm kA v4 gz) H := hP
              have hD : va_D A (moW h mm kA v4 gz) := hD
              refine lv_iconst (v := 1) hx hb xd_Mo_layer_139 (by decide) ?_
              refine lv_istore hx hb xd_Mo_layer_140 hl (Nat.le_of_ble_eq_true rfl) rfl (fun ls hl => ?_)
              have hl : lv_has ls 7 [(5, .int 1), (0, .ref h), (1, .int fi), (2, .int (nI lq - 1)), (3, .int bi)] := hl
              refine lv_iconst (v := 0) hx hb xd_Mo_layer_142 (by decide) ?_
              refine lv_istore hx hb xd_Mo_layer_143 hl (Nat.le_of_ble_eq_true rfl) rfl (fun ls hl => ?_)
              have hl : lv_has ls 7 [(6, .int 0), (5, .int 1), (0, .ref h), (1, .int fi), (2, .int (nI lq - 1)), (3, .int bi)] := hl
              refine xlab (σ := Nat × Nat × Nat × (Nat → Nat → Int32)) (ml := 7) 145 (fun (w6, gd, md9, g9) => [(6, .int (nI w6)), (5, .int (nI gd)), (0, .ref h), (1, .int fi), (3, .int bi)]) (fun (w6, gd, md9, g9) => []) (fun (w6, gd, md9, g9) => moW h mm kA v4 g9) (fun (w6, gd, md9, g9) => (w6 ≤ wn) ∧ (gd ≤ 1) ∧ (md9 ≤ 12) ∧ (g9 20 nl = nI md9) ∧ (MI v4 g9) ∧ (∀ j, j ≠ 20 → j ≠ 21 → j ≠ 23 → g9 j = gz j) ∧ (NDp g9 nl md9)) (fun (w6, gd, md9, g9) => wn - w6) ?_ (0, 1, 0, gz) _ _ _ (lv_sub hl [0, 1, 2, 3, 5] rfl) hP hD hS ⟨(show 0 ≤ wn from by first | assumption | omega), (show 1 ≤ 1 from by first | assumption | omega), (show 0 ≤ 12 from by first | assumption | omega), (show gz 20 nl = nI 0 from hmz), (show MI v4 gz from hMz), (show ∀ j, j ≠ 20 → j ≠ 21 → j ≠ 23 → gz j = gz j from fun j h1 h2 h3 => rfl), (show NDp gz nl 0 from hNz)⟩
              intro n9 ih28 a9 ls H locs hμ hl hP hD hS hI
              subst hμ
              obtain ⟨w6, gd, md9, g9⟩ := a9
              obtain ⟨hw6, hgd, hm29, hmk9, hM9, hfr9, hN9⟩ := hI
              have hw6 : w6 ≤ wn := hw6
              have hgd : gd ≤ 1 := hgd
              have hm29 : md9 ≤ 12 := hm29
              have hmk9 : g9 20 nl = nI md9 := hmk9
              have hM9 : MI v4 g9 := hM9
              have hfr9 : ∀ j, j ≠ 20 → j ≠ 21 → j ≠ 23 → g9 j = gz j := hfr9
              have hN9 : NDp g9 nl md9 := hN9
              have hpn9 : ∀ la, la < nl + 1 → ∃ lq, lq ≤ la ∧ g9 19 la = nI lq - 1 := by rw [hfr9 19 (by decide) (by decide) (by decide)]; exact hpz
              have hws9 : ∀ w9, w9 < wn → ∃ b9 e9, b9 < e9 ∧ e9 ≤ 40 ∧ g9 1 w9 = nI b9 ∧ g9 2 w9 = nI e9 := by rw [hfr9 1 (by decide) (by decide) (by decide), hfr9 2 (by decide) (by decide) (by decide), hgz 1 (by decide) (by decide) (by decide), hgz 2 (by decide) (by decide) (by decide)]; exact hws
              have hl : lv_has ls 7 [(6, .int (nI w6)), (5, .int (nI gd)), (0, .ref h), (1, .int fi), (3, .int bi)] := hl
              have hP : va_P D xcl (moW h mm kA v4 g9) H := hP
              have hD : va_D A (moW h mm kA v4 g9) := hD
              refine lv_iload hx hb xd_Mo_layer_145 (lv_at hl 0 rfl) ?_
              refine lv_aload_n hx hb xd_Mo_layer_147 rfl (lv_at hl 2 rfl) ?_
              refine va_get (D := D) (ci := 4) (v := .int (v4 3)) (C := xR_Mo) (T := xT_Mo) (N := 31) hx hb hT xi_Mo hown hK.1 hP 0 rfl rfl 4 (by decide) (hT _ xy5_7) (fun _ h9 => h9) rfl xd_Mo_layer_148 ?_
              refine xn_top (x := (v4 3)) (y := nI wn) hv3 ?_
              refine xn_ge (a := w6) (b := wn) (tgt := 177) hx hb xd_Mo_layer_151 (by decide) (by omega) (by omega) (fun hc29 => ?_) (fun hc29 => ?_)
              · refine lv_iload hx hb xd_Mo_layer_177 (lv_at hl 1 rfl) ?_
                refine xz_ne (a := gd) (tgt := 188) hx hb xd_Mo_layer_179 (by decide) (by omega) (fun hc30 => ?_) (fun hc30 => ?_)
                · refine xjoin (D := D) (cl := xcl) (A := A) (H0 := s.heap) (σ := Nat × (Nat → Nat → Int32)) (ml := 7) 196 (fun (md8, g8) => [(0, .ref h)]) (fun (md8, g8) => []) (fun (md8, g8) => moW h mm kA v4 g8) (fun (md8, g8) => (md8 ≤ 12) ∧ (g8 20 nl = nI md8) ∧ (MI v4 g8) ∧ (∀ j, j ≠ 20 → j ≠ 21 → j ≠ 23 → g8 j = gz j) ∧ (NDp g8 nl md8)) ?_ (fun jn31 => ?_)
                  · intro a9 ls H locs hl hP hD hS hI
                    obtain ⟨md8, g8⟩ := a9
                    obtain ⟨hm28, hmk8, hM8, hfr8, hN8⟩ := hI
                    have hm28 : md8 ≤ 12 := hm28
                    have hmk8 : g8 20 nl = nI md8 := hmk8
                    have hM8 : MI v4 g8 := hM8
                    have hfr8 : ∀ j, j ≠ 20 → j ≠ 21 → j ≠ 23 → g8 j = gz j := hfr8
                    have hN8 : NDp g8 nl md8 := hN8
                    have hpn8 : ∀ la, la < nl + 1 → ∃ lq, lq ≤ la ∧ g8 19 la = nI lq - 1 := by rw [hfr8 19 (by decide) (by decide) (by decide)]; exact hpz
                    have hws8 : ∀ w9, w9 < wn → ∃ b9 e9, b9 < e9 ∧ e9 ≤ 40 ∧ g8 1 w9 = nI b9 ∧ g8 2 w9 = nI e9 := by rw [hfr8 1 (by decide) (by decide) (by decide), hfr8 2 (by decide) (by decide) (by decide), hgz 1 (by decide) (by decide) (by decide), hgz 2 (by decide) (by decide) (by decide)]; exact hws
                    have hl : lv_has ls 7 [(0, .ref h)] := hl
                    have hP : va_P D xcl (moW h mm kA v4 g8) H := hP
                    have hD : va_D A (moW h mm kA v4 g8) := hD
                    refine lv_aload_n hx hb xd_Mo_layer_196 rfl (lv_at hl 0 rfl) ?_
                    refine lv_aload_n hx hb xd_Mo_layer_197 rfl (lv_at hl 0 rfl) ?_
                    have hFc := va_free (wc := (moW h mm kA v4 g8)) hD hS hA [0, 1, 2, 3, 4, 5, 6, 7, 8, 9, 10, 11, 12, 13, 14, 15, 16, 17, 18, 19, 20, 21, 22, 23, 24, 25] rfl
                    refine va_calli (va_runV (As := []) (rest := [.ref h]) ⟨hx, hb, hml, hown, hT⟩ (xc_Mo_reason l D kA H.size h mm v4 g8 nl md8 hM8 (by first | assumption | omega) (by first | assumption | omega) hpn8 hmk8 (by first | assumption | omega)) (cwV 0 hT (wT_V xy5_17 xy5_18 xy5_19 xy5_6 xy5_16) rfl rfl rfl (by decide +kernel) ⟨Nat.le_of_ble_eq_true rfl, Nat.le_of_ble_eq_true rfl⟩) (x_preV hK hP hD 0 rfl rfl) rfl rfl hl.1 rfl (lv_room (Nat.le_of_ble_eq_true rfl)) xd_Mo_layer_198 ⟨Nat.le_of_ble_eq_true rfl, Nat.le_of_ble_eq_true rfl⟩) hS (fun q _ h => hFc q h) hFc (fun r32 u33 t H1 locs ht hvm hp34 hB hz1 hk1 hS => ?_)
                    obtain ⟨hP1, hD1⟩ := hB
                    rw [ht] at hP1
                    have hD1 := hD1.weaken (fun _ _ _ h => hFc _ h)
                    obtain ⟨v35, g36⟩ := u33
                    generalize H1 = H at hP1 hS ⊢
                    have hP := hP1
                    have hD := hD1
                    have hP : va_P D xcl (moW h mm kA v35 g36) H := hP
                    have hD : va_D A (moW h mm kA v35 g36) := hD
                    obtain ⟨hu9, hfrq, k7, hk73, hr7, hk70⟩ := hp34
                    subst hr7
                    have hu9 : v4 = v35 := hu9.symm
                    subst hu9
                    have hfrq : ∀ j, j ≠ 24 → g36 j = g8 j := hfrq
                    have hMq : MI v4 g36 := MI_g (hfrq 0 (by decide)) (hfrq 3 (by decide)) (hfrq 4 (by decide)) (hfrq 5 (by decide)) (hfrq 12 (by decide)) (hfrq 19 (by decide)) (hfrq 20 (by decide)) (hfrq 21 (by decide)) hM8
                    have hpnq : ∀ la, la < nl + 1 → ∃ lq, lq ≤ la ∧ g36 19 la = nI lq - 1 := by rw [hfrq 19 (by decide)]; exact hpn8
                    have hmkq : g36 20 nl = nI md8 := by rw [hfrq 20 (by decide)]; exact hmk8
                    obtain ⟨-, -, -, -, -, hmdq, -⟩ := id hMq
                    obtain ⟨mdk, hmdk, emdk, hentq⟩ := hmdq nl (by omega)
                    have emd : md8 = mdk := nI_inj (by omega) (by omega) (hmkq.symm.trans emdk)
                    subst emd
                    have hent2 : ∀ i, 12 * nl ≤ i → i < 12 * nl + md8 → ∃ d, d < 12 ∧ g36 21 i = nI d := fun i h1 h2 => by
                      have h3 := hentq (i - 12 * nl) (by omega)
                      rwa [show 12 * nl + (i - 12 * nl) = i by omega] at h3
                    have hP : va_P D xcl (moW h mm kA v4 g36) H := hP
                    have hD : va_D A (moW h mm kA v4 g36) := hD
                    refine va_put (D := D) (ci := 4) (v := .int (nI k7)) (ty := .int) (C := xR_Mo) (T := xT_Mo) (N := 31) hx hb hT xi_Mo xt_Mo xt_Mo_ok xn_Mo hown hK.1 hP hD hS 0 rfl rfl 1 (by decide) (hT _ xy5_1) (fun _ h9 => h9) rfl (by decide +kernel) rfl rfl (Nat.le_of_ble_eq_true rfl) xd_Mo_layer_201 (fun H locs hP hD hS => ?_)
                    have hP : va_P D xcl (moW h mm kA (va_up v4 1 (nI k7)) g36) H := hP
                    have hD : va_D A (moW h mm kA (va_up v4 1 (nI k7)) g36) := hD
                    refine lv_aload_n hx hb xd_Mo_layer_204 rfl (lv_at hl 0 rfl) ?_
                    refine va_get (D := D) (ci := 4) (v := .int (nI k7)) (C := xR_Mo) (T := xT_Mo) (N := 31) hx hb hT xi_Mo hown hK.1 hP 0 rfl rfl 1 (by decide) (hT _ xy5_1) (fun _ h9 => h9) rfl xd_Mo_layer_205 ?_
                    refine xz_le (a := k7) (tgt := 217) hx hb xd_Mo_layer_208 (by decide) (by omega) (fun hc37 => ?_) (fun hc37 => ?_)
                    · refine lv_bipush (v := 12) hx hb xd_Mo_layer_217 (by decide) ?_
                      refine lv_aload_n hx hb xd_Mo_layer_219 rfl (lv_at hl 0 rfl) ?_
                      refine va_get (D := D) (ci := 4) (v := .int (v4 5)) (C := xR_Mo) (T := xT_Mo) (N := 31) hx hb hT xi_Mo hown hK.1 hP 0 rfl rfl 23 (by decide) (hT _ xy5_13) (fun _ h9 => h9) rfl xd_Mo_layer_220 ?_
                      refine xn_top (x := (v4 5)) (y := nI nl) hnl ?_
                      refine lv_imul hx hb xd_Mo_layer_223 ?_
                      refine xn_top (y := nI (12 * nl)) (pk_mul 12 nl) ?_
                      refine lv_istore hx hb xd_Mo_layer_224 hl (Nat.le_of_ble_eq_true rfl) rfl (fun ls hl => ?_)
                      have hl : lv_has ls 7 [(6, .int (nI (12 * nl))), (0, .ref h)] := hl
                      refine xlab (σ := Nat × (Nat → Int32)) (ml := 7) 226 (fun (i6, f11) => [(6, .int (nI i6)), (0, .ref h)]) (fun (i6, f11) => []) (fun (i6, f11) => moW h mm kA (va_up v4 1 (nI k7)) (va_up g36 11 f11)) (fun (i6, f11) => (12 * nl ≤ i6) ∧ (i6 ≤ 12 * nl + md8)) (fun (i6, f11) => 12 * nl + md8 - i6) ?_ (12 * nl, (g36 11)) _ _ _ (lv_sub hl [0, 1] rfl) hP hD hS ⟨(show 12 * nl ≤ (12 * nl) from by first | assumption | omega), (show (12 * nl) ≤ 12 * nl + md8 from by first | assumption | omega)⟩
                      intro n9 ih38 a9 ls H locs hμ hl hP hD hS hI
                      subst hμ
                      obtain ⟨i6, f11⟩ := a9
                      obtain ⟨hi61, hi62⟩ := hI
                      have hi61 : 12 * nl ≤ i6 := hi61
                      have hi62 : i6 ≤ 12 * nl + md8 := hi62
                      have hl : lv_has ls 7 [(6, .int (nI i6)), (0, .ref h)] := hl
                      have hP : va_P D xcl (moW h mm kA (va_up v4 1 (nI k7)) (va_up g36 11 f11)) H := hP
                      have hD : va_D A (moW h mm kA (va_up v4 1 (nI k7)) (va_up g36 11 f11)) := hD
                      refine lv_iload hx hb xd_Mo_layer_226 (lv_at hl 0 rfl) ?_
                      refine lv_bipush (v := 12) hx hb xd_Mo_layer_228 (by decide) ?_
                      refine lv_aload_n hx hb xd_Mo_layer_230 rfl (lv_at hl 1 rfl) ?_
                      refine va_get (D := D) (ci := 4) (v := .int (v4 5)) (C := xR_Mo) (T := xT_Mo) (N := 31) hx hb hT xi_Mo hown hK.1 hP 0 rfl rfl 23 (by decide) (hT _ xy5_13) (fun _ h9 => h9) rfl xd_Mo_layer_231 ?_
                      refine xn_top (x := (v4 5)) (y := nI nl) hnl ?_
                      refine lv_imul hx hb xd_Mo_layer_234 ?_
                      refine xn_top (y := nI (12 * nl)) (pk_mul 12 nl) ?_
                      refine lv_aload_n hx hb xd_Mo_layer_235 rfl (lv_at hl 1 rfl) ?_
                      refine va_get (D := D) (ci := 4) (v := .ref (mm 20)) (C := xR_Mo) (T := xT_Mo) (N := 31) hx hb hT xi_Mo hown hK.1 hP 0 rfl rfl 26 (by decide) (hT _ xy5_15) (fun _ h9 => h9) rfl xd_Mo_layer_236 ?_
                      refine lv_aload_n hx hb xd_Mo_layer_239 rfl (lv_at hl 1 rfl) ?_
                      refine va_get (D := D) (ci := 4) (v := .int (v4 5)) (C := xR_Mo) (T := xT_Mo) (N := 31) hx hb hT xi_Mo hown hK.1 hP 0 rfl rfl 23 (by decide) (hT _ xy5_13) (fun _ h9 => h9) rfl xd_Mo_layer_240 ?_
                      refine xn_top (x := (v4 5)) (y := nI nl) hnl ?_
                      refine xn_iald (i := nl) hx hb hK.1 hP 21 0 rfl rfl (by omega) (by decide) xd_Mo_layer_243 ?_
                      refine xn_top (x := (g36 20 nl)) (y := nI md8) hmkq ?_
                      refine lv_iadd hx hb xd_Mo_layer_244 ?_
                      refine xn_top (y := nI ((12 * nl) + md8)) (nI_add (12 * nl) md8) ?_
                      refine xn_ge (a := i6) (b := (12 * nl) + md8) (tgt := 267) hx hb xd_Mo_layer_245 (by decide) (by omega) (by omega) (fun hc39 => ?_) (fun hc39 => ?_)
                      · refine lv_aload_n hx hb xd_Mo_layer_267 rfl (lv_at hl 1 rfl) ?_
                        refine va_get (D := D) (ci := 4) (v := .ref (mm 22)) (C := xR_Mo) (T := xT_Mo) (N := 31) hx hb hT xi_Mo hown hK.1 hP 0 rfl rfl 28 (by decide) (hT _ xy5_20) (fun _ h9 => h9) rfl xd_Mo_layer_268 ?_
                        refine lv_aload_n hx hb xd_Mo_layer_271 rfl (lv_at hl 1 rfl) ?_
                        refine va_get (D := D) (ci := 4) (v := .int (v4 5)) (C := xR_Mo) (T := xT_Mo) (N := 31) hx hb hT xi_Mo hown hK.1 hP 0 rfl rfl 23 (by decide) (hT _ xy5_13) (fun _ h9 => h9) rfl xd_Mo_layer_272 ?_
                        refine xn_top (x := (v4 5)) (y := nI nl) hnl ?_
                        refine lv_iconst (v := 1) hx hb xd_Mo_layer_275 (by decide) ?_
                        refine xn_zast (i := nl) hx hb hK.1 hP hD hS 23 2 rfl rfl (by omega) (by decide) xd_Mo_layer_276 (fun H locs hP hD hS => ?_)
                        have hP : va_P D xcl (moW h mm kA (va_up v4 1 (nI k7)) (va_up (va_up g36 11 f11) 22 (upd (g36 22) nl (vp_nar .boolean 1)))) H := hP
                        have hD : va_D A (moW h mm kA (va_up v4 1 (nI k7)) (va_up (va_up g36 11 f11) 22 (upd (g36 22) nl (vp_nar .boolean 1)))) := hD
                        refine lv_aload_n hx hb xd_Mo_layer_277 rfl (lv_at hl 1 rfl) ?_
                        refine lv_dup hx hb xd_Mo_layer_278 rfl ?_
                        refine va_get (D := D) (ci := 4) (v := .int (v4 5)) (C := xR_Mo) (T := xT_Mo) (N := 31) hx hb hT xi_Mo hown hK.1 hP 0 rfl rfl 23 (by decide) (hT _ xy5_13) (fun _ h9 => h9) rfl xd_Mo_layer_279 ?_
                        refine xn_top (x := (v4 5)) (y := nI nl) hnl ?_
                        refine lv_iconst (v := 1) hx hb xd_Mo_layer_282 (by decide) ?_
                        refine lv_iadd hx hb xd_Mo_layer_283 ?_
                        refine xn_top (y := nI (nl + 1)) (nI_add nl 1) ?_
                        refine va_put (D := D) (ci := 4) (v := .int (nI (nl + 1))) (ty := .int) (C := xR_Mo) (T := xT_Mo) (N := 31) hx hb hT xi_Mo xt_Mo xt_Mo_ok xn_Mo hown hK.1 hP hD hS 0 rfl rfl 23 (by decide) (hT _ xy5_13) (fun _ h9 => h9) rfl (by decide +kernel) rfl rfl (Nat.le_of_ble_eq_true rfl) xd_Mo_layer_284 (fun H locs hP hD hS => ?_)
                        have hP : va_P D xcl (moW h mm kA (va_up (va_up v4 1 (nI k7)) 5 (nI (nl + 1))) (va_up (va_up g36 11 f11) 22 (upd (g36 22) nl (vp_nar .boolean 1)))) H := hP
                        have hD : va_D A (moW h mm kA (va_up (va_up v4 1 (nI k7)) 5 (nI (nl + 1))) (va_up (va_up g36 11 f11) 22 (upd (g36 22) nl (vp_nar .boolean 1)))) := hD
                        refine lv_aload_n hx hb xd_Mo_layer_287 rfl (lv_at hl 1 rfl) ?_
                        refine va_get (D := D) (ci := 4) (v := .int (nI (nl + 1))) (C := xR_Mo) (T := xT_Mo) (N := 31) hx hb hT xi_Mo hown hK.1 hP 0 rfl rfl 23 (by decide) (hT _ xy5_13) (fun _ h9 => h9) rfl xd_Mo_layer_288 ?_
                        refine lv_iconst (v := 1) hx hb xd_Mo_layer_291 (by decide) ?_
                        refine lv_isub hx hb xd_Mo_layer_292 ?_
                        refine xn_top (y := nI ((nl + 1) - 1)) (pk_sub (a := (nl + 1)) (b := 1) (by omega)) ?_
                        exact W.iret (v := (nI ((nl + 1) - 1))) hx hb hr (fun t ht hW => ⟨⟨(nI ((nl + 1) - 1)), ((va_up (va_up v4 1 (nI k7)) 5 (nI (nl + 1))), (va_up (va_up g36 11 f11) 22 (upd (g36 22) nl (vp_nar .boolean 1)))), rfl, ⟨MI_g rfl rfl rfl rfl rfl rfl rfl rfl (MI_nl (v := va_up v4 1 (nI k7)) (g := g36) (hk70 (by omega)) hpnq (MI_v (v := v4) rfl rfl hMq)), hv2⟩, by rw [ht]; exact hP, hD⟩, hS.F ht⟩) hS.2.2 xd_Mo_layer_293
                      · refine lv_aload_n hx hb xd_Mo_layer_248 rfl (lv_at hl 1 rfl) ?_
                        refine va_get (D := D) (ci := 4) (v := .ref (mm 11)) (C := xR_Mo) (T := xT_Mo) (N := 31) hx hb hT xi_Mo hown hK.1 hP 0 rfl rfl 16 (by decide) (hT _ xy5_21) (fun _ h9 => h9) rfl xd_Mo_layer_249 ?_
                        refine lv_aload_n hx hb xd_Mo_layer_252 rfl (lv_at hl 1 rfl) ?_
                        refine va_get (D := D) (ci := 4) (v := .ref (mm 21)) (C := xR_Mo) (T := xT_Mo) (N := 31) hx hb hT xi_Mo hown hK.1 hP 0 rfl rfl 27 (by decide) (hT _ xy5_22) (fun _ h9 => h9) rfl xd_Mo_layer_253 ?_
                        refine lv_iload hx hb xd_Mo_layer_256 (lv_at hl 0 rfl) ?_
                        refine xn_iald (i := i6) hx hb hK.1 hP 22 0 rfl rfl (by omega) (by decide) xd_Mo_layer_258 ?_
                        obtain ⟨k40, hk41, ek42⟩ := hent2 i6 (by omega) (by omega)
                        refine xn_top (x := (g36 21 i6)) ek42 ?_
                        refine lv_iconst (v := 1) hx hb xd_Mo_layer_259 (by decide) ?_
                        refine xn_zast (i := k40) hx hb hK.1 hP hD hS 12 2 rfl rfl (by omega) (by decide) xd_Mo_layer_260 (fun H locs hP hD hS => ?_)
                        have hP : va_P D xcl (moW h mm kA (va_up v4 1 (nI k7)) (va_up g36 11 (upd f11 k40 (vp_nar .boolean 1)))) H := hP
                        have hD : va_D A (moW h mm kA (va_up v4 1 (nI k7)) (va_up g36 11 (upd f11 k40 (vp_nar .boolean 1)))) := hD
                        refine lv_iinc (k := 0) (x := (nI i6)) (v := (nI (i6 + 1))) hx hb xd_Mo_layer_261 hl rfl (xb_inc i6 1) (Nat.le_of_ble_eq_true rfl) rfl (fun ls hl => ?_)
                        have hl : lv_has ls 7 [(6, .int (nI (i6 + 1))), (0, .ref h)] := hl
                        refine lv_goto (tgt := 226) hx hb xd_Mo_layer_264 (by decide) ?_
                        exact ih38 (i6 + 1, (upd f11 k40 (vp_nar .boolean 1))) _ _ _ (show 12 * nl + md8 - (i6 + 1) < 12 * nl + md8 - i6 by omega) (lv_sub hl [0, 1] rfl) hP hD hS ⟨(show 12 * nl ≤ (i6 + 1) from by first | assumption | omega), (show (i6 + 1) ≤ 12 * nl + md8 from by first | assumption | omega)⟩
                    · refine lv_aload_n hx hb xd_Mo_layer_211 rfl (lv_at hl 0 rfl) ?_
                      refine lv_iconst (v := 3) hx hb xd_Mo_layer_212 (by decide) ?_
                      have hFc := va_free (wc := (moW h mm kA (va_up v4 1 (nI k7)) g36)) hD hS hA [0, 1, 2, 3, 4, 5, 6, 7, 8, 9, 10, 11, 12, 13, 14, 15, 16, 17, 18, 19, 20, 21, 22, 23, 24, 25] rfl
                      refine va_calli (va_runV (As := [.int 3]) (rest := []) ⟨hx, hb, hml, hown, hT⟩ (xc_Mo_fails l D kA H.size h mm (va_up v4 1 (nI k7)) g36 3) (cwV 1 hT (wT_V xy5_9 xy5_10 xy5_11 xy5_6 xy5_8) rfl rfl rfl (by decide +kernel) ⟨Nat.le_of_ble_eq_true rfl, Nat.le_of_ble_eq_true rfl⟩) (x_preV hK hP hD 0 rfl rfl) rfl rfl hl.1 rfl (lv_room (Nat.le_of_ble_eq_true rfl)) xd_Mo_layer_213 ⟨Nat.le_of_ble_eq_true rfl, Nat.le_of_ble_eq_true rfl⟩) hS (fun q _ h => hFc q h) hFc (fun r43 u44 t H1 locs ht hvm hp45 hB hz1 hk1 hS => ?_)
                      obtain ⟨hP1, hD1⟩ := hB
                      rw [ht] at hP1
                      have hD1 := hD1.weaken (fun _ _ _ h => hFc _ h)
                      obtain ⟨v46, g47⟩ := u44
                      generalize H1 = H at hP1 hS ⊢
                      have hP := hP1
                      have hD := hD1
                      have hP : va_P D xcl (moW h mm kA v46 g47) H := hP
                      have hD : va_D A (moW h mm kA v46 g47) := hD
                      obtain ⟨hr9, hu9⟩ := hp45
                      subst hr9
                      obtain ⟨hu1, hu2⟩ := Prod.mk.inj hu9
                      subst hu1
                      have hu2 := hu2.symm
                      subst hu2
                      have hP : va_P D xcl (moW h mm kA (va_up (va_up v4 0 3) 1 (nI k7)) g36) H := hP
                      have hD : va_D A (moW h mm kA (va_up (va_up v4 0 3) 1 (nI k7)) g36) := hD
                      exact W.iret (v := 0) hx hb hr (fun t ht hW => ⟨⟨0, ((va_up (va_up v4 0 3) 1 (nI k7)), g36), rfl, ⟨MI_v rfl rfl hMq, hv2⟩, by rw [ht]; exact hP, hD⟩, hS.F ht⟩) hS.2.2 xd_Mo_layer_216
                  refine lv_iload_n hx hb xd_Mo_layer_188 rfl (lv_at hl 4 rfl) ?_
                  refine lv_if_eq (tgt := 196) hx hb xd_Mo_layer_189 (by decide) (fun hc48 => ?_) (fun hc48 => ?_)
                  · exact jn31 (md9, g9) _ _ _ (lv_sub hl [2] rfl) hP hD hS ⟨(show md9 ≤ 12 from by first | assumption | omega), (show g9 20 nl = nI md9 from hmk9), (show MI v4 g9 from hM9), (show ∀ j, j ≠ 20 → j ≠ 21 → j ≠ 23 → g9 j = gz j from hfr9), (show NDp g9 nl md9 from hN9)⟩
                  · refine lv_aload_n hx hb xd_Mo_layer_192 rfl (lv_at hl 2 rfl) ?_
                    have hFc := va_free (wc := (moW h mm kA v4 g9)) hD hS hA [0, 1, 2, 3, 4, 5, 6, 7, 8, 9, 10, 11, 12, 13, 14, 15, 16, 17, 18, 19, 20, 21, 22, 23, 24, 25] rfl
                    refine va_callv (va_runV (As := []) (rest := []) ⟨hx, hb, hml, hown, hT⟩ (xc_Mo_binding l D kA H.size h mm v4 g9 nd nl md9 hM9 (by first | assumption | omega) (by first | assumption | omega) (by first | assumption | omega) (by first | assumption | omega) hpn9 hmk9 (by first | assumption | omega) hN9) (cwV 0 hT (wT_V xy5_24 xy5_25 xy5_26 xy5_6 xy5_23) rfl rfl rfl (by decide +kernel) ⟨Nat.le_of_ble_eq_true rfl, Nat.le_of_ble_eq_true rfl⟩) (x_preV hK hP hD 0 rfl rfl) rfl rfl hl.1 rfl (lv_room (Nat.le_of_ble_eq_true rfl)) xd_Mo_layer_193 ⟨Nat.le_of_ble_eq_true rfl, Nat.le_of_ble_eq_true rfl⟩) hS (fun q _ h => hFc q h) hFc (fun u50 t H1 locs ht hvm hp51 hB hz1 hk1 hS => ?_)
                    obtain ⟨hP1, hD1⟩ := hB
                    rw [ht] at hP1
                    have hD1 := hD1.weaken (fun _ _ _ h => hFc _ h)
                    obtain ⟨v52, g53⟩ := u50
                    generalize H1 = H at hP1 hS ⊢
                    have hP := hP1
                    have hD := hD1
                    have hP : va_P D xcl (moW h mm kA v52 g53) H := hP
                    have hD : va_D A (moW h mm kA v52 g53) := hD
                    obtain ⟨hu9, hMq, hfrq, mdx, hx1, hx2, hx3, hx4⟩ := hp51
                    have hu9 : v4 = v52 := hu9.symm
                    subst hu9
                    have hMq : MI v4 g53 := hMq
                    have hfrq : ∀ j, j ≠ 20 → j ≠ 21 → j ≠ 23 → g53 j = g9 j := hfrq
                    have hx3 : g53 20 nl = nI mdx := hx3
                    have hx4 : NDp g53 nl mdx := hx4
                    have hP : va_P D xcl (moW h mm kA v4 g53) H := hP
                    have hD : va_D A (moW h mm kA v4 g53) := hD
                    exact jn31 (mdx, g53) _ _ _ (lv_sub hl [2] rfl) hP hD hS ⟨(show mdx ≤ 12 from by first | assumption | omega), (show g53 20 nl = nI mdx from hx3), (show MI v4 g53 from hMq), (show ∀ j, j ≠ 20 → j ≠ 21 → j ≠ 23 → g53 j = gz j from fun j h1 h2 h3 => (hfrq j h1 h2 h3).trans (hfr9 j h1 h2 h3)), (show NDp g53 nl mdx from hx4)⟩
                · refine lv_aload_n hx hb xd_Mo_layer_182 rfl (lv_at hl 2 rfl) ?_
                  refine lv_iconst (v := 2) hx hb xd_Mo_layer_183 (by decide) ?_
                  have hFc := va_free (wc := (moW h mm kA v4 g9)) hD hS hA [0, 1, 2, 3, 4, 5, 6, 7, 8, 9, 10, 11, 12, 13, 14, 15, 16, 17, 18, 19, 20, 21, 22, 23, 24, 25] rfl
                  refine va_calli (va_runV (As := [.int 2]) (rest := []) ⟨hx, hb, hml, hown, hT⟩ (xc_Mo_fails l D kA H.size h mm v4 g9 2) (cwV 1 hT (wT_V xy5_9 xy5_10 xy5_11 xy5_6 xy5_8) rfl rfl rfl (by decide +kernel) ⟨Nat.le_of_ble_eq_true rfl, Nat.le_of_ble_eq_true rfl⟩) (x_preV hK hP hD 0 rfl rfl) rfl rfl hl.1 rfl (lv_room (Nat.le_of_ble_eq_true rfl)) xd_Mo_layer_184 ⟨Nat.le_of_ble_eq_true rfl, Nat.le_of_ble_eq_true rfl⟩) hS (fun q _ h => hFc q h) hFc (fun r54 u55 t H1 locs ht hvm hp56 hB hz1 hk1 hS => ?_)
                  obtain ⟨hP1, hD1⟩ := hB
                  rw [ht] at hP1
                  have hD1 := hD1.weaken (fun _ _ _ h => hFc _ h)
                  obtain ⟨v57, g58⟩ := u55
                  generalize H1 = H at hP1 hS ⊢
                  have hP := hP1
                  have hD := hD1
                  have hP : va_P D xcl (moW h mm kA v57 g58) H := hP
                  have hD : va_D A (moW h mm kA v57 g58) := hD
                  obtain ⟨hr9, hu9⟩ := hp56
                  subst hr9
                  obtain ⟨hu1, hu2⟩ := Prod.mk.inj hu9
                  subst hu1
                  have hu2 := hu2.symm
                  subst hu2
                  have hP : va_P D xcl (moW h mm kA (va_up v4 0 2) g9) H := hP
                  have hD : va_D A (moW h mm kA (va_up v4 0 2) g9) := hD
                  exact W.iret (v := 0) hx hb hr (fun t ht hW => ⟨⟨0, ((va_up v4 0 2), g9), rfl, ⟨MI_v rfl rfl hM9, hv2⟩, by rw [ht]; exact hP, hD⟩, hS.F ht⟩) hS.2.2 xd_Mo_layer_187
              · refine lv_iload hx hb xd_Mo_layer_154 (lv_at hl 1 rfl) ?_
                refine xz_eq (a := gd) (tgt := 177) hx hb xd_Mo_layer_156 (by decide) (by omega) (fun hc59 => ?_) (fun hc59 => ?_)
                · refine lv_iload hx hb xd_Mo_layer_177 (lv_at hl 1 rfl) ?_
                  refine xz_ne (a := gd) (tgt := 188) hx hb xd_Mo_layer_179 (by decide) (by omega) (fun hc60 => ?_) (fun hc60 => ?_)
                  · refine xjoin (D := D) (cl := xcl) (A := A) (H0 := s.heap) (σ := Nat × (Nat → Nat → Int32)) (ml := 7) 196 (fun (md8, g8) => [(0, .ref h)]) (fun (md8, g8) => []) (fun (md8, g8) => moW h mm kA v4 g8) (fun (md8, g8) => (md8 ≤ 12) ∧ (g8 20 nl = nI md8) ∧ (MI v4 g8) ∧ (∀ j, j ≠ 20 → j ≠ 21 → j ≠ 23 → g8 j = gz j) ∧ (NDp g8 nl md8)) ?_ (fun jn61 => ?_)
                    · intro a9 ls H locs hl hP hD hS hI
                      obtain ⟨md8, g8⟩ := a9
                      obtain ⟨hm28, hmk8, hM8, hfr8, hN8⟩ := hI
                      have hm28 : md8 ≤ 12 := hm28
                      have hmk8 : g8 20 nl = nI md8 := hmk8
                      have hM8 : MI v4 g8 := hM8
                      have hfr8 : ∀ j, j ≠ 20 → j ≠ 21 → j ≠ 23 → g8 j = gz j := hfr8
                      have hN8 : NDp g8 nl md8 := hN8
                      have hpn8 : ∀ la, la < nl + 1 → ∃ lq, lq ≤ la ∧ g8 19 la = nI lq - 1 := by rw [hfr8 19 (by decide) (by decide) (by decide)]; exact hpz
                      have hws8 : ∀ w9, w9 < wn → ∃ b9 e9, b9 < e9 ∧ e9 ≤ 40 ∧ g8 1 w9 = nI b9 ∧ g8 2 w9 = nI e9 := by rw [hfr8 1 (by decide) (by decide) (by decide), hfr8 2 (by decide) (by decide) (by decide), hgz 1 (by decide) (by decide) (by decide), hgz 2 (by decide) (by decide) (by decide)]; exact hws
                      have hl : lv_has ls 7 [(0, .ref h)] := hl
                      have hP : va_P D xcl (moW h mm kA v4 g8) H := hP
                      have hD : va_D A (moW h mm kA v4 g8) := hD
                      refine lv_aload_n hx hb xd_Mo_layer_196 rfl (lv_at hl 0 rfl) ?_
                      refine lv_aload_n hx hb xd_Mo_layer_197 rfl (lv_at hl 0 rfl) ?_
                      have hFc := va_free (wc := (moW h mm kA v4 g8)) hD hS hA [0, 1, 2, 3, 4, 5, 6, 7, 8, 9, 10, 11, 12, 13, 14, 15, 16, 17, 18, 19, 20, 21, 22, 23, 24, 25] rfl
                      refine va_calli (va_runV (As := []) (rest := [.ref h]) ⟨hx, hb, hml, hown, hT⟩ (xc_Mo_reason l D kA H.size h mm v4 g8 nl md8 hM8 (by first | assumption | omega) (by first | assumption | omega) hpn8 hmk8 (by first | assumption | omega)) (cwV 0 hT (wT_V xy5_17 xy5_18 xy5_19 xy5_6 xy5_16) rfl rfl rfl (by decide +kernel) ⟨Nat.le_of_ble_eq_true rfl, Nat.le_of_ble_eq_true rfl⟩) (x_preV hK hP hD 0 rfl rfl) rfl rfl hl.1 rfl (lv_room (Nat.le_of_ble_eq_true rfl)) xd_Mo_layer_198 ⟨Nat.le_of_ble_eq_true rfl, Nat.le_of_ble_eq_true rfl⟩) hS (fun q _ h => hFc q h) hFc (fun r62 u63 t H1 locs ht hvm hp64 hB hz1 hk1 hS => ?_)
                      obtain ⟨hP1, hD1⟩ := hB
                      rw [ht] at hP1
                      have hD1 := hD1.weaken (fun _ _ _ h => hFc _ h)
                      obtain ⟨v65, g66⟩ := u63
                      generalize H1 = H at hP1 hS ⊢
                      have hP := hP1
                      have hD := hD1
                      have hP : va_P D xcl (moW h mm kA v65 g66) H := hP
                      have hD : va_D A (moW h mm kA v65 g66) := hD
                      obtain ⟨hu9, hfrq, k7, hk73, hr7, hk70⟩ := hp64
                      subst hr7
                      have hu9 : v4 = v65 := hu9.symm
                      subst hu9
                      have hfrq : ∀ j, j ≠ 24 → g66 j = g8 j := hfrq
                      have hMq : MI v4 g66 := MI_g (hfrq 0 (by decide)) (hfrq 3 (by decide)) (hfrq 4 (by decide)) (hfrq 5 (by decide)) (hfrq 12 (by decide)) (hfrq 19 (by decide)) (hfrq 20 (by decide)) (hfrq 21 (by decide)) hM8
                      have hpnq : ∀ la, la < nl + 1 → ∃ lq, lq ≤ la ∧ g66 19 la = nI lq - 1 := by rw [hfrq 19 (by decide)]; exact hpn8
                      have hmkq : g66 20 nl = nI md8 := by rw [hfrq 20 (by decide)]; exact hmk8
                      obtain ⟨-, -, -, -, -, hmdq, -⟩ := id hMq
                      obtain ⟨mdk, hmdk, emdk, hentq⟩ := hmdq nl (by omega)
                      have emd : md8 = mdk := nI_inj (by omega) (by omega) (hmkq.symm.trans emdk)
                      subst emd
                      have hent2 : ∀ i, 12 * nl ≤ i → i < 12 * nl + md8 → ∃ d, d < 12 ∧ g66 21 i = nI d := fun i h1 h2 => by
                        have h3 := hentq (i - 12 * nl) (by omega)
                        rwa [show 12 * nl + (i - 12 * nl) = i by omega] at h3
                      have hP : va_P D xcl (moW h mm kA v4 g66) H := hP
                      have hD : va_D A (moW h mm kA v4 g66) := hD
                      refine va_put (D := D) (ci := 4) (v := .int (nI k7)) (ty := .int) (C := xR_Mo) (T := xT_Mo) (N := 31) hx hb hT xi_Mo xt_Mo xt_Mo_ok xn_Mo hown hK.1 hP hD hS 0 rfl rfl 1 (by decide) (hT _ xy5_1) (fun _ h9 => h9) rfl (by decide +kernel) rfl rfl (Nat.le_of_ble_eq_true rfl) xd_Mo_layer_201 (fun H locs hP hD hS => ?_)
                      have hP : va_P D xcl (moW h mm kA (va_up v4 1 (nI k7)) g66) H := hP
                      have hD : va_D A (moW h mm kA (va_up v4 1 (nI k7)) g66) := hD
                      refine lv_aload_n hx hb xd_Mo_layer_204 rfl (lv_at hl 0 rfl) ?_
                      refine va_get (D := D) (ci := 4) (v := .int (nI k7)) (C := xR_Mo) (T := xT_Mo) (N := 31) hx hb hT xi_Mo hown hK.1 hP 0 rfl rfl 1 (by decide) (hT _ xy5_1) (fun _ h9 => h9) rfl xd_Mo_layer_205 ?_
                      refine xz_le (a := k7) (tgt := 217) hx hb xd_Mo_layer_208 (by decide) (by omega) (fun hc67 => ?_) (fun hc67 => ?_)
                      · refine lv_bipush (v := 12) hx hb xd_Mo_layer_217 (by decide) ?_
                        refine lv_aload_n hx hb xd_Mo_layer_219 rfl (lv_at hl 0 rfl) ?_
                        refine va_get (D := D) (ci := 4) (v := .int (v4 5)) (C := xR_Mo) (T := xT_Mo) (N := 31) hx hb hT xi_Mo hown hK.1 hP 0 rfl rfl 23 (by decide) (hT _ xy5_13) (fun _ h9 => h9) rfl xd_Mo_layer_220 ?_
                        refine xn_top (x := (v4 5)) (y := nI nl) hnl ?_
                        refine lv_imul hx hb xd_Mo_layer_223 ?_
                        refine xn_top (y := nI (12 * nl)) (pk_mul 12 nl) ?_
                        refine lv_istore hx hb xd_Mo_layer_224 hl (Nat.le_of_ble_eq_true rfl) rfl (fun ls hl => ?_)
                        have hl : lv_has ls 7 [(6, .int (nI (12 * nl))), (0, .ref h)] := hl
                        refine xlab (σ := Nat × (Nat → Int32)) (ml := 7) 226 (fun (i6, f11) => [(6, .int (nI i6)), (0, .ref h)]) (fun (i6, f11) => []) (fun (i6, f11) => moW h mm kA (va_up v4 1 (nI k7)) (va_up g66 11 f11)) (fun (i6, f11) => (12 * nl ≤ i6) ∧ (i6 ≤ 12 * nl + md8)) (fun (i6, f11) => 12 * nl + md8 - i6) ?_ (12 * nl, (g66 11)) _ _ _ (lv_sub hl [0, 1] rfl) hP hD hS ⟨(show 12 * nl ≤ (12 * nl) from by first | assumption | omega), (show (12 * nl) ≤ 12 * nl + md8 from by first | assumption | omega)⟩
                        intro n9 ih68 a9 ls H locs hμ hl hP hD hS hI
                        subst hμ
                        obtain ⟨i6, f11⟩ := a9
                        obtain ⟨hi61, hi62⟩ := hI
                        have hi61 : 12 * nl ≤ i6 := hi61
                        have hi62 : i6 ≤ 12 * nl + md8 := hi62
                        have hl : lv_has ls 7 [(6, .int (nI i6)), (0, .ref h)] := hl
                        have hP : va_P D xcl (moW h mm kA (va_up v4 1 (nI k7)) (va_up g66 11 f11)) H := hP
                        have hD : va_D A (moW h mm kA (va_up v4 1 (nI k7)) (va_up g66 11 f11)) := hD
                        refine lv_iload hx hb xd_Mo_layer_226 (lv_at hl 0 rfl) ?_
                        refine lv_bipush (v := 12) hx hb xd_Mo_layer_228 (by decide) ?_
                        refine lv_aload_n hx hb xd_Mo_layer_230 rfl (lv_at hl 1 rfl) ?_
                        refine va_get (D := D) (ci := 4) (v := .int (v4 5)) (C := xR_Mo) (T := xT_Mo) (N := 31) hx hb hT xi_Mo hown hK.1 hP 0 rfl rfl 23 (by decide) (hT _ xy5_13) (fun _ h9 => h9) rfl xd_Mo_layer_231 ?_
                        refine xn_top (x := (v4 5)) (y := nI nl) hnl ?_
                        refine lv_imul hx hb xd_Mo_layer_234 ?_
                        refine xn_top (y := nI (12 * nl)) (pk_mul 12 nl) ?_
                        refine lv_aload_n hx hb xd_Mo_layer_235 rfl (lv_at hl 1 rfl) ?_
                        refine va_get (D := D) (ci := 4) (v := .ref (mm 20)) (C := xR_Mo) (T := xT_Mo) (N := 31) hx hb hT xi_Mo hown hK.1 hP 0 rfl rfl 26 (by decide) (hT _ xy5_15) (fun _ h9 => h9) rfl xd_Mo_layer_236 ?_
                        refine lv_aload_n hx hb xd_Mo_layer_239 rfl (lv_at hl 1 rfl) ?_
                        refine va_get (D := D) (ci := 4) (v := .int (v4 5)) (C := xR_Mo) (T := xT_Mo) (N := 31) hx hb hT xi_Mo hown hK.1 hP 0 rfl rfl 23 (by decide) (hT _ xy5_13) (fun _ h9 => h9) rfl xd_Mo_layer_240 ?_
                        refine xn_top (x := (v4 5)) (y := nI nl) hnl ?_
                        refine xn_iald (i := nl) hx hb hK.1 hP 21 0 rfl rfl (by omega) (by decide) xd_Mo_layer_243 ?_
                        refine xn_top (x := (g66 20 nl)) (y := nI md8) hmkq ?_
                        refine lv_iadd hx hb xd_Mo_layer_244 ?_
                        refine xn_top (y := nI ((12 * nl) + md8)) (nI_add (12 * nl) md8) ?_
                        refine xn_ge (a := i6) (b := (12 * nl) + md8) (tgt := 267) hx hb xd_Mo_layer_245 (by decide) (by omega) (by omega) (fun hc69 => ?_) (fun hc69 => ?_)
                        · refine lv_aload_n hx hb xd_Mo_layer_267 rfl (lv_at hl 1 rfl) ?_
                          refine va_get (D := D) (ci := 4) (v := .ref (mm 22)) (C := xR_Mo) (T := xT_Mo) (N := 31) hx hb hT xi_Mo hown hK.1 hP 0 rfl rfl 28 (by decide) (hT _ xy5_20) (fun _ h9 => h9) rfl xd_Mo_layer_268 ?_
                          refine lv_aload_n hx hb xd_Mo_layer_271 rfl (lv_at hl 1 rfl) ?_
                          refine va_get (D := D) (ci := 4) (v := .int (v4 5)) (C := xR_Mo) (T := xT_Mo) (N := 31) hx hb hT xi_Mo hown hK.1 hP 0 rfl rfl 23 (by decide) (hT _ xy5_13) (fun _ h9 => h9) rfl xd_Mo_layer_272 ?_
                          refine xn_top (x := (v4 5)) (y := nI nl) hnl ?_
                          refine lv_iconst (v := 1) hx hb xd_Mo_layer_275 (by decide) ?_
                          refine xn_zast (i := nl) hx hb hK.1 hP hD hS 23 2 rfl rfl (by omega) (by decide) xd_Mo_layer_276 (fun H locs hP hD hS => ?_)
                          have hP : va_P D xcl (moW h mm kA (va_up v4 1 (nI k7)) (va_up (va_up g66 11 f11) 22 (upd (g66 22) nl (vp_nar .boolean 1)))) H := hP
                          have hD : va_D A (moW h mm kA (va_up v4 1 (nI k7)) (va_up (va_up g66 11 f11) 22 (upd (g66 22) nl (vp_nar .boolean 1)))) := hD
                          refine lv_aload_n hx hb xd_Mo_layer_277 rfl (lv_at hl 1 rfl) ?_
                          refine lv_dup hx hb xd_Mo_layer_278 rfl ?_
                          refine va_get (D := D) (ci := 4) (v := .int (v4 5)) (C := xR_Mo) (T := xT_Mo) (N := 31) hx hb hT xi_Mo hown hK.1 hP 0 rfl rfl 23 (by decide) (hT _ xy5_13) (fun _ h9 => h9) rfl xd_Mo_layer_279 ?_
                          refine xn_top (x := (v4 5)) (y := nI nl) hnl ?_
                          refine lv_iconst (v := 1) hx hb xd_Mo_layer_282 (by decide) ?_
                          refine lv_iadd hx hb xd_Mo_layer_283 ?_
                          refine xn_top (y := nI (nl + 1)) (nI_add nl 1) ?_
                          refine va_put (D := D) (ci := 4) (v := .int (nI (nl + 1))) (ty := .int) (C := xR_Mo) (T := xT_Mo) (N := 31) hx hb hT xi_Mo xt_Mo xt_Mo_ok xn_Mo hown hK.1 hP hD hS 0 rfl rfl 23 (by decide) (hT _ xy5_13) (fun _ h9 => h9) rfl (by decide +kernel) rfl rfl (Nat.le_of_ble_eq_true rfl) xd_Mo_layer_284 (fun H locs hP hD hS => ?_)
                          have hP : va_P D xcl (moW h mm kA (va_up (va_up v4 1 (nI k7)) 5 (nI (nl + 1))) (va_up (va_up g66 11 f11) 22 (upd (g66 22) nl (vp_nar .boolean 1)))) H := hP
                          have hD : va_D A (moW h mm kA (va_up (va_up v4 1 (nI k7)) 5 (nI (nl + 1))) (va_up (va_up g66 11 f11) 22 (upd (g66 22) nl (vp_nar .boolean 1)))) := hD
                          refine lv_aload_n hx hb xd_Mo_layer_287 rfl (lv_at hl 1 rfl) ?_
                          refine va_get (D := D) (ci := 4) (v := .int (nI (nl + 1))) (C := xR_Mo) (T := xT_Mo) (N := 31) hx hb hT xi_Mo hown hK.1 hP 0 rfl rfl 23 (by decide) (hT _ xy5_13) (fun _ h9 => h9) rfl xd_Mo_layer_288 ?_
                          refine lv_iconst (v := 1) hx hb xd_Mo_layer_291 (by decide) ?_
                          refine lv_isub hx hb xd_Mo_layer_292 ?_
                          refine xn_top (y := nI ((nl + 1) - 1)) (pk_sub (a := (nl + 1)) (b := 1) (by omega)) ?_
                          exact W.iret (v := (nI ((nl + 1) - 1))) hx hb hr (fun t ht hW => ⟨⟨(nI ((nl + 1) - 1)), ((va_up (va_up v4 1 (nI k7)) 5 (nI (nl + 1))), (va_up (va_up g66 11 f11) 22 (upd (g66 22) nl (vp_nar .boolean 1)))), rfl, ⟨MI_g rfl rfl rfl rfl rfl rfl rfl rfl (MI_nl (v := va_up v4 1 (nI k7)) (g := g66) (hk70 (by omega)) hpnq (MI_v (v := v4) rfl rfl hMq)), hv2⟩, by rw [ht]; exact hP, hD⟩, hS.F ht⟩) hS.2.2 xd_Mo_layer_293
                        · refine lv_aload_n hx hb xd_Mo_layer_248 rfl (lv_at hl 1 rfl) ?_
                          refine va_get (D := D) (ci := 4) (v := .ref (mm 11)) (C := xR_Mo) (T := xT_Mo) (N := 31) hx hb hT xi_Mo hown hK.1 hP 0 rfl rfl 16 (by decide) (hT _ xy5_21) (fun _ h9 => h9) rfl xd_Mo_layer_249 ?_
                          refine lv_aload_n hx hb xd_Mo_layer_252 rfl (lv_at hl 1 rfl) ?_
                          refine va_get (D := D) (ci := 4) (v := .ref (mm 21)) (C := xR_Mo) (T := xT_Mo) (N := 31) hx hb hT xi_Mo hown hK.1 hP 0 rfl rfl 27 (by decide) (hT _ xy5_22) (fun _ h9 => h9) rfl xd_Mo_layer_253 ?_
                          refine lv_iload hx hb xd_Mo_layer_256 (lv_at hl 0 rfl) ?_
                          refine xn_iald (i := i6) hx hb hK.1 hP 22 0 rfl rfl (by omega) (by decide) xd_Mo_layer_258 ?_
                          obtain ⟨k70, hk71, ek72⟩ := hent2 i6 (by omega) (by omega)
                          refine xn_top (x := (g66 21 i6)) ek72 ?_
                          refine lv_iconst (v := 1) hx hb xd_Mo_layer_259 (by decide) ?_
                          refine xn_zast (i := k70) hx hb hK.1 hP hD hS 12 2 rfl rfl (by omega) (by decide) xd_Mo_layer_260 (fun H locs hP hD hS => ?_)
                          have hP : va_P D xcl (moW h mm kA (va_up v4 1 (nI k7)) (va_up g66 11 (upd f11 k70 (vp_nar .boolean 1)))) H := hP
                          have hD : va_D A (moW h mm kA (va_up v4 1 (nI k7)) (va_up g66 11 (upd f11 k70 (vp_nar .boolean 1)))) := hD
                          refine lv_iinc (k := 0) (x := (nI i6)) (v := (nI (i6 + 1))) hx hb xd_Mo_layer_261 hl rfl (xb_inc i6 1) (Nat.le_of_ble_eq_true rfl) rfl (fun ls hl => ?_)
                          have hl : lv_has ls 7 [(6, .int (nI (i6 + 1))), (0, .ref h)] := hl
                          refine lv_goto (tgt := 226) hx hb xd_Mo_layer_264 (by decide) ?_
                          exact ih68 (i6 + 1, (upd f11 k70 (vp_nar .boolean 1))) _ _ _ (show 12 * nl + md8 - (i6 + 1) < 12 * nl + md8 - i6 by omega) (lv_sub hl [0, 1] rfl) hP hD hS ⟨(show 12 * nl ≤ (i6 + 1) from by first | assumption | omega), (show (i6 + 1) ≤ 12 * nl + md8 from by first | assumption | omega)⟩
                      · refine lv_aload_n hx hb xd_Mo_layer_211 rfl (lv_at hl 0 rfl) ?_
                        refine lv_iconst (v := 3) hx hb xd_Mo_layer_212 (by decide) ?_
                        have hFc := va_free (wc := (moW h mm kA (va_up v4 1 (nI k7)) g66)) hD hS hA [0, 1, 2, 3, 4, 5, 6, 7, 8, 9, 10, 11, 12, 13, 14, 15, 16, 17, 18, 19, 20, 21, 22, 23, 24, 25] rfl
                        refine va_calli (va_runV (As := [.int 3]) (rest := []) ⟨hx, hb, hml, hown, hT⟩ (xc_Mo_fails l D kA H.size h mm (va_up v4 1 (nI k7)) g66 3) (cwV 1 hT (wT_V xy5_9 xy5_10 xy5_11 xy5_6 xy5_8) rfl rfl rfl (by decide +kernel) ⟨Nat.le_of_ble_eq_true rfl, Nat.le_of_ble_eq_true rfl⟩) (x_preV hK hP hD 0 rfl rfl) rfl rfl hl.1 rfl (lv_room (Nat.le_of_ble_eq_true rfl)) xd_Mo_layer_213 ⟨Nat.le_of_ble_eq_true rfl, Nat.le_of_ble_eq_true rfl⟩) hS (fun q _ h => hFc q h) hFc (fun r73 u74 t H1 locs ht hvm hp75 hB hz1 hk1 hS => ?_)
                        obtain ⟨hP1, hD1⟩ := hB
                        rw [ht] at hP1
                        have hD1 := hD1.weaken (fun _ _ _ h => hFc _ h)
                        obtain ⟨v76, g77⟩ := u74
                        generalize H1 = H at hP1 hS ⊢
                        have hP := hP1
                        have hD := hD1
                        have hP : va_P D xcl (moW h mm kA v76 g77) H := hP
                        have hD : va_D A (moW h mm kA v76 g77) := hD
                        obtain ⟨hr9, hu9⟩ := hp75
                        subst hr9
                        obtain ⟨hu1, hu2⟩ := Prod.mk.inj hu9
                        subst hu1
                        have hu2 := hu2.symm
                        subst hu2
                        have hP : va_P D xcl (moW h mm kA (va_up (va_up v4 0 3) 1 (nI k7)) g66) H := hP
                        have hD : va_D A (moW h mm kA (va_up (va_up v4 0 3) 1 (nI k7)) g66) := hD
                        exact W.iret (v := 0) hx hb hr (fun t ht hW => ⟨⟨0, ((va_up (va_up v4 0 3) 1 (nI k7)), g66), rfl, ⟨MI_v rfl rfl hMq, hv2⟩, by rw [ht]; exact hP, hD⟩, hS.F ht⟩) hS.2.2 xd_Mo_layer_216
                    refine lv_iload_n hx hb xd_Mo_layer_188 rfl (lv_at hl 4 rfl) ?_
                    refine lv_if_eq (tgt := 196) hx hb xd_Mo_layer_189 (by decide) (fun hc78 => ?_) (fun hc78 => ?_)
                    · exact jn61 (md9, g9) _ _ _ (lv_sub hl [2] rfl) hP hD hS ⟨(show md9 ≤ 12 from by first | assumption | omega), (show g9 20 nl = nI md9 from hmk9), (show MI v4 g9 from hM9), (show ∀ j, j ≠ 20 → j ≠ 21 → j ≠ 23 → g9 j = gz j from hfr9), (show NDp g9 nl md9 from hN9)⟩
                    · refine lv_aload_n hx hb xd_Mo_layer_192 rfl (lv_at hl 2 rfl) ?_
                      have hFc := va_free (wc := (moW h mm kA v4 g9)) hD hS hA [0, 1, 2, 3, 4, 5, 6, 7, 8, 9, 10, 11, 12, 13, 14, 15, 16, 17, 18, 19, 20, 21, 22, 23, 24, 25] rfl
                      refine va_callv (va_runV (As := []) (rest := []) ⟨hx, hb, hml, hown, hT⟩ (xc_Mo_binding l D kA H.size h mm v4 g9 nd nl md9 hM9 (by first | assumption | omega) (by first | assumption | omega) (by first | assumption | omega) (by first | assumption | omega) hpn9 hmk9 (by first | assumption | omega) hN9) (cwV 0 hT (wT_V xy5_24 xy5_25 xy5_26 xy5_6 xy5_23) rfl rfl rfl (by decide +kernel) ⟨Nat.le_of_ble_eq_true rfl, Nat.le_of_ble_eq_true rfl⟩) (x_preV hK hP hD 0 rfl rfl) rfl rfl hl.1 rfl (lv_room (Nat.le_of_ble_eq_true rfl)) xd_Mo_layer_193 ⟨Nat.le_of_ble_eq_true rfl, Nat.le_of_ble_eq_true rfl⟩) hS (fun q _ h => hFc q h) hFc (fun u80 t H1 locs ht hvm hp81 hB hz1 hk1 hS => ?_)
                      obtain ⟨hP1, hD1⟩ := hB
                      rw [ht] at hP1
                      have hD1 := hD1.weaken (fun _ _ _ h => hFc _ h)
                      obtain ⟨v82, g83⟩ := u80
                      generalize H1 = H at hP1 hS ⊢
                      have hP := hP1
                      have hD := hD1
                      have hP : va_P D xcl (moW h mm kA v82 g83) H := hP
                      have hD : va_D A (moW h mm kA v82 g83) := hD
                      obtain ⟨hu9, hMq, hfrq, mdx, hx1, hx2, hx3, hx4⟩ := hp81
                      have hu9 : v4 = v82 := hu9.symm
                      subst hu9
                      have hMq : MI v4 g83 := hMq
                      have hfrq : ∀ j, j ≠ 20 → j ≠ 21 → j ≠ 23 → g83 j = g9 j := hfrq
                      have hx3 : g83 20 nl = nI mdx := hx3
                      have hx4 : NDp g83 nl mdx := hx4
                      have hP : va_P D xcl (moW h mm kA v4 g83) H := hP
                      have hD : va_D A (moW h mm kA v4 g83) := hD
                      exact jn61 (mdx, g83) _ _ _ (lv_sub hl [2] rfl) hP hD hS ⟨(show mdx ≤ 12 from by first | assumption | omega), (show g83 20 nl = nI mdx from hx3), (show MI v4 g83 from hMq), (show ∀ j, j ≠ 20 → j ≠ 21 → j ≠ 23 → g83 j = gz j from fun j h1 h2 h3 => (hfrq j h1 h2 h3).trans (hfr9 j h1 h2 h3)), (show NDp g83 nl mdx from hx4)⟩
                  · refine lv_aload_n hx hb xd_Mo_layer_182 rfl (lv_at hl 2 rfl) ?_
                    refine lv_iconst (v := 2) hx hb xd_Mo_layer_183 (by decide) ?_
                    have hFc := va_free (wc := (moW h mm kA v4 g9)) hD hS hA [0, 1, 2, 3, 4, 5, 6, 7, 8, 9, 10, 11, 12, 13, 14, 15, 16, 17, 18, 19, 20, 21, 22, 23, 24, 25] rfl
                    refine va_calli (va_runV (As := [.int 2]) (rest := []) ⟨hx, hb, hml, hown, hT⟩ (xc_Mo_fails l D kA H.size h mm v4 g9 2) (cwV 1 hT (wT_V xy5_9 xy5_10 xy5_11 xy5_6 xy5_8) rfl rfl rfl (by decide +kernel) ⟨Nat.le_of_ble_eq_true rfl, Nat.le_of_ble_eq_true rfl⟩) (x_preV hK hP hD 0 rfl rfl) rfl rfl hl.1 rfl (lv_room (Nat.le_of_ble_eq_true rfl)) xd_Mo_layer_184 ⟨Nat.le_of_ble_eq_true rfl, Nat.le_of_ble_eq_true rfl⟩) hS (fun q _ h => hFc q h) hFc (fun r84 u85 t H1 locs ht hvm hp86 hB hz1 hk1 hS => ?_)
                    obtain ⟨hP1, hD1⟩ := hB
                    rw [ht] at hP1
                    have hD1 := hD1.weaken (fun _ _ _ h => hFc _ h)
                    obtain ⟨v87, g88⟩ := u85
                    generalize H1 = H at hP1 hS ⊢
                    have hP := hP1
                    have hD := hD1
                    have hP : va_P D xcl (moW h mm kA v87 g88) H := hP
                    have hD : va_D A (moW h mm kA v87 g88) := hD
                    obtain ⟨hr9, hu9⟩ := hp86
                    subst hr9
                    obtain ⟨hu1, hu2⟩ := Prod.mk.inj hu9
                    subst hu1
                    have hu2 := hu2.symm
                    subst hu2
                    have hP : va_P D xcl (moW h mm kA (va_up v4 0 2) g9) H := hP
                    have hD : va_D A (moW h mm kA (va_up v4 0 2) g9) := hD
                    exact W.iret (v := 0) hx hb hr (fun t ht hW => ⟨⟨0, ((va_up v4 0 2), g9), rfl, ⟨MI_v rfl rfl hM9, hv2⟩, by rw [ht]; exact hP, hD⟩, hS.F ht⟩) hS.2.2 xd_Mo_layer_187
                · refine lv_aload_n hx hb xd_Mo_layer_159 rfl (lv_at hl 2 rfl) ?_
                  obtain ⟨b6, e6, hbe6, he6, eb6, ee6⟩ := hws9 w6 (by omega)
                  refine lv_aload_n hx hb xd_Mo_layer_160 rfl (lv_at hl 2 rfl) ?_
                  refine lv_iload hx hb xd_Mo_layer_161 (lv_at hl 0 rfl) ?_
                  have hFc := va_free (wc := (moW h mm kA v4 g9)) hD hS hA [0, 1, 2, 3, 4, 5, 6, 7, 8, 9, 10, 11, 12, 13, 14, 15, 16, 17, 18, 19, 20, 21, 22, 23, 24, 25] rfl
                  refine va_calli (va_runV (As := [.int (nI w6)]) (rest := [.ref h]) ⟨hx, hb, hml, hown, hT⟩ (xc_Mo_nameOf l D kA H.size h mm v4 g9 w6 b6 e6 (by first | assumption | omega) (by first | assumption | omega) (by first | assumption | omega) (by first | assumption | omega) (by first | assumption | omega)) (cwV 1 hT (wT_V xy5_28 xy5_29 xy5_30 xy5_6 xy5_27) rfl rfl rfl (by decide +kernel) ⟨Nat.le_of_ble_eq_true rfl, Nat.le_of_ble_eq_true rfl⟩) (x_preV hK hP hD 0 rfl rfl) rfl rfl hl.1 rfl (lv_room (Nat.le_of_ble_eq_true rfl)) xd_Mo_layer_163 ⟨Nat.le_of_ble_eq_true rfl, Nat.le_of_ble_eq_true rfl⟩) hS (fun q _ h => hFc q h) hFc (fun r89 u90 t H1 locs ht hvm hp91 hB hz1 hk1 hS => ?_)
                  obtain ⟨hP1, hD1⟩ := hB
                  rw [ht] at hP1
                  have hD1 := hD1.weaken (fun _ _ _ h => hFc _ h)
                  generalize H1 = H at hP1 hS ⊢
                  have hP := hP1
                  have hD := hD1
                  have hP : va_P D xcl (moW h mm kA v4 g9) H := hP
                  have hD : va_D A (moW h mm kA v4 g9) := hD
                  have hFc := va_free (wc := (moW h mm kA v4 g9)) hD hS hA [0, 1, 2, 3, 4, 5, 6, 7, 8, 9, 10, 11, 12, 13, 14, 15, 16, 17, 18, 19, 20, 21, 22, 23, 24, 25] rfl
                  refine va_calli (va_runV (As := [.int r89]) (rest := []) ⟨hx, hb, hml, hown, hT⟩ (xc_Mo_adds l D kA H.size h mm v4 g9 r89 nd nl md9 hM9 (by first | assumption | omega) (by first | assumption | omega) (by first | assumption | omega) (by first | assumption | omega) hpn9 hmk9 (by first | assumption | omega) hN9) (cwV 1 hT (wT_V xy5_32 xy5_33 xy5_34 xy5_6 xy5_31) rfl rfl rfl (by decide +kernel) ⟨Nat.le_of_ble_eq_true rfl, Nat.le_of_ble_eq_true rfl⟩) (x_preV hK hP hD 0 rfl rfl) rfl rfl hl.1 rfl (lv_room (Nat.le_of_ble_eq_true rfl)) xd_Mo_layer_166 ⟨Nat.le_of_ble_eq_true rfl, Nat.le_of_ble_eq_true rfl⟩) hS (fun q _ h => hFc q h) hFc (fun r92 u93 t H1 locs ht hvm hp94 hB hz1 hk1 hS => ?_)
                  obtain ⟨hP1, hD1⟩ := hB
                  rw [ht] at hP1
                  have hD1 := hD1.weaken (fun _ _ _ h => hFc _ h)
                  obtain ⟨v95, g96⟩ := u93
                  generalize H1 = H at hP1 hS ⊢
                  have hP := hP1
                  have hD := hD1
                  have hP : va_P D xcl (moW h mm kA v95 g96) H := hP
                  have hD : va_D A (moW h mm kA v95 g96) := hD
                  obtain ⟨hu9, hMq, hfrq, mdx, hx1, hx2, hx3, hx4, hx5⟩ := hp94
                  have hu9 : v4 = v95 := hu9.symm
                  subst hu9
                  have hMq : MI v4 g96 := hMq
                  have hfrq : ∀ j, j ≠ 20 → j ≠ 21 → j ≠ 23 → g96 j = g9 j := hfrq
                  have hx3 : g96 20 nl = nI mdx := hx3
                  have hx4 : NDp g96 nl mdx := hx4
                  have hP : va_P D xcl (moW h mm kA v4 g96) H := hP
                  have hD : va_D A (moW h mm kA v4 g96) := hD
                  rcases hx5 with rfl | ⟨rfl, -⟩
                  · refine lv_istore hx hb xd_Mo_layer_169 hl (Nat.le_of_ble_eq_true rfl) rfl (fun ls hl => ?_)
                    have hl : lv_has ls 7 [(5, .int 0), (6, .int (nI w6)), (0, .ref h), (1, .int fi), (3, .int bi)] := hl
                    refine lv_iinc (k := 1) (x := (nI w6)) (v := (nI (w6 + 1))) hx hb xd_Mo_layer_171 hl rfl (xb_inc w6 1) (Nat.le_of_ble_eq_true rfl) rfl (fun ls hl => ?_)
                    have hl : lv_has ls 7 [(6, .int (nI (w6 + 1))), (5, .int 0), (0, .ref h), (1, .int fi), (3, .int bi)] := hl
                    refine lv_goto (tgt := 145) hx hb xd_Mo_layer_174 (by decide) ?_
                    exact ih28 (w6 + 1, 0, mdx, g96) _ _ _ (show wn - (w6 + 1) < wn - w6 by omega) (lv_sub hl [0, 1, 2, 3, 4] rfl) hP hD hS ⟨(show (w6 + 1) ≤ wn from by first | assumption | omega), (show 0 ≤ 1 from by first | assumption | omega), (show mdx ≤ 12 from by first | assumption | omega), (show g96 20 nl = nI mdx from hx3), (show MI v4 g96 from hMq), (show ∀ j, j ≠ 20 → j ≠ 21 → j ≠ 23 → g96 j = gz j from fun j h1 h2 h3 => (hfrq j h1 h2 h3).trans (hfr9 j h1 h2 h3)), (show NDp g96 nl mdx from hx4)⟩
                  · refine lv_istore hx hb xd_Mo_layer_169 hl (Nat.le_of_ble_eq_true rfl) rfl (fun ls hl => ?_)
                    have hl : lv_has ls 7 [(5, .int 1), (6, .int (nI w6)), (0, .ref h), (1, .int fi), (3, .int bi)] := hl
                    refine lv_iinc (k := 1) (x := (nI w6)) (v := (nI (w6 + 1))) hx hb xd_Mo_layer_171 hl rfl (xb_inc w6 1) (Nat.le_of_ble_eq_true rfl) rfl (fun ls hl => ?_)
                    have hl : lv_has ls 7 [(6, .int (nI (w6 + 1))), (5, .int 1), (0, .ref h), (1, .int fi), (3, .int bi)] := hl
                    refine lv_goto (tgt := 145) hx hb xd_Mo_layer_174 (by decide) ?_
                    exact ih28 (w6 + 1, 1, mdx, g96) _ _ _ (show wn - (w6 + 1) < wn - w6 by omega) (lv_sub hl [0, 1, 2, 3, 4] rfl) hP hD hS ⟨(show (w6 + 1) ≤ wn from by first | assumption | omega), (show 1 ≤ 1 from by first | assumption | omega), (show mdx ≤ 12 from by first | assumption | omega), (show g96 20 nl = nI mdx from hx3), (show MI v4 g96 from hMq), (show ∀ j, j ≠ 20 → j ≠ 21 → j ≠ 23 → g96 j = gz j from fun j h1 h2 h3 => (hfrq j h1 h2 h3).trans (hfr9 j h1 h2 h3)), (show NDp g96 nl mdx from hx4)⟩
            rcases Decidable.em (pa = -1) with hpa | hpa
            · subst hpa
              have e5 : (-1 : Int32) = nI 0 - 1 := by decide
              rw [e5] at hl
              have hl : lv_has ls 7 [(5, .int (nI w5)), (4, .int (nI n4)), (2, .int (nI 0 - 1)), (0, .ref h), (1, .int fi), (3, .int bi)] := hl
              refine lv_iload_n hx hb xd_Mo_layer_90 rfl (lv_at hl 2 rfl) ?_
              refine lv_iconst (v := (-1)) hx hb xd_Mo_layer_91 (by decide) ?_
              refine lv_icmp_eq (tgt := 109) hx hb xd_Mo_layer_92 (by decide) (fun _ => ?_) (fun hc97 => absurd (show (nI 0 - 1 : Int32) = -1 from by decide) hc97)
              exact jn27 0 _ _ _ (lv_sub hl [3, 4, 2, 5] rfl) hP hD hS (show 0 ≤ nl from by first | assumption | omega)
            · refine lv_iload_n hx hb xd_Mo_layer_90 rfl (lv_at hl 2 rfl) ?_
              refine lv_iconst (v := (-1)) hx hb xd_Mo_layer_91 (by decide) ?_
              refine lv_icmp_eq (tgt := 109) hx hb xd_Mo_layer_92 (by decide) (fun hc98 => absurd hc98 hpa) (fun _ => ?_)
              refine lv_aload_n hx hb xd_Mo_layer_95 rfl (lv_at hl 3 rfl) ?_
              refine lv_iload_n hx hb xd_Mo_layer_96 rfl (lv_at hl 2 rfl) ?_
              have hFc := va_free (wc := (moW h mm kA v4 g5)) hD hS hA [0, 1, 2, 3, 4, 5, 6, 7, 8, 9, 10, 11, 12, 13, 14, 15, 16, 17, 18, 19, 20, 21, 22, 23, 24, 25] rfl
              refine va_calli (va_runV (As := [.int pa]) (rest := []) ⟨hx, hb, hml, hown, hT⟩ (xc_Mo_isOpen l D kA H.size h mm v4 g5 pa nl (by first | assumption | omega) (by first | assumption | omega)) (cwV 1 hT (wT_V xy5_36 xy5_37 xy5_38 xy5_6 xy5_35) rfl rfl rfl (by decide +kernel) ⟨Nat.le_of_ble_eq_true rfl, Nat.le_of_ble_eq_true rfl⟩) (x_preV hK hP hD 0 rfl rfl) rfl rfl hl.1 rfl (lv_room (Nat.le_of_ble_eq_true rfl)) xd_Mo_layer_97 ⟨Nat.le_of_ble_eq_true rfl, Nat.le_of_ble_eq_true rfl⟩) hS (fun q _ h => hFc q h) hFc (fun r99 u100 t H1 locs ht hvm hp101 hB hz1 hk1 hS => ?_)
              obtain ⟨hP1, hD1⟩ := hB
              rw [ht] at hP1
              have hD1 := hD1.weaken (fun _ _ _ h => hFc _ h)
              generalize H1 = H at hP1 hS ⊢
              have hP := hP1
              have hD := hD1
              have hP : va_P D xcl (moW h mm kA v4 g5) H := hP
              have hD : va_D A (moW h mm kA v4 g5) := hD
              rcases hp101 with rfl | ⟨rfl, z102, z103, rfl⟩
              · refine xz_ne (a := 0) (tgt := 109) hx hb xd_Mo_layer_100 (by decide) (by omega) (fun hc104 => absurd hc104 (by omega)) (fun _ => ?_)
                refine lv_aload_n hx hb xd_Mo_layer_103 rfl (lv_at hl 3 rfl) ?_
                refine lv_iconst (v := 1) hx hb xd_Mo_layer_104 (by decide) ?_
                have hFc := va_free (wc := (moW h mm kA v4 g5)) hD hS hA [0, 1, 2, 3, 4, 5, 6, 7, 8, 9, 10, 11, 12, 13, 14, 15, 16, 17, 18, 19, 20, 21, 22, 23, 24, 25] rfl
                refine va_calli (va_runV (As := [.int 1]) (rest := []) ⟨hx, hb, hml, hown, hT⟩ (xc_Mo_fails l D kA H.size h mm v4 g5 1) (cwV 1 hT (wT_V xy5_9 xy5_10 xy5_11 xy5_6 xy5_8) rfl rfl rfl (by decide +kernel) ⟨Nat.le_of_ble_eq_true rfl, Nat.le_of_ble_eq_true rfl⟩) (x_preV hK hP hD 0 rfl rfl) rfl rfl hl.1 rfl (lv_room (Nat.le_of_ble_eq_true rfl)) xd_Mo_layer_105 ⟨Nat.le_of_ble_eq_true rfl, Nat.le_of_ble_eq_true rfl⟩) hS (fun q _ h => hFc q h) hFc (fun r105 u106 t H1 locs ht hvm hp107 hB hz1 hk1 hS => ?_)
                obtain ⟨hP1, hD1⟩ := hB
                rw [ht] at hP1
                have hD1 := hD1.weaken (fun _ _ _ h => hFc _ h)
                obtain ⟨v108, g109⟩ := u106
                generalize H1 = H at hP1 hS ⊢
                have hP := hP1
                have hD := hD1
                have hP : va_P D xcl (moW h mm kA v108 g109) H := hP
                have hD : va_D A (moW h mm kA v108 g109) := hD
                obtain ⟨hr9, hu9⟩ := hp107
                subst hr9
                obtain ⟨hu1, hu2⟩ := Prod.mk.inj hu9
                subst hu1
                have hu2 := hu2.symm
                subst hu2
                have hP : va_P D xcl (moW h mm kA (va_up v4 0 1) g5) H := hP
                have hD : va_D A (moW h mm kA (va_up v4 0 1) g5) := hD
                exact W.iret (v := 0) hx hb hr (fun t ht hW => ⟨⟨0, ((va_up v4 0 1), g5), rfl, ⟨MI_v rfl rfl hM1, hv2⟩, by rw [ht]; exact hP, hD⟩, hS.F ht⟩) hS.2.2 xd_Mo_layer_108
              · have hl : lv_has ls 7 [(5, .int (nI w5)), (4, .int (nI n4)), (2, .int (nI z102)), (0, .ref h), (1, .int fi), (3, .int bi)] := hl
                rw [← nI_pred z102] at hl
                have hl : lv_has ls 7 [(5, .int (nI w5)), (4, .int (nI n4)), (2, .int (nI (z102 + 1) - 1)), (0, .ref h), (1, .int fi), (3, .int bi)] := hl
                refine xz_ne (a := 1) (tgt := 109) hx hb xd_Mo_layer_100 (by decide) (by omega) (fun _ => ?_) (fun hc110 => absurd hc110 (by omega))
                exact jn27 (z102 + 1) _ _ _ (lv_sub hl [3, 4, 2, 5] rfl) hP hD hS (show (z102 + 1) ≤ nl from by first | assumption | omega)
    · refine lv_iload hx hb xd_Mo_layer_49 (lv_at hl 1 rfl) ?_
      refine xz_eq (a := n4) (tgt := 67) hx hb xd_Mo_layer_51 (by decide) (by omega) (fun hc111 => ?_) (fun hc111 => ?_)
      · refine lv_iconst (v := 0) hx hb xd_Mo_layer_67 (by decide) ?_
        refine lv_istore hx hb xd_Mo_layer_68 hl (Nat.le_of_ble_eq_true rfl) rfl (fun ls hl => ?_)
        have hl : lv_has ls 7 [(4, .int 0), (5, .int (nI w5)), (2, .int pa), (0, .ref h), (1, .int fi), (3, .int bi)] := hl
        refine lv_iinc (k := 1) (x := (nI w5)) (v := (nI (w5 + 1))) hx hb xd_Mo_layer_70 hl rfl (xb_inc w5 1) (Nat.le_of_ble_eq_true rfl) rfl (fun ls hl => ?_)
        have hl : lv_has ls 7 [(5, .int (nI (w5 + 1))), (4, .int 0), (2, .int pa), (0, .ref h), (1, .int fi), (3, .int bi)] := hl
        refine lv_goto (tgt := 40) hx hb xd_Mo_layer_73 (by decide) ?_
        exact ih7 (w5 + 1, 0) _ _ _ (show wn - (w5 + 1) < wn - w5 by omega) (lv_sub hl [0, 1, 2, 3, 4, 5] rfl) hP hD hS ⟨(show (w5 + 1) ≤ wn from by first | assumption | omega), (show 0 ≤ 1 from by first | assumption | omega)⟩
      · obtain ⟨b5, e5, hbe5, he5, eb5, ee5⟩ := hws w5 (by omega)
        refine lv_aload_n hx hb xd_Mo_layer_54 rfl (lv_at hl 3 rfl) ?_
        refine lv_iload hx hb xd_Mo_layer_55 (lv_at hl 0 rfl) ?_
        have hFc := va_free (wc := (moW h mm kA v4 g5)) hD hS hA [0, 1, 2, 3, 4, 5, 6, 7, 8, 9, 10, 11, 12, 13, 14, 15, 16, 17, 18, 19, 20, 21, 22, 23, 24, 25] rfl
        refine va_calli (va_runV (As := [.int (nI w5)]) (rest := []) ⟨hx, hb, hml, hown, hT⟩ (xc_Mo_nameOf l D kA H.size h mm v4 g5 w5 b5 e5 (by first | assumption | omega) (by first | assumption | omega) (by first | assumption | omega) (by first | assumption | omega) (by first | assumption | omega)) (cwV 1 hT (wT_V xy5_28 xy5_29 xy5_30 xy5_6 xy5_27) rfl rfl rfl (by decide +kernel) ⟨Nat.le_of_ble_eq_true rfl, Nat.le_of_ble_eq_true rfl⟩) (x_preV hK hP hD 0 rfl rfl) rfl rfl hl.1 rfl (lv_room (Nat.le_of_ble_eq_true rfl)) xd_Mo_layer_57 ⟨Nat.le_of_ble_eq_true rfl, Nat.le_of_ble_eq_true rfl⟩) hS (fun q _ h => hFc q h) hFc (fun r112 u113 t H1 locs ht hvm hp114 hB hz1 hk1 hS => ?_)
        obtain ⟨hP1, hD1⟩ := hB
        rw [ht] at hP1
        have hD1 := hD1.weaken (fun _ _ _ h => hFc _ h)
        generalize H1 = H at hP1 hS ⊢
        have hP := hP1
        have hD := hD1
        have hP : va_P D xcl (moW h mm kA v4 g5) H := hP
        have hD : va_D A (moW h mm kA v4 g5) := hD
        refine lv_if_le (tgt := 67) hx hb xd_Mo_layer_60 (by decide) (fun hc115 => ?_) (fun hc115 => ?_)
        · refine lv_iconst (v := 0) hx hb xd_Mo_layer_67 (by decide) ?_
          refine lv_istore hx hb xd_Mo_layer_68 hl (Nat.le_of_ble_eq_true rfl) rfl (fun ls hl => ?_)
          have hl : lv_has ls 7 [(4, .int 0), (5, .int (nI w5)), (2, .int pa), (0, .ref h), (1, .int fi), (3, .int bi)] := hl
          refine lv_iinc (k := 1) (x := (nI w5)) (v := (nI (w5 + 1))) hx hb xd_Mo_layer_70 hl rfl (xb_inc w5 1) (Nat.le_of_ble_eq_true rfl) rfl (fun ls hl => ?_)
          have hl : lv_has ls 7 [(5, .int (nI (w5 + 1))), (4, .int 0), (2, .int pa), (0, .ref h), (1, .int fi), (3, .int bi)] := hl
          refine lv_goto (tgt := 40) hx hb xd_Mo_layer_73 (by decide) ?_
          exact ih7 (w5 + 1, 0) _ _ _ (show wn - (w5 + 1) < wn - w5 by omega) (lv_sub hl [0, 1, 2, 3, 4, 5] rfl) hP hD hS ⟨(show (w5 + 1) ≤ wn from by first | assumption | omega), (show 0 ≤ 1 from by first | assumption | omega)⟩
        · refine lv_iconst (v := 1) hx hb xd_Mo_layer_63 (by decide) ?_
          refine lv_goto (tgt := 68) hx hb xd_Mo_layer_64 (by decide) ?_
          refine lv_istore hx hb xd_Mo_layer_68 hl (Nat.le_of_ble_eq_true rfl) rfl (fun ls hl => ?_)
          have hl : lv_has ls 7 [(4, .int 1), (5, .int (nI w5)), (2, .int pa), (0, .ref h), (1, .int fi), (3, .int bi)] := hl
          refine lv_iinc (k := 1) (x := (nI w5)) (v := (nI (w5 + 1))) hx hb xd_Mo_layer_70 hl rfl (xb_inc w5 1) (Nat.le_of_ble_eq_true rfl) rfl (fun ls hl => ?_)
          have hl : lv_has ls 7 [(5, .int (nI (w5 + 1))), (4, .int 1), (2, .int pa), (0, .ref h), (1, .int fi), (3, .int bi)] := hl
          refine lv_goto (tgt := 40) hx hb xd_Mo_layer_73 (by decide) ?_
          exact ih7 (w5 + 1, 1) _ _ _ (show wn - (w5 + 1) < wn - w5 by omega) (lv_sub hl [0, 1, 2, 3, 4, 5] rfl) hP hD hS ⟨(show (w5 + 1) ≤ wn from by first | assumption | omega), (show 1 ≤ 1 from by first | assumption | omega)⟩
  refine lv_aload_n hx hb xd_Mo_layer_14 rfl (lv_at hl 0 rfl) ?_
  refine va_get (D := D) (ci := 4) (v := .int (v4 3)) (C := xR_Mo) (T := xT_Mo) (N := 31) hx hb hT xi_Mo hown hK.1 hP 0 rfl rfl 4 (by decide) (hT _ xy5_7) (fun _ h9 => h9) rfl xd_Mo_layer_15 ?_
  refine xn_top (x := (v4 3)) (y := nI wn) hv3 ?_
  refine lv_iconst (v := 1) hx hb xd_Mo_layer_18 (by decide) ?_
  refine xn_lt (a := wn) (b := 1) (tgt := 34) hx hb xd_Mo_layer_19 (by decide) (by omega) (by omega) (fun hc116 => ?_) (fun hc116 => ?_)
  · refine lv_iconst (v := 0) hx hb xd_Mo_layer_34 (by decide) ?_
    exact jn6 0 _ _ _ (lv_sub hl [0, 1, 2, 3] rfl) hP hD hS (show 0 ≤ 1 from by first | assumption | omega)
  · refine lv_aload_n hx hb xd_Mo_layer_22 rfl (lv_at hl 0 rfl) ?_
    refine va_get (D := D) (ci := 4) (v := .int (v4 3)) (C := xR_Mo) (T := xT_Mo) (N := 31) hx hb hT xi_Mo hown hK.1 hP 0 rfl rfl 4 (by decide) (hT _ xy5_7) (fun _ h9 => h9) rfl xd_Mo_layer_23 ?_
    refine xn_top (x := (v4 3)) (y := nI wn) hv3 ?_
    refine lv_iconst (v := 3) hx hb xd_Mo_layer_26 (by decide) ?_
    refine xn_gt (a := wn) (b := 3) (tgt := 34) hx hb xd_Mo_layer_27 (by decide) (by omega) (by omega) (fun hc117 => ?_) (fun hc117 => ?_)
    · refine lv_iconst (v := 0) hx hb xd_Mo_layer_34 (by decide) ?_
      exact jn6 0 _ _ _ (lv_sub hl [0, 1, 2, 3] rfl) hP hD hS (show 0 ≤ 1 from by first | assumption | omega)
    · refine lv_iconst (v := 1) hx hb xd_Mo_layer_30 (by decide) ?_
      refine lv_goto (tgt := 35) hx hb xd_Mo_layer_31 (by decide) ?_
      exact jn6 1 _ _ _ (lv_sub hl [0, 1, 2, 3] rfl) hP hD hS (show 1 ≤ 1 from by first | assumption | omega)
