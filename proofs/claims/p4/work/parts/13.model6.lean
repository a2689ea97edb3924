abbrev xb_Mo_line : ByteArray := prog_12_method_10_code
def xy_Mo_line : MethodName := ⟨"LayerDeskModel", "line", "()I"⟩
theorem xd_Mo_line_0 : decode xb_Mo_line 0 = .ok (.aload_n 0, 1) := by decide +kernel
theorem xd_Mo_line_1 : decode xb_Mo_line 1 = .ok (.iconst 0, 1) := by decide +kernel
theorem xd_Mo_line_2 : decode xb_Mo_line 2 = .ok (.putfield 87, 3) := by decide +kernel
theorem xd_Mo_line_5 : decode xb_Mo_line 5 = .ok (.aload_n 0, 1) := by decide +kernel
theorem xd_Mo_line_6 : decode xb_Mo_line 6 = .ok (.invokevirtual 101, 3) := by decide +kernel
theorem xd_Mo_line_9 : decode xb_Mo_line 9 = .ok (.aload_n 0, 1) := by decide +kernel
theorem xd_Mo_line_10 : decode xb_Mo_line 10 = .ok (.getfield 94, 3) := by decide +kernel
theorem xd_Mo_line_13 : decode xb_Mo_line 13 = .ok (.ifCond .ne 5, 3) := by decide +kernel
theorem xd_Mo_line_16 : decode xb_Mo_line 16 = .ok (.iconst 0, 1) := by decide +kernel
theorem xd_Mo_line_17 : decode xb_Mo_line 17 = .ok (.ireturn, 1) := by decide +kernel
theorem xd_Mo_line_18 : decode xb_Mo_line 18 = .ok (.iconst (-1), 1) := by decide +kernel
theorem xd_Mo_line_19 : decode xb_Mo_line 19 = .ok (.istore_n 1, 1) := by decide +kernel
theorem xd_Mo_line_20 : decode xb_Mo_line 20 = .ok (.aload_n 0, 1) := by decide +kernel
theorem xd_Mo_line_21 : decode xb_Mo_line 21 = .ok (.iconst 0, 1) := by decide +kernel
theorem xd_Mo_line_22 : decode xb_Mo_line 22 = .ok (.bipush 109, 2) := by decide +kernel
theorem xd_Mo_line_24 : decode xb_Mo_line 24 = .ok (.bipush 111, 2) := by decide +kernel
theorem xd_Mo_line_26 : decode xb_Mo_line 26 = .ok (.bipush 100, 2) := by decide +kernel
theorem xd_Mo_line_28 : decode xb_Mo_line 28 = .ok (.bipush 117, 2) := by decide +kernel
theorem xd_Mo_line_30 : decode xb_Mo_line 30 = .ok (.bipush 108, 2) := by decide +kernel
theorem xd_Mo_line_32 : decode xb_Mo_line 32 = .ok (.invokestatic 104, 3) := by decide +kernel
theorem xd_Mo_line_35 : decode xb_Mo_line 35 = .ok (.bipush 101, 2) := by decide +kernel
theorem xd_Mo_line_37 : decode xb_Mo_line 37 = .ok (.iconst 0, 1) := by decide +kernel
theorem xd_Mo_line_38 : decode xb_Mo_line 38 = .ok (.iconst 0, 1) := by decide +kernel
theorem xd_Mo_line_39 : decode xb_Mo_line 39 = .ok (.iconst 0, 1) := by decide +kernel
theorem xd_Mo_line_40 : decode xb_Mo_line 40 = .ok (.iconst 0, 1) := by decide +kernel
theorem xd_Mo_line_41 : decode xb_Mo_line 41 = .ok (.invokestatic 104, 3) := by decide +kernel
theorem xd_Mo_line_44 : decode xb_Mo_line 44 = .ok (.invokevirtual 108, 3) := by decide +kernel
theorem xd_Mo_line_47 : decode xb_Mo_line 47 = .ok (.ifCond .eq 11, 3) := by decide +kernel
theorem xd_Mo_line_50 : decode xb_Mo_line 50 = .ok (.aload_n 0, 1) := by decide +kernel
theorem xd_Mo_line_51 : decode xb_Mo_line 51 = .ok (.invokevirtual 112, 3) := by decide +kernel
theorem xd_Mo_line_54 : decode xb_Mo_line 54 = .ok (.istore_n 1, 1) := by decide +kernel
theorem xd_Mo_line_55 : decode xb_Mo_line 55 = .ok (.goto 221, 3) := by decide +kernel
theorem xd_Mo_line_58 : decode xb_Mo_line 58 = .ok (.aload_n 0, 1) := by decide +kernel
theorem xd_Mo_line_59 : decode xb_Mo_line 59 = .ok (.iconst 0, 1) := by decide +kernel
theorem xd_Mo_line_60 : decode xb_Mo_line 60 = .ok (.bipush 112, 2) := by decide +kernel
theorem xd_Mo_line_62 : decode xb_Mo_line 62 = .ok (.bipush 97, 2) := by decide +kernel
theorem xd_Mo_line_64 : decode xb_Mo_line 64 = .ok (.bipush 99, 2) := by decide +kernel
theorem xd_Mo_line_66 : decode xb_Mo_line 66 = .ok (.bipush 107, 2) := by decide +kernel
theorem xd_Mo_line_68 : decode xb_Mo_line 68 = .ok (.bipush 97, 2) := by decide +kernel
theorem xd_Mo_line_70 : decode xb_Mo_line 70 = .ok (.invokestatic 104, 3) := by decide +kernel
theorem xd_Mo_line_73 : decode xb_Mo_line 73 = .ok (.bipush 103, 2) := by decide +kernel
theorem xd_Mo_line_75 : decode xb_Mo_line 75 = .ok (.bipush 101, 2) := by decide +kernel
theorem xd_Mo_line_77 : decode xb_Mo_line 77 = .ok (.iconst 0, 1) := by decide +kernel
theorem xd_Mo_line_78 : decode xb_Mo_line 78 = .ok (.iconst 0, 1) := by decide +kernel
theorem xd_Mo_line_79 : decode xb_Mo_line 79 = .ok (.iconst 0, 1) := by decide +kernel
theorem xd_Mo_line_80 : decode xb_Mo_line 80 = .ok (.invokestatic 104, 3) := by decide +kernel
theorem xd_Mo_line_83 : decode xb_Mo_line 83 = .ok (.invokevirtual 108, 3) := by decide +kernel
theorem xd_Mo_line_86 : decode xb_Mo_line 86 = .ok (.ifCond .eq 11, 3) := by decide +kernel
theorem xd_Mo_line_89 : decode xb_Mo_line 89 = .ok (.aload_n 0, 1) := by decide +kernel
theorem xd_Mo_line_90 : decode xb_Mo_line 90 = .ok (.invokevirtual 116, 3) := by decide +kernel
theorem xd_Mo_line_93 : decode xb_Mo_line 93 = .ok (.istore_n 1, 1) := by decide +kernel
theorem xd_Mo_line_94 : decode xb_Mo_line 94 = .ok (.goto 182, 3) := by decide +kernel
theorem xd_Mo_line_97 : decode xb_Mo_line 97 = .ok (.aload_n 0, 1) := by decide +kernel
theorem xd_Mo_line_98 : decode xb_Mo_line 98 = .ok (.iconst 0, 1) := by decide +kernel
theorem xd_Mo_line_99 : decode xb_Mo_line 99 = .ok (.bipush 101, 2) := by decide +kernel
theorem xd_Mo_line_101 : decode xb_Mo_line 101 = .ok (.bipush 120, 2) := by decide +kernel
theorem xd_Mo_line_103 : decode xb_Mo_line 103 = .ok (.bipush 112, 2) := by decide +kernel
theorem xd_Mo_line_105 : decode xb_Mo_line 105 = .ok (.bipush 111, 2) := by decide +kernel
theorem xd_Mo_line_107 : decode xb_Mo_line 107 = .ok (.bipush 114, 2) := by decide +kernel
theorem xd_Mo_line_109 : decode xb_Mo_line 109 = .ok (.invokestatic 104, 3) := by decide +kernel
theorem xd_Mo_line_112 : decode xb_Mo_line 112 = .ok (.bipush 116, 2) := by decide +kernel
theorem xd_Mo_line_114 : decode xb_Mo_line 114 = .ok (.bipush 115, 2) := by decide +kernel
theorem xd_Mo_line_116 : decode xb_Mo_line 116 = .ok (.iconst 0, 1) := by decide +kernel
theorem xd_Mo_line_117 : decode xb_Mo_line 117 = .ok (.iconst 0, 1) := by decide +kernel
theorem xd_Mo_line_118 : decode xb_Mo_line 118 = .ok (.iconst 0, 1) := by decide +kernel
theorem xd_Mo_line_119 : decode xb_Mo_line 119 = .ok (.invokestatic 104, 3) := by decide +kernel
theorem xd_Mo_line_122 : decode xb_Mo_line 122 = .ok (.invokevirtual 108, 3) := by decide +kernel
theorem xd_Mo_line_125 : decode xb_Mo_line 125 = .ok (.ifCond .eq 12, 3) := by decide +kernel
theorem xd_Mo_line_128 : decode xb_Mo_line 128 = .ok (.aload_n 0, 1) := by decide +kernel
theorem xd_Mo_line_129 : decode xb_Mo_line 129 = .ok (.iconst 0, 1) := by decide +kernel
theorem xd_Mo_line_130 : decode xb_Mo_line 130 = .ok (.invokevirtual 119, 3) := by decide +kernel
theorem xd_Mo_line_133 : decode xb_Mo_line 133 = .ok (.istore_n 1, 1) := by decide +kernel
theorem xd_Mo_line_134 : decode xb_Mo_line 134 = .ok (.goto 142, 3) := by decide +kernel
theorem xd_Mo_line_137 : decode xb_Mo_line 137 = .ok (.aload_n 0, 1) := by decide +kernel
theorem xd_Mo_line_138 : decode xb_Mo_line 138 = .ok (.iconst 0, 1) := by decide +kernel
theorem xd_Mo_line_139 : decode xb_Mo_line 139 = .ok (.bipush 111, 2) := by decide +kernel
theorem xd_Mo_line_141 : decode xb_Mo_line 141 = .ok (.bipush 112, 2) := by decide +kernel
theorem xd_Mo_line_143 : decode xb_Mo_line 143 = .ok (.bipush 101, 2) := by decide +kernel
theorem xd_Mo_line_145 : decode xb_Mo_line 145 = .ok (.bipush 110, 2) := by decide +kernel
theorem xd_Mo_line_147 : decode xb_Mo_line 147 = .ok (.bipush 115, 2) := by decide +kernel
theorem xd_Mo_line_149 : decode xb_Mo_line 149 = .ok (.invokestatic 104, 3) := by decide +kernel
theorem xd_Mo_line_152 : decode xb_Mo_line 152 = .ok (.iconst 0, 1) := by decide +kernel
theorem xd_Mo_line_153 : decode xb_Mo_line 153 = .ok (.invokevirtual 108, 3) := by decide +kernel
theorem xd_Mo_line_156 : decode xb_Mo_line 156 = .ok (.ifCond .eq 12, 3) := by decide +kernel
theorem xd_Mo_line_159 : decode xb_Mo_line 159 = .ok (.aload_n 0, 1) := by decide +kernel
theorem xd_Mo_line_160 : decode xb_Mo_line 160 = .ok (.iconst 1, 1) := by decide +kernel
theorem xd_Mo_line_161 : decode xb_Mo_line 161 = .ok (.invokevirtual 119, 3) := by decide +kernel
theorem xd_Mo_line_164 : decode xb_Mo_line 164 = .ok (.istore_n 1, 1) := by decide +kernel
theorem xd_Mo_line_165 : decode xb_Mo_line 165 = .ok (.goto 111, 3) := by decide +kernel
theorem xd_Mo_line_168 : decode xb_Mo_line 168 = .ok (.aload_n 0, 1) := by decide +kernel
theorem xd_Mo_line_169 : decode xb_Mo_line 169 = .ok (.iconst 0, 1) := by decide +kernel
theorem xd_Mo_line_170 : decode xb_Mo_line 170 = .ok (.bipush 114, 2) := by decide +kernel
theorem xd_Mo_line_172 : decode xb_Mo_line 172 = .ok (.bipush 101, 2) := by decide +kernel
theorem xd_Mo_line_174 : decode xb_Mo_line 174 = .ok (.bipush 113, 2) := by decide +kernel
theorem xd_Mo_line_176 : decode xb_Mo_line 176 = .ok (.bipush 117, 2) := by decide +kernel
theorem xd_Mo_line_178 : decode xb_Mo_line 178 = .ok (.bipush 105, 2) := by decide +kernel
theorem xd_Mo_line_180 : decode xb_Mo_line 180 = .ok (.invokestatic 104, 3) := by decide +kernel
theorem xd_Mo_line_183 : decode xb_Mo_line 183 = .ok (.bipush 114, 2) := by decide +kernel
theorem xd_Mo_line_185 : decode xb_Mo_line 185 = .ok (.bipush 101, 2) := by decide +kernel
theorem xd_Mo_line_187 : decode xb_Mo_line 187 = .ok (.bipush 115, 2) := by decide +kernel
theorem xd_Mo_line_189 : decode xb_Mo_line 189 = .ok (.iconst 0, 1) := by decide +kernel
theorem xd_Mo_line_190 : decode xb_Mo_line 190 = .ok (.iconst 0, 1) := by decide +kernel
theorem xd_Mo_line_191 : decode xb_Mo_line 191 = .ok (.invokestatic 104, 3) := by decide +kernel
theorem xd_Mo_line_194 : decode xb_Mo_line 194 = .ok (.invokevirtual 108, 3) := by decide +kernel
theorem xd_Mo_line_197 : decode xb_Mo_line 197 = .ok (.ifCond .eq 11, 3) := by decide +kernel
theorem xd_Mo_line_200 : decode xb_Mo_line 200 = .ok (.aload_n 0, 1) := by decide +kernel
theorem xd_Mo_line_201 : decode xb_Mo_line 201 = .ok (.invokevirtual 123, 3) := by decide +kernel
theorem xd_Mo_line_204 : decode xb_Mo_line 204 = .ok (.istore_n 1, 1) := by decide +kernel
theorem xd_Mo_line_205 : decode xb_Mo_line 205 = .ok (.goto 71, 3) := by decide +kernel
theorem xd_Mo_line_208 : decode xb_Mo_line 208 = .ok (.aload_n 0, 1) := by decide +kernel
theorem xd_Mo_line_209 : decode xb_Mo_line 209 = .ok (.iconst 0, 1) := by decide +kernel
theorem xd_Mo_line_210 : decode xb_Mo_line 210 = .ok (.bipush 117, 2) := by decide +kernel
theorem xd_Mo_line_212 : decode xb_Mo_line 212 = .ok (.bipush 115, 2) := by decide +kernel
theorem xd_Mo_line_214 : decode xb_Mo_line 214 = .ok (.bipush 101, 2) := by decide +kernel
theorem xd_Mo_line_216 : decode xb_Mo_line 216 = .ok (.bipush 115, 2) := by decide +kernel
theorem xd_Mo_line_218 : decode xb_Mo_line 218 = .ok (.iconst 0, 1) := by decide +kernel
theorem xd_Mo_line_219 : decode xb_Mo_line 219 = .ok (.invokestatic 104, 3) := by decide +kernel
theorem xd_Mo_line_222 : decode xb_Mo_line 222 = .ok (.iconst 0, 1) := by decide +kernel
theorem xd_Mo_line_223 : decode xb_Mo_line 223 = .ok (.invokevirtual 108, 3) := by decide +kernel
theorem xd_Mo_line_226 : decode xb_Mo_line 226 = .ok (.ifCond .eq 12, 3) := by decide +kernel
theorem xd_Mo_line_229 : decode xb_Mo_line 229 = .ok (.aload_n 0, 1) := by decide +kernel
theorem xd_Mo_line_230 : decode xb_Mo_line 230 = .ok (.iconst 0, 1) := by decide +kernel
theorem xd_Mo_line_231 : decode xb_Mo_line 231 = .ok (.invokevirtual 126, 3) := by decide +kernel
theorem xd_Mo_line_234 : decode xb_Mo_line 234 = .ok (.istore_n 1, 1) := by decide +kernel
theorem xd_Mo_line_235 : decode xb_Mo_line 235 = .ok (.goto 41, 3) := by decide +kernel
theorem xd_Mo_line_238 : decode xb_Mo_line 238 = .ok (.aload_n 0, 1) := by decide +kernel
theorem xd_Mo_line_239 : decode xb_Mo_line 239 = .ok (.iconst 0, 1) := by decide +kernel
theorem xd_Mo_line_240 : decode xb_Mo_line 240 = .ok (.bipush 112, 2) := by decide +kernel
theorem xd_Mo_line_242 : decode xb_Mo_line 242 = .ok (.bipush 114, 2) := by decide +kernel
theorem xd_Mo_line_244 : decode xb_Mo_line 244 = .ok (.bipush 111, 2) := by decide +kernel
theorem xd_Mo_line_246 : decode xb_Mo_line 246 = .ok (.bipush 118, 2) := by decide +kernel
theorem xd_Mo_line_248 : decode xb_Mo_line 248 = .ok (.bipush 105, 2) := by decide +kernel
theorem xd_Mo_line_250 : decode xb_Mo_line 250 = .ok (.invokestatic 104, 3) := by decide +kernel
theorem xd_Mo_line_253 : decode xb_Mo_line 253 = .ok (.bipush 100, 2) := by decide +kernel
theorem xd_Mo_line_255 : decode xb_Mo_line 255 = .ok (.bipush 101, 2) := by decide +kernel
theorem xd_Mo_line_257 : decode xb_Mo_line 257 = .ok (.bipush 115, 2) := by decide +kernel
theorem xd_Mo_line_259 : decode xb_Mo_line 259 = .ok (.iconst 0, 1) := by decide +kernel
theorem xd_Mo_line_260 : decode xb_Mo_line 260 = .ok (.iconst 0, 1) := by decide +kernel
theorem xd_Mo_line_261 : decode xb_Mo_line 261 = .ok (.invokestatic 104, 3) := by decide +kernel
theorem xd_Mo_line_264 : decode xb_Mo_line 264 = .ok (.invokevirtual 108, 3) := by decide +kernel
theorem xd_Mo_line_267 : decode xb_Mo_line 267 = .ok (.ifCond .eq 9, 3) := by decide +kernel
theorem xd_Mo_line_270 : decode xb_Mo_line 270 = .ok (.aload_n 0, 1) := by decide +kernel
theorem xd_Mo_line_271 : decode xb_Mo_line 271 = .ok (.iconst 1, 1) := by decide +kernel
theorem xd_Mo_line_272 : decode xb_Mo_line 272 = .ok (.invokevirtual 126, 3) := by decide +kernel
theorem xd_Mo_line_275 : decode xb_Mo_line 275 = .ok (.istore_n 1, 1) := by decide +kernel
theorem xd_Mo_line_276 : decode xb_Mo_line 276 = .ok (.iload_n 1, 1) := by decide +kernel
theorem xd_Mo_line_277 : decode xb_Mo_line 277 = .ok (.ifCond .ge 19, 3) := by decide +kernel
theorem xd_Mo_line_280 : decode xb_Mo_line 280 = .ok (.aload_n 0, 1) := by decide +kernel
theorem xd_Mo_line_281 : decode xb_Mo_line 281 = .ok (.iload_n 1, 1) := by decide +kernel
theorem xd_Mo_line_282 : decode xb_Mo_line 282 = .ok (.bipush (-2), 2) := by decide +kernel
theorem xd_Mo_line_284 : decode xb_Mo_line 284 = .ok (.if_icmp .ne 7, 3) := by decide +kernel
theorem xd_Mo_line_287 : decode xb_Mo_line 287 = .ok (.iconst 2, 1) := by decide +kernel
theorem xd_Mo_line_288 : decode xb_Mo_line 288 = .ok (.goto 4, 3) := by decide +kernel
theorem xd_Mo_line_291 : decode xb_Mo_line 291 = .ok (.iconst 1, 1) := by decide +kernel
theorem xd_Mo_line_292 : decode xb_Mo_line 292 = .ok (.invokevirtual 129, 3) := by decide +kernel
theorem xd_Mo_line_295 : decode xb_Mo_line 295 = .ok (.ireturn, 1) := by decide +kernel
theorem xd_Mo_line_296 : decode xb_Mo_line 296 = .ok (.iload_n 1, 1) := by decide +kernel
theorem xd_Mo_line_297 : decode xb_Mo_line 297 = .ok (.ireturn, 1) := by decide +kernel
theorem xs_0 : (Cond.fieldLink "LayerDeskModel" 87 "LayerDeskModel" "fault" "I") ∈ wT := wT_t (List.mem_append_right _ (List.mem_append_right _ (List.mem_append_right _ (List.mem_append_left _ (List.mem_of_getElem? (i := 84) rfl))))) rfl
theorem xs_1 : (Cond.code xy_Mo_split xb_Mo_split 2 none) ∈ wT := wT_t (List.mem_append_right _ (List.mem_append_right _ (List.mem_append_right _ (List.mem_append_left _ (List.mem_of_getElem? (i := 193) rfl))))) rfl
theorem xs_2 : (Cond.methodLink "LayerDeskModel" 101 xy_Mo_split) ∈ wT := wT_t (List.mem_append_right _ (List.mem_append_right _ (List.mem_append_right _ (List.mem_append_left _ (List.mem_of_getElem? (i := 190) rfl))))) rfl
theorem xs_3 : (Cond.instanceMethod xy_Mo_split) ∈ wT := wT_t (List.mem_append_right _ (List.mem_append_right _ (List.mem_append_right _ (List.mem_append_left _ (List.mem_of_getElem? (i := 192) rfl))))) rfl
theorem xs_4 : (Cond.selects "LayerDeskModel" xy_Mo_split xy_Mo_split) ∈ wT := wT_s (q := (xy_Mo_split, 31)) (by decide +kernel) rfl
theorem xs_5 : (Cond.initialized "LayerDeskModel") ∈ wT := wT_t (List.mem_append_left _ (List.mem_of_getElem? (i := 5) rfl)) rfl
theorem xs_6 : (Cond.fieldLink "LayerDeskModel" 94 "LayerDeskModel" "words" "I") ∈ wT := wT_t (List.mem_append_right _ (List.mem_append_right _ (List.mem_append_right _ (List.mem_append_left _ (List.mem_of_getElem? (i := 88) rfl))))) rfl
theorem xs_7 : (Cond.code xy_Mo_fails xb_Mo_fails 2 (some .int)) ∈ wT := wT_t (List.mem_append_right _ (List.mem_append_right _ (List.mem_append_right _ (List.mem_append_right _ (List.mem_of_getElem? (i := 4) rfl))))) rfl
theorem xs_8 : (Cond.methodLink "LayerDeskModel" 129 xy_Mo_fails) ∈ wT := wT_t (List.mem_append_right _ (List.mem_append_right _ (List.mem_append_right _ (List.mem_append_right _ (List.mem_of_getElem? (i := 1) rfl))))) rfl
theorem xs_9 : (Cond.instanceMethod xy_Mo_fails) ∈ wT := wT_t (List.mem_append_right _ (List.mem_append_right _ (List.mem_append_right _ (List.mem_append_right _ (List.mem_of_getElem? (i := 3) rfl))))) rfl
theorem xs_10 : (Cond.selects "LayerDeskModel" xy_Mo_fails xy_Mo_fails) ∈ wT := wT_s (q := (xy_Mo_fails, 31)) (by decide +kernel) rfl
theorem xs_11 : (Cond.code xy_Mo_code xb_Mo_code 6 (some .int)) ∈ wT := wT_t (List.mem_append_right _ (List.mem_append_right _ (List.mem_append_right _ (List.mem_append_left _ (List.mem_of_getElem? (i := 196) rfl))))) rfl
theorem xs_12 : (Cond.methodLink "LayerDeskModel" 104 xy_Mo_code) ∈ wT := wT_t (List.mem_append_right _ (List.mem_append_right _ (List.mem_append_right _ (List.mem_append_left _ (List.mem_of_getElem? (i := 194) rfl))))) rfl
theorem xs_13 : (Cond.static xy_Mo_code) ∈ wT := wT_t (List.mem_append_right _ (List.mem_append_right _ (List.mem_append_right _ (List.mem_append_left _ (List.mem_of_getElem? (i := 195) rfl))))) rfl
theorem xs_14 : (Cond.code xy_Mo_says xb_Mo_says 8 (some .boolean)) ∈ wT := wT_t (List.mem_append_right _ (List.mem_append_right _ (List.mem_append_right _ (List.mem_append_left _ (List.mem_of_getElem? (i := 200) rfl))))) rfl
theorem xs_15 : (Cond.methodLink "LayerDeskModel" 108 xy_Mo_says) ∈ wT := wT_t (List.mem_append_right _ (List.mem_append_right _ (List.mem_append_right _ (List.mem_append_left _ (List.mem_of_getElem? (i := 197) rfl))))) rfl
theorem xs_16 : (Cond.instanceMethod xy_Mo_says) ∈ wT := wT_t (List.mem_append_right _ (List.mem_append_right _ (List.mem_append_right _ (List.mem_append_left _ (List.mem_of_getElem? (i := 199) rfl))))) rfl
theorem xs_17 : (Cond.selects "LayerDeskModel" xy_Mo_says xy_Mo_says) ∈ wT := wT_s (q := (xy_Mo_says, 31)) (by decide +kernel) rfl
theorem xs_18 : (Cond.code xy_Mo_newService xb_Mo_newService 7 (some .int)) ∈ wT := wT_t (List.mem_append_right _ (List.mem_append_right _ (List.mem_append_right _ (List.mem_append_right _ (List.mem_of_getElem? (i := 0) rfl))))) rfl
theorem xs_19 : (Cond.methodLink "LayerDeskModel" 126 xy_Mo_newService) ∈ wT := wT_t (List.mem_append_right _ (List.mem_append_right _ (List.mem_append_right _ (List.mem_append_left _ (List.mem_of_getElem? (i := 237) rfl))))) rfl
theorem xs_20 : (Cond.instanceMethod xy_Mo_newService) ∈ wT := wT_t (List.mem_append_right _ (List.mem_append_right _ (List.mem_append_right _ (List.mem_append_left _ (List.mem_of_getElem? (i := 239) rfl))))) rfl
theorem xs_21 : (Cond.selects "LayerDeskModel" xy_Mo_newService xy_Mo_newService) ∈ wT := wT_s (q := (xy_Mo_newService, 31)) (by decide +kernel) rfl
theorem xs_22 : (Cond.code xy_Mo_newRequire xb_Mo_newRequire 8 (some .int)) ∈ wT := wT_t (List.mem_append_right _ (List.mem_append_right _ (List.mem_append_right _ (List.mem_append_left _ (List.mem_of_getElem? (i := 236) rfl))))) rfl
theorem xs_23 : (Cond.methodLink "LayerDeskModel" 123 xy_Mo_newRequire) ∈ wT := wT_t (List.mem_append_right _ (List.mem_append_right _ (List.mem_append_right _ (List.mem_append_left _ (List.mem_of_getElem? (i := 233) rfl))))) rfl
theorem xs_24 : (Cond.instanceMethod xy_Mo_newRequire) ∈ wT := wT_t (List.mem_append_right _ (List.mem_append_right _ (List.mem_append_right _ (List.mem_append_left _ (List.mem_of_getElem? (i := 235) rfl))))) rfl
theorem xs_25 : (Cond.selects "LayerDeskModel" xy_Mo_newRequire xy_Mo_newRequire) ∈ wT := wT_s (q := (xy_Mo_newRequire, 31)) (by decide +kernel) rfl
theorem xs_26 : (Cond.code xy_Mo_shown xb_Mo_shown 8 (some .int)) ∈ wT := wT_t (List.mem_append_right _ (List.mem_append_right _ (List.mem_append_right _ (List.mem_append_left _ (List.mem_of_getElem? (i := 232) rfl))))) rfl
theorem xs_27 : (Cond.methodLink "LayerDeskModel" 119 xy_Mo_shown) ∈ wT := wT_t (List.mem_append_right _ (List.mem_append_right _ (List.mem_append_right _ (List.mem_append_left _ (List.mem_of_getElem? (i := 229) rfl))))) rfl
theorem xs_28 : (Cond.instanceMethod xy_Mo_shown) ∈ wT := wT_t (List.mem_append_right _ (List.mem_append_right _ (List.mem_append_right _ (List.mem_append_left _ (List.mem_of_getElem? (i := 231) rfl))))) rfl
theorem xs_29 : (Cond.selects "LayerDeskModel" xy_Mo_shown xy_Mo_shown) ∈ wT := wT_s (q := (xy_Mo_shown, 31)) (by decide +kernel) rfl
theorem xs_30 : (Cond.code xy_Mo_newPackage xb_Mo_newPackage 3 (some .int)) ∈ wT := wT_t (List.mem_append_right _ (List.mem_append_right _ (List.mem_append_right _ (List.mem_append_left _ (List.mem_of_getElem? (i := 220) rfl))))) rfl
theorem xs_31 : (Cond.methodLink "LayerDeskModel" 116 xy_Mo_newPackage) ∈ wT := wT_t (List.mem_append_right _ (List.mem_append_right _ (List.mem_append_right _ (List.mem_append_left _ (List.mem_of_getElem? (i := 217) rfl))))) rfl
theorem xs_32 : (Cond.instanceMethod xy_Mo_newPackage) ∈ wT := wT_t (List.mem_append_right _ (List.mem_append_right _ (List.mem_append_right _ (List.mem_append_left _ (List.mem_of_getElem? (i := 219) rfl))))) rfl
theorem xs_33 : (Cond.selects "LayerDeskModel" xy_Mo_newPackage xy_Mo_newPackage) ∈ wT := wT_s (q := (xy_Mo_newPackage, 31)) (by decide +kernel) rfl
theorem xs_34 : (Cond.code xy_Mo_newDescriptor xb_Mo_newDescriptor 3 (some .int)) ∈ wT := wT_t (List.mem_append_right _ (List.mem_append_right _ (List.mem_append_right _ (List.mem_append_left _ (List.mem_of_getElem? (i := 208) rfl))))) rfl
theorem xs_35 : (Cond.methodLink "LayerDeskModel" 112 xy_Mo_newDescriptor) ∈ wT := wT_t (List.mem_append_right _ (List.mem_append_right _ (List.mem_append_right _ (List.mem_append_left _ (List.mem_of_getElem? (i := 205) rfl))))) rfl
theorem xs_36 : (Cond.instanceMethod xy_Mo_newDescriptor) ∈ wT := wT_t (List.mem_append_right _ (List.mem_append_right _ (List.mem_append_right _ (List.mem_append_left _ (List.mem_of_getElem? (i := 207) rfl))))) rfl
theorem xs_37 : (Cond.selects "LayerDeskModel" xy_Mo_newDescriptor xy_Mo_newDescriptor) ∈ wT := wT_s (q := (xy_Mo_newDescriptor, 31)) (by decide +kernel) rfl
set_option maxHeartbeats 4000000 in
set_option maxRecDepth 100000 in
theorem xc_Mo_line (l : Launch) (D : va_G) (kA : Nat → ClassId) (sz h : Nat) (mm : Nat → Nat) (v : Nat → Int32) (g : Nat → Nat → Int32) (wr : Nat) (hMI : MI v g) (hwr : v 2 = nI wr) (hwr40 : wr ≤ 40) : Met l xy_Mo_line (.code xy_Mo_line xb_Mo_line 2 (some .int) :: wT) { frames := 3, cells := 0, slots := 0, locals := 76 } (va_Pc [.ref h] (xPre D kA sz (moW h mm kA v g))) (va_Qi (fun (r : Int32) (u : (Nat → Int32) × (Nat → Nat → Int32)) => MI u.1 u.2 ∧ u.1 2 = 0) (fun (u : (Nat → Int32) × (Nat → Nat → Int32)) t => va_P D xcl (moW h mm kA u.1 u.2) t.heap ∧ va_D (va_A (moW h mm kA v g) sz) (moW h mm kA u.1 u.2)) (va_A (moW h mm kA v g) sz)) 0 0 (va_A (moW h mm kA v g) sz) := by
  refine Met.ofW (cc := xb_Mo_line) (maxL := 2) (ret := (some .int)) (by decide) rfl ?_
  intro p e s m args below meth c s₁ B hml hv
  obtain ⟨rfl, hsz, hP, hK, hD0⟩ := hv
  have hx := B.exec
  have hb := B.bytes
  have hr := B.returns
  have hT := x_hT B.pre
  have hown : s.vm.findClass xR_Mo = some m.cls := findClass_of_methodNamed B.named
  have hlocks := B.notSynchronized
  subst hsz
  have hD := hD0.self (sz := s.heap.size)
  generalize hAe : va_A (moW h mm kA v g) s.heap.size = A at hD ⊢
  have hA : ∀ q : Nat, s.heap.size ≤ q → A q := fun q h => by rw [← hAe]; exact Or.inr h
  have hS : va_S A s.heap s.heap [] := va_S.rf
  have hl := lv_entry ([.ref h]) (n := 2) (Nat.le_of_ble_eq_true rfl)
  rw [lg_entry_eq]
  generalize (lg_sl ([.ref h]) ++ List.replicate (2 - (lg_sl ([.ref h])).length) Slot.unset).toArray = ls at hl ⊢
  have hl : lv_has ls 2 [(0, .ref h)] := hl
  have hP : va_P D xcl (moW h mm kA v g) s.heap := hP
  refine lv_aload_n hx hb xd_Mo_line_0 rfl (lv_at hl 0 rfl) ?_
  refine lv_iconst (v := 0) hx hb xd_Mo_line_1 (by decide) ?_
  refine va_put (D := D) (ci := 4) (v := .int 0) (ty := .int) (C := xR_Mo) (T := xT_Mo) (N := 31) hx hb hT xi_Mo xt_Mo xt_Mo_ok xn_Mo hown hK.1 hP hD hS 0 rfl rfl 0 (by decide) (hT _ xs_0) (fun _ h9 => h9) rfl (by decide +kernel) rfl rfl (Nat.le_of_ble_eq_true rfl) xd_Mo_line_2 (fun H locs hP hD hS => ?_)
  have hP : va_P D xcl (moW h mm kA (va_up v 0 0) g) H := hP
  have hD : va_D A (moW h mm kA (va_up v 0 0) g) := hD
  refine lv_aload_n hx hb xd_Mo_line_5 rfl (lv_at hl 0 rfl) ?_
  have hFc := va_free (wc := (moW h mm kA (va_up v 0 0) g)) hD hS hA [0, 1, 2, 3, 4, 5, 6, 7, 8, 9, 10, 11, 12, 13, 14, 15, 16, 17, 18, 19, 20, 21, 22, 23, 24, 25] rfl
  refine va_callv (va_runV (As := []) (rest := []) ⟨hx, hb, hml, hown, hT⟩ (xc_Mo_split l D kA H.size h mm (va_up v 0 0) g wr (by first | assumption | omega) (by first | assumption | omega)) (cwV 0 hT (wT_V xs_2 xs_3 xs_4 xs_5 xs_1) rfl rfl rfl (by decide +kernel) ⟨Nat.le_of_ble_eq_true rfl, Nat.le_of_ble_eq_true rfl⟩) (x_preV hK hP hD 0 rfl rfl) rfl rfl hl.1 rfl (lv_room (Nat.le_of_ble_eq_true rfl)) xd_Mo_line_6 ⟨Nat.le_of_ble_eq_true rfl, Nat.le_of_ble_eq_true rfl⟩) hS (fun q _ h => hFc q h) hFc (fun u2 t H1 locs ht hvm hp3 hB hz1 hk1 hS => ?_)
  obtain ⟨hP1, hD1⟩ := hB
  rw [ht] at hP1
  have hD1 := hD1.weaken (fun _ _ _ h => hFc _ h)
  obtain ⟨v4, g5⟩ := u2
  generalize H1 = H at hP1 hS ⊢
  have hP := hP1
  have hD := hD1
  have hP : va_P D xcl (moW h mm kA v4 g5) H := hP
  have hD : va_D A (moW h mm kA v4 g5) := hD
  obtain ⟨wn, hwn20, hv9, hgk, hws⟩ := hp3
  have hv9 : v4 = (va_up (va_up (va_up v 0 0) 2 0) 3 (nI wn)) := hv9
  subst hv9
  have hgk : ∀ j, j ≠ 1 → j ≠ 2 → g5 j = g j := hgk
  have hws : ∀ w9, w9 < wn → ∃ b9 e9, b9 < e9 ∧ e9 ≤ 40 ∧ g5 1 w9 = nI b9 ∧ g5 2 w9 = nI e9 := hws
  have hM1 : MI (va_up (va_up (va_up v 0 0) 2 0) 3 (nI wn)) g5 := MI_g (hgk 0 (by decide) (by decide)) (hgk 3 (by decide) (by decide)) (hgk 4 (by decide) (by decide)) (hgk 5 (by decide) (by decide)) (hgk 12 (by decide) (by decide)) (hgk 19 (by decide) (by decide)) (hgk 20 (by decide) (by decide)) (hgk 21 (by decide) (by decide)) (MI_v rfl rfl hMI)
  have hW1 : WI (va_up (va_up (va_up v 0 0) 2 0) 3 (nI wn)) g5 wn := ⟨hwn20, rfl, hws⟩
  have hch := hM1.2.2.1
  have hP : va_P D xcl (moW h mm kA (va_up (va_up (va_up v 0 0) 2 0) 3 (nI wn)) g5) H := hP
  have hD : va_D A (moW h mm kA (va_up (va_up (va_up v 0 0) 2 0) 3 (nI wn)) g5) := hD
  refine lv_aload_n hx hb xd_Mo_line_9 rfl (lv_at hl 0 rfl) ?_
  refine va_get (D := D) (ci := 4) (v := .int (nI wn)) (C := xR_Mo) (T := xT_Mo) (N := 31) hx hb hT xi_Mo hown hK.1 hP 0 rfl rfl 4 (by decide) (hT _ xs_6) (fun _ h9 => h9) rfl xd_Mo_line_10 ?_
  refine xz_ne (a := wn) (tgt := 18) hx hb xd_Mo_line_13 (by decide) (by omega) (fun hc6 => ?_) (fun hc6 => ?_)
  · refine xjoin (D := D) (cl := xcl) (A := A) (H0 := s.heap) (σ := Int32 × (Nat → Int32) × (Nat → Nat → Int32)) (ml := 2) 276 (fun (ans, v2, g2) => [(1, .int ans), (0, .ref h)]) (fun (ans, v2, g2) => []) (fun (ans, v2, g2) => moW h mm kA v2 g2) (fun (ans, v2, g2) => (MI v2 g2) ∧ (v2 2 = 0)) ?_ (fun jn7 => ?_)
    · intro a9 ls H locs hl hP hD hS hI
      obtain ⟨ans, v2, g2⟩ := a9
      obtain ⟨hm2, hv2⟩ := hI
      have hm2 : MI v2 g2 := hm2
      have hv2 : v2 2 = 0 := hv2
      have hl : lv_has ls 2 [(1, .int ans), (0, .ref h)] := hl
      have hP : va_P D xcl (moW h mm kA v2 g2) H := hP
      have hD : va_D A (moW h mm kA v2 g2) := hD
      refine lv_iload_n hx hb xd_Mo_line_276 rfl (lv_at hl 0 rfl) ?_
      refine lv_if_ge (tgt := 296) hx hb xd_Mo_line_277 (by decide) (fun hc8 => ?_) (fun hc8 => ?_)
      · refine lv_iload_n hx hb xd_Mo_line_296 rfl (lv_at hl 0 rfl) ?_
        exact W.iret (v := ans) hx hb hr (fun t ht hW => ⟨⟨ans, (v2, g2), rfl, ⟨hm2, hv2⟩, by rw [ht]; exact hP, hD⟩, hS.F ht⟩) hS.2.2 xd_Mo_line_297
      · refine lv_aload_n hx hb xd_Mo_line_280 rfl (lv_at hl 1 rfl) ?_
        refine lv_iload_n hx hb xd_Mo_line_281 rfl (lv_at hl 0 rfl) ?_
        refine lv_bipush (v := (-2)) hx hb xd_Mo_line_282 (by decide) ?_
        refine lv_icmp_ne (tgt := 291) hx hb xd_Mo_line_284 (by decide) (fun hc9 => ?_) (fun hc9 => ?_)
        · refine lv_iconst (v := 1) hx hb xd_Mo_line_291 (by decide) ?_
          have hFc := va_free (wc := (moW h mm kA v2 g2)) hD hS hA [0, 1, 2, 3, 4, 5, 6, 7, 8, 9, 10, 11, 12, 13, 14, 15, 16, 17, 18, 19, 20, 21, 22, 23, 24, 25] rfl
          refine va_calli (va_runV (As := [.int 1]) (rest := []) ⟨hx, hb, hml, hown, hT⟩ (xc_Mo_fails l D kA H.size h mm v2 g2 1) (cwV 1 hT (wT_V xs_8 xs_9 xs_10 xs_5 xs_7) rfl rfl rfl (by decide +kernel) ⟨Nat.le_of_ble_eq_true rfl, Nat.le_of_ble_eq_true rfl⟩) (x_preV hK hP hD 0 rfl rfl) rfl rfl hl.1 rfl (lv_room (Nat.le_of_ble_eq_true rfl)) xd_Mo_line_292 ⟨Nat.le_of_ble_eq_true rfl, Nat.le_of_ble_eq_true rfl⟩) hS (fun q _ h => hFc q h) hFc (fun r10 u11 t H1 locs ht hvm hp12 hB hz1 hk1 hS => ?_)
          obtain ⟨hP1, hD1⟩ := hB
          rw [ht] at hP1
          have hD1 := hD1.weaken (fun _ _ _ h => hFc _ h)
          obtain ⟨v13, g14⟩ := u11
          generalize H1 = H at hP1 hS ⊢
          have hP := hP1
          have hD := hD1
          have hP : va_P D xcl (moW h mm kA v13 g14) H := hP
          have hD : va_D A (moW h mm kA v13 g14) := hD
          obtain ⟨hr9, hu9⟩ := hp12
          subst hr9
          obtain ⟨hu1, hu2⟩ := Prod.mk.inj hu9
          subst hu1
          have hu2 := hu2.symm
          subst hu2
          have hP : va_P D xcl (moW h mm kA (va_up v2 0 1) g2) H := hP
          have hD : va_D A (moW h mm kA (va_up v2 0 1) g2) := hD
          exact W.iret (v := 0) hx hb hr (fun t ht hW => ⟨⟨0, ((va_up v2 0 1), g2), rfl, ⟨MI_v rfl rfl hm2, hv2⟩, by rw [ht]; exact hP, hD⟩, hS.F ht⟩) hS.2.2 xd_Mo_line_295
        · refine lv_iconst (v := 2) hx hb xd_Mo_line_287 (by decide) ?_
          refine lv_goto (tgt := 292) hx hb xd_Mo_line_288 (by decide) ?_
          have hFc := va_free (wc := (moW h mm kA v2 g2)) hD hS hA [0, 1, 2, 3, 4, 5, 6, 7, 8, 9, 10, 11, 12, 13, 14, 15, 16, 17, 18, 19, 20, 21, 22, 23, 24, 25] rfl
          refine va_calli (va_runV (As := [.int 2]) (rest := []) ⟨hx, hb, hml, hown, hT⟩ (xc_Mo_fails l D kA H.size h mm v2 g2 2) (cwV 1 hT (wT_V xs_8 xs_9 xs_10 xs_5 xs_7) rfl rfl rfl (by decide +kernel) ⟨Nat.le_of_ble_eq_true rfl, Nat.le_of_ble_eq_true rfl⟩) (x_preV hK hP hD 0 rfl rfl) rfl rfl hl.1 rfl (lv_room (Nat.le_of_ble_eq_true rfl)) xd_Mo_line_292 ⟨Nat.le_of_ble_eq_true rfl, Nat.le_of_ble_eq_true rfl⟩) hS (fun q _ h => hFc q h) hFc (fun r15 u16 t H1 locs ht hvm hp17 hB hz1 hk1 hS => ?_)
          obtain ⟨hP1, hD1⟩ := hB
          rw [ht] at hP1
          have hD1 := hD1.weaken (fun _ _ _ h => hFc _ h)
          obtain ⟨v18, g19⟩ := u16
          generalize H1 = H at hP1 hS ⊢
          have hP := hP1
          have hD := hD1
          have hP : va_P D xcl (moW h mm kA v18 g19) H := hP
          have hD : va_D A (moW h mm kA v18 g19) := hD
          obtain ⟨hr9, hu9⟩ := hp17
          subst hr9
          obtain ⟨hu1, hu2⟩ := Prod.mk.inj hu9
          subst hu1
          have hu2 := hu2.symm
          subst hu2
          have hP : va_P D xcl (moW h mm kA (va_up v2 0 2) g2) H := hP
          have hD : va_D A (moW h mm kA (va_up v2 0 2) g2) := hD
          exact W.iret (v := 0) hx hb hr (fun t ht hW => ⟨⟨0, ((va_up v2 0 2), g2), rfl, ⟨MI_v rfl rfl hm2, hv2⟩, by rw [ht]; exact hP, hD⟩, hS.F ht⟩) hS.2.2 xd_Mo_line_295
    refine lv_iconst (v := (-1)) hx hb xd_Mo_line_18 (by decide) ?_
    refine lv_istore_n hx hb xd_Mo_line_19 rfl hl (Nat.le_of_ble_eq_true rfl) rfl (fun ls hl => ?_)
    have hl : lv_has ls 2 [(1, .int (-1)), (0, .ref h)] := hl
    obtain ⟨b0, e0, hbe0, he0, eb0, ee0⟩ := hws 0 (by omega)
    refine lv_aload_n hx hb xd_Mo_line_20 rfl (lv_at hl 1 rfl) ?_
    refine lv_iconst (v := 0) hx hb xd_Mo_line_21 (by decide) ?_
    refine lv_bipush (v := 109) hx hb xd_Mo_line_22 (by decide) ?_
    refine lv_bipush (v := 111) hx hb xd_Mo_line_24 (by decide) ?_
    refine lv_bipush (v := 100) hx hb xd_Mo_line_26 (by decide) ?_
    refine lv_bipush (v := 117) hx hb xd_Mo_line_28 (by decide) ?_
    refine lv_bipush (v := 108) hx hb xd_Mo_line_30 (by decide) ?_
    have hFc := va_free (wc := (moW h mm kA (va_up (va_up (va_up v 0 0) 2 0) 3 (nI wn)) g5)) hD hS hA [0, 1, 2, 3, 4, 5, 6, 7, 8, 9, 10, 11, 12, 13, 14, 15, 16, 17, 18, 19, 20, 21, 22, 23, 24, 25] rfl
    refine va_calli (va_runS (As := [.int 109, .int 111, .int 100, .int 117, .int 108]) (rest := [.int 0, .ref h]) ⟨hx, hb, hml, hown, hT⟩ (xc_Mo_code l D kA H.size h mm (va_up (va_up (va_up v 0 0) 2 0) 3 (nI wn)) g5 109 111 100 117 108) (cwS 5 hT (wT_S0 xs_12 xs_13 xs_5 xs_11) rfl rfl rfl (by decide +kernel) ⟨Nat.le_of_ble_eq_true rfl, Nat.le_of_ble_eq_true rfl⟩) (x_preS hK hP hD) rfl rfl hl.1 rfl (lv_room (Nat.le_of_ble_eq_true rfl)) xd_Mo_line_32 ⟨Nat.le_of_ble_eq_true rfl, Nat.le_of_ble_eq_true rfl⟩) hS (fun q _ h => hFc q h) hFc (fun r20 u21 t H1 locs ht hvm hp22 hB hz1 hk1 hS => ?_)
    obtain ⟨hP1, hD1⟩ := hB
    rw [ht] at hP1
    have hD1 := hD1.weaken (fun _ _ _ h => hFc _ h)
    generalize H1 = H at hP1 hS ⊢
    have hP := hP1
    have hD := hD1
    have hP : va_P D xcl (moW h mm kA (va_up (va_up (va_up v 0 0) 2 0) 3 (nI wn)) g5) H := hP
    have hD : va_D A (moW h mm kA (va_up (va_up (va_up v 0 0) 2 0) 3 (nI wn)) g5) := hD
    refine lv_bipush (v := 101) hx hb xd_Mo_line_35 (by decide) ?_
    refine lv_iconst (v := 0) hx hb xd_Mo_line_37 (by decide) ?_
    refine lv_iconst (v := 0) hx hb xd_Mo_line_38 (by decide) ?_
    refine lv_iconst (v := 0) hx hb xd_Mo_line_39 (by decide) ?_
    refine lv_iconst (v := 0) hx hb xd_Mo_line_40 (by decide) ?_
    have hFc := va_free (wc := (moW h mm kA (va_up (va_up (va_up v 0 0) 2 0) 3 (nI wn)) g5)) hD hS hA [0, 1, 2, 3, 4, 5, 6, 7, 8, 9, 10, 11, 12, 13, 14, 15, 16, 17, 18, 19, 20, 21, 22, 23, 24, 25] rfl
    refine va_calli (va_runS (As := [.int 101, .int 0, .int 0, .int 0, .int 0]) (rest := [.int r20, .int 0, .ref h]) ⟨hx, hb, hml, hown, hT⟩ (xc_Mo_code l D kA H.size h mm (va_up (va_up (va_up v 0 0) 2 0) 3 (nI wn)) g5 101 0 0 0 0) (cwS 5 hT (wT_S0 xs_12 xs_13 xs_5 xs_11) rfl rfl rfl (by decide +kernel) ⟨Nat.le_of_ble_eq_true rfl, Nat.le_of_ble_eq_true rfl⟩) (x_preS hK hP hD) rfl rfl hl.1 rfl (lv_room (Nat.le_of_ble_eq_true rfl)) xd_Mo_line_41 ⟨Nat.le_of_ble_eq_true rfl, Nat.le_of_ble_eq_true rfl⟩) hS (fun q _ h => hFc q h) hFc (fun r23 u24 t H1 locs ht hvm hp25 hB hz1 hk1 hS => ?_)
    obtain ⟨hP1, hD1⟩ := hB
    rw [ht] at hP1
    have hD1 := hD1.weaken (fun _ _ _ h => hFc _ h)
    generalize H1 = H at hP1 hS ⊢
    have hP := hP1
    have hD := hD1
    have hP : va_P D xcl (moW h mm kA (va_up (va_up (va_up v 0 0) 2 0) 3 (nI wn)) g5) H := hP
    have hD : va_D A (moW h mm kA (va_up (va_up (va_up v 0 0) 2 0) 3 (nI wn)) g5) := hD
    have hFc := va_free (wc := (moW h mm kA (va_up (va_up (va_up v 0 0) 2 0) 3 (nI wn)) g5)) hD hS hA [0, 1, 2, 3, 4, 5, 6, 7, 8, 9, 10, 11, 12, 13, 14, 15, 16, 17, 18, 19, 20, 21, 22, 23, 24, 25] rfl
    refine va_calli (va_runV (As := [.int 0, .int r20, .int r23]) (rest := []) ⟨hx, hb, hml, hown, hT⟩ (xc_Mo_says l D kA H.size h mm (va_up (va_up (va_up v 0 0) 2 0) 3 (nI wn)) g5 0 b0 e0 r20 r23 (by first | assumption | omega) (by first | assumption | omega) (by first | assumption | omega) (by first | assumption | omega) (by first | assumption | omega) (by first | assumption | omega)) (cwV 3 hT (wT_V xs_15 xs_16 xs_17 xs_5 xs_14) rfl rfl rfl (by decide +kernel) ⟨Nat.le_of_ble_eq_true rfl, Nat.le_of_ble_eq_true rfl⟩) (x_preV hK hP hD 0 rfl rfl) rfl rfl hl.1 rfl (lv_room (Nat.le_of_ble_eq_true rfl)) xd_Mo_line_44 ⟨Nat.le_of_ble_eq_true rfl, Nat.le_of_ble_eq_true rfl⟩) hS (fun q _ h => hFc q h) hFc (fun r26 u27 t H1 locs ht hvm hp28 hB hz1 hk1 hS => ?_)
    obtain ⟨hP1, hD1⟩ := hB
    rw [ht] at hP1
    have hD1 := hD1.weaken (fun _ _ _ h => hFc _ h)
    generalize H1 = H at hP1 hS ⊢
    have hP := hP1
    have hD := hD1
    have hP : va_P D xcl (moW h mm kA (va_up (va_up (va_up v 0 0) 2 0) 3 (nI wn)) g5) H := hP
    have hD : va_D A (moW h mm kA (va_up (va_up (va_up v 0 0) 2 0) 3 (nI wn)) g5) := hD
    rcases hp28 with rfl | rfl
    · refine xz_eq (a := 0) (tgt := 58) hx hb xd_Mo_line_47 (by decide) (by omega) (fun _ => ?_) (fun hc29 => absurd hc29 (by omega))
      refine lv_aload_n hx hb xd_Mo_line_58 rfl (lv_at hl 1 rfl) ?_
      refine lv_iconst (v := 0) hx hb xd_Mo_line_59 (by decide) ?_
      refine lv_bipush (v := 112) hx hb xd_Mo_line_60 (by decide) ?_
      refine lv_bipush (v := 97) hx hb xd_Mo_line_62 (by decide) ?_
      refine lv_bipush (v := 99) hx hb xd_Mo_line_64 (by decide) ?_
      refine lv_bipush (v := 107) hx hb xd_Mo_line_66 (by decide) ?_
      refine lv_bipush (v := 97) hx hb xd_Mo_line_68 (by decide) ?_
      have hFc := va_free (wc := (moW h mm kA (va_up (va_up (va_up v 0 0) 2 0) 3 (nI wn)) g5)) hD hS hA [0, 1, 2, 3, 4, 5, 6, 7, 8, 9, 10, 11, 12, 13, 14, 15, 16, 17, 18, 19, 20, 21, 22, 23, 24, 25] rfl
      refine va_calli (va_runS (As := [.int 112, .int 97, .int 99, .int 107, .int 97]) (rest := [.int 0, .ref h]) ⟨hx, hb, hml, hown, hT⟩ (xc_Mo_code l D kA H.size h mm (va_up (va_up (va_up v 0 0) 2 0) 3 (nI wn)) g5 112 97 99 107 97) (cwS 5 hT (wT_S0 xs_12 xs_13 xs_5 xs_11) rfl rfl rfl (by decide +kernel) ⟨Nat.le_of_ble_eq_true rfl, Nat.le_of_ble_eq_true rfl⟩) (x_preS hK hP hD) rfl rfl hl.1 rfl (lv_room (Nat.le_of_ble_eq_true rfl)) xd_Mo_line_70 ⟨Nat.le_of_ble_eq_true rfl, Nat.le_of_ble_eq_true rfl⟩) hS (fun q _ h => hFc q h) hFc (fun r30 u31 t H1 locs ht hvm hp32 hB hz1 hk1 hS => ?_)
      obtain ⟨hP1, hD1⟩ := hB
      rw [ht] at hP1
      have hD1 := hD1.weaken (fun _ _ _ h => hFc _ h)
      generalize H1 = H at hP1 hS ⊢
      have hP := hP1
      have hD := hD1
      have hP : va_P D xcl (moW h mm kA (va_up (va_up (va_up v 0 0) 2 0) 3 (nI wn)) g5) H := hP
      have hD : va_D A (moW h mm kA (va_up (va_up (va_up v 0 0) 2 0) 3 (nI wn)) g5) := hD
      refine lv_bipush (v := 103) hx hb xd_Mo_line_73 (by decide) ?_
      refine lv_bipush (v := 101) hx hb xd_Mo_line_75 (by decide) ?_
      refine lv_iconst (v := 0) hx hb xd_Mo_line_77 (by decide) ?_
      refine lv_iconst (v := 0) hx hb xd_Mo_line_78 (by decide) ?_
      refine lv_iconst (v := 0) hx hb xd_Mo_line_79 (by decide) ?_
      have hFc := va_free (wc := (moW h mm kA (va_up (va_up (va_up v 0 0) 2 0) 3 (nI wn)) g5)) hD hS hA [0, 1, 2, 3, 4, 5, 6, 7, 8, 9, 10, 11, 12, 13, 14, 15, 16, 17, 18, 19, 20, 21, 22, 23, 24, 25] rfl
      refine va_calli (va_runS (As := [.int 103, .int 101, .int 0, .int 0, .int 0]) (rest := [.int r30, .int 0, .ref h]) ⟨hx, hb, hml, hown, hT⟩ (xc_Mo_code l D kA H.size h mm (va_up (va_up (va_up v 0 0) 2 0) 3 (nI wn)) g5 103 101 0 0 0) (cwS 5 hT (wT_S0 xs_12 xs_13 xs_5 xs_11) rfl rfl rfl (by decide +kernel) ⟨Nat.le_of_ble_eq_true rfl, Nat.le_of_ble_eq_true rfl⟩) (x_preS hK hP hD) rfl rfl hl.1 rfl (lv_room (Nat.le_of_ble_eq_true rfl)) xd_Mo_line_80 ⟨Nat.le_of_ble_eq_true rfl, Nat.le_of_ble_eq_true rfl⟩) hS (fun q _ h => hFc q h) hFc (fun r33 u34 t H1 locs ht hvm hp35 hB hz1 hk1 hS => ?_)
      obtain ⟨hP1, hD1⟩ := hB
      rw [ht] at hP1
      have hD1 := hD1.weaken (fun _ _ _ h => hFc _ h)
      generalize H1 = H at hP1 hS ⊢
      have hP := hP1
      have hD := hD1
      have hP : va_P D xcl (moW h mm kA (va_up (va_up (va_up v 0 0) 2 0) 3 (nI wn)) g5) H := hP
      have hD : va_D A (moW h mm kA (va_up (va_up (va_up v 0 0) 2 0) 3 (nI wn)) g5) := hD
      have hFc := va_free (wc := (moW h mm kA (va_up (va_up (va_up v 0 0) 2 0) 3 (nI wn)) g5)) hD hS hA [0, 1, 2, 3, 4, 5, 6, 7, 8, 9, 10, 11, 12, 13, 14, 15, 16, 17, 18, 19, 20, 21, 22, 23, 24, 25] rfl
      refine va_calli (va_runV (As := [.int 0, .int r30, .int r33]) (rest := []) ⟨hx, hb, hml, hown, hT⟩ (xc_Mo_says l D kA H.size h mm (va_up (va_up (va_up v 0 0) 2 0) 3 (nI wn)) g5 0 b0 e0 r30 r33 (by first | assumption | omega) (by first | assumption | omega) (by first | assumption | omega) (by first | assumption | omega) (by first | assumption | omega) (by first | assumption | omega)) (cwV 3 hT (wT_V xs_15 xs_16 xs_17 xs_5 xs_14) rfl rfl rfl (by decide +kernel) ⟨Nat.le_of_ble_eq_true rfl, Nat.le_of_ble_eq_true rfl⟩) (x_preV hK hP hD 0 rfl rfl) rfl rfl hl.1 rfl (lv_room (Nat.le_of_ble_eq_true rfl)) xd_Mo_line_83 ⟨Nat.le_of_ble_eq_true rfl, Nat.le_of_ble_eq_true rfl⟩) hS (fun q _ h => hFc q h) hFc (fun r36 u37 t H1 locs ht hvm hp38 hB hz1 hk1 hS => ?_)
      obtain ⟨hP1, hD1⟩ := hB
      rw [ht] at hP1
      have hD1 := hD1.weaken (fun _ _ _ h => hFc _ h)
      generalize H1 = H at hP1 hS ⊢
      have hP := hP1
      have hD := hD1
      have hP : va_P D xcl (moW h mm kA (va_up (va_up (va_up v 0 0) 2 0) 3 (nI wn)) g5) H := hP
      have hD : va_D A (moW h mm kA (va_up (va_up (va_up v 0 0) 2 0) 3 (nI wn)) g5) := hD
      rcases hp38 with rfl | rfl
      · refine xz_eq (a := 0) (tgt := 97) hx hb xd_Mo_line_86 (by decide) (by omega) (fun _ => ?_) (fun hc39 => absurd hc39 (by omega))
        refine lv_aload_n hx hb xd_Mo_line_97 rfl (lv_at hl 1 rfl) ?_
        refine lv_iconst (v := 0) hx hb xd_Mo_line_98 (by decide) ?_
        refine lv_bipush (v := 101) hx hb xd_Mo_line_99 (by decide) ?_
        refine lv_bipush (v := 120) hx hb xd_Mo_line_101 (by decide) ?_
        refine lv_bipush (v := 112) hx hb xd_Mo_line_103 (by decide) ?_
        refine lv_bipush (v := 111) hx hb xd_Mo_line_105 (by decide) ?_
        refine lv_bipush (v := 114) hx hb xd_Mo_line_107 (by decide) ?_
        have hFc := va_free (wc := (moW h mm kA (va_up (va_up (va_up v 0 0) 2 0) 3 (nI wn)) g5)) hD hS hA [0, 1, 2, 3, 4, 5, 6, 7, 8, 9, 10, 11, 12, 13, 14, 15, 16, 17, 18, 19, 20, 21, 22, 23, 24, 25] rfl
        refine va_calli (va_runS (As := [.int 101, .int 120, .int 112, .int 111, .int 114]) (rest := [.int 0, .ref h]) ⟨hx, hb, hml, hown, hT⟩ (xc_Mo_code l D kA H.size h mm (va_up (va_up (va_up v 0 0) 2 0) 3 (nI wn)) g5 101 120 112 111 114) (cwS 5 hT (wT_S0 xs_12 xs_13 xs_5 xs_11) rfl rfl rfl (by decide +kernel) ⟨Nat.le_of_ble_eq_true rfl, Nat.le_of_ble_eq_true rfl⟩) (x_preS hK hP hD) rfl rfl hl.1 rfl (lv_room (Nat.le_of_ble_eq_true rfl)) xd_Mo_line_109 ⟨Nat.le_of_ble_eq_true rfl, Nat.le_of_ble_eq_true rfl⟩) hS (fun q _ h => hFc q h) hFc (fun r40 u41 t H1 locs ht hvm hp42 hB hz1 hk1 hS => ?_)
        obtain ⟨hP1, hD1⟩ := hB
        rw [ht] at hP1
        have hD1 := hD1.weaken (fun _ _ _ h => hFc _ h)
        generalize H1 = H at hP1 hS ⊢
        have hP := hP1
        have hD := hD1
        have hP : va_P D xcl (moW h mm kA (va_up (va_up (va_up v 0 0) 2 0) 3 (nI wn)) g5) H := hP
        have hD : va_D A (moW h mm kA (va_up (va_up (va_up v 0 0) 2 0) 3 (nI wn)) g5) := hD
        refine lv_bipush (v := 116) hx hb xd_Mo_line_112 (by decide) ?_
        refine lv_bipush (v := 115) hx hb xd_Mo_line_114 (by decide) ?_
        refine lv_iconst (v := 0) hx hb xd_Mo_line_116 (by decide) ?_
        refine lv_iconst (v := 0) hx hb xd_Mo_line_117 (by decide) ?_
        refine lv_iconst (v := 0) hx hb xd_Mo_line_118 (by decide) ?_
        have hFc := va_free (wc := (moW h mm kA (va_up (va_up (va_up v 0 0) 2 0) 3 (nI wn)) g5)) hD hS hA [0, 1, 2, 3, 4, 5, 6, 7, 8, 9, 10, 11, 12, 13, 14, 15, 16, 17, 18, 19, 20, 21, 22, 23, 24, 25] rfl
        refine va_calli (va_runS (As := [.int 116, .int 115, .int 0, .int 0, .int 0]) (rest := [.int r40, .int 0, .ref h]) ⟨hx, hb, hml, hown, hT⟩ (xc_Mo_code l D kA H.size h mm (va_up (va_up (va_up v 0 0) 2 0) 3 (nI wn)) g5 116 115 0 0 0) (cwS 5 hT (wT_S0 xs_12 xs_13 xs_5 xs_11) rfl rfl rfl (by decide +kernel) ⟨Nat.le_of_ble_eq_true rfl, Nat.le_of_ble_eq_true rfl⟩) (x_preS hK hP hD) rfl rfl hl.1 rfl (lv_room (Nat.le_of_ble_eq_true rfl)) xd_Mo_line_119 ⟨Nat.le_of_ble_eq_true rfl, Nat.le_of_ble_eq_true rfl⟩) hS (fun q _ h => hFc q h) hFc (fun r43 u44 t H1 locs ht hvm hp45 hB hz1 hk1 hS => ?_)
        obtain ⟨hP1, hD1⟩ := hB
        rw [ht] at hP1
        have hD1 := hD1.weaken (fun _ _ _ h => hFc _ h)
        generalize H1 = H at hP1 hS ⊢
        have hP := hP1
        have hD := hD1
        have hP : va_P D xcl (moW h mm kA (va_up (va_up (va_up v 0 0) 2 0) 3 (nI wn)) g5) H := hP
        have hD : va_D A (moW h mm kA (va_up (va_up (va_up v 0 0) 2 0) 3 (nI wn)) g5) := hD
        have hFc := va_free (wc := (moW h mm kA (va_up (va_up (va_up v 0 0) 2 0) 3 (nI wn)) g5)) hD hS hA [0, 1, 2, 3, 4, 5, 6, 7, 8, 9, 10, 11, 12, 13, 14, 15, 16, 17, 18, 19, 20, 21, 22, 23, 24, 25] rfl
        refine va_calli (va_runV (As := [.int 0, .int r40, .int r43]) (rest := []) ⟨hx, hb, hml, hown, hT⟩ (xc_Mo_says l D kA H.size h mm (va_up (va_up (va_up v 0 0) 2 0) 3 (nI wn)) g5 0 b0 e0 r40 r43 (by first | assumption | omega) (by first | assumption | omega) (by first | assumption | omega) (by first | assumption | omega) (by first | assumption | omega) (by first | assumption | omega)) (cwV 3 hT (wT_V xs_15 xs_16 xs_17 xs_5 xs_14) rfl rfl rfl (by decide +kernel) ⟨Nat.le_of_ble_eq_true rfl, Nat.le_of_ble_eq_true rfl⟩) (x_preV hK hP hD 0 rfl rfl) rfl rfl hl.1 rfl (lv_room (Nat.le_of_ble_eq_true rfl)) xd_Mo_line_122 ⟨Nat.le_of_ble_eq_true rfl, Nat.le_of_ble_eq_true rfl⟩) hS (fun q _ h => hFc q h) hFc (fun r46 u47 t H1 locs ht hvm hp48 hB hz1 hk1 hS => ?_)
        obtain ⟨hP1, hD1⟩ := hB
        rw [ht] at hP1
        have hD1 := hD1.weaken (fun _ _ _ h => hFc _ h)
        generalize H1 = H at hP1 hS ⊢
        have hP := hP1
        have hD := hD1
        have hP : va_P D xcl (moW h mm kA (va_up (va_up (va_up v 0 0) 2 0) 3 (nI wn)) g5) H := hP
        have hD : va_D A (moW h mm kA (va_up (va_up (va_up v 0 0) 2 0) 3 (nI wn)) g5) := hD
        rcases hp48 with rfl | rfl
        · refine xz_eq (a := 0) (tgt := 137) hx hb xd_Mo_line_125 (by decide) (by omega) (fun _ => ?_) (fun hc49 => absurd hc49 (by omega))
          refine lv_aload_n hx hb xd_Mo_line_137 rfl (lv_at hl 1 rfl) ?_
          refine lv_iconst (v := 0) hx hb xd_Mo_line_138 (by decide) ?_
          refine lv_bipush (v := 111) hx hb xd_Mo_line_139 (by decide) ?_
          refine lv_bipush (v := 112) hx hb xd_Mo_line_141 (by decide) ?_
          refine lv_bipush (v := 101) hx hb xd_Mo_line_143 (by decide) ?_
          refine lv_bipush (v := 110) hx hb xd_Mo_line_145 (by decide) ?_
          refine lv_bipush (v := 115) hx hb xd_Mo_line_147 (by decide) ?_
          have hFc := va_free (wc := (moW h mm kA (va_up (va_up (va_up v 0 0) 2 0) 3 (nI wn)) g5)) hD hS hA [0, 1, 2, 3, 4, 5, 6, 7, 8, 9, 10, 11, 12, 13, 14, 15, 16, 17, 18, 19, 20, 21, 22, 23, 24, 25] rfl
          refine va_calli (va_runS (As := [.int 111, .int 112, .int 101, .int 110, .int 115]) (rest := [.int 0, .ref h]) ⟨hx, hb, hml, hown, hT⟩ (xc_Mo_code l D kA H.size h mm (va_up (va_up (va_up v 0 0) 2 0) 3 (nI wn)) g5 111 112 101 110 115) (cwS 5 hT (wT_S0 xs_12 xs_13 xs_5 xs_11) rfl rfl rfl (by decide +kernel) ⟨Nat.le_of_ble_eq_true rfl, Nat.le_of_ble_eq_true rfl⟩) (x_preS hK hP hD) rfl rfl hl.1 rfl (lv_room (Nat.le_of_ble_eq_true rfl)) xd_Mo_line_149 ⟨Nat.le_of_ble_eq_true rfl, Nat.le_of_ble_eq_true rfl⟩) hS (fun q _ h => hFc q h) hFc (fun r50 u51 t H1 locs ht hvm hp52 hB hz1 hk1 hS => ?_)
          obtain ⟨hP1, hD1⟩ := hB
          rw [ht] at hP1
          have hD1 := hD1.weaken (fun _ _ _ h => hFc _ h)
          generalize H1 = H at hP1 hS ⊢
          have hP := hP1
          have hD := hD1
          have hP : va_P D xcl (moW h mm kA (va_up (va_up (va_up v 0 0) 2 0) 3 (nI wn)) g5) H := hP
          have hD : va_D A (moW h mm kA (va_up (va_up (va_up v 0 0) 2 0) 3 (nI wn)) g5) := hD
          refine lv_iconst (v := 0) hx hb xd_Mo_line_152 (by decide) ?_
          have hFc := va_free (wc := (moW h mm kA (va_up (va_up (va_up v 0 0) 2 0) 3 (nI wn)) g5)) hD hS hA [0, 1, 2, 3, 4, 5, 6, 7, 8, 9, 10, 11, 12, 13, 14, 15, 16, 17, 18, 19, 20, 21, 22, 23, 24, 25] rfl
          refine va_calli (va_runV (As := [.int 0, .int r50, .int 0]) (rest := []) ⟨hx, hb, hml, hown, hT⟩ (xc_Mo_says l D kA H.size h mm (va_up (va_up (va_up v 0 0) 2 0) 3 (nI wn)) g5 0 b0 e0 r50 0 (by first | assumption | omega) (by first | assumption | omega) (by first | assumption | omega) (by first | assumption | omega) (by first | assumption | omega) (by first | assumption | omega)) (cwV 3 hT (wT_V xs_15 xs_16 xs_17 xs_5 xs_14) rfl rfl rfl (by decide +kernel) ⟨Nat.le_of_ble_eq_true rfl, Nat.le_of_ble_eq_true rfl⟩) (x_preV hK hP hD 0 rfl rfl) rfl rfl hl.1 rfl (lv_room (Nat.le_of_ble_eq_true rfl)) xd_Mo_line_153 ⟨Nat.le_of_ble_eq_true rfl, Nat.le_of_ble_eq_true rfl⟩) hS (fun q _ h => hFc q h) hFc (fun r53 u54 t H1 locs ht hvm hp55 hB hz1 hk1 hS => ?_)
          obtain ⟨hP1, hD1⟩ := hB
          rw [ht] at hP1
          have hD1 := hD1.weaken (fun _ _ _ h => hFc _ h)
          generalize H1 = H at hP1 hS ⊢
          have hP := hP1
          have hD := hD1
          have hP : va_P D xcl (moW h mm kA (va_up (va_up (va_up v 0 0) 2 0) 3 (nI wn)) g5) H := hP
          have hD : va_D A (moW h mm kA (va_up (va_up (va_up v 0 0) 2 0) 3 (nI wn)) g5) := hD
          rcases hp55 with rfl | rfl
          · refine xz_eq (a := 0) (tgt := 168) hx hb xd_Mo_line_156 (by decide) (by omega) (fun _ => ?_) (fun hc56 => absurd hc56 (by omega))
            refine lv_aload_n hx hb xd_Mo_line_168 rfl (lv_at hl 1 rfl) ?_
            refine lv_iconst (v := 0) hx hb xd_Mo_line_169 (by decide) ?_
            refine lv_bipush (v := 114) hx hb xd_Mo_line_170 (by decide) ?_
            refine lv_bipush (v := 101) hx hb xd_Mo_line_172 (by decide) ?_
            refine lv_bipush (v := 113) hx hb xd_Mo_line_174 (by decide) ?_
            refine lv_bipush (v := 117) hx hb xd_Mo_line_176 (by decide) ?_
            refine lv_bipush (v := 105) hx hb xd_Mo_line_178 (by decide) ?_
            have hFc := va_free (wc := (moW h mm kA (va_up (va_up (va_up v 0 0) 2 0) 3 (nI wn)) g5)) hD hS hA [0, 1, 2, 3, 4, 5, 6, 7, 8, 9, 10, 11, 12, 13, 14, 15, 16, 17, 18, 19, 20, 21, 22, 23, 24, 25] rfl
            refine va_calli (va_runS (As := [.int 114, .int 101, .int 113, .int 117, .int 105]) (rest := [.int 0, .ref h]) ⟨hx, hb, hml, hown, hT⟩ (xc_Mo_code l D kA H.size h mm (va_up (va_up (va_up v 0 0) 2 0) 3 (nI wn)) g5 114 101 113 117 105) (cwS 5 hT (wT_S0 xs_12 xs_13 xs_5 xs_11) rfl rfl rfl (by decide +kernel) ⟨Nat.le_of_ble_eq_true rfl, Nat.le_of_ble_eq_true rfl⟩) (x_preS hK hP hD) rfl rfl hl.1 rfl (lv_room (Nat.le_of_ble_eq_true rfl)) xd_Mo_line_180 ⟨Nat.le_of_ble_eq_true rfl, Nat.le_of_ble_eq_true rfl⟩) hS (fun q _ h => hFc q h) hFc (fun r57 u58 t H1 locs ht hvm hp59 hB hz1 hk1 hS => ?_)
            obtain ⟨hP1, hD1⟩ := hB
            rw [ht] at hP1
            have hD1 := hD1.weaken (fun _ _ _ h => hFc _ h)
            generalize H1 = H at hP1 hS ⊢
            have hP := hP1
            have hD := hD1
            have hP : va_P D xcl (moW h mm kA (va_up (va_up (va_up v 0 0) 2 0) 3 (nI wn)) g5) H := hP
            have hD : va_D A (moW h mm kA (va_up (va_up (va_up v 0 0) 2 0) 3 (nI wn)) g5) := hD
            refine lv_bipush (v := 114) hx hb xd_Mo_line_183 (by decide) ?_
            refine lv_bipush (v := 101) hx hb xd_Mo_line_185 (by decide) ?_
            refine lv_bipush (v := 115) hx hb xd_Mo_line_187 (by decide) ?_
            refine lv_iconst (v := 0) hx hb xd_Mo_line_189 (by decide) ?_
            refine lv_iconst (v := 0) hx hb xd_Mo_line_190 (by decide) ?_
            have hFc := va_free (wc := (moW h mm kA (va_up (va_up (va_up v 0 0) 2 0) 3 (nI wn)) g5)) hD hS hA [0, 1, 2, 3, 4, 5, 6, 7, 8, 9, 10, 11, 12, 13, 14, 15, 16, 17, 18, 19, 20, 21, 22, 23, 24, 25] rfl
            refine va_calli (va_runS (As := [.int 114, .int 101, .int 115, .int 0, .int 0]) (rest := [.int r57, .int 0, .ref h]) ⟨hx, hb, hml, hown, hT⟩ (xc_Mo_code l D kA H.size h mm (va_up (va_up (va_up v 0 0) 2 0) 3 (nI wn)) g5 114 101 115 0 0) (cwS 5 hT (wT_S0 xs_12 xs_13 xs_5 xs_11) rfl rfl rfl (by decide +kernel) ⟨Nat.le_of_ble_eq_true rfl, Nat.le_of_ble_eq_true rfl⟩) (x_preS hK hP hD) rfl rfl hl.1 rfl (lv_room (Nat.le_of_ble_eq_true rfl)) xd_Mo_line_191 ⟨Nat.le_of_ble_eq_true rfl, Nat.le_of_ble_eq_true rfl⟩) hS (fun q _ h => hFc q h) hFc (fun r60 u61 t H1 locs ht hvm hp62 hB hz1 hk1 hS => ?_)
            obtain ⟨hP1, hD1⟩ := hB
            rw [ht] at hP1
            have hD1 := hD1.weaken (fun _ _ _ h => hFc _ h)
            generalize H1 = H at hP1 hS ⊢
            have hP := hP1
            have hD := hD1
            have hP : va_P D xcl (moW h mm kA (va_up (va_up (va_up v 0 0) 2 0) 3 (nI wn)) g5) H := hP
            have hD : va_D A (moW h mm kA (va_up (va_up (va_up v 0 0) 2 0) 3 (nI wn)) g5) := hD
            have hFc := va_free (wc := (moW h mm kA (va_up (va_up (va_up v 0 0) 2 0) 3 (nI wn)) g5)) hD hS hA [0, 1, 2, 3, 4, 5, 6, 7, 8, 9, 10, 11, 12, 13, 14, 15, 16, 17, 18, 19, 20, 21, 22, 23, 24, 25] rfl
            refine va_calli (va_runV (As := [.int 0, .int r57, .int r60]) (rest := []) ⟨hx, hb, hml, hown, hT⟩ (xc_Mo_says l D kA H.size h mm (va_up (va_up (va_up v 0 0) 2 0) 3 (nI wn)) g5 0 b0 e0 r57 r60 (by first | assumption | omega) (by first | assumption | omega) (by first | assumption | omega) (by first | assumption | omega) (by first | assumption | omega) (by first | assumption | omega)) (cwV 3 hT (wT_V xs_15 xs_16 xs_17 xs_5 xs_14) rfl rfl rfl (by decide +kernel) ⟨Nat.le_of_ble_eq_true rfl, Nat.le_of_ble_eq_true rfl⟩) (x_preV hK hP hD 0 rfl rfl) rfl rfl hl.1 rfl (lv_room (Nat.le_of_ble_eq_true rfl)) xd_Mo_line_194 ⟨Nat.le_of_ble_eq_true rfl, Nat.le_of_ble_eq_true rfl⟩) hS (fun q _ h => hFc q h) hFc (fun r63 u64 t H1 locs ht hvm hp65 hB hz1 hk1 hS => ?_)
            obtain ⟨hP1, hD1⟩ := hB
            rw [ht] at hP1
            have hD1 := hD1.weaken (fun _ _ _ h => hFc _ h)
            generalize H1 = H at hP1 hS ⊢
            have hP := hP1
            have hD := hD1
            have hP : va_P D xcl (moW h mm kA (va_up (va_up (va_up v 0 0) 2 0) 3 (nI wn)) g5) H := hP
            have hD : va_D A (moW h mm kA (va_up (va_up (va_up v 0 0) 2 0) 3 (nI wn)) g5) := hD
            rcases hp65 with rfl | rfl
            · refine xz_eq (a := 0) (tgt := 208) hx hb xd_Mo_line_197 (by decide) (by omega) (fun _ => ?_) (fun hc66 => absurd hc66 (by omega))
              refine lv_aload_n hx hb xd_Mo_line_208 rfl (lv_at hl 1 rfl) ?_
              refine lv_iconst (v := 0) hx hb xd_Mo_line_209 (by decide) ?_
              refine lv_bipush (v := 117) hx hb xd_Mo_line_210 (by decide) ?_
              refine lv_bipush (v := 115) hx hb xd_Mo_line_212 (by decide) ?_
              refine lv_bipush (v := 101) hx hb xd_Mo_line_214 (by decide) ?_
              refine lv_bipush (v := 115) hx hb xd_Mo_line_216 (by decide) ?_
              refine lv_iconst (v := 0) hx hb xd_Mo_line_218 (by decide) ?_
              have hFc := va_free (wc := (moW h mm kA (va_up (va_up (va_up v 0 0) 2 0) 3 (nI wn)) g5)) hD hS hA [0, 1, 2, 3, 4, 5, 6, 7, 8, 9, 10, 11, 12, 13, 14, 15, 16, 17, 18, 19, 20, 21, 22, 23, 24, 25] rfl
              refine va_calli (va_runS (As := [.int 117, .int 115, .int 101, .int 115, .int 0]) (rest := [.int 0, .ref h]) ⟨hx, hb, hml, hown, hT⟩ (xc_Mo_code l D kA H.size h mm (va_up (va_up (va_up v 0 0) 2 0) 3 (nI wn)) g5 117 115 101 115 0) (cwS 5 hT (wT_S0 xs_12 xs_13 xs_5 xs_11) rfl rfl rfl (by decide +kernel) ⟨Nat.le_of_ble_eq_true rfl, Nat.le_of_ble_eq_true rfl⟩) (x_preS hK hP hD) rfl rfl hl.1 rfl (lv_room (Nat.le_of_ble_eq_true rfl)) xd_Mo_line_219 ⟨Nat.le_of_ble_eq_true rfl, Nat.le_of_ble_eq_true rfl⟩) hS (fun q _ h => hFc q h) hFc (fun r67 u68 t H1 locs ht hvm hp69 hB hz1 hk1 hS => ?_)
              obtain ⟨hP1, hD1⟩ := hB
              rw [ht] at hP1
              have hD1 := hD1.weaken (fun _ _ _ h => hFc _ h)
              generalize H1 = H at hP1 hS ⊢
              have hP := hP1
              have hD := hD1
              have hP : va_P D xcl (moW h mm kA (va_up (va_up (va_up v 0 0) 2 0) 3 (nI wn)) g5) H := hP
              have hD : va_D A (moW h mm kA (va_up (va_up (va_up v 0 0) 2 0) 3 (nI wn)) g5) := hD
              refine lv_iconst (v := 0) hx hb xd_Mo_line_222 (by decide) ?_
              have hFc := va_free (wc := (moW h mm kA (va_up (va_up (va_up v 0 0) 2 0) 3 (nI wn)) g5)) hD hS hA [0, 1, 2, 3, 4, 5, 6, 7, 8, 9, 10, 11, 12, 13, 14, 15, 16, 17, 18, 19, 20, 21, 22, 23, 24, 25] rfl
              refine va_calli (va_runV (As := [.int 0, .int r67, .int 0]) (rest := []) ⟨hx, hb, hml, hown, hT⟩ (xc_Mo_says l D kA H.size h mm (va_up (va_up (va_up v 0 0) 2 0) 3 (nI wn)) g5 0 b0 e0 r67 0 (by first | assumption | omega) (by first | assumption | omega) (by first | assumption | omega) (by first | assumption | omega) (by first | assumption | omega) (by first | assumption | omega)) (cwV 3 hT (wT_V xs_15 xs_16 xs_17 xs_5 xs_14) rfl rfl rfl (by decide +kernel) ⟨Nat.le_of_ble_eq_true rfl, Nat.le_of_ble_eq_true rfl⟩) (x_preV hK hP hD 0 rfl rfl) rfl rfl hl.1 rfl (lv_room (Nat.le_of_ble_eq_true rfl)) xd_Mo_line_223 ⟨Nat.le_of_ble_eq_true rfl, Nat.le_of_ble_eq_true rfl⟩) hS (fun q _ h => hFc q h) hFc (fun r70 u71 t H1 locs ht hvm hp72 hB hz1 hk1 hS => ?_)
              obtain ⟨hP1, hD1⟩ := hB
              rw [ht] at hP1
              have hD1 := hD1.weaken (fun _ _ _ h => hFc _ h)
              generalize H1 = H at hP1 hS ⊢
              have hP := hP1
              have hD := hD1
              have hP : va_P D xcl (moW h mm kA (va_up (va_up (va_up v 0 0) 2 0) 3 (nI wn)) g5) H := hP
              have hD : va_D A (moW h mm kA (va_up (va_up (va_up v 0 0) 2 0) 3 (nI wn)) g5) := hD
              rcases hp72 with rfl | rfl
              · refine xz_eq (a := 0) (tgt := 238) hx hb xd_Mo_line_226 (by decide) (by omega) (fun _ => ?_) (fun hc73 => absurd hc73 (by omega))
                refine lv_aload_n hx hb xd_Mo_line_238 rfl (lv_at hl 1 rfl) ?_
                refine lv_iconst (v := 0) hx hb xd_Mo_line_239 (by decide) ?_
                refine lv_bipush (v := 112) hx hb xd_Mo_line_240 (by decide) ?_
                refine lv_bipush (v := 114) hx hb xd_Mo_line_242 (by decide) ?_
                refine lv_bipush (v := 111) hx hb xd_Mo_line_244 (by decide) ?_
                refine lv_bipush (v := 118) hx hb xd_Mo_line_246 (by decide) ?_
                refine lv_bipush (v := 105) hx hb xd_Mo_line_248 (by decide) ?_
                have hFc := va_free (wc := (moW h mm kA (va_up (va_up (va_up v 0 0) 2 0) 3 (nI wn)) g5)) hD hS hA [0, 1, 2, 3, 4, 5, 6, 7, 8, 9, 10, 11, 12, 13, 14, 15, 16, 17, 18, 19, 20, 21, 22, 23, 24, 25] rfl
                refine va_calli (va_runS (As := [.int 112, .int 114, .int 111, .int 118, .int 105]) (rest := [.int 0, .ref h]) ⟨hx, hb, hml, hown, hT⟩ (xc_Mo_code l D kA H.size h mm (va_up (va_up (va_up v 0 0) 2 0) 3 (nI wn)) g5 112 114 111 118 105) (cwS 5 hT (wT_S0 xs_12 xs_13 xs_5 xs_11) rfl rfl rfl (by decide +kernel) ⟨Nat.le_of_ble_eq_true rfl, Nat.le_of_ble_eq_true rfl⟩) (x_preS hK hP hD) rfl rfl hl.1 rfl (lv_room (Nat.le_of_ble_eq_true rfl)) xd_Mo_line_250 ⟨Nat.le_of_ble_eq_true rfl, Nat.le_of_ble_eq_true rfl⟩) hS (fun q _ h => hFc q h) hFc (fun r74 u75 t H1 locs ht hvm hp76 hB hz1 hk1 hS => ?_)
                obtain ⟨hP1, hD1⟩ := hB
                rw [ht] at hP1
                have hD1 := hD1.weaken (fun _ _ _ h => hFc _ h)
                generalize H1 = H at hP1 hS ⊢
                have hP := hP1
                have hD := hD1
                have hP : va_P D xcl (moW h mm kA (va_up (va_up (va_up v 0 0) 2 0) 3 (nI wn)) g5) H := hP
                have hD : va_D A (moW h mm kA (va_up (va_up (va_up v 0 0) 2 0) 3 (nI wn)) g5) := hD
                refine lv_bipush (v := 100) hx hb xd_Mo_line_253 (by decide) ?_
                refine lv_bipush (v := 101) hx hb xd_Mo_line_255 (by decide) ?_
                refine lv_bipush (v := 115) hx hb xd_Mo_line_257 (by decide) ?_
                refine lv_iconst (v := 0) hx hb xd_Mo_line_259 (by decide) ?_
                refine lv_iconst (v := 0) hx hb xd_Mo_line_260 (by decide) ?_
                have hFc := va_free (wc := (moW h mm kA (va_up (va_up (va_up v 0 0) 2 0) 3 (nI wn)) g5)) hD hS hA [0, 1, 2, 3, 4, 5, 6, 7, 8, 9, 10, 11, 12, 13, 14, 15, 16, 17, 18, 19, 20, 21, 22, 23, 24, 25] rfl
                refine va_calli (va_runS (As := [.int 100, .int 101, .int 115, .int 0, .int 0]) (rest := [.int r74, .int 0, .ref h]) ⟨hx, hb, hml, hown, hT⟩ (xc_Mo_code l D kA H.size h mm (va_up (va_up (va_up v 0 0) 2 0) 3 (nI wn)) g5 100 101 115 0 0) (cwS 5 hT (wT_S0 xs_12 xs_13 xs_5 xs_11) rfl rfl rfl (by decide +kernel) ⟨Nat.le_of_ble_eq_true rfl, Nat.le_of_ble_eq_true rfl⟩) (x_preS hK hP hD) rfl rfl hl.1 rfl (lv_room (Nat.le_of_ble_eq_true rfl)) xd_Mo_line_261 ⟨Nat.le_of_ble_eq_true rfl, Nat.le_of_ble_eq_true rfl⟩) hS (fun q _ h => hFc q h) hFc (fun r77 u78 t H1 locs ht hvm hp79 hB hz1 hk1 hS => ?_)
                obtain ⟨hP1, hD1⟩ := hB
                rw [ht] at hP1
                have hD1 := hD1.weaken (fun _ _ _ h => hFc _ h)
                generalize H1 = H at hP1 hS ⊢
                have hP := hP1
                have hD := hD1
                have hP : va_P D xcl (moW h mm kA (va_up (va_up (va_up v 0 0) 2 0) 3 (nI wn)) g5) H := hP
                have hD : va_D A (moW h mm kA (va_up (va_up (va_up v 0 0) 2 0) 3 (nI wn)) g5) := hD
                have hFc := va_free (wc := (moW h mm kA (va_up (va_up (va_up v 0 0) 2 0) 3 (nI wn)) g5)) hD hS hA [0, 1, 2, 3, 4, 5, 6, 7, 8, 9, 10, 11, 12, 13, 14, 15, 16, 17, 18, 19, 20, 21, 22, 23, 24, 25] rfl
                refine va_calli (va_runV (As := [.int 0, .int r74, .int r77]) (rest := []) ⟨hx, hb, hml, hown, hT⟩ (xc_Mo_says l D kA H.size h mm (va_up (va_up (va_up v 0 0) 2 0) 3 (nI wn)) g5 0 b0 e0 r74 r77 (by first | assumption | omega) (by first | assumption | omega) (by first | assumption | omega) (by first | assumption | omega) (by first | assumption | omega) (by first | assumption | omega)) (cwV 3 hT (wT_V xs_15 xs_16 xs_17 xs_5 xs_14) rfl rfl rfl (by decide +kernel) ⟨Nat.le_of_ble_eq_true rfl, Nat.le_of_ble_eq_true rfl⟩) (x_preV hK hP hD 0 rfl rfl) rfl rfl hl.1 rfl (lv_room (Nat.le_of_ble_eq_true rfl)) xd_Mo_line_264 ⟨Nat.le_of_ble_eq_true rfl, Nat.le_of_ble_eq_true rfl⟩) hS (fun q _ h => hFc q h) hFc (fun r80 u81 t H1 locs ht hvm hp82 hB hz1 hk1 hS => ?_)
                obtain ⟨hP1, hD1⟩ := hB
                rw [ht] at hP1
                have hD1 := hD1.weaken (fun _ _ _ h => hFc _ h)
                generalize H1 = H at hP1 hS ⊢
                have hP := hP1
                have hD := hD1
                have hP : va_P D xcl (moW h mm kA (va_up (va_up (va_up v 0 0) 2 0) 3 (nI wn)) g5) H := hP
                have hD : va_D A (moW h mm kA (va_up (va_up (va_up v 0 0) 2 0) 3 (nI wn)) g5) := hD
                rcases hp82 with rfl | rfl
                · refine xz_eq (a := 0) (tgt := 276) hx hb xd_Mo_line_267 (by decide) (by omega) (fun _ => ?_) (fun hc83 => absurd hc83 (by omega))
                  exact jn7 ((-1), (va_up (va_up (va_up v 0 0) 2 0) 3 (nI wn)), g5) _ _ _ (lv_sub hl [0, 1] rfl) hP hD hS ⟨(show MI (va_up (va_up (va_up v 0 0) 2 0) 3 (nI wn)) g5 from hM1), (show (va_up (va_up (va_up v 0 0) 2 0) 3 (nI wn)) 2 = 0 from rfl)⟩
                · refine xz_eq (a := 1) (tgt := 276) hx hb xd_Mo_line_267 (by decide) (by omega) (fun hc84 => absurd hc84 (by omega)) (fun _ => ?_)
                  refine lv_aload_n hx hb xd_Mo_line_270 rfl (lv_at hl 1 rfl) ?_
                  refine lv_iconst (v := 1) hx hb xd_Mo_line_271 (by decide) ?_
                  have hFc := va_free (wc := (moW h mm kA (va_up (va_up (va_up v 0 0) 2 0) 3 (nI wn)) g5)) hD hS hA [0, 1, 2, 3, 4, 5, 6, 7, 8, 9, 10, 11, 12, 13, 14, 15, 16, 17, 18, 19, 20, 21, 22, 23, 24, 25] rfl
                  refine va_calli (va_runV (As := [.int 1]) (rest := []) ⟨hx, hb, hml, hown, hT⟩ (xc_Mo_newService l D kA H.size h mm (va_up (va_up (va_up v 0 0) 2 0) 3 (nI wn)) g5 wn 1 (by first | assumption | omega) (by first | assumption | omega)) (cwV 1 hT (wT_V xs_19 xs_20 xs_21 xs_5 xs_18) rfl rfl rfl (by decide +kernel) ⟨Nat.le_of_ble_eq_true rfl, Nat.le_of_ble_eq_true rfl⟩) (x_preV hK hP hD 0 rfl rfl) rfl rfl hl.1 rfl (lv_room (Nat.le_of_ble_eq_true rfl)) xd_Mo_line_272 ⟨Nat.le_of_ble_eq_true rfl, Nat.le_of_ble_eq_true rfl⟩) hS (fun q _ h => hFc q h) hFc (fun r85 u86 t H1 locs ht hvm hp87 hB hz1 hk1 hS => ?_)
                  obtain ⟨hP1, hD1⟩ := hB
                  rw [ht] at hP1
                  have hD1 := hD1.weaken (fun _ _ _ h => hFc _ h)
                  obtain ⟨v88, g89⟩ := u86
                  generalize H1 = H at hP1 hS ⊢
                  have hP := hP1
                  have hD := hD1
                  have hP : va_P D xcl (moW h mm kA v88 g89) H := hP
                  have hD : va_D A (moW h mm kA v88 g89) := hD
                  refine lv_istore_n hx hb xd_Mo_line_275 rfl hl (Nat.le_of_ble_eq_true rfl) rfl (fun ls hl => ?_)
                  have hl : lv_has ls 2 [(1, .int r85), (0, .ref h)] := hl
                  exact jn7 (r85, v88, g89) _ _ _ (lv_sub hl [0, 1] rfl) hP hD hS ⟨(show MI v88 g89 from hp87.1), (show v88 2 = 0 from hp87.2.1)⟩
              · refine xz_eq (a := 1) (tgt := 238) hx hb xd_Mo_line_226 (by decide) (by omega) (fun hc90 => absurd hc90 (by omega)) (fun _ => ?_)
                refine lv_aload_n hx hb xd_Mo_line_229 rfl (lv_at hl 1 rfl) ?_
                refine lv_iconst (v := 0) hx hb xd_Mo_line_230 (by decide) ?_
                have hFc := va_free (wc := (moW h mm kA (va_up (va_up (va_up v 0 0) 2 0) 3 (nI wn)) g5)) hD hS hA [0, 1, 2, 3, 4, 5, 6, 7, 8, 9, 10, 11, 12, 13, 14, 15, 16, 17, 18, 19, 20, 21, 22, 23, 24, 25] rfl
                refine va_calli (va_runV (As := [.int 0]) (rest := []) ⟨hx, hb, hml, hown, hT⟩ (xc_Mo_newService l D kA H.size h mm (va_up (va_up (va_up v 0 0) 2 0) 3 (nI wn)) g5 wn 0 (by first | assumption | omega) (by first | assumption | omega)) (cwV 1 hT (wT_V xs_19 xs_20 xs_21 xs_5 xs_18) rfl rfl rfl (by decide +kernel) ⟨Nat.le_of_ble_eq_true rfl, Nat.le_of_ble_eq_true rfl⟩) (x_preV hK hP hD 0 rfl rfl) rfl rfl hl.1 rfl (lv_room (Nat.le_of_ble_eq_true rfl)) xd_Mo_line_231 ⟨Nat.le_of_ble_eq_true rfl, Nat.le_of_ble_eq_true rfl⟩) hS (fun q _ h => hFc q h) hFc (fun r91 u92 t H1 locs ht hvm hp93 hB hz1 hk1 hS => ?_)
                obtain ⟨hP1, hD1⟩ := hB
                rw [ht] at hP1
                have hD1 := hD1.weaken (fun _ _ _ h => hFc _ h)
                obtain ⟨v94, g95⟩ := u92
                generalize H1 = H at hP1 hS ⊢
                have hP := hP1
                have hD := hD1
                have hP : va_P D xcl (moW h mm kA v94 g95) H := hP
                have hD : va_D A (moW h mm kA v94 g95) := hD
                refine lv_istore_n hx hb xd_Mo_line_234 rfl hl (Nat.le_of_ble_eq_true rfl) rfl (fun ls hl => ?_)
                have hl : lv_has ls 2 [(1, .int r91), (0, .ref h)] := hl
                refine lv_goto (tgt := 276) hx hb xd_Mo_line_235 (by decide) ?_
                exact jn7 (r91, v94, g95) _ _ _ (lv_sub hl [0, 1] rfl) hP hD hS ⟨(show MI v94 g95 from hp93.1), (show v94 2 = 0 from hp93.2.1)⟩
            · refine xz_eq (a := 1) (tgt := 208) hx hb xd_Mo_line_197 (by decide) (by omega) (fun hc96 => absurd hc96 (by omega)) (fun _ => ?_)
              refine lv_aload_n hx hb xd_Mo_line_200 rfl (lv_at hl 1 rfl) ?_
              have hFc := va_free (wc := (moW h mm kA (va_up (va_up (va_up v 0 0) 2 0) 3 (nI wn)) g5)) hD hS hA [0, 1, 2, 3, 4, 5, 6, 7, 8, 9, 10, 11, 12, 13, 14, 15, 16, 17, 18, 19, 20, 21, 22, 23, 24, 25] rfl
              refine va_calli (va_runV (As := []) (rest := []) ⟨hx, hb, hml, hown, hT⟩ (xc_Mo_newRequire l D kA H.size h mm (va_up (va_up (va_up v 0 0) 2 0) 3 (nI wn)) g5 wn (by first | assumption | omega) (by first | assumption | omega)) (cwV 0 hT (wT_V xs_23 xs_24 xs_25 xs_5 xs_22) rfl rfl rfl (by decide +kernel) ⟨Nat.le_of_ble_eq_true rfl, Nat.le_of_ble_eq_true rfl⟩) (x_preV hK hP hD 0 rfl rfl) rfl rfl hl.1 rfl (lv_room (Nat.le_of_ble_eq_true rfl)) xd_Mo_line_201 ⟨Nat.le_of_ble_eq_true rfl, Nat.le_of_ble_eq_true rfl⟩) hS (fun q _ h => hFc q h) hFc (fun r97 u98 t H1 locs ht hvm hp99 hB hz1 hk1 hS => ?_)
              obtain ⟨hP1, hD1⟩ := hB
              rw [ht] at hP1
              have hD1 := hD1.weaken (fun _ _ _ h => hFc _ h)
              obtain ⟨v100, g101⟩ := u98
              generalize H1 = H at hP1 hS ⊢
              have hP := hP1
              have hD := hD1
              have hP : va_P D xcl (moW h mm kA v100 g101) H := hP
              have hD : va_D A (moW h mm kA v100 g101) := hD
              refine lv_istore_n hx hb xd_Mo_line_204 rfl hl (Nat.le_of_ble_eq_true rfl) rfl (fun ls hl => ?_)
              have hl : lv_has ls 2 [(1, .int r97), (0, .ref h)] := hl
              refine lv_goto (tgt := 276) hx hb xd_Mo_line_205 (by decide) ?_
              exact jn7 (r97, v100, g101) _ _ _ (lv_sub hl [0, 1] rfl) hP hD hS ⟨(show MI v100 g101 from hp99.1), (show v100 2 = 0 from hp99.2.1)⟩
          · refine xz_eq (a := 1) (tgt := 168) hx hb xd_Mo_line_156 (by decide) (by omega) (fun hc102 => absurd hc102 (by omega)) (fun _ => ?_)
            refine lv_aload_n hx hb xd_Mo_line_159 rfl (lv_at hl 1 rfl) ?_
            refine lv_iconst (v := 1) hx hb xd_Mo_line_160 (by decide) ?_
            have hFc := va_free (wc := (moW h mm kA (va_up (va_up (va_up v 0 0) 2 0) 3 (nI wn)) g5)) hD hS hA [0, 1, 2, 3, 4, 5, 6, 7, 8, 9, 10, 11, 12, 13, 14, 15, 16, 17, 18, 19, 20, 21, 22, 23, 24, 25] rfl
            refine va_calli (va_runV (As := [.int 1]) (rest := []) ⟨hx, hb, hml, hown, hT⟩ (xc_Mo_shown l D kA H.size h mm (va_up (va_up (va_up v 0 0) 2 0) 3 (nI wn)) g5 wn 1 (by first | assumption | omega) (by first | assumption | omega)) (cwV 1 hT (wT_V xs_27 xs_28 xs_29 xs_5 xs_26) rfl rfl rfl (by decide +kernel) ⟨Nat.le_of_ble_eq_true rfl, Nat.le_of_ble_eq_true rfl⟩) (x_preV hK hP hD 0 rfl rfl) rfl rfl hl.1 rfl (lv_room (Nat.le_of_ble_eq_true rfl)) xd_Mo_line_161 ⟨Nat.le_of_ble_eq_true rfl, Nat.le_of_ble_eq_true rfl⟩) hS (fun q _ h => hFc q h) hFc (fun r103 u104 t H1 locs ht hvm hp105 hB hz1 hk1 hS => ?_)
            obtain ⟨hP1, hD1⟩ := hB
            rw [ht] at hP1
            have hD1 := hD1.weaken (fun _ _ _ h => hFc _ h)
            obtain ⟨v106, g107⟩ := u104
            generalize H1 = H at hP1 hS ⊢
            have hP := hP1
            have hD := hD1
            have hP : va_P D xcl (moW h mm kA v106 g107) H := hP
            have hD : va_D A (moW h mm kA v106 g107) := hD
            refine lv_istore_n hx hb xd_Mo_line_164 rfl hl (Nat.le_of_ble_eq_true rfl) rfl (fun ls hl => ?_)
            have hl : lv_has ls 2 [(1, .int r103), (0, .ref h)] := hl
            refine lv_goto (tgt := 276) hx hb xd_Mo_line_165 (by decide) ?_
            exact jn7 (r103, v106, g107) _ _ _ (lv_sub hl [0, 1] rfl) hP hD hS ⟨(show MI v106 g107 from hp105.1), (show v106 2 = 0 from hp105.2.1)⟩
        · refine xz_eq (a := 1) (tgt := 137) hx hb xd_Mo_line_125 (by decide) (by omega) (fun hc108 => absurd hc108 (by omega)) (fun _ => ?_)
          refine lv_aload_n hx hb xd_Mo_line_128 rfl (lv_at hl 1 rfl) ?_
          refine lv_iconst (v := 0) hx hb xd_Mo_line_129 (by decide) ?_
          have hFc := va_free (wc := (moW h mm kA (va_up (va_up (va_up v 0 0) 2 0) 3 (nI wn)) g5)) hD hS hA [0, 1, 2, 3, 4, 5, 6, 7, 8, 9, 10, 11, 12, 13, 14, 15, 16, 17, 18, 19, 20, 21, 22, 23, 24, 25] rfl
          refine va_calli (va_runV (As := [.int 0]) (rest := []) ⟨hx, hb, hml, hown, hT⟩ (xc_Mo_shown l D kA H.size h mm (va_up (va_up (va_up v 0 0) 2 0) 3 (nI wn)) g5 wn 0 (by first | assumption | omega) (by first | assumption | omega)) (cwV 1 hT (wT_V xs_27 xs_28 xs_29 xs_5 xs_26) rfl rfl rfl (by decide +kernel) ⟨Nat.le_of_ble_eq_true rfl, Nat.le_of_ble_eq_true rfl⟩) (x_preV hK hP hD 0 rfl rfl) rfl rfl hl.1 rfl (lv_room (Nat.le_of_ble_eq_true rfl)) xd_Mo_line_130 ⟨Nat.le_of_ble_eq_true rfl, Nat.le_of_ble_eq_true rfl⟩) hS (fun q _ h => hFc q h) hFc (fun r109 u110 t H1 locs ht hvm hp111 hB hz1 hk1 hS => ?_)
          obtain ⟨hP1, hD1⟩ := hB
          rw [ht] at hP1
          have hD1 := hD1.weaken (fun _ _ _ h => hFc _ h)
          obtain ⟨v112, g113⟩ := u110
          generalize H1 = H at hP1 hS ⊢
          have hP := hP1
          have hD := hD1
          have hP : va_P D xcl (moW h mm kA v112 g113) H := hP
          have hD : va_D A (moW h mm kA v112 g113) := hD
          refine lv_istore_n hx hb xd_Mo_line_133 rfl hl (Nat.le_of_ble_eq_true rfl) rfl (fun ls hl => ?_)
          have hl : lv_has ls 2 [(1, .int r109), (0, .ref h)] := hl
          refine lv_goto (tgt := 276) hx hb xd_Mo_line_134 (by decide) ?_
          exact jn7 (r109, v112, g113) _ _ _ (lv_sub hl [0, 1] rfl) hP hD hS ⟨(show MI v112 g113 from hp111.1), (show v112 2 = 0 from hp111.2.1)⟩
      · refine xz_eq (a := 1) (tgt := 97) hx hb xd_Mo_line_86 (by decide) (by omega) (fun hc114 => absurd hc114 (by omega)) (fun _ => ?_)
        refine lv_aload_n hx hb xd_Mo_line_89 rfl (lv_at hl 1 rfl) ?_
        have hFc := va_free (wc := (moW h mm kA (va_up (va_up (va_up v 0 0) 2 0) 3 (nI wn)) g5)) hD hS hA [0, 1, 2, 3, 4, 5, 6, 7, 8, 9, 10, 11, 12, 13, 14, 15, 16, 17, 18, 19, 20, 21, 22, 23, 24, 25] rfl
        refine va_calli (va_runV (As := []) (rest := []) ⟨hx, hb, hml, hown, hT⟩ (xc_Mo_newPackage l D kA H.size h mm (va_up (va_up (va_up v 0 0) 2 0) 3 (nI wn)) g5 wn (by first | assumption | omega) (by first | assumption | omega)) (cwV 0 hT (wT_V xs_31 xs_32 xs_33 xs_5 xs_30) rfl rfl rfl (by decide +kernel) ⟨Nat.le_of_ble_eq_true rfl, Nat.le_of_ble_eq_true rfl⟩) (x_preV hK hP hD 0 rfl rfl) rfl rfl hl.1 rfl (lv_room (Nat.le_of_ble_eq_true rfl)) xd_Mo_line_90 ⟨Nat.le_of_ble_eq_true rfl, Nat.le_of_ble_eq_true rfl⟩) hS (fun q _ h => hFc q h) hFc (fun r115 u116 t H1 locs ht hvm hp117 hB hz1 hk1 hS => ?_)
        obtain ⟨hP1, hD1⟩ := hB
        rw [ht] at hP1
        have hD1 := hD1.weaken (fun _ _ _ h => hFc _ h)
        obtain ⟨v118, g119⟩ := u116
        generalize H1 = H at hP1 hS ⊢
        have hP := hP1
        have hD := hD1
        have hP : va_P D xcl (moW h mm kA v118 g119) H := hP
        have hD : va_D A (moW h mm kA v118 g119) := hD
        refine lv_istore_n hx hb xd_Mo_line_93 rfl hl (Nat.le_of_ble_eq_true rfl) rfl (fun ls hl => ?_)
        have hl : lv_has ls 2 [(1, .int r115), (0, .ref h)] := hl
        refine lv_goto (tgt := 276) hx hb xd_Mo_line_94 (by decide) ?_
        exact jn7 (r115, v118, g119) _ _ _ (lv_sub hl [0, 1] rfl) hP hD hS ⟨(show MI v118 g119 from hp117.1), (show v118 2 = 0 from hp117.2.1)⟩
    · refine xz_eq (a := 1) (tgt := 58) hx hb xd_Mo_line_47 (by decide) (by omega) (fun hc120 => absurd hc120 (by omega)) (fun _ => ?_)
      refine lv_aload_n hx hb xd_Mo_line_50 rfl (lv_at hl 1 rfl) ?_
      have hFc := va_free (wc := (moW h mm kA (va_up (va_up (va_up v 0 0) 2 0) 3 (nI wn)) g5)) hD hS hA [0, 1, 2, 3, 4, 5, 6, 7, 8, 9, 10, 11, 12, 13, 14, 15, 16, 17, 18, 19, 20, 21, 22, 23, 24, 25] rfl
      refine va_calli (va_runV (As := []) (rest := []) ⟨hx, hb, hml, hown, hT⟩ (xc_Mo_newDescriptor l D kA H.size h mm (va_up (va_up (va_up v 0 0) 2 0) 3 (nI wn)) g5 wn (by first | assumption | omega) (by first | assumption | omega)) (cwV 0 hT (wT_V xs_35 xs_36 xs_37 xs_5 xs_34) rfl rfl rfl (by decide +kernel) ⟨Nat.le_of_ble_eq_true rfl, Nat.le_of_ble_eq_true rfl⟩) (x_preV hK hP hD 0 rfl rfl) rfl rfl hl.1 rfl (lv_room (Nat.le_of_ble_eq_true rfl)) xd_Mo_line_51 ⟨Nat.le_of_ble_eq_true rfl, Nat.le_of_ble_eq_true rfl⟩) hS (fun q _ h => hFc q h) hFc (fun r121 u122 t H1 locs ht hvm hp123 hB hz1 hk1 hS => ?_)
      obtain ⟨hP1, hD1⟩ := hB
      rw [ht] at hP1
      have hD1 := hD1.weaken (fun _ _ _ h => hFc _ h)
      obtain ⟨v124, g125⟩ := u122
      generalize H1 = H at hP1 hS ⊢
      have hP := hP1
      have hD := hD1
      have hP : va_P D xcl (moW h mm kA v124 g125) H := hP
      have hD : va_D A (moW h mm kA v124 g125) := hD
      refine lv_istore_n hx hb xd_Mo_line_54 rfl hl (Nat.le_of_ble_eq_true rfl) rfl (fun ls hl => ?_)
      have hl : lv_has ls 2 [(1, .int r121), (0, .ref h)] := hl
      refine lv_goto (tgt := 276) hx hb xd_Mo_line_55 (by decide) ?_
      exact jn7 (r121, v124, g125) _ _ _ (lv_sub hl [0, 1] rfl) hP hD hS ⟨(show MI v124 g125 from hp123.1), (show v124 2 = 0 from hp123.2.1)⟩
  · refine lv_iconst (v := 0) hx hb xd_Mo_line_16 (by decide) ?_
    exact W.iret (v := 0) hx hb hr (fun t ht hW => ⟨⟨0, ((va_up (va_up (va_up v 0 0) 2 0) 3 (nI wn)), g5), rfl, ⟨hM1, rfl⟩, by rw [ht]; exact hP, hD⟩, hS.F ht⟩) hS.2.2 xd_Mo_line_17
