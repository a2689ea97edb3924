abbrev xb_Mo_shown : ByteArray := prog_12_method_16_code
def xy_Mo_shown : MethodName := ⟨"LayerDeskModel", "shown", "(Z)I"⟩
theorem xd_Mo_shown_0 : decode xb_Mo_shown 0 = .ok (.aload_n 0, 1) := by decide +kernel
theorem xd_Mo_shown_1 : decode xb_Mo_shown 1 = .ok (.getfield 94, 3) := by decide +kernel
theorem xd_Mo_shown_4 : decode xb_Mo_shown 4 = .ok (.iconst 2, 1) := by decide +kernel
theorem xd_Mo_shown_5 : decode xb_Mo_shown 5 = .ok (.if_icmp .eq 11, 3) := by decide +kernel
theorem xd_Mo_shown_8 : decode xb_Mo_shown 8 = .ok (.aload_n 0, 1) := by decide +kernel
theorem xd_Mo_shown_9 : decode xb_Mo_shown 9 = .ok (.getfield 94, 3) := by decide +kernel
theorem xd_Mo_shown_12 : decode xb_Mo_shown 12 = .ok (.iconst 4, 1) := by decide +kernel
theorem xd_Mo_shown_13 : decode xb_Mo_shown 13 = .ok (.if_icmp .ne 11, 3) := by decide +kernel
theorem xd_Mo_shown_16 : decode xb_Mo_shown 16 = .ok (.aload_n 0, 1) := by decide +kernel
theorem xd_Mo_shown_17 : decode xb_Mo_shown 17 = .ok (.iconst 1, 1) := by decide +kernel
theorem xd_Mo_shown_18 : decode xb_Mo_shown 18 = .ok (.invokevirtual 133, 3) := by decide +kernel
theorem xd_Mo_shown_21 : decode xb_Mo_shown 21 = .ok (.goto 4, 3) := by decide +kernel
theorem xd_Mo_shown_24 : decode xb_Mo_shown 24 = .ok (.iconst 0, 1) := by decide +kernel
theorem xd_Mo_shown_25 : decode xb_Mo_shown 25 = .ok (.istore_n 2, 1) := by decide +kernel
theorem xd_Mo_shown_26 : decode xb_Mo_shown 26 = .ok (.aload_n 0, 1) := by decide +kernel
theorem xd_Mo_shown_27 : decode xb_Mo_shown 27 = .ok (.getfield 94, 3) := by decide +kernel
theorem xd_Mo_shown_30 : decode xb_Mo_shown 30 = .ok (.iconst 4, 1) := by decide +kernel
theorem xd_Mo_shown_31 : decode xb_Mo_shown 31 = .ok (.if_icmp .ne 30, 3) := by decide +kernel
theorem xd_Mo_shown_34 : decode xb_Mo_shown 34 = .ok (.aload_n 0, 1) := by decide +kernel
theorem xd_Mo_shown_35 : decode xb_Mo_shown 35 = .ok (.iconst 2, 1) := by decide +kernel
theorem xd_Mo_shown_36 : decode xb_Mo_shown 36 = .ok (.bipush 116, 2) := by decide +kernel
theorem xd_Mo_shown_38 : decode xb_Mo_shown 38 = .ok (.bipush 111, 2) := by decide +kernel
theorem xd_Mo_shown_40 : decode xb_Mo_shown 40 = .ok (.iconst 0, 1) := by decide +kernel
theorem xd_Mo_shown_41 : decode xb_Mo_shown 41 = .ok (.iconst 0, 1) := by decide +kernel
theorem xd_Mo_shown_42 : decode xb_Mo_shown 42 = .ok (.iconst 0, 1) := by decide +kernel
theorem xd_Mo_shown_43 : decode xb_Mo_shown 43 = .ok (.invokestatic 104, 3) := by decide +kernel
theorem xd_Mo_shown_46 : decode xb_Mo_shown 46 = .ok (.iconst 0, 1) := by decide +kernel
theorem xd_Mo_shown_47 : decode xb_Mo_shown 47 = .ok (.invokevirtual 108, 3) := by decide +kernel
theorem xd_Mo_shown_50 : decode xb_Mo_shown 50 = .ok (.ifCond .eq 11, 3) := by decide +kernel
theorem xd_Mo_shown_53 : decode xb_Mo_shown 53 = .ok (.aload_n 0, 1) := by decide +kernel
theorem xd_Mo_shown_54 : decode xb_Mo_shown 54 = .ok (.iconst 3, 1) := by decide +kernel
theorem xd_Mo_shown_55 : decode xb_Mo_shown 55 = .ok (.invokevirtual 133, 3) := by decide +kernel
theorem xd_Mo_shown_58 : decode xb_Mo_shown 58 = .ok (.goto 4, 3) := by decide +kernel
theorem xd_Mo_shown_61 : decode xb_Mo_shown 61 = .ok (.iconst 0, 1) := by decide +kernel
theorem xd_Mo_shown_62 : decode xb_Mo_shown 62 = .ok (.istore_n 3, 1) := by decide +kernel
theorem xd_Mo_shown_63 : decode xb_Mo_shown 63 = .ok (.iload_n 2, 1) := by decide +kernel
theorem xd_Mo_shown_64 : decode xb_Mo_shown 64 = .ok (.ifCond .eq 15, 3) := by decide +kernel
theorem xd_Mo_shown_67 : decode xb_Mo_shown 67 = .ok (.aload_n 0, 1) := by decide +kernel
theorem xd_Mo_shown_68 : decode xb_Mo_shown 68 = .ok (.getfield 94, 3) := by decide +kernel
theorem xd_Mo_shown_71 : decode xb_Mo_shown 71 = .ok (.iconst 4, 1) := by decide +kernel
theorem xd_Mo_shown_72 : decode xb_Mo_shown 72 = .ok (.if_icmp .ne 9, 3) := by decide +kernel
theorem xd_Mo_shown_75 : decode xb_Mo_shown 75 = .ok (.iload_n 3, 1) := by decide +kernel
theorem xd_Mo_shown_76 : decode xb_Mo_shown 76 = .ok (.ifCond .ne 5, 3) := by decide +kernel
theorem xd_Mo_shown_79 : decode xb_Mo_shown 79 = .ok (.iconst (-1), 1) := by decide +kernel
theorem xd_Mo_shown_80 : decode xb_Mo_shown 80 = .ok (.ireturn, 1) := by decide +kernel
theorem xd_Mo_shown_81 : decode xb_Mo_shown 81 = .ok (.aload_n 0, 1) := by decide +kernel
theorem xd_Mo_shown_82 : decode xb_Mo_shown 82 = .ok (.getfield 140, 3) := by decide +kernel
theorem xd_Mo_shown_85 : decode xb_Mo_shown 85 = .ok (.iconst 1, 1) := by decide +kernel
theorem xd_Mo_shown_86 : decode xb_Mo_shown 86 = .ok (.isub, 1) := by decide +kernel
theorem xd_Mo_shown_87 : decode xb_Mo_shown 87 = .ok (.istore 4, 2) := by decide +kernel
theorem xd_Mo_shown_89 : decode xb_Mo_shown 89 = .ok (.iload 4, 2) := by decide +kernel
theorem xd_Mo_shown_91 : decode xb_Mo_shown 91 = .ok (.ifCond .lt 13, 3) := by decide +kernel
theorem xd_Mo_shown_94 : decode xb_Mo_shown 94 = .ok (.aload_n 0, 1) := by decide +kernel
theorem xd_Mo_shown_95 : decode xb_Mo_shown 95 = .ok (.iload 4, 2) := by decide +kernel
theorem xd_Mo_shown_97 : decode xb_Mo_shown 97 = .ok (.iload_n 2, 1) := by decide +kernel
theorem xd_Mo_shown_98 : decode xb_Mo_shown 98 = .ok (.invokevirtual 143, 3) := by decide +kernel
theorem xd_Mo_shown_101 : decode xb_Mo_shown 101 = .ok (.goto 4, 3) := by decide +kernel
theorem xd_Mo_shown_104 : decode xb_Mo_shown 104 = .ok (.iconst 0, 1) := by decide +kernel
theorem xd_Mo_shown_105 : decode xb_Mo_shown 105 = .ok (.istore 5, 2) := by decide +kernel
theorem xd_Mo_shown_107 : decode xb_Mo_shown 107 = .ok (.iload 5, 2) := by decide +kernel
theorem xd_Mo_shown_109 : decode xb_Mo_shown 109 = .ok (.ifCond .ge 5, 3) := by decide +kernel
theorem xd_Mo_shown_112 : decode xb_Mo_shown 112 = .ok (.iconst (-1), 1) := by decide +kernel
theorem xd_Mo_shown_113 : decode xb_Mo_shown 113 = .ok (.ireturn, 1) := by decide +kernel
theorem xd_Mo_shown_114 : decode xb_Mo_shown 114 = .ok (.aload_n 0, 1) := by decide +kernel
theorem xd_Mo_shown_115 : decode xb_Mo_shown 115 = .ok (.invokevirtual 146, 3) := by decide +kernel
theorem xd_Mo_shown_118 : decode xb_Mo_shown 118 = .ok (.ifCond .eq 6, 3) := by decide +kernel
theorem xd_Mo_shown_121 : decode xb_Mo_shown 121 = .ok (.bipush (-2), 2) := by decide +kernel
theorem xd_Mo_shown_123 : decode xb_Mo_shown 123 = .ok (.ireturn, 1) := by decide +kernel
theorem xd_Mo_shown_124 : decode xb_Mo_shown 124 = .ok (.aload_n 0, 1) := by decide +kernel
theorem xd_Mo_shown_125 : decode xb_Mo_shown 125 = .ok (.getfield 94, 3) := by decide +kernel
theorem xd_Mo_shown_128 : decode xb_Mo_shown 128 = .ok (.iconst 2, 1) := by decide +kernel
theorem xd_Mo_shown_129 : decode xb_Mo_shown 129 = .ok (.if_icmp .ne 28, 3) := by decide +kernel
theorem xd_Mo_shown_132 : decode xb_Mo_shown 132 = .ok (.iload_n 1, 1) := by decide +kernel
theorem xd_Mo_shown_133 : decode xb_Mo_shown 133 = .ok (.ifCond .eq 14, 3) := by decide +kernel
theorem xd_Mo_shown_136 : decode xb_Mo_shown 136 = .ok (.aload_n 0, 1) := by decide +kernel
theorem xd_Mo_shown_137 : decode xb_Mo_shown 137 = .ok (.getfield 42, 3) := by decide +kernel
theorem xd_Mo_shown_140 : decode xb_Mo_shown 140 = .ok (.iload 5, 2) := by decide +kernel
theorem xd_Mo_shown_142 : decode xb_Mo_shown 142 = .ok (.iconst 1, 1) := by decide +kernel
theorem xd_Mo_shown_143 : decode xb_Mo_shown 143 = .ok (.bastore, 1) := by decide +kernel
theorem xd_Mo_shown_144 : decode xb_Mo_shown 144 = .ok (.goto 11, 3) := by decide +kernel
theorem xd_Mo_shown_147 : decode xb_Mo_shown 147 = .ok (.aload_n 0, 1) := by decide +kernel
theorem xd_Mo_shown_148 : decode xb_Mo_shown 148 = .ok (.getfield 38, 3) := by decide +kernel
theorem xd_Mo_shown_151 : decode xb_Mo_shown 151 = .ok (.iload 5, 2) := by decide +kernel
theorem xd_Mo_shown_153 : decode xb_Mo_shown 153 = .ok (.iconst 1, 1) := by decide +kernel
theorem xd_Mo_shown_154 : decode xb_Mo_shown 154 = .ok (.bastore, 1) := by decide +kernel
theorem xd_Mo_shown_155 : decode xb_Mo_shown 155 = .ok (.iconst 2, 1) := by decide +kernel
theorem xd_Mo_shown_156 : decode xb_Mo_shown 156 = .ok (.ireturn, 1) := by decide +kernel
theorem xd_Mo_shown_157 : decode xb_Mo_shown 157 = .ok (.iconst 3, 1) := by decide +kernel
theorem xd_Mo_shown_158 : decode xb_Mo_shown 158 = .ok (.iload 5, 2) := by decide +kernel
theorem xd_Mo_shown_160 : decode xb_Mo_shown 160 = .ok (.imul, 1) := by decide +kernel
theorem xd_Mo_shown_161 : decode xb_Mo_shown 161 = .ok (.istore 6, 2) := by decide +kernel
theorem xd_Mo_shown_163 : decode xb_Mo_shown 163 = .ok (.iload 6, 2) := by decide +kernel
theorem xd_Mo_shown_165 : decode xb_Mo_shown 165 = .ok (.iconst 3, 1) := by decide +kernel
theorem xd_Mo_shown_166 : decode xb_Mo_shown 166 = .ok (.iload 5, 2) := by decide +kernel
theorem xd_Mo_shown_168 : decode xb_Mo_shown 168 = .ok (.imul, 1) := by decide +kernel
theorem xd_Mo_shown_169 : decode xb_Mo_shown 169 = .ok (.iconst 3, 1) := by decide +kernel
theorem xd_Mo_shown_170 : decode xb_Mo_shown 170 = .ok (.iadd, 1) := by decide +kernel
theorem xd_Mo_shown_171 : decode xb_Mo_shown 171 = .ok (.if_icmp .ge 70, 3) := by decide +kernel
theorem xd_Mo_shown_174 : decode xb_Mo_shown 174 = .ok (.iload_n 1, 1) := by decide +kernel
theorem xd_Mo_shown_175 : decode xb_Mo_shown 175 = .ok (.ifCond .eq 13, 3) := by decide +kernel
theorem xd_Mo_shown_178 : decode xb_Mo_shown 178 = .ok (.aload_n 0, 1) := by decide +kernel
theorem xd_Mo_shown_179 : decode xb_Mo_shown 179 = .ok (.getfield 35, 3) := by decide +kernel
theorem xd_Mo_shown_182 : decode xb_Mo_shown 182 = .ok (.iload 6, 2) := by decide +kernel
theorem xd_Mo_shown_184 : decode xb_Mo_shown 184 = .ok (.iaload, 1) := by decide +kernel
theorem xd_Mo_shown_185 : decode xb_Mo_shown 185 = .ok (.goto 10, 3) := by decide +kernel
theorem xd_Mo_shown_188 : decode xb_Mo_shown 188 = .ok (.aload_n 0, 1) := by decide +kernel
theorem xd_Mo_shown_189 : decode xb_Mo_shown 189 = .ok (.getfield 32, 3) := by decide +kernel
theorem xd_Mo_shown_192 : decode xb_Mo_shown 192 = .ok (.iload 6, 2) := by decide +kernel
theorem xd_Mo_shown_194 : decode xb_Mo_shown 194 = .ok (.iaload, 1) := by decide +kernel
theorem xd_Mo_shown_195 : decode xb_Mo_shown 195 = .ok (.istore 7, 2) := by decide +kernel
theorem xd_Mo_shown_197 : decode xb_Mo_shown 197 = .ok (.iload 7, 2) := by decide +kernel
theorem xd_Mo_shown_199 : decode xb_Mo_shown 199 = .ok (.iload_n 3, 1) := by decide +kernel
theorem xd_Mo_shown_200 : decode xb_Mo_shown 200 = .ok (.if_icmp .ne 5, 3) := by decide +kernel
theorem xd_Mo_shown_203 : decode xb_Mo_shown 203 = .ok (.iconst 2, 1) := by decide +kernel
theorem xd_Mo_shown_204 : decode xb_Mo_shown 204 = .ok (.ireturn, 1) := by decide +kernel
theorem xd_Mo_shown_205 : decode xb_Mo_shown 205 = .ok (.iload 7, 2) := by decide +kernel
theorem xd_Mo_shown_207 : decode xb_Mo_shown 207 = .ok (.ifCond .ne 28, 3) := by decide +kernel
theorem xd_Mo_shown_210 : decode xb_Mo_shown 210 = .ok (.iload_n 1, 1) := by decide +kernel
theorem xd_Mo_shown_211 : decode xb_Mo_shown 211 = .ok (.ifCond .eq 14, 3) := by decide +kernel
theorem xd_Mo_shown_214 : decode xb_Mo_shown 214 = .ok (.aload_n 0, 1) := by decide +kernel
theorem xd_Mo_shown_215 : decode xb_Mo_shown 215 = .ok (.getfield 35, 3) := by decide +kernel
theorem xd_Mo_shown_218 : decode xb_Mo_shown 218 = .ok (.iload 6, 2) := by decide +kernel
theorem xd_Mo_shown_220 : decode xb_Mo_shown 220 = .ok (.iload_n 3, 1) := by decide +kernel
theorem xd_Mo_shown_221 : decode xb_Mo_shown 221 = .ok (.iastore, 1) := by decide +kernel
theorem xd_Mo_shown_222 : decode xb_Mo_shown 222 = .ok (.goto 11, 3) := by decide +kernel
theorem xd_Mo_shown_225 : decode xb_Mo_shown 225 = .ok (.aload_n 0, 1) := by decide +kernel
theorem xd_Mo_shown_226 : decode xb_Mo_shown 226 = .ok (.getfield 32, 3) := by decide +kernel
theorem xd_Mo_shown_229 : decode xb_Mo_shown 229 = .ok (.iload 6, 2) := by decide +kernel
theorem xd_Mo_shown_231 : decode xb_Mo_shown 231 = .ok (.iload_n 3, 1) := by decide +kernel
theorem xd_Mo_shown_232 : decode xb_Mo_shown 232 = .ok (.iastore, 1) := by decide +kernel
theorem xd_Mo_shown_233 : decode xb_Mo_shown 233 = .ok (.iconst 2, 1) := by decide +kernel
theorem xd_Mo_shown_234 : decode xb_Mo_shown 234 = .ok (.ireturn, 1) := by decide +kernel
theorem xd_Mo_shown_235 : decode xb_Mo_shown 235 = .ok (.iinc 6 1, 3) := by decide +kernel
theorem xd_Mo_shown_238 : decode xb_Mo_shown 238 = .ok (.goto (-75), 3) := by decide +kernel
theorem xd_Mo_shown_241 : decode xb_Mo_shown 241 = .ok (.bipush (-2), 2) := by decide +kernel
theorem xd_Mo_shown_243 : decode xb_Mo_shown 243 = .ok (.ireturn, 1) := by decide +kernel
theorem xp_0 : (Cond.fieldLink "LayerDeskModel" 94 "LayerDeskModel" "words" "I") ∈ wT := wT_t (List.mem_append_right _ (List.mem_append_right _ (List.mem_append_right _ (List.mem_append_left _ (List.mem_of_getElem? (i := 88) rfl))))) rfl
theorem xp_1 : (Cond.code xy_Mo_nameOf xb_Mo_nameOf 4 (some .int)) ∈ wT := wT_t (List.mem_append_right _ (List.mem_append_right _ (List.mem_append_right _ (List.mem_append_left _ (List.mem_of_getElem? (i := 212) rfl))))) rfl
theorem xp_2 : (Cond.methodLink "LayerDeskModel" 133 xy_Mo_nameOf) ∈ wT := wT_t (List.mem_append_right _ (List.mem_append_right _ (List.mem_append_right _ (List.mem_append_left _ (List.mem_of_getElem? (i := 209) rfl))))) rfl
theorem xp_3 : (Cond.instanceMethod xy_Mo_nameOf) ∈ wT := wT_t (List.mem_append_right _ (List.mem_append_right _ (List.mem_append_right _ (List.mem_append_left _ (List.mem_of_getElem? (i := 211) rfl))))) rfl
theorem xp_4 : (Cond.selects "LayerDeskModel" xy_Mo_nameOf xy_Mo_nameOf) ∈ wT := wT_s (q := (xy_Mo_nameOf, 31)) (by decide +kernel) rfl
theorem xp_5 : (Cond.initialized "LayerDeskModel") ∈ wT := wT_t (List.mem_append_left _ (List.mem_of_getElem? (i := 5) rfl)) rfl
theorem xp_6 : (Cond.fieldLink "LayerDeskModel" 140 "LayerDeskModel" "descriptors" "I") ∈ wT := wT_t (List.mem_append_right _ (List.mem_append_right _ (List.mem_append_right _ (List.mem_append_left _ (List.mem_of_getElem? (i := 91) rfl))))) rfl
theorem xp_7 : (Cond.code xy_Mo_isShut xb_Mo_isShut 1 (some .boolean)) ∈ wT := wT_t (List.mem_append_right _ (List.mem_append_right _ (List.mem_append_right _ (List.mem_append_left _ (List.mem_of_getElem? (i := 228) rfl))))) rfl
theorem xp_8 : (Cond.methodLink "LayerDeskModel" 146 xy_Mo_isShut) ∈ wT := wT_t (List.mem_append_right _ (List.mem_append_right _ (List.mem_append_right _ (List.mem_append_left _ (List.mem_of_getElem? (i := 225) rfl))))) rfl
theorem xp_9 : (Cond.instanceMethod xy_Mo_isShut) ∈ wT := wT_t (List.mem_append_right _ (List.mem_append_right _ (List.mem_append_right _ (List.mem_append_left _ (List.mem_of_getElem? (i := 227) rfl))))) rfl
theorem xp_10 : (Cond.selects "LayerDeskModel" xy_Mo_isShut xy_Mo_isShut) ∈ wT := wT_s (q := (xy_Mo_isShut, 31)) (by decide +kernel) rfl
theorem xp_11 : (Cond.code xy_Mo_packageOf xb_Mo_packageOf 4 (some .int)) ∈ wT := wT_t (List.mem_append_right _ (List.mem_append_right _ (List.mem_append_right _ (List.mem_append_left _ (List.mem_of_getElem? (i := 224) rfl))))) rfl
theorem xp_12 : (Cond.methodLink "LayerDeskModel" 143 xy_Mo_packageOf) ∈ wT := wT_t (List.mem_append_right _ (List.mem_append_right _ (List.mem_append_right _ (List.mem_append_left _ (List.mem_of_getElem? (i := 221) rfl))))) rfl
theorem xp_13 : (Cond.instanceMethod xy_Mo_packageOf) ∈ wT := wT_t (List.mem_append_right _ (List.mem_append_right _ (List.mem_append_right _ (List.mem_append_left _ (List.mem_of_getElem? (i := 223) rfl))))) rfl
theorem xp_14 : (Cond.selects "LayerDeskModel" xy_Mo_packageOf xy_Mo_packageOf) ∈ wT := wT_s (q := (xy_Mo_packageOf, 31)) (by decide +kernel) rfl
theorem xp_15 : (Cond.fieldLink "LayerDeskModel" 38 "LayerDeskModel" "exportAll" "[Z") ∈ wT := wT_t (List.mem_append_right _ (List.mem_append_right _ (List.mem_append_right _ (List.mem_append_left _ (List.mem_of_getElem? (i := 98) rfl))))) rfl
theorem xp_16 : (Cond.fieldLink "LayerDeskModel" 42 "LayerDeskModel" "openAll" "[Z") ∈ wT := wT_t (List.mem_append_right _ (List.mem_append_right _ (List.mem_append_right _ (List.mem_append_left _ (List.mem_of_getElem? (i := 99) rfl))))) rfl
theorem xp_17 : (Cond.code xy_Mo_code xb_Mo_code 6 (some .int)) ∈ wT := wT_t (List.mem_append_right _ (List.mem_append_right _ (List.mem_append_right _ (List.mem_append_left _ (List.mem_of_getElem? (i := 196) rfl))))) rfl
theorem xp_18 : (Cond.methodLink "LayerDeskModel" 104 xy_Mo_code) ∈ wT := wT_t (List.mem_append_right _ (List.mem_append_right _ (List.mem_append_right _ (List.mem_append_left _ (List.mem_of_getElem? (i := 194) rfl))))) rfl
theorem xp_19 : (Cond.static xy_Mo_code) ∈ wT := wT_t (List.mem_append_right _ (List.mem_append_right _ (List.mem_append_right _ (List.mem_append_left _ (List.mem_of_getElem? (i := 195) rfl))))) rfl
theorem xp_20 : (Cond.code xy_Mo_says xb_Mo_says 8 (some .boolean)) ∈ wT := wT_t (List.mem_append_right _ (List.mem_append_right _ (List.mem_append_right _ (List.mem_append_left _ (List.mem_of_getElem? (i := 200) rfl))))) rfl
theorem xp_21 : (Cond.methodLink "LayerDeskModel" 108 xy_Mo_says) ∈ wT := wT_t (List.mem_append_right _ (List.mem_append_right _ (List.mem_append_right _ (List.mem_append_left _ (List.mem_of_getElem? (i := 197) rfl))))) rfl
theorem xp_22 : (Cond.instanceMethod xy_Mo_says) ∈ wT := wT_t (List.mem_append_right _ (List.mem_append_right _ (List.mem_append_right _ (List.mem_append_left _ (List.mem_of_getElem? (i := 199) rfl))))) rfl
theorem xp_23 : (Cond.selects "LayerDeskModel" xy_Mo_says xy_Mo_says) ∈ wT := wT_s (q := (xy_Mo_says, 31)) (by decide +kernel) rfl
theorem xp_24 : (Cond.fieldLink "LayerDeskModel" 32 "LayerDeskModel" "exportTo" "[I") ∈ wT := wT_t (List.mem_append_right _ (List.mem_append_right _ (List.mem_append_right _ (List.mem_append_left _ (List.mem_of_getElem? (i := 96) rfl))))) rfl
theorem xp_25 : (Cond.fieldLink "LayerDeskModel" 35 "LayerDeskModel" "openTo" "[I") ∈ wT := wT_t (List.mem_append_right _ (List.mem_append_right _ (List.mem_append_right _ (List.mem_append_left _ (List.mem_of_getElem? (i := 97) rfl))))) rfl
set_option maxHeartbeats 4000000 in
set_option maxRecDepth 100000 in
theorem xc_Mo_shown (l : Launch) (D : va_G) (kA : Nat → ClassId) (sz h : Nat) (mm : Nat → Nat) (v : Nat → Int32) (g : Nat → Nat → Int32) (wn : Nat) (zz : Int32) (hMI : MI v g) (hWI : WI v g wn) : Met l xy_Mo_shown (.code xy_Mo_shown xb_Mo_shown 8 (some .int) :: wT) { frames := 2, cells := 0, slots := 0, locals := 49 } (va_Pc [.ref h, .int zz] (xPre D kA sz (moW h mm kA v g))) (va_Qi (fun (r : Int32) (u : (Nat → Int32) × (Nat → Nat → Int32)) => MI u.1 u.2 ∧ u.1 2 = v 2 ∧ (r = -1 ∨ r = -2 ∨ r = 1 ∨ r = 2)) (fun (u : (Nat → Int32) × (Nat → Nat → Int32)) t => va_P D xcl (moW h mm kA u.1 u.2) t.heap ∧ va_D (va_A (moW h mm kA v g) sz) (moW h mm kA u.1 u.2)) (va_A (moW h mm kA v g) sz)) 0 0 (va_A (moW h mm kA v g) sz) := by
  refine Met.ofW (cc := xb_Mo_shown) (maxL := 8) (ret := (some .int)) (by decide) rfl ?_
  intro p e s m args below meth c s₁ B hml hv
  obtain ⟨rfl, hsz, hP, hK, hD0⟩ := hv
  have hx := B.exec
  have hb := B.bytes
  have hr := B.returns
  have hT := x_hT B.pre
  have hown : s.vm.findClass xR_Mo = some m.cls := findClass_of_methodNamed B.named
  have hlocks := B.notSynchronized
  subst hsz
  have hD := hD0.self (sz := s.heap.size)
  generalize hAe : va_A (moW h mm kA v g) s.heap.size = A at hD ⊢
  have hA : ∀ q : Nat, s.heap.size ≤ q → A q := fun q h => by rw [← hAe]; exact Or.inr h
  have hS : va_S A s.heap s.heap [] := va_S.rf
  have hl := lv_entry ([.ref h, .int zz]) (n := 8) (Nat.le_of_ble_eq_true rfl)
  rw [lg_entry_eq]
  generalize (lg_sl ([.ref h, .int zz]) ++ List.replicate (8 - (lg_sl ([.ref h, .int zz])).length) Slot.unset).toArray = ls at hl ⊢
  have hl : lv_has ls 8 [(0, .ref h), (1, .int zz)] := hl
  have hP : va_P D xcl (moW h mm kA v g) s.heap := hP
  obtain ⟨⟨nd, hnd12, hnd⟩, ⟨nl, hnl5, hnl, hpar⟩, hch, hpk, hrq, hmd, huq⟩ := id hMI
  obtain ⟨hwn20, hwn, hws⟩ := hWI
  refine lv_aload_n hx hb xd_Mo_shown_0 rfl (lv_at hl 0 rfl) ?_
  refine va_get (D := D) (ci := 4) (v := .int (v 3)) (C := xR_Mo) (T := xT_Mo) (N := 31) hx hb hT xi_Mo hown hK.1 hP 0 rfl rfl 4 (by decide) (hT _ xp_0) (fun _ h9 => h9) rfl xd_Mo_shown_1 ?_
  refine xn_top (x := (v 3)) (y := nI wn) hwn ?_
  refine lv_iconst (v := 2) hx hb xd_Mo_shown_4 (by decide) ?_
  refine xn_eq (a := wn) (b := 2) (tgt := 16) hx hb xd_Mo_shown_5 (by decide) (by omega) (by omega) (fun hc1 => ?_) (fun hc1 => ?_)
  · obtain ⟨b1, e1, hbe1, he1, eb1, ee1⟩ := hws 1 (by omega)
    refine lv_aload_n hx hb xd_Mo_shown_16 rfl (lv_at hl 0 rfl) ?_
    refine lv_iconst (v := 1) hx hb xd_Mo_shown_17 (by decide) ?_
    have hFc := va_free (wc := (moW h mm kA v g)) hD hS hA [0, 1, 2, 3, 4, 5, 6, 7, 8, 9, 10, 11, 12, 13, 14, 15, 16, 17, 18, 19, 20, 21, 22, 23, 24, 25] rfl
    refine va_calli (va_runV (As := [.int 1]) (rest := []) ⟨hx, hb, hml, hown, hT⟩ (xc_Mo_nameOf l D kA s.heap.size h mm v g 1 b1 e1 (by first | assumption | omega) (by first | assumption | omega) (by first | assumption | omega) (by first | assumption | omega) (by first | assumption | omega)) (cwV 1 hT (wT_V xp_2 xp_3 xp_4 xp_5 xp_1) rfl rfl rfl (by decide +kernel) ⟨Nat.le_of_ble_eq_true rfl, Nat.le_of_ble_eq_true rfl⟩) (x_preV hK hP hD 0 rfl rfl) rfl rfl hl.1 rfl (lv_room (Nat.le_of_ble_eq_true rfl)) xd_Mo_shown_18 ⟨Nat.le_of_ble_eq_true rfl, Nat.le_of_ble_eq_true rfl⟩) hS (fun q _ h => hFc q h) hFc (fun r2 u3 t H1 locs ht hvm hp4 hB hz1 hk1 hS => ?_)
    obtain ⟨hP1, hD1⟩ := hB
    rw [ht] at hP1
    have hD1 := hD1.weaken (fun _ _ _ h => hFc _ h)
    generalize H1 = H at hP1 hS ⊢
    have hP := hP1
    have hD := hD1
    have hP : va_P D xcl (moW h mm kA v g) H := hP
    have hD : va_D A (moW h mm kA v g) := hD
    refine lv_goto (tgt := 25) hx hb xd_Mo_shown_21 (by decide) ?_
    refine lv_istore_n hx hb xd_Mo_shown_25 rfl hl (Nat.le_of_ble_eq_true rfl) rfl (fun ls hl => ?_)
    have hl : lv_has ls 8 [(2, .int r2), (0, .ref h), (1, .int zz)] := hl
    refine lv_aload_n hx hb xd_Mo_shown_26 rfl (lv_at hl 1 rfl) ?_
    refine va_get (D := D) (ci := 4) (v := .int (v 3)) (C := xR_Mo) (T := xT_Mo) (N := 31) hx hb hT xi_Mo hown hK.1 hP 0 rfl rfl 4 (by decide) (hT _ xp_0) (fun _ h9 => h9) rfl xd_Mo_shown_27 ?_
    refine xn_top (x := (v 3)) (y := nI wn) hwn ?_
    refine lv_iconst (v := 4) hx hb xd_Mo_shown_30 (by decide) ?_
    refine xn_ne (a := wn) (b := 4) (tgt := 61) hx hb xd_Mo_shown_31 (by decide) (by omega) (by omega) (fun _ => ?_) (fun hc5 => absurd hc5 (by omega))
    refine lv_iconst (v := 0) hx hb xd_Mo_shown_61 (by decide) ?_
    refine lv_istore_n hx hb xd_Mo_shown_62 rfl hl (Nat.le_of_ble_eq_true rfl) rfl (fun ls hl => ?_)
    have hl : lv_has ls 8 [(3, .int 0), (2, .int r2), (0, .ref h), (1, .int zz)] := hl
    refine lv_iload_n hx hb xd_Mo_shown_63 rfl (lv_at hl 1 rfl) ?_
    refine lv_if_eq (tgt := 79) hx hb xd_Mo_shown_64 (by decide) (fun hc6 => ?_) (fun hc6 => ?_)
    · refine lv_iconst (v := (-1)) hx hb xd_Mo_shown_79 (by decide) ?_
      exact W.iret (v := (-1)) hx hb hr (fun t ht hW => ⟨⟨(-1), (v, g), rfl, ⟨hMI, rfl, Or.inl rfl⟩, by rw [ht]; exact hP, hD⟩, hS.F ht⟩) hS.2.2 xd_Mo_shown_80
    · refine lv_aload_n hx hb xd_Mo_shown_67 rfl (lv_at hl 2 rfl) ?_
      refine va_get (D := D) (ci := 4) (v := .int (v 3)) (C := xR_Mo) (T := xT_Mo) (N := 31) hx hb hT xi_Mo hown hK.1 hP 0 rfl rfl 4 (by decide) (hT _ xp_0) (fun _ h9 => h9) rfl xd_Mo_shown_68 ?_
      refine xn_top (x := (v 3)) (y := nI wn) hwn ?_
      refine lv_iconst (v := 4) hx hb xd_Mo_shown_71 (by decide) ?_
      refine xn_ne (a := wn) (b := 4) (tgt := 81) hx hb xd_Mo_shown_72 (by decide) (by omega) (by omega) (fun _ => ?_) (fun hc7 => absurd hc7 (by omega))
      rcases Nat.eq_zero_or_pos nd with hz | hz
      · have hnd0 : v 4 = nI 0 := by rw [hnd, hz]
        refine lv_aload_n hx hb xd_Mo_shown_81 rfl (lv_at hl 2 rfl) ?_
        refine va_get (D := D) (ci := 4) (v := .int (v 4)) (C := xR_Mo) (T := xT_Mo) (N := 31) hx hb hT xi_Mo hown hK.1 hP 0 rfl rfl 7 (by decide) (hT _ xp_6) (fun _ h9 => h9) rfl xd_Mo_shown_82 ?_
        refine xn_top (x := (v 4)) (y := nI 0) hnd0 ?_
        refine lv_iconst (v := 1) hx hb xd_Mo_shown_85 (by decide) ?_
        refine lv_isub hx hb xd_Mo_shown_86 ?_
        refine lv_istore hx hb xd_Mo_shown_87 hl (Nat.le_of_ble_eq_true rfl) rfl (fun ls hl => ?_)
        have hl : lv_has ls 8 [(4, .int ((nI 0) - 1)), (3, .int 0), (2, .int r2), (0, .ref h), (1, .int zz)] := hl
        refine lv_iload hx hb xd_Mo_shown_89 (lv_at hl 0 rfl) ?_
        refine lv_if_lt (tgt := 104) hx hb xd_Mo_shown_91 (by decide) (fun _ => ?_) (fun hc8 => absurd hc8 (by decide))
        refine lv_iconst (v := 0) hx hb xd_Mo_shown_104 (by decide) ?_
        refine lv_istore hx hb xd_Mo_shown_105 hl (Nat.le_of_ble_eq_true rfl) rfl (fun ls hl => ?_)
        have hl : lv_has ls 8 [(5, .int 0), (4, .int ((nI 0) - 1)), (3, .int 0), (2, .int r2), (0, .ref h), (1, .int zz)] := hl
        refine lv_iload hx hb xd_Mo_shown_107 (lv_at hl 0 rfl) ?_
        refine xz_ge (a := 0) (tgt := 114) hx hb xd_Mo_shown_109 (by decide) (by omega) ?_
        refine lv_aload_n hx hb xd_Mo_shown_114 rfl (lv_at hl 4 rfl) ?_
        have hFc := va_free (wc := (moW h mm kA v g)) hD hS hA [0, 1, 2, 3, 4, 5, 6, 7, 8, 9, 10, 11, 12, 13, 14, 15, 16, 17, 18, 19, 20, 21, 22, 23, 24, 25] rfl
        refine va_calli (va_runV (As := []) (rest := []) ⟨hx, hb, hml, hown, hT⟩ (xc_Mo_isShut l D kA H.size h mm v g nd (by first | assumption | omega) (by first | assumption | omega)) (cwV 0 hT (wT_V xp_8 xp_9 xp_10 xp_5 xp_7) rfl rfl rfl (by decide +kernel) ⟨Nat.le_of_ble_eq_true rfl, Nat.le_of_ble_eq_true rfl⟩) (x_preV hK hP hD 0 rfl rfl) rfl rfl hl.1 rfl (lv_room (Nat.le_of_ble_eq_true rfl)) xd_Mo_shown_115 ⟨Nat.le_of_ble_eq_true rfl, Nat.le_of_ble_eq_true rfl⟩) hS (fun q _ h => hFc q h) hFc (fun r10 u11 t H1 locs ht hvm hp12 hB hz1 hk1 hS => ?_)
        obtain ⟨hP1, hD1⟩ := hB
        rw [ht] at hP1
        have hD1 := hD1.weaken (fun _ _ _ h => hFc _ h)
        generalize H1 = H at hP1 hS ⊢
        have hP := hP1
        have hD := hD1
        have hP : va_P D xcl (moW h mm kA v g) H := hP
        have hD : va_D A (moW h mm kA v g) := hD
        rcases hp12 with ⟨rfl, z13⟩ | ⟨rfl, z14, z15⟩
        · refine xz_eq (a := 1) (tgt := 124) hx hb xd_Mo_shown_118 (by decide) (by omega) (fun hc16 => absurd hc16 (by omega)) (fun _ => ?_)
          refine lv_bipush (v := (-2)) hx hb xd_Mo_shown_121 (by decide) ?_
          exact W.iret (v := (-2)) hx hb hr (fun t ht hW => ⟨⟨(-2), (v, g), rfl, ⟨hMI, rfl, Or.inr (Or.inl rfl)⟩, by rw [ht]; exact hP, hD⟩, hS.F ht⟩) hS.2.2 xd_Mo_shown_123
        · exact absurd hz z14
      · refine lv_aload_n hx hb xd_Mo_shown_81 rfl (lv_at hl 2 rfl) ?_
        refine va_get (D := D) (ci := 4) (v := .int (v 4)) (C := xR_Mo) (T := xT_Mo) (N := 31) hx hb hT xi_Mo hown hK.1 hP 0 rfl rfl 7 (by decide) (hT _ xp_6) (fun _ h9 => h9) rfl xd_Mo_shown_82 ?_
        refine xn_top (x := (v 4)) (y := nI nd) hnd ?_
        refine lv_iconst (v := 1) hx hb xd_Mo_shown_85 (by decide) ?_
        refine lv_isub hx hb xd_Mo_shown_86 ?_
        refine xn_top (y := nI (nd - 1)) (pk_sub (a := nd) (b := 1) (by omega)) ?_
        refine lv_istore hx hb xd_Mo_shown_87 hl (Nat.le_of_ble_eq_true rfl) rfl (fun ls hl => ?_)
        have hl : lv_has ls 8 [(4, .int (nI (nd - 1))), (3, .int 0), (2, .int r2), (0, .ref h), (1, .int zz)] := hl
        refine lv_iload hx hb xd_Mo_shown_89 (lv_at hl 0 rfl) ?_
        refine xz_lt (a := nd - 1) (tgt := 104) hx hb xd_Mo_shown_91 (by decide) (by omega) ?_
        obtain ⟨pk1, hpk1, epk1⟩ := hpk (nd - 1) (by omega)
        refine lv_aload_n hx hb xd_Mo_shown_94 rfl (lv_at hl 3 rfl) ?_
        refine lv_iload hx hb xd_Mo_shown_95 (lv_at hl 0 rfl) ?_
        refine lv_iload_n hx hb xd_Mo_shown_97 rfl (lv_at hl 2 rfl) ?_
        have hFc := va_free (wc := (moW h mm kA v g)) hD hS hA [0, 1, 2, 3, 4, 5, 6, 7, 8, 9, 10, 11, 12, 13, 14, 15, 16, 17, 18, 19, 20, 21, 22, 23, 24, 25] rfl
        refine va_calli (va_runV (As := [.int (nI (nd - 1)), .int r2]) (rest := []) ⟨hx, hb, hml, hown, hT⟩ (xc_Mo_packageOf l D kA H.size h mm v g (nd - 1) r2 pk1 (by first | assumption | omega) (by first | assumption | omega) (by first | assumption | omega)) (cwV 2 hT (wT_V xp_12 xp_13 xp_14 xp_5 xp_11) rfl rfl rfl (by decide +kernel) ⟨Nat.le_of_ble_eq_true rfl, Nat.le_of_ble_eq_true rfl⟩) (x_preV hK hP hD 0 rfl rfl) rfl rfl hl.1 rfl (lv_room (Nat.le_of_ble_eq_true rfl)) xd_Mo_shown_98 ⟨Nat.le_of_ble_eq_true rfl, Nat.le_of_ble_eq_true rfl⟩) hS (fun q _ h => hFc q h) hFc (fun r18 u19 t H1 locs ht hvm hp20 hB hz1 hk1 hS => ?_)
        obtain ⟨hP1, hD1⟩ := hB
        rw [ht] at hP1
        have hD1 := hD1.weaken (fun _ _ _ h => hFc _ h)
        generalize H1 = H at hP1 hS ⊢
        have hP := hP1
        have hD := hD1
        have hP : va_P D xcl (moW h mm kA v g) H := hP
        have hD : va_D A (moW h mm kA v g) := hD
        rcases hp20 with ⟨z21, z22, z23, rfl, z24⟩ | ⟨rfl, z25⟩
        · refine lv_goto (tgt := 105) hx hb xd_Mo_shown_101 (by decide) ?_
          refine lv_istore hx hb xd_Mo_shown_105 hl (Nat.le_of_ble_eq_true rfl) rfl (fun ls hl => ?_)
          have hl : lv_has ls 8 [(5, .int (nI z21)), (4, .int (nI (nd - 1))), (3, .int 0), (2, .int r2), (0, .ref h), (1, .int zz)] := hl
          refine lv_iload hx hb xd_Mo_shown_107 (lv_at hl 0 rfl) ?_
          refine xz_ge (a := z21) (tgt := 114) hx hb xd_Mo_shown_109 (by decide) (by omega) ?_
          refine lv_aload_n hx hb xd_Mo_shown_114 rfl (lv_at hl 4 rfl) ?_
          have hFc := va_free (wc := (moW h mm kA v g)) hD hS hA [0, 1, 2, 3, 4, 5, 6, 7, 8, 9, 10, 11, 12, 13, 14, 15, 16, 17, 18, 19, 20, 21, 22, 23, 24, 25] rfl
          refine va_calli (va_runV (As := []) (rest := []) ⟨hx, hb, hml, hown, hT⟩ (xc_Mo_isShut l D kA H.size h mm v g nd (by first | assumption | omega) (by first | assumption | omega)) (cwV 0 hT (wT_V xp_8 xp_9 xp_10 xp_5 xp_7) rfl rfl rfl (by decide +kernel) ⟨Nat.le_of_ble_eq_true rfl, Nat.le_of_ble_eq_true rfl⟩) (x_preV hK hP hD 0 rfl rfl) rfl rfl hl.1 rfl (lv_room (Nat.le_of_ble_eq_true rfl)) xd_Mo_shown_115 ⟨Nat.le_of_ble_eq_true rfl, Nat.le_of_ble_eq_true rfl⟩) hS (fun q _ h => hFc q h) hFc (fun r27 u28 t H1 locs ht hvm hp29 hB hz1 hk1 hS => ?_)
          obtain ⟨hP1, hD1⟩ := hB
          rw [ht] at hP1
          have hD1 := hD1.weaken (fun _ _ _ h => hFc _ h)
          generalize H1 = H at hP1 hS ⊢
          have hP := hP1
          have hD := hD1
          have hP : va_P D xcl (moW h mm kA v g) H := hP
          have hD : va_D A (moW h mm kA v g) := hD
          rcases hp29 with ⟨rfl, z30⟩ | ⟨rfl, z31, z32⟩
          · refine xz_eq (a := 1) (tgt := 124) hx hb xd_Mo_shown_118 (by decide) (by omega) (fun hc33 => absurd hc33 (by omega)) (fun _ => ?_)
            refine lv_bipush (v := (-2)) hx hb xd_Mo_shown_121 (by decide) ?_
            exact W.iret (v := (-2)) hx hb hr (fun t ht hW => ⟨⟨(-2), (v, g), rfl, ⟨hMI, rfl, Or.inr (Or.inl rfl)⟩, by rw [ht]; exact hP, hD⟩, hS.F ht⟩) hS.2.2 xd_Mo_shown_123
          · refine xz_eq (a := 0) (tgt := 124) hx hb xd_Mo_shown_118 (by decide) (by omega) (fun _ => ?_) (fun hc34 => absurd hc34 (by omega))
            refine lv_aload_n hx hb xd_Mo_shown_124 rfl (lv_at hl 4 rfl) ?_
            refine va_get (D := D) (ci := 4) (v := .int (v 3)) (C := xR_Mo) (T := xT_Mo) (N := 31) hx hb hT xi_Mo hown hK.1 hP 0 rfl rfl 4 (by decide) (hT _ xp_0) (fun _ h9 => h9) rfl xd_Mo_shown_125 ?_
            refine xn_top (x := (v 3)) (y := nI wn) hwn ?_
            refine lv_iconst (v := 2) hx hb xd_Mo_shown_128 (by decide) ?_
            refine xn_ne (a := wn) (b := 2) (tgt := 157) hx hb xd_Mo_shown_129 (by decide) (by omega) (by omega) (fun hc35 => absurd hc35 (by omega)) (fun _ => ?_)
            refine lv_iload_n hx hb xd_Mo_shown_132 rfl (lv_at hl 5 rfl) ?_
            refine lv_if_eq (tgt := 147) hx hb xd_Mo_shown_133 (by decide) (fun hc36 => ?_) (fun hc36 => ?_)
            · refine lv_aload_n hx hb xd_Mo_shown_147 rfl (lv_at hl 4 rfl) ?_
              refine va_get (D := D) (ci := 4) (v := .ref (mm 9)) (C := xR_Mo) (T := xT_Mo) (N := 31) hx hb hT xi_Mo hown hK.1 hP 0 rfl rfl 14 (by decide) (hT _ xp_15) (fun _ h9 => h9) rfl xd_Mo_shown_148 ?_
              refine lv_iload hx hb xd_Mo_shown_151 (lv_at hl 0 rfl) ?_
              refine lv_iconst (v := 1) hx hb xd_Mo_shown_153 (by decide) ?_
              refine xn_zast (i := z21) hx hb hK.1 hP hD hS 10 2 rfl rfl (by omega) (by decide) xd_Mo_shown_154 (fun H locs hP hD hS => ?_)
              have hP : va_P D xcl (moW h mm kA v (va_up g 9 (upd (g 9) z21 (vp_nar .boolean 1)))) H := hP
              have hD : va_D A (moW h mm kA v (va_up g 9 (upd (g 9) z21 (vp_nar .boolean 1)))) := hD
              refine lv_iconst (v := 2) hx hb xd_Mo_shown_155 (by decide) ?_
              exact W.iret (v := 2) hx hb hr (fun t ht hW => ⟨⟨2, (v, (va_up g 9 (upd (g 9) z21 (vp_nar .boolean 1)))), rfl, ⟨MI_g rfl rfl rfl rfl rfl rfl rfl rfl hMI, rfl, Or.inr (Or.inr (Or.inr rfl))⟩, by rw [ht]; exact hP, hD⟩, hS.F ht⟩) hS.2.2 xd_Mo_shown_156
            · refine lv_aload_n hx hb xd_Mo_shown_136 rfl (lv_at hl 4 rfl) ?_
              refine va_get (D := D) (ci := 4) (v := .ref (mm 10)) (C := xR_Mo) (T := xT_Mo) (N := 31) hx hb hT xi_Mo hown hK.1 hP 0 rfl rfl 15 (by decide) (hT _ xp_16) (fun _ h9 => h9) rfl xd_Mo_shown_137 ?_
              refine lv_iload hx hb xd_Mo_shown_140 (lv_at hl 0 rfl) ?_
              refine lv_iconst (v := 1) hx hb xd_Mo_shown_142 (by decide) ?_
              refine xn_zast (i := z21) hx hb hK.1 hP hD hS 11 2 rfl rfl (by omega) (by decide) xd_Mo_shown_143 (fun H locs hP hD hS => ?_)
              have hP : va_P D xcl (moW h mm kA v (va_up g 10 (upd (g 10) z21 (vp_nar .boolean 1)))) H := hP
              have hD : va_D A (moW h mm kA v (va_up g 10 (upd (g 10) z21 (vp_nar .boolean 1)))) := hD
              refine lv_goto (tgt := 155) hx hb xd_Mo_shown_144 (by decide) ?_
              refine lv_iconst (v := 2) hx hb xd_Mo_shown_155 (by decide) ?_
              exact W.iret (v := 2) hx hb hr (fun t ht hW => ⟨⟨2, (v, (va_up g 10 (upd (g 10) z21 (vp_nar .boolean 1)))), rfl, ⟨MI_g rfl rfl rfl rfl rfl rfl rfl rfl hMI, rfl, Or.inr (Or.inr (Or.inr rfl))⟩, by rw [ht]; exact hP, hD⟩, hS.F ht⟩) hS.2.2 xd_Mo_shown_156
        · refine lv_goto (tgt := 105) hx hb xd_Mo_shown_101 (by decide) ?_
          refine lv_istore hx hb xd_Mo_shown_105 hl (Nat.le_of_ble_eq_true rfl) rfl (fun ls hl => ?_)
          have hl : lv_has ls 8 [(5, .int (-1)), (4, .int (nI (nd - 1))), (3, .int 0), (2, .int r2), (0, .ref h), (1, .int zz)] := hl
          refine lv_iload hx hb xd_Mo_shown_107 (lv_at hl 0 rfl) ?_
          refine lv_if_ge (tgt := 114) hx hb xd_Mo_shown_109 (by decide) (fun hc37 => absurd hc37 (by decide)) (fun _ => ?_)
          refine lv_iconst (v := (-1)) hx hb xd_Mo_shown_112 (by decide) ?_
          exact W.iret (v := (-1)) hx hb hr (fun t ht hW => ⟨⟨(-1), (v, g), rfl, ⟨hMI, rfl, Or.inl rfl⟩, by rw [ht]; exact hP, hD⟩, hS.F ht⟩) hS.2.2 xd_Mo_shown_113
  · refine lv_aload_n hx hb xd_Mo_shown_8 rfl (lv_at hl 0 rfl) ?_
    refine va_get (D := D) (ci := 4) (v := .int (v 3)) (C := xR_Mo) (T := xT_Mo) (N := 31) hx hb hT xi_Mo hown hK.1 hP 0 rfl rfl 4 (by decide) (hT _ xp_0) (fun _ h9 => h9) rfl xd_Mo_shown_9 ?_
    refine xn_top (x := (v 3)) (y := nI wn) hwn ?_
    refine lv_iconst (v := 4) hx hb xd_Mo_shown_12 (by decide) ?_
    refine xn_ne (a := wn) (b := 4) (tgt := 24) hx hb xd_Mo_shown_13 (by decide) (by omega) (by omega) (fun hc38 => ?_) (fun hc38 => ?_)
    · refine lv_iconst (v := 0) hx hb xd_Mo_shown_24 (by decide) ?_
      refine lv_istore_n hx hb xd_Mo_shown_25 rfl hl (Nat.le_of_ble_eq_true rfl) rfl (fun ls hl => ?_)
      have hl : lv_has ls 8 [(2, .int 0), (0, .ref h), (1, .int zz)] := hl
      refine lv_aload_n hx hb xd_Mo_shown_26 rfl (lv_at hl 1 rfl) ?_
      refine va_get (D := D) (ci := 4) (v := .int (v 3)) (C := xR_Mo) (T := xT_Mo) (N := 31) hx hb hT xi_Mo hown hK.1 hP 0 rfl rfl 4 (by decide) (hT _ xp_0) (fun _ h9 => h9) rfl xd_Mo_shown_27 ?_
      refine xn_top (x := (v 3)) (y := nI wn) hwn ?_
      refine lv_iconst (v := 4) hx hb xd_Mo_shown_30 (by decide) ?_
      refine xn_ne (a := wn) (b := 4) (tgt := 61) hx hb xd_Mo_shown_31 (by decide) (by omega) (by omega) (fun _ => ?_) (fun hc39 => absurd hc39 (by omega))
      refine lv_iconst (v := 0) hx hb xd_Mo_shown_61 (by decide) ?_
      refine lv_istore_n hx hb xd_Mo_shown_62 rfl hl (Nat.le_of_ble_eq_true rfl) rfl (fun ls hl => ?_)
      have hl : lv_has ls 8 [(3, .int 0), (2, .int 0), (0, .ref h), (1, .int zz)] := hl
      refine lv_iload_n hx hb xd_Mo_shown_63 rfl (lv_at hl 1 rfl) ?_
      refine xz_eq (a := 0) (tgt := 79) hx hb xd_Mo_shown_64 (by decide) (by omega) (fun _ => ?_) (fun hc40 => absurd hc40 (by omega))
      refine lv_iconst (v := (-1)) hx hb xd_Mo_shown_79 (by decide) ?_
      exact W.iret (v := (-1)) hx hb hr (fun t ht hW => ⟨⟨(-1), (v, g), rfl, ⟨hMI, rfl, Or.inl rfl⟩, by rw [ht]; exact hP, hD⟩, hS.F ht⟩) hS.2.2 xd_Mo_shown_80
    · obtain ⟨b1, e1, hbe1, he1, eb1, ee1⟩ := hws 1 (by omega)
      refine lv_aload_n hx hb xd_Mo_shown_16 rfl (lv_at hl 0 rfl) ?_
      refine lv_iconst (v := 1) hx hb xd_Mo_shown_17 (by decide) ?_
      have hFc := va_free (wc := (moW h mm kA v g)) hD hS hA [0, 1, 2, 3, 4, 5, 6, 7, 8, 9, 10, 11, 12, 13, 14, 15, 16, 17, 18, 19, 20, 21, 22, 23, 24, 25] rfl
      refine va_calli (va_runV (As := [.int 1]) (rest := []) ⟨hx, hb, hml, hown, hT⟩ (xc_Mo_nameOf l D kA s.heap.size h mm v g 1 b1 e1 (by first | assumption | omega) (by first | assumption | omega) (by first | assumption | omega) (by first | assumption | omega) (by first | assumption | omega)) (cwV 1 hT (wT_V xp_2 xp_3 xp_4 xp_5 xp_1) rfl rfl rfl (by decide +kernel) ⟨Nat.le_of_ble_eq_true rfl, Nat.le_of_ble_eq_true rfl⟩) (x_preV hK hP hD 0 rfl rfl) rfl rfl hl.1 rfl (lv_room (Nat.le_of_ble_eq_true rfl)) xd_Mo_shown_18 ⟨Nat.le_of_ble_eq_true rfl, Nat.le_of_ble_eq_true rfl⟩) hS (fun q _ h => hFc q h) hFc (fun r41 u42 t H1 locs ht hvm hp43 hB hz1 hk1 hS => ?_)
      obtain ⟨hP1, hD1⟩ := hB
      rw [ht] at hP1
      have hD1 := hD1.weaken (fun _ _ _ h => hFc _ h)
      generalize H1 = H at hP1 hS ⊢
      have hP := hP1
      have hD := hD1
      have hP : va_P D xcl (moW h mm kA v g) H := hP
      have hD : va_D A (moW h mm kA v g) := hD
      refine lv_goto (tgt := 25) hx hb xd_Mo_shown_21 (by decide) ?_
      refine lv_istore_n hx hb xd_Mo_shown_25 rfl hl (Nat.le_of_ble_eq_true rfl) rfl (fun ls hl => ?_)
      have hl : lv_has ls 8 [(2, .int r41), (0, .ref h), (1, .int zz)] := hl
      refine lv_aload_n hx hb xd_Mo_shown_26 rfl (lv_at hl 1 rfl) ?_
      refine va_get (D := D) (ci := 4) (v := .int (v 3)) (C := xR_Mo) (T := xT_Mo) (N := 31) hx hb hT xi_Mo hown hK.1 hP 0 rfl rfl 4 (by decide) (hT _ xp_0) (fun _ h9 => h9) rfl xd_Mo_shown_27 ?_
      refine xn_top (x := (v 3)) (y := nI wn) hwn ?_
      refine lv_iconst (v := 4) hx hb xd_Mo_shown_30 (by decide) ?_
      refine xn_ne (a := wn) (b := 4) (tgt := 61) hx hb xd_Mo_shown_31 (by decide) (by omega) (by omega) (fun hc44 => absurd hc44 (by omega)) (fun _ => ?_)
      obtain ⟨b2, e2, hbe2, he2, eb2, ee2⟩ := hws 2 (by omega)
      obtain ⟨b3, e3, hbe3, he3, eb3, ee3⟩ := hws 3 (by omega)
      refine lv_aload_n hx hb xd_Mo_shown_34 rfl (lv_at hl 1 rfl) ?_
      refine lv_iconst (v := 2) hx hb xd_Mo_shown_35 (by decide) ?_
      refine lv_bipush (v := 116) hx hb xd_Mo_shown_36 (by decide) ?_
      refine lv_bipush (v := 111) hx hb xd_Mo_shown_38 (by decide) ?_
      refine lv_iconst (v := 0) hx hb xd_Mo_shown_40 (by decide) ?_
      refine lv_iconst (v := 0) hx hb xd_Mo_shown_41 (by decide) ?_
      refine lv_iconst (v := 0) hx hb xd_Mo_shown_42 (by decide) ?_
      have hFc := va_free (wc := (moW h mm kA v g)) hD hS hA [0, 1, 2, 3, 4, 5, 6, 7, 8, 9, 10, 11, 12, 13, 14, 15, 16, 17, 18, 19, 20, 21, 22, 23, 24, 25] rfl
      refine va_calli (va_runS (As := [.int 116, .int 111, .int 0, .int 0, .int 0]) (rest := [.int 2, .ref h]) ⟨hx, hb, hml, hown, hT⟩ (xc_Mo_code l D kA H.size h mm v g 116 111 0 0 0) (cwS 5 hT (wT_S0 xp_18 xp_19 xp_5 xp_17) rfl rfl rfl (by decide +kernel) ⟨Nat.le_of_ble_eq_true rfl, Nat.le_of_ble_eq_true rfl⟩) (x_preS hK hP hD) rfl rfl hl.1 rfl (lv_room (Nat.le_of_ble_eq_true rfl)) xd_Mo_shown_43 ⟨Nat.le_of_ble_eq_true rfl, Nat.le_of_ble_eq_true rfl⟩) hS (fun q _ h => hFc q h) hFc (fun r45 u46 t H1 locs ht hvm hp47 hB hz1 hk1 hS => ?_)
      obtain ⟨hP1, hD1⟩ := hB
      rw [ht] at hP1
      have hD1 := hD1.weaken (fun _ _ _ h => hFc _ h)
      generalize H1 = H at hP1 hS ⊢
      have hP := hP1
      have hD := hD1
      have hP : va_P D xcl (moW h mm kA v g) H := hP
      have hD : va_D A (moW h mm kA v g) := hD
      refine lv_iconst (v := 0) hx hb xd_Mo_shown_46 (by decide) ?_
      have hFc := va_free (wc := (moW h mm kA v g)) hD hS hA [0, 1, 2, 3, 4, 5, 6, 7, 8, 9, 10, 11, 12, 13, 14, 15, 16, 17, 18, 19, 20, 21, 22, 23, 24, 25] rfl
      refine va_calli (va_runV (As := [.int 2, .int r45, .int 0]) (rest := []) ⟨hx, hb, hml, hown, hT⟩ (xc_Mo_says l D kA H.size h mm v g 2 b2 e2 r45 0 (by first | assumption | omega) (by first | assumption | omega) (by first | assumption | omega) (by first | assumption | omega) (by first | assumption | omega) (by first | assumption | omega)) (cwV 3 hT (wT_V xp_21 xp_22 xp_23 xp_5 xp_20) rfl rfl rfl (by decide +kernel) ⟨Nat.le_of_ble_eq_true rfl, Nat.le_of_ble_eq_true rfl⟩) (x_preV hK hP hD 0 rfl rfl) rfl rfl hl.1 rfl (lv_room (Nat.le_of_ble_eq_true rfl)) xd_Mo_shown_47 ⟨Nat.le_of_ble_eq_true rfl, Nat.le_of_ble_eq_true rfl⟩) hS (fun q _ h => hFc q h) hFc (fun r48 u49 t H1 locs ht hvm hp50 hB hz1 hk1 hS => ?_)
      obtain ⟨hP1, hD1⟩ := hB
      rw [ht] at hP1
      have hD1 := hD1.weaken (fun _ _ _ h => hFc _ h)
      generalize H1 = H at hP1 hS ⊢
      have hP := hP1
      have hD := hD1
      have hP : va_P D xcl (moW h mm kA v g) H := hP
      have hD : va_D A (moW h mm kA v g) := hD
      rcases hp50 with rfl | rfl
      · refine xz_eq (a := 0) (tgt := 61) hx hb xd_Mo_shown_50 (by decide) (by omega) (fun _ => ?_) (fun hc51 => absurd hc51 (by omega))
        refine lv_iconst (v := 0) hx hb xd_Mo_shown_61 (by decide) ?_
        refine lv_istore_n hx hb xd_Mo_shown_62 rfl hl (Nat.le_of_ble_eq_true rfl) rfl (fun ls hl => ?_)
        have hl : lv_has ls 8 [(3, .int 0), (2, .int r41), (0, .ref h), (1, .int zz)] := hl
        refine lv_iload_n hx hb xd_Mo_shown_63 rfl (lv_at hl 1 rfl) ?_
        refine lv_if_eq (tgt := 79) hx hb xd_Mo_shown_64 (by decide) (fun hc52 => ?_) (fun hc52 => ?_)
        · refine lv_iconst (v := (-1)) hx hb xd_Mo_shown_79 (by decide) ?_
          exact W.iret (v := (-1)) hx hb hr (fun t ht hW => ⟨⟨(-1), (v, g), rfl, ⟨hMI, rfl, Or.inl rfl⟩, by rw [ht]; exact hP, hD⟩, hS.F ht⟩) hS.2.2 xd_Mo_shown_80
        · refine lv_aload_n hx hb xd_Mo_shown_67 rfl (lv_at hl 2 rfl) ?_
          refine va_get (D := D) (ci := 4) (v := .int (v 3)) (C := xR_Mo) (T := xT_Mo) (N := 31) hx hb hT xi_Mo hown hK.1 hP 0 rfl rfl 4 (by decide) (hT _ xp_0) (fun _ h9 => h9) rfl xd_Mo_shown_68 ?_
          refine xn_top (x := (v 3)) (y := nI wn) hwn ?_
          refine lv_iconst (v := 4) hx hb xd_Mo_shown_71 (by decide) ?_
          refine xn_ne (a := wn) (b := 4) (tgt := 81) hx hb xd_Mo_shown_72 (by decide) (by omega) (by omega) (fun hc53 => absurd hc53 (by omega)) (fun _ => ?_)
          refine lv_iload_n hx hb xd_Mo_shown_75 rfl (lv_at hl 0 rfl) ?_
          refine xz_ne (a := 0) (tgt := 81) hx hb xd_Mo_shown_76 (by decide) (by omega) (fun hc54 => absurd hc54 (by omega)) (fun _ => ?_)
          refine lv_iconst (v := (-1)) hx hb xd_Mo_shown_79 (by decide) ?_
          exact W.iret (v := (-1)) hx hb hr (fun t ht hW => ⟨⟨(-1), (v, g), rfl, ⟨hMI, rfl, Or.inl rfl⟩, by rw [ht]; exact hP, hD⟩, hS.F ht⟩) hS.2.2 xd_Mo_shown_80
      · refine xz_eq (a := 1) (tgt := 61) hx hb xd_Mo_shown_50 (by decide) (by omega) (fun hc55 => absurd hc55 (by omega)) (fun _ => ?_)
        refine lv_aload_n hx hb xd_Mo_shown_53 rfl (lv_at hl 1 rfl) ?_
        refine lv_iconst (v := 3) hx hb xd_Mo_shown_54 (by decide) ?_
        have hFc := va_free (wc := (moW h mm kA v g)) hD hS hA [0, 1, 2, 3, 4, 5, 6, 7, 8, 9, 10, 11, 12, 13, 14, 15, 16, 17, 18, 19, 20, 21, 22, 23, 24, 25] rfl
        refine va_calli (va_runV (As := [.int 3]) (rest := []) ⟨hx, hb, hml, hown, hT⟩ (xc_Mo_nameOf l D kA H.size h mm v g 3 b3 e3 (by first | assumption | omega) (by first | assumption | omega) (by first | assumption | omega) (by first | assumption | omega) (by first | assumption | omega)) (cwV 1 hT (wT_V xp_2 xp_3 xp_4 xp_5 xp_1) rfl rfl rfl (by decide +kernel) ⟨Nat.le_of_ble_eq_true rfl, Nat.le_of_ble_eq_true rfl⟩) (x_preV hK hP hD 0 rfl rfl) rfl rfl hl.1 rfl (lv_room (Nat.le_of_ble_eq_true rfl)) xd_Mo_shown_55 ⟨Nat.le_of_ble_eq_true rfl, Nat.le_of_ble_eq_true rfl⟩) hS (fun q _ h => hFc q h) hFc (fun r56 u57 t H1 locs ht hvm hp58 hB hz1 hk1 hS => ?_)
        obtain ⟨hP1, hD1⟩ := hB
        rw [ht] at hP1
        have hD1 := hD1.weaken (fun _ _ _ h => hFc _ h)
        generalize H1 = H at hP1 hS ⊢
        have hP := hP1
        have hD := hD1
        have hP : va_P D xcl (moW h mm kA v g) H := hP
        have hD : va_D A (moW h mm kA v g) := hD
        refine lv_goto (tgt := 62) hx hb xd_Mo_shown_58 (by decide) ?_
        refine lv_istore_n hx hb xd_Mo_shown_62 rfl hl (Nat.le_of_ble_eq_true rfl) rfl (fun ls hl => ?_)
        have hl : lv_has ls 8 [(3, .int r56), (2, .int r41), (0, .ref h), (1, .int zz)] := hl
        refine lv_iload_n hx hb xd_Mo_shown_63 rfl (lv_at hl 1 rfl) ?_
        refine lv_if_eq (tgt := 79) hx hb xd_Mo_shown_64 (by decide) (fun hc59 => ?_) (fun hc59 => ?_)
        · refine lv_iconst (v := (-1)) hx hb xd_Mo_shown_79 (by decide) ?_
          exact W.iret (v := (-1)) hx hb hr (fun t ht hW => ⟨⟨(-1), (v, g), rfl, ⟨hMI, rfl, Or.inl rfl⟩, by rw [ht]; exact hP, hD⟩, hS.F ht⟩) hS.2.2 xd_Mo_shown_80
        · refine lv_aload_n hx hb xd_Mo_shown_67 rfl (lv_at hl 2 rfl) ?_
          refine va_get (D := D) (ci := 4) (v := .int (v 3)) (C := xR_Mo) (T := xT_Mo) (N := 31) hx hb hT xi_Mo hown hK.1 hP 0 rfl rfl 4 (by decide) (hT _ xp_0) (fun _ h9 => h9) rfl xd_Mo_shown_68 ?_
          refine xn_top (x := (v 3)) (y := nI wn) hwn ?_
          refine lv_iconst (v := 4) hx hb xd_Mo_shown_71 (by decide) ?_
          refine xn_ne (a := wn) (b := 4) (tgt := 81) hx hb xd_Mo_shown_72 (by decide) (by omega) (by omega) (fun hc60 => absurd hc60 (by omega)) (fun _ => ?_)
          refine lv_iload_n hx hb xd_Mo_shown_75 rfl (lv_at hl 0 rfl) ?_
          refine lv_if_ne (tgt := 81) hx hb xd_Mo_shown_76 (by decide) (fun hc61 => ?_) (fun hc61 => ?_)
          · rcases Nat.eq_zero_or_pos nd with hz | hz
            · have hnd0 : v 4 = nI 0 := by rw [hnd, hz]
              refine lv_aload_n hx hb xd_Mo_shown_81 rfl (lv_at hl 2 rfl) ?_
              refine va_get (D := D) (ci := 4) (v := .int (v 4)) (C := xR_Mo) (T := xT_Mo) (N := 31) hx hb hT xi_Mo hown hK.1 hP 0 rfl rfl 7 (by decide) (hT _ xp_6) (fun _ h9 => h9) rfl xd_Mo_shown_82 ?_
              refine xn_top (x := (v 4)) (y := nI 0) hnd0 ?_
              refine lv_iconst (v := 1) hx hb xd_Mo_shown_85 (by decide) ?_
              refine lv_isub hx hb xd_Mo_shown_86 ?_
              refine lv_istore hx hb xd_Mo_shown_87 hl (Nat.le_of_ble_eq_true rfl) rfl (fun ls hl => ?_)
              have hl : lv_has ls 8 [(4, .int ((nI 0) - 1)), (3, .int r56), (2, .int r41), (0, .ref h), (1, .int zz)] := hl
              refine lv_iload hx hb xd_Mo_shown_89 (lv_at hl 0 rfl) ?_
              refine lv_if_lt (tgt := 104) hx hb xd_Mo_shown_91 (by decide) (fun _ => ?_) (fun hc62 => absurd hc62 (by decide))
              refine lv_iconst (v := 0) hx hb xd_Mo_shown_104 (by decide) ?_
              refine lv_istore hx hb xd_Mo_shown_105 hl (Nat.le_of_ble_eq_true rfl) rfl (fun ls hl => ?_)
              have hl : lv_has ls 8 [(5, .int 0), (4, .int ((nI 0) - 1)), (3, .int r56), (2, .int r41), (0, .ref h), (1, .int zz)] := hl
              refine lv_iload hx hb xd_Mo_shown_107 (lv_at hl 0 rfl) ?_
              refine xz_ge (a := 0) (tgt := 114) hx hb xd_Mo_shown_109 (by decide) (by omega) ?_
              refine lv_aload_n hx hb xd_Mo_shown_114 rfl (lv_at hl 4 rfl) ?_
              have hFc := va_free (wc := (moW h mm kA v g)) hD hS hA [0, 1, 2, 3, 4, 5, 6, 7, 8, 9, 10, 11, 12, 13, 14, 15, 16, 17, 18, 19, 20, 21, 22, 23, 24, 25] rfl
              refine va_calli (va_runV (As := []) (rest := []) ⟨hx, hb, hml, hown, hT⟩ (xc_Mo_isShut l D kA H.size h mm v g nd (by first | assumption | omega) (by first | assumption | omega)) (cwV 0 hT (wT_V xp_8 xp_9 xp_10 xp_5 xp_7) rfl rfl rfl (by decide +kernel) ⟨Nat.le_of_ble_eq_true rfl, Nat.le_of_ble_eq_true rfl⟩) (x_preV hK hP hD 0 rfl rfl) rfl rfl hl.1 rfl (lv_room (Nat.le_of_ble_eq_true rfl)) xd_Mo_shown_115 ⟨Nat.le_of_ble_eq_true rfl, Nat.le_of_ble_eq_true rfl⟩) hS (fun q _ h => hFc q h) hFc (fun r64 u65 t H1 locs ht hvm hp66 hB hz1 hk1 hS => ?_)
              obtain ⟨hP1, hD1⟩ := hB
              rw [ht] at hP1
              have hD1 := hD1.weaken (fun _ _ _ h => hFc _ h)
              generalize H1 = H at hP1 hS ⊢
              have hP := hP1
              have hD := hD1
              have hP : va_P D xcl (moW h mm kA v g) H := hP
              have hD : va_D A (moW h mm kA v g) := hD
              rcases hp66 with ⟨rfl, z67⟩ | ⟨rfl, z68, z69⟩
              · refine xz_eq (a := 1) (tgt := 124) hx hb xd_Mo_shown_118 (by decide) (by omega) (fun hc70 => absurd hc70 (by omega)) (fun _ => ?_)
                refine lv_bipush (v := (-2)) hx hb xd_Mo_shown_121 (by decide) ?_
                exact W.iret (v := (-2)) hx hb hr (fun t ht hW => ⟨⟨(-2), (v, g), rfl, ⟨hMI, rfl, Or.inr (Or.inl rfl)⟩, by rw [ht]; exact hP, hD⟩, hS.F ht⟩) hS.2.2 xd_Mo_shown_123
              · exact absurd hz z68
            · refine lv_aload_n hx hb xd_Mo_shown_81 rfl (lv_at hl 2 rfl) ?_
              refine va_get (D := D) (ci := 4) (v := .int (v 4)) (C := xR_Mo) (T := xT_Mo) (N := 31) hx hb hT xi_Mo hown hK.1 hP 0 rfl rfl 7 (by decide) (hT _ xp_6) (fun _ h9 => h9) rfl xd_Mo_shown_82 ?_
              refine xn_top (x := (v 4)) (y := nI nd) hnd ?_
              refine lv_iconst (v := 1) hx hb xd_Mo_shown_85 (by decide) ?_
              refine lv_isub hx hb xd_Mo_shown_86 ?_
              refine xn_top (y := nI (nd - 1)) (pk_sub (a := nd) (b := 1) (by omega)) ?_
              refine lv_istore hx hb xd_Mo_shown_87 hl (Nat.le_of_ble_eq_true rfl) rfl (fun ls hl => ?_)
              have hl : lv_has ls 8 [(4, .int (nI (nd - 1))), (3, .int r56), (2, .int r41), (0, .ref h), (1, .int zz)] := hl
              refine lv_iload hx hb xd_Mo_shown_89 (lv_at hl 0 rfl) ?_
              refine xz_lt (a := nd - 1) (tgt := 104) hx hb xd_Mo_shown_91 (by decide) (by omega) ?_
              obtain ⟨pk1, hpk1, epk1⟩ := hpk (nd - 1) (by omega)
              refine lv_aload_n hx hb xd_Mo_shown_94 rfl (lv_at hl 3 rfl) ?_
              refine lv_iload hx hb xd_Mo_shown_95 (lv_at hl 0 rfl) ?_
              refine lv_iload_n hx hb xd_Mo_shown_97 rfl (lv_at hl 2 rfl) ?_
              have hFc := va_free (wc := (moW h mm kA v g)) hD hS hA [0, 1, 2, 3, 4, 5, 6, 7, 8, 9, 10, 11, 12, 13, 14, 15, 16, 17, 18, 19, 20, 21, 22, 23, 24, 25] rfl
              refine va_calli (va_runV (As := [.int (nI (nd - 1)), .int r41]) (rest := []) ⟨hx, hb, hml, hown, hT⟩ (xc_Mo_packageOf l D kA H.size h mm v g (nd - 1) r41 pk1 (by first | assumption | omega) (by first | assumption | omega) (by first | assumption | omega)) (cwV 2 hT (wT_V xp_12 xp_13 xp_14 xp_5 xp_11) rfl rfl rfl (by decide +kernel) ⟨Nat.le_of_ble_eq_true rfl, Nat.le_of_ble_eq_true rfl⟩) (x_preV hK hP hD 0 rfl rfl) rfl rfl hl.1 rfl (lv_room (Nat.le_of_ble_eq_true rfl)) xd_Mo_shown_98 ⟨Nat.le_of_ble_eq_true rfl, Nat.le_of_ble_eq_true rfl⟩) hS (fun q _ h => hFc q h) hFc (fun r72 u73 t H1 locs ht hvm hp74 hB hz1 hk1 hS => ?_)
              obtain ⟨hP1, hD1⟩ := hB
              rw [ht] at hP1
              have hD1 := hD1.weaken (fun _ _ _ h => hFc _ h)
              generalize H1 = H at hP1 hS ⊢
              have hP := hP1
              have hD := hD1
              have hP : va_P D xcl (moW h mm kA v g) H := hP
              have hD : va_D A (moW h mm kA v g) := hD
              rcases hp74 with ⟨z75, z76, z77, rfl, z78⟩ | ⟨rfl, z79⟩
              · refine lv_goto (tgt := 105) hx hb xd_Mo_shown_101 (by decide) ?_
                refine lv_istore hx hb xd_Mo_shown_105 hl (Nat.le_of_ble_eq_true rfl) rfl (fun ls hl => ?_)
                have hl : lv_has ls 8 [(5, .int (nI z75)), (4, .int (nI (nd - 1))), (3, .int r56), (2, .int r41), (0, .ref h), (1, .int zz)] := hl
                refine lv_iload hx hb xd_Mo_shown_107 (lv_at hl 0 rfl) ?_
                refine xz_ge (a := z75) (tgt := 114) hx hb xd_Mo_shown_109 (by decide) (by omega) ?_
                refine lv_aload_n hx hb xd_Mo_shown_114 rfl (lv_at hl 4 rfl) ?_
                have hFc := va_free (wc := (moW h mm kA v g)) hD hS hA [0, 1, 2, 3, 4, 5, 6, 7, 8, 9, 10, 11, 12, 13, 14, 15, 16, 17, 18, 19, 20, 21, 22, 23, 24, 25] rfl
                refine va_calli (va_runV (As := []) (rest := []) ⟨hx, hb, hml, hown, hT⟩ (xc_Mo_isShut l D kA H.size h mm v g nd (by first | assumption | omega) (by first | assumption | omega)) (cwV 0 hT (wT_V xp_8 xp_9 xp_10 xp_5 xp_7) rfl rfl rfl (by decide +kernel) ⟨Nat.le_of_ble_eq_true rfl, Nat.le_of_ble_eq_true rfl⟩) (x_preV hK hP hD 0 rfl rfl) rfl rfl hl.1 rfl (lv_room (Nat.le_of_ble_eq_true rfl)) xd_Mo_shown_115 ⟨Nat.le_of_ble_eq_true rfl, Nat.le_of_ble_eq_true rfl⟩) hS (fun q _ h => hFc q h) hFc (fun r81 u82 t H1 locs ht hvm hp83 hB hz1 hk1 hS => ?_)
                obtain ⟨hP1, hD1⟩ := hB
                rw [ht] at hP1
                have hD1 := hD1.weaken (fun _ _ _ h => hFc _ h)
                generalize H1 = H at hP1 hS ⊢
                have hP := hP1
                have hD := hD1
                have hP : va_P D xcl (moW h mm kA v g) H := hP
                have hD : va_D A (moW h mm kA v g) := hD
                rcases hp83 with ⟨rfl, z84⟩ | ⟨rfl, z85, z86⟩
                · refine xz_eq (a := 1) (tgt := 124) hx hb xd_Mo_shown_118 (by decide) (by omega) (fun hc87 => absurd hc87 (by omega)) (fun _ => ?_)
                  refine lv_bipush (v := (-2)) hx hb xd_Mo_shown_121 (by decide) ?_
                  exact W.iret (v := (-2)) hx hb hr (fun t ht hW => ⟨⟨(-2), (v, g), rfl, ⟨hMI, rfl, Or.inr (Or.inl rfl)⟩, by rw [ht]; exact hP, hD⟩, hS.F ht⟩) hS.2.2 xd_Mo_shown_123
                · refine xz_eq (a := 0) (tgt := 124) hx hb xd_Mo_shown_118 (by decide) (by omega) (fun _ => ?_) (fun hc88 => absurd hc88 (by omega))
                  refine lv_aload_n hx hb xd_Mo_shown_124 rfl (lv_at hl 4 rfl) ?_
                  refine va_get (D := D) (ci := 4) (v := .int (v 3)) (C := xR_Mo) (T := xT_Mo) (N := 31) hx hb hT xi_Mo hown hK.1 hP 0 rfl rfl 4 (by decide) (hT _ xp_0) (fun _ h9 => h9) rfl xd_Mo_shown_125 ?_
                  refine xn_top (x := (v 3)) (y := nI wn) hwn ?_
                  refine lv_iconst (v := 2) hx hb xd_Mo_shown_128 (by decide) ?_
                  refine xn_ne (a := wn) (b := 2) (tgt := 157) hx hb xd_Mo_shown_129 (by decide) (by omega) (by omega) (fun _ => ?_) (fun hc89 => absurd hc89 (by omega))
                  refine lv_iconst (v := 3) hx hb xd_Mo_shown_157 (by decide) ?_
                  refine lv_iload hx hb xd_Mo_shown_158 (lv_at hl 0 rfl) ?_
                  refine lv_imul hx hb xd_Mo_shown_160 ?_
                  refine xn_top (y := nI (3 * z75)) (pk_mul 3 z75) ?_
                  refine lv_istore hx hb xd_Mo_shown_161 hl (Nat.le_of_ble_eq_true rfl) rfl (fun ls hl => ?_)
                  have hl : lv_has ls 8 [(6, .int (nI (3 * z75))), (5, .int (nI z75)), (4, .int (nI (nd - 1))), (3, .int r56), (2, .int r41), (0, .ref h), (1, .int zz)] := hl
                  refine xlab (σ := Nat) (ml := 8) 163 (fun (i : Nat) => [(6, .int (nI i)), (0, .ref h), (1, .int zz), (3, .int r56), (5, .int (nI z75))]) (fun (i : Nat) => []) (fun (i : Nat) => moW h mm kA v g) (fun (i : Nat) => (3 * z75 ≤ i) ∧ (i ≤ 3 * z75 + 3)) (fun (i : Nat) => 3 * z75 + 3 - i) ?_ (3 * z75) _ _ _ (lv_sub hl [0, 5, 6, 3, 1] rfl) hP hD hS ⟨(show 3 * z75 ≤ (3 * z75) from by first | assumption | omega), (show (3 * z75) ≤ 3 * z75 + 3 from by first | assumption | omega)⟩
                  intro n9 ih90 a9 ls H locs hμ hl hP hD hS hI
                  subst hμ
                  obtain ⟨i, rfl⟩ : ∃ z, z = a9 := ⟨_, rfl⟩
                  obtain ⟨hi1, hi2⟩ := hI
                  have hi1 : 3 * z75 ≤ i := hi1
                  have hi2 : i ≤ 3 * z75 + 3 := hi2
                  have hl : lv_has ls 8 [(6, .int (nI i)), (0, .ref h), (1, .int zz), (3, .int r56), (5, .int (nI z75))] := hl
                  have hP : va_P D xcl (moW h mm kA v g) H := hP
                  have hD : va_D A (moW h mm kA v g) := hD
                  refine lv_iload hx hb xd_Mo_shown_163 (lv_at hl 0 rfl) ?_
                  refine lv_iconst (v := 3) hx hb xd_Mo_shown_165 (by decide) ?_
                  refine lv_iload hx hb xd_Mo_shown_166 (lv_at hl 4 rfl) ?_
                  refine lv_imul hx hb xd_Mo_shown_168 ?_
                  refine xn_top (y := nI (3 * z75)) (pk_mul 3 z75) ?_
                  refine lv_iconst (v := 3) hx hb xd_Mo_shown_169 (by decide) ?_
                  refine lv_iadd hx hb xd_Mo_shown_170 ?_
                  refine xn_top (y := nI ((3 * z75) + 3)) (nI_add (3 * z75) 3) ?_
                  refine xn_ge (a := i) (b := (3 * z75) + 3) (tgt := 241) hx hb xd_Mo_shown_171 (by decide) (by omega) (by omega) (fun hc91 => ?_) (fun hc91 => ?_)
                  · refine lv_bipush (v := (-2)) hx hb xd_Mo_shown_241 (by decide) ?_
                    exact W.iret (v := (-2)) hx hb hr (fun t ht hW => ⟨⟨(-2), (v, g), rfl, ⟨hMI, rfl, Or.inr (Or.inl rfl)⟩, by rw [ht]; exact hP, hD⟩, hS.F ht⟩) hS.2.2 xd_Mo_shown_243
                  · refine lv_iload_n hx hb xd_Mo_shown_174 rfl (lv_at hl 2 rfl) ?_
                    refine lv_if_eq (tgt := 188) hx hb xd_Mo_shown_175 (by decide) (fun hc92 => ?_) (fun hc92 => ?_)
                    · refine lv_aload_n hx hb xd_Mo_shown_188 rfl (lv_at hl 1 rfl) ?_
                      refine va_get (D := D) (ci := 4) (v := .ref (mm 7)) (C := xR_Mo) (T := xT_Mo) (N := 31) hx hb hT xi_Mo hown hK.1 hP 0 rfl rfl 12 (by decide) (hT _ xp_24) (fun _ h9 => h9) rfl xd_Mo_shown_189 ?_
                      refine lv_iload hx hb xd_Mo_shown_192 (lv_at hl 0 rfl) ?_
                      refine xn_iald (i := i) hx hb hK.1 hP 8 0 rfl rfl (by omega) (by decide) xd_Mo_shown_194 ?_
                      refine lv_istore hx hb xd_Mo_shown_195 hl (Nat.le_of_ble_eq_true rfl) rfl (fun ls hl => ?_)
                      have hl : lv_has ls 8 [(7, .int (g 7 i)), (6, .int (nI i)), (0, .ref h), (1, .int zz), (3, .int r56), (5, .int (nI z75))] := hl
                      refine lv_iload hx hb xd_Mo_shown_197 (lv_at hl 0 rfl) ?_
                      refine lv_iload_n hx hb xd_Mo_shown_199 rfl (lv_at hl 4 rfl) ?_
                      refine lv_icmp_ne (tgt := 205) hx hb xd_Mo_shown_200 (by decide) (fun hc93 => ?_) (fun hc93 => ?_)
                      · refine lv_iload hx hb xd_Mo_shown_205 (lv_at hl 0 rfl) ?_
                        refine lv_if_ne (tgt := 235) hx hb xd_Mo_shown_207 (by decide) (fun hc94 => ?_) (fun hc94 => ?_)
                        · refine lv_iinc (k := 1) (x := (nI i)) (v := (nI (i + 1))) hx hb xd_Mo_shown_235 hl rfl (xb_inc i 1) (Nat.le_of_ble_eq_true rfl) rfl (fun ls hl => ?_)
                          have hl : lv_has ls 8 [(6, .int (nI (i + 1))), (7, .int (g 7 i)), (0, .ref h), (1, .int zz), (3, .int r56), (5, .int (nI z75))] := hl
                          refine lv_goto (tgt := 163) hx hb xd_Mo_shown_238 (by decide) ?_
                          exact ih90 (i + 1) _ _ _ (show 3 * z75 + 3 - (i + 1) < 3 * z75 + 3 - i by omega) (lv_sub hl [0, 2, 3, 4, 5] rfl) hP hD hS ⟨(show 3 * z75 ≤ (i + 1) from by first | assumption | omega), (show (i + 1) ≤ 3 * z75 + 3 from by first | assumption | omega)⟩
                        · refine lv_iload_n hx hb xd_Mo_shown_210 rfl (lv_at hl 3 rfl) ?_
                          refine lv_if_eq (tgt := 225) hx hb xd_Mo_shown_211 (by decide) (fun hc95 => ?_) (fun hc95 => ?_)
                          · refine lv_aload_n hx hb xd_Mo_shown_225 rfl (lv_at hl 2 rfl) ?_
                            refine va_get (D := D) (ci := 4) (v := .ref (mm 7)) (C := xR_Mo) (T := xT_Mo) (N := 31) hx hb hT xi_Mo hown hK.1 hP 0 rfl rfl 12 (by decide) (hT _ xp_24) (fun _ h9 => h9) rfl xd_Mo_shown_226 ?_
                            refine lv_iload hx hb xd_Mo_shown_229 (lv_at hl 1 rfl) ?_
                            refine lv_iload_n hx hb xd_Mo_shown_231 rfl (lv_at hl 4 rfl) ?_
                            refine xn_iast (i := i) hx hb hK.1 hP hD hS 8 0 rfl rfl (by omega) (by decide) xd_Mo_shown_232 (fun H locs hP hD hS => ?_)
                            have hP : va_P D xcl (moW h mm kA v (va_up g 7 (upd (g 7) i r56))) H := hP
                            have hD : va_D A (moW h mm kA v (va_up g 7 (upd (g 7) i r56))) := hD
                            refine lv_iconst (v := 2) hx hb xd_Mo_shown_233 (by decide) ?_
                            exact W.iret (v := 2) hx hb hr (fun t ht hW => ⟨⟨2, (v, (va_up g 7 (upd (g 7) i r56))), rfl, ⟨MI_g rfl rfl rfl rfl rfl rfl rfl rfl hMI, rfl, Or.inr (Or.inr (Or.inr rfl))⟩, by rw [ht]; exact hP, hD⟩, hS.F ht⟩) hS.2.2 xd_Mo_shown_234
                          · refine lv_aload_n hx hb xd_Mo_shown_214 rfl (lv_at hl 2 rfl) ?_
                            refine va_get (D := D) (ci := 4) (v := .ref (mm 8)) (C := xR_Mo) (T := xT_Mo) (N := 31) hx hb hT xi_Mo hown hK.1 hP 0 rfl rfl 13 (by decide) (hT _ xp_25) (fun _ h9 => h9) rfl xd_Mo_shown_215 ?_
                            refine lv_iload hx hb xd_Mo_shown_218 (lv_at hl 1 rfl) ?_
                            refine lv_iload_n hx hb xd_Mo_shown_220 rfl (lv_at hl 4 rfl) ?_
                            refine xn_iast (i := i) hx hb hK.1 hP hD hS 9 0 rfl rfl (by omega) (by decide) xd_Mo_shown_221 (fun H locs hP hD hS => ?_)
                            have hP : va_P D xcl (moW h mm kA v (va_up g 8 (upd (g 8) i r56))) H := hP
                            have hD : va_D A (moW h mm kA v (va_up g 8 (upd (g 8) i r56))) := hD
                            refine lv_goto (tgt := 233) hx hb xd_Mo_shown_222 (by decide) ?_
                            refine lv_iconst (v := 2) hx hb xd_Mo_shown_233 (by decide) ?_
                            exact W.iret (v := 2) hx hb hr (fun t ht hW => ⟨⟨2, (v, (va_up g 8 (upd (g 8) i r56))), rfl, ⟨MI_g rfl rfl rfl rfl rfl rfl rfl rfl hMI, rfl, Or.inr (Or.inr (Or.inr rfl))⟩, by rw [ht]; exact hP, hD⟩, hS.F ht⟩) hS.2.2 xd_Mo_shown_234
                      · refine lv_iconst (v := 2) hx hb xd_Mo_shown_203 (by decide) ?_
                        exact W.iret (v := 2) hx hb hr (fun t ht hW => ⟨⟨2, (v, g), rfl, ⟨hMI, rfl, Or.inr (Or.inr (Or.inr rfl))⟩, by rw [ht]; exact hP, hD⟩, hS.F ht⟩) hS.2.2 xd_Mo_shown_204
                    · refine lv_aload_n hx hb xd_Mo_shown_178 rfl (lv_at hl 1 rfl) ?_
                      refine va_get (D := D) (ci := 4) (v := .ref (mm 8)) (C := xR_Mo) (T := xT_Mo) (N := 31) hx hb hT xi_Mo hown hK.1 hP 0 rfl rfl 13 (by decide) (hT _ xp_25) (fun _ h9 => h9) rfl xd_Mo_shown_179 ?_
                      refine lv_iload hx hb xd_Mo_shown_182 (lv_at hl 0 rfl) ?_
                      refine xn_iald (i := i) hx hb hK.1 hP 9 0 rfl rfl (by omega) (by decide) xd_Mo_shown_184 ?_
                      refine lv_goto (tgt := 195) hx hb xd_Mo_shown_185 (by decide) ?_
                      refine lv_istore hx hb xd_Mo_shown_195 hl (Nat.le_of_ble_eq_true rfl) rfl (fun ls hl => ?_)
                      have hl : lv_has ls 8 [(7, .int (g 8 i)), (6, .int (nI i)), (0, .ref h), (1, .int zz), (3, .int r56), (5, .int (nI z75))] := hl
                      refine lv_iload hx hb xd_Mo_shown_197 (lv_at hl 0 rfl) ?_
                      refine lv_iload_n hx hb xd_Mo_shown_199 rfl (lv_at hl 4 rfl) ?_
                      refine lv_icmp_ne (tgt := 205) hx hb xd_Mo_shown_200 (by decide) (fun hc96 => ?_) (fun hc96 => ?_)
                      · refine lv_iload hx hb xd_Mo_shown_205 (lv_at hl 0 rfl) ?_
                        refine lv_if_ne (tgt := 235) hx hb xd_Mo_shown_207 (by decide) (fun hc97 => ?_) (fun hc97 => ?_)
                        · refine lv_iinc (k := 1) (x := (nI i)) (v := (nI (i + 1))) hx hb xd_Mo_shown_235 hl rfl (xb_inc i 1) (Nat.le_of_ble_eq_true rfl) rfl (fun ls hl => ?_)
                          have hl : lv_has ls 8 [(6, .int (nI (i + 1))), (7, .int (g 8 i)), (0, .ref h), (1, .int zz), (3, .int r56), (5, .int (nI z75))] := hl
                          refine lv_goto (tgt := 163) hx hb xd_Mo_shown_238 (by decide) ?_
                          exact ih90 (i + 1) _ _ _ (show 3 * z75 + 3 - (i + 1) < 3 * z75 + 3 - i by omega) (lv_sub hl [0, 2, 3, 4, 5] rfl) hP hD hS ⟨(show 3 * z75 ≤ (i + 1) from by first | assumption | omega), (show (i + 1) ≤ 3 * z75 + 3 from by first | assumption | omega)⟩
                        · refine lv_iload_n hx hb xd_Mo_shown_210 rfl (lv_at hl 3 rfl) ?_
                          refine lv_if_eq (tgt := 225) hx hb xd_Mo_shown_211 (by decide) (fun hc98 => ?_) (fun hc98 => ?_)
                          · refine lv_aload_n hx hb xd_Mo_shown_225 rfl (lv_at hl 2 rfl) ?_
                            refine va_get (D := D) (ci := 4) (v := .ref (mm 7)) (C := xR_Mo) (T := xT_Mo) (N := 31) hx hb hT xi_Mo hown hK.1 hP 0 rfl rfl 12 (by decide) (hT _ xp_24) (fun _ h9 => h9) rfl xd_Mo_shown_226 ?_
                            refine lv_iload hx hb xd_Mo_shown_229 (lv_at hl 1 rfl) ?_
                            refine lv_iload_n hx hb xd_Mo_shown_231 rfl (lv_at hl 4 rfl) ?_
                            refine xn_iast (i := i) hx hb hK.1 hP hD hS 8 0 rfl rfl (by omega) (by decide) xd_Mo_shown_232 (fun H locs hP hD hS => ?_)
                            have hP : va_P D xcl (moW h mm kA v (va_up g 7 (upd (g 7) i r56))) H := hP
                            have hD : va_D A (moW h mm kA v (va_up g 7 (upd (g 7) i r56))) := hD
                            refine lv_iconst (v := 2) hx hb xd_Mo_shown_233 (by decide) ?_
                            exact W.iret (v := 2) hx hb hr (fun t ht hW => ⟨⟨2, (v, (va_up g 7 (upd (g 7) i r56))), rfl, ⟨MI_g rfl rfl rfl rfl rfl rfl rfl rfl hMI, rfl, Or.inr (Or.inr (Or.inr rfl))⟩, by rw [ht]; exact hP, hD⟩, hS.F ht⟩) hS.2.2 xd_Mo_shown_234
                          · refine lv_aload_n hx hb xd_Mo_shown_214 rfl (lv_at hl 2 rfl) ?_
                            refine va_get (D := D) (ci := 4) (v := .ref (mm 8)) (C := xR_Mo) (T := xT_Mo) (N := 31) hx hb hT xi_Mo hown hK.1 hP 0 rfl rfl 13 (by decide) (hT _ xp_25) (fun _ h9 => h9) rfl xd_Mo_shown_215 ?_
                            refine lv_iload hx hb xd_Mo_shown_218 (lv_at hl 1 rfl) ?_
                            refine lv_iload_n hx hb xd_Mo_shown_220 rfl (lv_at hl 4 rfl) ?_
                            refine xn_iast (i := i) hx hb hK.1 hP hD hS 9 0 rfl rfl (by omega) (by decide) xd_Mo_shown_221 (fun H locs hP hD hS => ?_)
                            have hP : va_P D xcl (moW h mm kA v (va_up g 8 (upd (g 8) i r56))) H := hP
                            have hD : va_D A (moW h mm kA v (va_up g 8 (upd (g 8) i r56))) := hD
                            refine lv_goto (tgt := 233) hx hb xd_Mo_shown_222 (by decide) ?_
                            refine lv_iconst (v := 2) hx hb xd_Mo_shown_233 (by decide) ?_
                            exact W.iret (v := 2) hx hb hr (fun t ht hW => ⟨⟨2, (v, (va_up g 8 (upd (g 8) i r56))), rfl, ⟨MI_g rfl rfl rfl rfl rfl rfl rfl rfl hMI, rfl, Or.inr (Or.inr (Or.inr rfl))⟩, by rw [ht]; exact hP, hD⟩, hS.F ht⟩) hS.2.2 xd_Mo_shown_234
                      · refine lv_iconst (v := 2) hx hb xd_Mo_shown_203 (by decide) ?_
                        exact W.iret (v := 2) hx hb hr (fun t ht hW => ⟨⟨2, (v, g), rfl, ⟨hMI, rfl, Or.inr (Or.inr (Or.inr rfl))⟩, by rw [ht]; exact hP, hD⟩, hS.F ht⟩) hS.2.2 xd_Mo_shown_204
              · refine lv_goto (tgt := 105) hx hb xd_Mo_shown_101 (by decide) ?_
                refine lv_istore hx hb xd_Mo_shown_105 hl (Nat.le_of_ble_eq_true rfl) rfl (fun ls hl => ?_)
                have hl : lv_has ls 8 [(5, .int (-1)), (4, .int (nI (nd - 1))), (3, .int r56), (2, .int r41), (0, .ref h), (1, .int zz)] := hl
                refine lv_iload hx hb xd_Mo_shown_107 (lv_at hl 0 rfl) ?_
                refine lv_if_ge (tgt := 114) hx hb xd_Mo_shown_109 (by decide) (fun hc99 => absurd hc99 (by decide)) (fun _ => ?_)
                refine lv_iconst (v := (-1)) hx hb xd_Mo_shown_112 (by decide) ?_
                exact W.iret (v := (-1)) hx hb hr (fun t ht hW => ⟨⟨(-1), (v, g), rfl, ⟨hMI, rfl, Or.inl rfl⟩, by rw [ht]; exact hP, hD⟩, hS.F ht⟩) hS.2.2 xd_Mo_shown_113
          · refine lv_iconst (v := (-1)) hx hb xd_Mo_shown_79 (by decide) ?_
            exact W.iret (v := (-1)) hx hb hr (fun t ht hW => ⟨⟨(-1), (v, g), rfl, ⟨hMI, rfl, Or.inl rfl⟩, by rw [ht]; exact hP, hD⟩, hS.F ht⟩) hS.2.2 xd_Mo_shown_80
