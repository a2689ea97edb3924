abbrev xb_Ch_draft : ByteArray := prog_2_method_5_code
def xy_Ch_draft : MethodName := ⟨"LayerDesk$Chooser", "draft", "(I)LLayerDesk$Layer;"⟩
abbrev xb_De_faultOf : ByteArray := prog_1_method_19_code
def xy_De_faultOf : MethodName := ⟨"LayerDesk", "faultOf", "(LLayerDesk$Layer;)I"⟩
abbrev xb_De_keep : ByteArray := prog_1_method_20_code
def xy_De_keep : MethodName := ⟨"LayerDesk", "keep", "(LLayerDesk$Layer;)V"⟩
theorem xd_Ch_draft_0 : decode xb_Ch_draft 0 = .ok (.new 39, 3) := by decide +kernel
theorem xd_Ch_draft_3 : decode xb_Ch_draft 3 = .ok (.dup, 1) := by decide +kernel
theorem xd_Ch_draft_4 : decode xb_Ch_draft 4 = .ok (.iload_n 1, 1) := by decide +kernel
theorem xd_Ch_draft_5 : decode xb_Ch_draft 5 = .ok (.aload_n 0, 1) := by decide +kernel
theorem xd_Ch_draft_6 : decode xb_Ch_draft 6 = .ok (.getfield 24, 3) := by decide +kernel
theorem xd_Ch_draft_9 : decode xb_Ch_draft 9 = .ok (.aload_n 0, 1) := by decide +kernel
theorem xd_Ch_draft_10 : decode xb_Ch_draft 10 = .ok (.getfield 17, 3) := by decide +kernel
theorem xd_Ch_draft_13 : decode xb_Ch_draft 13 = .ok (.invokespecial 41, 3) := by decide +kernel
theorem xd_Ch_draft_16 : decode xb_Ch_draft 16 = .ok (.astore_n 2, 1) := by decide +kernel
theorem xd_Ch_draft_17 : decode xb_Ch_draft 17 = .ok (.iconst 0, 1) := by decide +kernel
theorem xd_Ch_draft_18 : decode xb_Ch_draft 18 = .ok (.istore_n 3, 1) := by decide +kernel
theorem xd_Ch_draft_19 : decode xb_Ch_draft 19 = .ok (.iload_n 3, 1) := by decide +kernel
theorem xd_Ch_draft_20 : decode xb_Ch_draft 20 = .ok (.aload_n 0, 1) := by decide +kernel
theorem xd_Ch_draft_21 : decode xb_Ch_draft 21 = .ok (.getfield 17, 3) := by decide +kernel
theorem xd_Ch_draft_24 : decode xb_Ch_draft 24 = .ok (.if_icmp .ge 29, 3) := by decide +kernel
theorem xd_Ch_draft_27 : decode xb_Ch_draft 27 = .ok (.aload_n 2, 1) := by decide +kernel
theorem xd_Ch_draft_28 : decode xb_Ch_draft 28 = .ok (.getfield 44, 3) := by decide +kernel
theorem xd_Ch_draft_31 : decode xb_Ch_draft 31 = .ok (.iload_n 3, 1) := by decide +kernel
theorem xd_Ch_draft_32 : decode xb_Ch_draft 32 = .ok (.new 48, 3) := by decide +kernel
theorem xd_Ch_draft_35 : decode xb_Ch_draft 35 = .ok (.dup, 1) := by decide +kernel
theorem xd_Ch_draft_36 : decode xb_Ch_draft 36 = .ok (.aload_n 2, 1) := by decide +kernel
theorem xd_Ch_draft_37 : decode xb_Ch_draft 37 = .ok (.aload_n 0, 1) := by decide +kernel
theorem xd_Ch_draft_38 : decode xb_Ch_draft 38 = .ok (.getfield 11, 3) := by decide +kernel
theorem xd_Ch_draft_41 : decode xb_Ch_draft 41 = .ok (.iload_n 3, 1) := by decide +kernel
theorem xd_Ch_draft_42 : decode xb_Ch_draft 42 = .ok (.aaload, 1) := by decide +kernel
theorem xd_Ch_draft_43 : decode xb_Ch_draft 43 = .ok (.invokespecial 50, 3) := by decide +kernel
theorem xd_Ch_draft_46 : decode xb_Ch_draft 46 = .ok (.aastore, 1) := by decide +kernel
theorem xd_Ch_draft_47 : decode xb_Ch_draft 47 = .ok (.iinc 3 1, 3) := by decide +kernel
theorem xd_Ch_draft_50 : decode xb_Ch_draft 50 = .ok (.goto (-31), 3) := by decide +kernel
theorem xd_Ch_draft_53 : decode xb_Ch_draft 53 = .ok (.aload_n 2, 1) := by decide +kernel
theorem xd_Ch_draft_54 : decode xb_Ch_draft 54 = .ok (.invokevirtual 53, 3) := by decide +kernel
theorem xd_Ch_draft_57 : decode xb_Ch_draft 57 = .ok (.aload_n 2, 1) := by decide +kernel
theorem xd_Ch_draft_58 : decode xb_Ch_draft 58 = .ok (.areturn, 1) := by decide +kernel
theorem xd_De_faultOf_0 : decode xb_De_faultOf 0 = .ok (.aload_n 1, 1) := by decide +kernel
theorem xd_De_faultOf_1 : decode xb_De_faultOf 1 = .ok (.invokevirtual 208, 3) := by decide +kernel
theorem xd_De_faultOf_4 : decode xb_De_faultOf 4 = .ok (.ifCond .eq 5, 3) := by decide +kernel
theorem xd_De_faultOf_7 : decode xb_De_faultOf 7 = .ok (.iconst 1, 1) := by decide +kernel
theorem xd_De_faultOf_8 : decode xb_De_faultOf 8 = .ok (.ireturn, 1) := by decide +kernel
theorem xd_De_faultOf_9 : decode xb_De_faultOf 9 = .ok (.aload_n 1, 1) := by decide +kernel
theorem xd_De_faultOf_10 : decode xb_De_faultOf 10 = .ok (.invokevirtual 211, 3) := by decide +kernel
theorem xd_De_faultOf_13 : decode xb_De_faultOf 13 = .ok (.ifCond .eq 5, 3) := by decide +kernel
theorem xd_De_faultOf_16 : decode xb_De_faultOf 16 = .ok (.iconst 2, 1) := by decide +kernel
theorem xd_De_faultOf_17 : decode xb_De_faultOf 17 = .ok (.ireturn, 1) := by decide +kernel
theorem xd_De_faultOf_18 : decode xb_De_faultOf 18 = .ok (.aload_n 0, 1) := by decide +kernel
theorem xd_De_faultOf_19 : decode xb_De_faultOf 19 = .ok (.getfield 38, 3) := by decide +kernel
theorem xd_De_faultOf_22 : decode xb_De_faultOf 22 = .ok (.iconst 5, 1) := by decide +kernel
theorem xd_De_faultOf_23 : decode xb_De_faultOf 23 = .ok (.if_icmp .lt 7, 3) := by decide +kernel
theorem xd_De_faultOf_26 : decode xb_De_faultOf 26 = .ok (.iconst 3, 1) := by decide +kernel
theorem xd_De_faultOf_27 : decode xb_De_faultOf 27 = .ok (.goto 4, 3) := by decide +kernel
theorem xd_De_faultOf_30 : decode xb_De_faultOf 30 = .ok (.iconst 0, 1) := by decide +kernel
theorem xd_De_faultOf_31 : decode xb_De_faultOf 31 = .ok (.ireturn, 1) := by decide +kernel
theorem xd_De_keep_0 : decode xb_De_keep 0 = .ok (.aload_n 0, 1) := by decide +kernel
theorem xd_De_keep_1 : decode xb_De_keep 1 = .ok (.getfield 38, 3) := by decide +kernel
theorem xd_De_keep_4 : decode xb_De_keep 4 = .ok (.iconst 5, 1) := by decide +kernel
theorem xd_De_keep_5 : decode xb_De_keep 5 = .ok (.if_icmp .lt 4, 3) := by decide +kernel
theorem xd_De_keep_9 : decode xb_De_keep 9 = .ok (.aload_n 0, 1) := by decide +kernel
theorem xd_De_keep_10 : decode xb_De_keep 10 = .ok (.getfield 34, 3) := by decide +kernel
theorem xd_De_keep_13 : decode xb_De_keep 13 = .ok (.aload_n 0, 1) := by decide +kernel
theorem xd_De_keep_14 : decode xb_De_keep 14 = .ok (.getfield 38, 3) := by decide +kernel
theorem xd_De_keep_17 : decode xb_De_keep 17 = .ok (.aload_n 1, 1) := by decide +kernel
theorem xd_De_keep_18 : decode xb_De_keep 18 = .ok (.aastore, 1) := by decide +kernel
theorem xd_De_keep_19 : decode xb_De_keep 19 = .ok (.aload_n 0, 1) := by decide +kernel
theorem xd_De_keep_20 : decode xb_De_keep 20 = .ok (.dup, 1) := by decide +kernel
theorem xd_De_keep_21 : decode xb_De_keep 21 = .ok (.getfield 38, 3) := by decide +kernel
theorem xd_De_keep_24 : decode xb_De_keep 24 = .ok (.iconst 1, 1) := by decide +kernel
theorem xd_De_keep_25 : decode xb_De_keep 25 = .ok (.iadd, 1) := by decide +kernel
theorem xd_De_keep_26 : decode xb_De_keep 26 = .ok (.putfield 38, 3) := by decide +kernel
theorem xd_De_keep_29 : decode xb_De_keep 29 = .ok (.iconst 0, 1) := by decide +kernel
theorem xd_De_keep_30 : decode xb_De_keep 30 = .ok (.istore_n 2, 1) := by decide +kernel
theorem xd_De_keep_31 : decode xb_De_keep 31 = .ok (.iload_n 2, 1) := by decide +kernel
theorem xd_De_keep_32 : decode xb_De_keep 32 = .ok (.aload_n 1, 1) := by decide +kernel
theorem xd_De_keep_33 : decode xb_De_keep 33 = .ok (.getfield 128, 3) := by decide +kernel
theorem xd_De_keep_36 : decode xb_De_keep 36 = .ok (.arraylength, 1) := by decide +kernel
theorem xd_De_keep_37 : decode xb_De_keep 37 = .ok (.if_icmp .ge 22, 3) := by decide +kernel
theorem xd_De_keep_40 : decode xb_De_keep 40 = .ok (.aload_n 1, 1) := by decide +kernel
theorem xd_De_keep_41 : decode xb_De_keep 41 = .ok (.getfield 128, 3) := by decide +kernel
theorem xd_De_keep_44 : decode xb_De_keep 44 = .ok (.iload_n 2, 1) := by decide +kernel
theorem xd_De_keep_45 : decode xb_De_keep 45 = .ok (.aaload, 1) := by decide +kernel
theorem xd_De_keep_46 : decode xb_De_keep 46 = .ok (.getfield 136, 3) := by decide +kernel
theorem xd_De_keep_49 : decode xb_De_keep 49 = .ok (.iconst 1, 1) := by decide +kernel
theorem xd_De_keep_50 : decode xb_De_keep 50 = .ok (.putfield 214, 3) := by decide +kernel
theorem xd_De_keep_53 : decode xb_De_keep 53 = .ok (.iinc 2 1, 3) := by decide +kernel
theorem xd_De_keep_56 : decode xb_De_keep 56 = .ok (.goto (-25), 3) := by decide +kernel
theorem xd_De_keep_59 : decode xb_De_keep 59 = .ok (.return_, 1) := by decide +kernel
theorem yu_0 : (Cond.classLink "LayerDesk$Chooser" 39 "LayerDesk$Layer") ∈ wT := wT_t (List.mem_append_right _ (List.mem_append_right _ (List.mem_append_left _ (List.mem_of_getElem? (i := 131) rfl)))) rfl
theorem yu_1 : (Cond.instantiable "LayerDesk$Layer" 4) ∈ wT := wT_t (List.mem_append_right _ (List.mem_append_right _ (List.mem_append_left _ (List.mem_of_getElem? (i := 132) rfl)))) rfl
theorem yu_2 : (Cond.initialized "LayerDesk$Layer") ∈ wT := wT_t (List.mem_append_left _ (List.mem_of_getElem? (i := 19) rfl)) rfl
theorem yu_3 : (Cond.fieldLink "LayerDesk$Chooser" 24 "LayerDesk$Chooser" "parent" "LLayerDesk$Layer;") ∈ wT := wT_t (List.mem_append_left _ (List.mem_of_getElem? (i := 85) rfl)) rfl
theorem yu_4 : (Cond.fieldLink "LayerDesk$Chooser" 17 "LayerDesk$Chooser" "size" "I") ∈ wT := wT_t (List.mem_append_left _ (List.mem_of_getElem? (i := 83) rfl)) rfl
theorem yu_5 : (Cond.code xy_Ly_init xb_Ly_init 4 none) ∈ wT := wT_t (List.mem_append_right _ (List.mem_append_right _ (List.mem_append_left _ (List.mem_of_getElem? (i := 135) rfl)))) rfl
theorem yu_6 : (Cond.methodLink "LayerDesk$Chooser" 41 xy_Ly_init) ∈ wT := wT_t (List.mem_append_right _ (List.mem_append_right _ (List.mem_append_left _ (List.mem_of_getElem? (i := 133) rfl)))) rfl
theorem yu_7 : (Cond.instanceMethod xy_Ly_init) ∈ wT := wT_t (List.mem_append_right _ (List.mem_append_right _ (List.mem_append_left _ (List.mem_of_getElem? (i := 134) rfl)))) rfl
theorem yu_8 : (Cond.code xy_Ly_connect xb_Ly_connect 4 none) ∈ wT := wT_t (List.mem_append_right _ (List.mem_append_right _ (List.mem_append_left _ (List.mem_of_getElem? (i := 209) rfl)))) rfl
theorem yu_9 : (Cond.methodLink "LayerDesk$Chooser" 53 xy_Ly_connect) ∈ wT := wT_t (List.mem_append_right _ (List.mem_append_right _ (List.mem_append_left _ (List.mem_of_getElem? (i := 206) rfl)))) rfl
theorem yu_10 : (Cond.instanceMethod xy_Ly_connect) ∈ wT := wT_t (List.mem_append_right _ (List.mem_append_right _ (List.mem_append_left _ (List.mem_of_getElem? (i := 207) rfl)))) rfl
theorem yu_11 : (Cond.selects "LayerDesk$Layer" xy_Ly_connect xy_Ly_connect) ∈ wT := wT_t (List.mem_append_right _ (List.mem_append_right _ (List.mem_append_left _ (List.mem_of_getElem? (i := 208) rfl)))) rfl
theorem yu_12 : (Cond.fieldLink "LayerDesk$Chooser" 44 "LayerDesk$Layer" "members" "[LLayerDesk$Member;") ∈ wT := wT_t (List.mem_append_right _ (List.mem_append_right _ (List.mem_append_left _ (List.mem_of_getElem? (i := 149) rfl)))) rfl
theorem yu_13 : (Cond.classLink "LayerDesk$Chooser" 48 "LayerDesk$Member") ∈ wT := wT_t (List.mem_append_right _ (List.mem_append_right _ (List.mem_append_left _ (List.mem_of_getElem? (i := 162) rfl)))) rfl
theorem yu_14 : (Cond.instantiable "LayerDesk$Member" 6) ∈ wT := wT_t (List.mem_append_right _ (List.mem_append_right _ (List.mem_append_left _ (List.mem_of_getElem? (i := 163) rfl)))) rfl
theorem yu_15 : (Cond.initialized "LayerDesk$Member") ∈ wT := wT_t (List.mem_append_left _ (List.mem_of_getElem? (i := 20) rfl)) rfl
theorem yu_16 : (Cond.fieldLink "LayerDesk$Chooser" 11 "LayerDesk$Chooser" "chosen" "[LLayerDesk$Descriptor;") ∈ wT := wT_t (List.mem_append_left _ (List.mem_of_getElem? (i := 82) rfl)) rfl
theorem yu_17 : (Cond.code xy_Me_init xb_Me_init 3 none) ∈ wT := wT_t (List.mem_append_right _ (List.mem_append_right _ (List.mem_append_left _ (List.mem_of_getElem? (i := 166) rfl)))) rfl
theorem yu_18 : (Cond.methodLink "LayerDesk$Chooser" 50 xy_Me_init) ∈ wT := wT_t (List.mem_append_right _ (List.mem_append_right _ (List.mem_append_left _ (List.mem_of_getElem? (i := 164) rfl)))) rfl
theorem yu_19 : (Cond.instanceMethod xy_Me_init) ∈ wT := wT_t (List.mem_append_right _ (List.mem_append_right _ (List.mem_append_left _ (List.mem_of_getElem? (i := 165) rfl)))) rfl
theorem yu_20 : (Cond.code xy_Ly_hasCycle xb_Ly_hasCycle 2 (some .boolean)) ∈ wT := wT_t (List.mem_append_right _ (List.mem_append_right _ (List.mem_append_right _ (List.mem_append_left _ (List.mem_of_getElem? (i := 7) rfl))))) rfl
theorem yu_21 : (Cond.methodLink "LayerDesk" 208 xy_Ly_hasCycle) ∈ wT := wT_t (List.mem_append_right _ (List.mem_append_right _ (List.mem_append_right _ (List.mem_append_left _ (List.mem_of_getElem? (i := 4) rfl))))) rfl
theorem yu_22 : (Cond.instanceMethod xy_Ly_hasCycle) ∈ wT := wT_t (List.mem_append_right _ (List.mem_append_right _ (List.mem_append_right _ (List.mem_append_left _ (List.mem_of_getElem? (i := 5) rfl))))) rfl
theorem yu_23 : (Cond.selects "LayerDesk$Layer" xy_Ly_hasCycle xy_Ly_hasCycle) ∈ wT := wT_t (List.mem_append_right _ (List.mem_append_right _ (List.mem_append_right _ (List.mem_append_left _ (List.mem_of_getElem? (i := 6) rfl))))) rfl
theorem yu_24 : (Cond.code xy_Ly_hasSplit xb_Ly_hasSplit 4 (some .boolean)) ∈ wT := wT_t (List.mem_append_right _ (List.mem_append_right _ (List.mem_append_right _ (List.mem_append_left _ (List.mem_of_getElem? (i := 11) rfl))))) rfl
theorem yu_25 : (Cond.methodLink "LayerDesk" 211 xy_Ly_hasSplit) ∈ wT := wT_t (List.mem_append_right _ (List.mem_append_right _ (List.mem_append_right _ (List.mem_append_left _ (List.mem_of_getElem? (i := 8) rfl))))) rfl
theorem yu_26 : (Cond.instanceMethod xy_Ly_hasSplit) ∈ wT := wT_t (List.mem_append_right _ (List.mem_append_right _ (List.mem_append_right _ (List.mem_append_left _ (List.mem_of_getElem? (i := 9) rfl))))) rfl
theorem yu_27 : (Cond.selects "LayerDesk$Layer" xy_Ly_hasSplit xy_Ly_hasSplit) ∈ wT := wT_t (List.mem_append_right _ (List.mem_append_right _ (List.mem_append_right _ (List.mem_append_left _ (List.mem_of_getElem? (i := 10) rfl))))) rfl
theorem yu_28 : (Cond.fieldLink "LayerDesk" 38 "LayerDesk" "made" "I") ∈ wT := wT_t (List.mem_append_left _ (List.mem_of_getElem? (i := 103) rfl)) rfl
theorem yu_29 : (Cond.fieldLink "LayerDesk" 34 "LayerDesk" "layers" "[LLayerDesk$Layer;") ∈ wT := wT_t (List.mem_append_left _ (List.mem_of_getElem? (i := 102) rfl)) rfl
theorem yu_30 : (Cond.fieldLink "LayerDesk" 128 "LayerDesk$Layer" "members" "[LLayerDesk$Member;") ∈ wT := wT_t (List.mem_append_right _ (List.mem_append_right _ (List.mem_append_left _ (List.mem_of_getElem? (i := 150) rfl)))) rfl
theorem yu_31 : (Cond.fieldLink "LayerDesk" 136 "LayerDesk$Member" "descriptor" "LLayerDesk$Descriptor;") ∈ wT := wT_t (List.mem_append_right _ (List.mem_append_right _ (List.mem_append_left _ (List.mem_of_getElem? (i := 185) rfl)))) rfl
theorem yu_32 : (Cond.fieldLink "LayerDesk" 214 "LayerDesk$Descriptor" "settled" "Z") ∈ wT := wT_t (List.mem_append_right _ (List.mem_append_left _ (List.mem_of_getElem? (i := 84) rfl))) rfl
set_option maxHeartbeats 4000000 in
set_option maxRecDepth 100000 in
theorem xc_Ch_draft (l : Launch) (D : va_G) (kA : Nat → ClassId) (sz : Nat) (ad : Nat → Nat → Nat) (E : Nat → Nat → va_E) (RL : List (Nat × Nat)) (ml : Nat) (nd : Nat) (len : Nat) (wn : Nat) (cs : Nat) (hCI : CI kA ad E RL ml nd len wn cs) : Met l xy_Ch_draft (.code xy_Ch_draft xb_Ch_draft 4 (some (.object "LayerDesk$Layer")) :: wT) { frames := 8, cells := 100, slots := 424, locals := 400 } (va_Pc [.ref (ad 0 7), .int (nI ml)] (xPre D kA sz (rp ad E RL))) (va_Qq (fun (r : Option Nat) (u : (Nat → Nat → Nat) × (Nat → Nat → va_E) × List (Nat × Nat)) => (r = some (u.1 (20 + ml) 0) ∧ CI kA u.1 u.2.1 u.2.2 ml nd len wn cs ∧ LI kA u.1 u.2.1 u.2.2 nd ml) ∧ ((∀ b2 o2, ¬ (b2 = 20 + ml) → u.2.1 b2 o2 = E b2 o2)) ∧ ((∀ b2 o2, ¬ (b2 = 20 + ml) → u.1 b2 o2 = ad b2 o2)) ∧ ((∀ x ∈ RL, x ∈ u.2.2))) (fun (u : (Nat → Nat → Nat) × (Nat → Nat → va_E) × List (Nat × Nat)) t => va_P D xcl (rp u.1 u.2.1 u.2.2) t.heap ∧ va_D (va_A (rp ad E RL) sz) (rp u.1 u.2.1 u.2.2)) (va_A (rp ad E RL) sz)) 100 424 (va_A (rp ad E RL) sz) := by
  refine Met.ofW (cc := xb_Ch_draft) (maxL := 4) (ret := (some (.object "LayerDesk$Layer"))) (by decide) rfl ?_
  intro p e s m args below meth c s₁ B hml hv
  obtain ⟨rfl, hsz, hP, hK, hD0⟩ := hv
  have hx := B.exec
  have hb := B.bytes
  have hr := B.returns
  have hT := x_hT B.pre
  have hown : s.vm.findClass xR_Ch = some m.cls := findClass_of_methodNamed B.named
  have hlocks := B.notSynchronized
  subst hsz
  have hD := hD0.self (sz := s.heap.size)
  generalize hAe : va_A (rp ad E RL) s.heap.size = A at hD ⊢
  have hA : ∀ q : Nat, s.heap.size ≤ q → A q := fun q h => by rw [← hAe]; exact Or.inr h
  have hS : va_S A s.heap s.heap [] := va_S.rf
  have hl := lv_entry ([.ref (ad 0 7), .int (nI ml)]) (n := 4) (Nat.le_of_ble_eq_true rfl)
  rw [lg_entry_eq]
  generalize (lg_sl ([.ref (ad 0 7), .int (nI ml)]) ++ List.replicate (4 - (lg_sl ([.ref (ad 0 7), .int (nI ml)])).length) Slot.unset).toArray = ls at hl ⊢
  have hl : lv_has ls 4 [(0, .ref (ad 0 7)), (1, .int (nI ml))] := hl
  have hP : va_P D xcl (rp ad E RL) s.heap := hP
  obtain ⟨hmB, hDk, hLi, hSh, hCh, hLa, hDIs, hLIs⟩ := id hCI
  obtain ⟨lf_1, q_1⟩ := id (hDk)
  have c_2 : E 0 0 = .inr (0, [.ref (ad 0 1), .ref (ad 0 5), .ref (ad 0 7), .ref (ad 0 9), .int (nI ml), .int lf_1]) := q_1
  have m_3 : (0, 0) ∈ RL := hmB 0 (by omega)
  obtain ⟨tx_4, fb_4, fe_4, hl1_4, hw2_4, q1_4, q2_4, q3_4, q4_4, hws_4⟩ := id (hLi)
  have c_5 : E 0 1 = .inr (1, [.ref (ad 0 2), .ref (ad 0 3), .ref (ad 0 4), .int (nI len), .int (nI wn)]) := q1_4
  have m_6 : (0, 1) ∈ RL := hmB 1 (by omega)
  have c_7 : E 0 2 = .inl (kA 1, 40, .inl tx_4) := q2_4
  have m_8 : (0, 2) ∈ RL := hmB 2 (by omega)
  have c_9 : E 0 3 = .inl (kA 0, 20, .inl fb_4) := q3_4
  have m_10 : (0, 3) ∈ RL := hmB 3 (by omega)
  have c_11 : E 0 4 = .inl (kA 0, 20, .inl fe_4) := q4_4
  have m_12 : (0, 4) ∈ RL := hmB 4 (by omega)
  obtain ⟨fd_13, hnd_13, q5_13, q6_13, hds_13⟩ := id (hSh)
  have c_14 : E 0 5 = .inr (2, [.ref (ad 0 6), .int (nI nd)]) := q5_13
  have m_15 : (0, 5) ∈ RL := hmB 5 (by omega)
  have c_16 : E 0 6 = .inl (kA 4, 12, .inr (.inr (.inr (.inr fd_13)))) := q6_13
  have m_17 : (0, 6) ∈ RL := hmB 6 (by omega)
  obtain ⟨cf_18, pv_18, fc_18, hcs_18, hpv_18, q7_18, q8_18, hfc_18⟩ := id (hCh)
  have c_19 : E 0 7 = .inr (3, [.ref (ad 0 5), .ref (ad 0 8), .int (nI cs), .int cf_18, pv_18]) := q7_18
  have m_20 : (0, 7) ∈ RL := hmB 7 (by omega)
  have c_21 : E 0 8 = .inl (kA 4, 12, .inr (.inr (.inr (.inr fc_18)))) := q8_18
  have m_22 : (0, 8) ∈ RL := hmB 8 (by omega)
  obtain ⟨fl_23, hml_23, q9_23, hla_23⟩ := id (hLa)
  have c_24 : E 0 9 = .inl (kA 5, 5, .inr (.inr (.inr (.inr fl_23)))) := q9_23
  have m_25 : (0, 9) ∈ RL := hmB 9 (by omega)
  have hDIs0 := hDIs
  have hLIs0 := hLIs
  have hmB0 := hmB
  have hfc0 := hfc_18
  have hws0 := hws_4
  have hds0 := hds_13
  have hla0 := hla_23
  have hpv0 := hpv_18
  have hpvz := hpv_18
  refine px_new (ci := 5) (fs := [.int 0, .null, .null, .int 0]) (C := xR_Ly) (T := xT_Ly) (N := 4) (20 + ml) 0 hx hb hT xi_Ly xt_Ly xt_Ly_ok hown (hT _ yu_0) (hT _ yu_1) (hT _ yu_2) hK.1 hP hD hS hA rfl (by decide +kernel) (Nat.le_of_ble_eq_true rfl) (Nat.le_of_ble_eq_true rfl) xd_Ch_draft_0 (fun ad26 E27 RL28 H hA1 hE1 hs1 hm1 hP hD hS => ?_)
  have fE29 : ∀ b2 o2, ¬ (b2 = 20 + ml ∧ o2 = 0) → E27 b2 o2 = E b2 o2 := fun b2 o2 h9 => by rw [hE1]; exact up2_ne (by omega)
  have fA30 : ∀ b2 o2, ¬ (b2 = 20 + ml ∧ o2 = 0) → ad26 b2 o2 = ad b2 o2 := fun b2 o2 h9 => by rw [hA1]; exact up2_ne (by omega)
  have hs31 := hs1
  have c_32 : E27 (20 + ml) 0 = .inr (5, [.int 0, .null, .null, .int 0]) := by rw [hE1]; exact up2_eq
  have hl : lv_has ls 4 [(0, .ref (ad26 0 7)), (1, .int (nI ml))] := by
    rw [fA30 0 7 (by omega)]; exact hl
  have m_34 : (0, 0) ∈ RL28 := hs31 _ m_3
  have m_35 : (0, 1) ∈ RL28 := hs31 _ m_6
  have m_36 : (0, 2) ∈ RL28 := hs31 _ m_8
  have m_37 : (0, 3) ∈ RL28 := hs31 _ m_10
  have m_38 : (0, 4) ∈ RL28 := hs31 _ m_12
  have m_39 : (0, 5) ∈ RL28 := hs31 _ m_15
  have m_40 : (0, 6) ∈ RL28 := hs31 _ m_17
  have m_41 : (0, 7) ∈ RL28 := hs31 _ m_20
  have m_42 : (0, 8) ∈ RL28 := hs31 _ m_22
  have m_43 : (0, 9) ∈ RL28 := hs31 _ m_25
  have c_44 : E27 0 0 = .inr (0, [.ref (ad26 0 1), .ref (ad26 0 5), .ref (ad26 0 7), .ref (ad26 0 9), .int (nI ml), .int lf_1]) := by rw [fE29 0 0 (by omega), fA30 0 1 (by omega), fA30 0 5 (by omega), fA30 0 7 (by omega), fA30 0 9 (by omega)]; exact c_2
  have c_45 : E27 0 1 = .inr (1, [.ref (ad26 0 2), .ref (ad26 0 3), .ref (ad26 0 4), .int (nI len), .int (nI wn)]) := by rw [fE29 0 1 (by omega), fA30 0 2 (by omega), fA30 0 3 (by omega), fA30 0 4 (by omega)]; exact c_5
  have c_46 : E27 0 2 = .inl (kA 1, 40, .inl tx_4) := by rw [fE29 0 2 (by omega)]; exact c_7
  have c_47 : E27 0 3 = .inl (kA 0, 20, .inl fb_4) := by rw [fE29 0 3 (by omega)]; exact c_9
  have c_48 : E27 0 4 = .inl (kA 0, 20, .inl fe_4) := by rw [fE29 0 4 (by omega)]; exact c_11
  have c_49 : E27 0 5 = .inr (2, [.ref (ad26 0 6), .int (nI nd)]) := by rw [fE29 0 5 (by omega), fA30 0 6 (by omega)]; exact c_14
  have c_50 : E27 0 6 = .inl (kA 4, 12, .inr (.inr (.inr (.inr fd_13)))) := by rw [fE29 0 6 (by omega)]; exact c_16
  have c_51 : E27 0 7 = .inr (3, [.ref (ad26 0 5), .ref (ad26 0 8), .int (nI cs), .int cf_18, pv_18]) := by rw [fE29 0 7 (by omega), fA30 0 5 (by omega), fA30 0 8 (by omega)]; exact c_19
  have c_52 : E27 0 8 = .inl (kA 4, 12, .inr (.inr (.inr (.inr fc_18)))) := by rw [fE29 0 8 (by omega)]; exact c_21
  have c_53 : E27 0 9 = .inl (kA 5, 5, .inr (.inr (.inr (.inr fl_23)))) := by rw [fE29 0 9 (by omega)]; exact c_24
  have m_33 : (20 + ml, 0) ∈ RL28 := hm1
  have hP : va_P D xcl (rp ad26 E27 RL28) H := hP
  have hD : va_D A (rp ad26 E27 RL28) := hD
  refine lv_dup hx hb xd_Ch_draft_3 rfl ?_
  refine lv_iload_n hx hb xd_Ch_draft_4 rfl (lv_at hl 1 rfl) ?_
  refine lv_aload_n hx hb xd_Ch_draft_5 rfl (lv_at hl 0 rfl) ?_
  refine px_get (D := D) (ci := 3) (v := pv_18) (C := xR_Ch) (T := xT_Ch) (N := 5) hx hb hT xi_Ch hown hK.1 hP m_41 c_51 rfl 4 (by decide) (hT _ yu_3) (fun _ h9 => h9) rfl xd_Ch_draft_6 ?_
  rcases hpv_18 with rfl | ⟨x54, hx55, rfl⟩
  · refine W.eq (g2 := F0 m 9 ls [.null, .int (nI ml), .ref (ad26 (20 + ml) 0), .ref (ad26 (20 + ml) 0)]) rfl ?_
    refine lv_aload_n hx hb xd_Ch_draft_9 rfl (lv_at hl 0 rfl) ?_
    refine px_get (D := D) (ci := 3) (v := .int (nI cs)) (C := xR_Ch) (T := xT_Ch) (N := 5) hx hb hT xi_Ch hown hK.1 hP m_41 c_51 rfl 2 (by decide) (hT _ yu_4) (fun _ h9 => h9) rfl xd_Ch_draft_10 ?_
    have hFc := px_free hD hS hA
    refine va_callv (va_runI (As := [.int (nI ml), .null, .int (nI cs)]) (rest := [.ref (ad26 (20 + ml) 0)]) ⟨hx, hb, hml, hown, hT⟩ (xc_Ly_initN l D kA H.size ad26 E27 RL28 ml cs m_33 c_32 (by first | assumption | omega)) (cwI 3 hT (wT_I yu_5) rfl rfl rfl (hT _ yu_2) (hT _ yu_6) (hT _ yu_7) rfl (by decide +kernel) ⟨Nat.le_of_ble_eq_true rfl, Nat.le_of_ble_eq_true rfl⟩) (x_preS hK hP hD) rfl rfl hl.1 rfl (lv_room (Nat.le_of_ble_eq_true rfl)) xd_Ch_draft_13 ⟨(Nat.le_of_ble_eq_true rfl), (Nat.le_of_ble_eq_true rfl)⟩) hS (fun q _ h => hFc q h) hFc (fun u57 t H1 locs ht hvm hp58 hB hz1 hk1 hS => ?_)
    obtain ⟨hP1, hD1⟩ := hB
    rw [ht] at hP1
    have hD1 := hD1.weaken (fun _ _ _ h => hFc _ h)
    generalize H1 = H at hP1 hS ⊢
    have hP := hP1
    have hD := hD1
    obtain ⟨ad59, E60, RL61⟩ := u57
    obtain ⟨hp68, p_62, p_63, p_64, p_65, p_66, p_67⟩ := hp58
    have p_62 : E60 (20 + ml) 0 = .inr (5, [.int (nI ml), .null, .ref (ad59 (20 + ml) 1), .int 1]) := p_62
    have p_63 : E60 (20 + ml) 1 = .inl (kA 6, cs, .inr (.inr (.inr (.inr (fun _ => none))))) := p_63
    have p_64 : (∀ b2 o2, ¬ (b2 = 20 + ml ∧ o2 = 0) → ¬ (b2 = 20 + ml ∧ o2 = 1) → E60 b2 o2 = E27 b2 o2) := p_64
    have p_65 : (∀ b2 o2, ¬ (b2 = 20 + ml ∧ o2 = 1) → ad59 b2 o2 = ad26 b2 o2) := p_65
    have p_66 : (∀ x ∈ RL28, x ∈ RL61) := p_66
    have p_67 : (20 + ml, 1) ∈ RL61 := p_67
    refine W.eq (g2 := F0 m 16 ls [.ref (ad59 (20 + ml) 0)]) (by rw [p_65 (20 + ml) 0 (by omega)]) ?_
    have hl : lv_has ls 4 [(0, .ref (ad59 0 7)), (1, .int (nI ml))] := by
      rw [p_65 0 7 (by omega)]; exact hl
    have m_69 : (0, 0) ∈ RL61 := p_66 _ m_34
    have m_70 : (0, 1) ∈ RL61 := p_66 _ m_35
    have m_71 : (0, 2) ∈ RL61 := p_66 _ m_36
    have m_72 : (0, 3) ∈ RL61 := p_66 _ m_37
    have m_73 : (0, 4) ∈ RL61 := p_66 _ m_38
    have m_74 : (0, 5) ∈ RL61 := p_66 _ m_39
    have m_75 : (0, 6) ∈ RL61 := p_66 _ m_40
    have m_76 : (0, 7) ∈ RL61 := p_66 _ m_41
    have m_77 : (0, 8) ∈ RL61 := p_66 _ m_42
    have m_78 : (0, 9) ∈ RL61 := p_66 _ m_43
    have m_79 : (20 + ml, 0) ∈ RL61 := p_66 _ m_33
    have c_80 : E60 0 0 = .inr (0, [.ref (ad59 0 1), .ref (ad59 0 5), .ref (ad59 0 7), .ref (ad59 0 9), .int (nI ml), .int lf_1]) := by rw [p_64 0 0 (by omega) (by omega), p_65 0 1 (by omega), p_65 0 5 (by omega), p_65 0 7 (by omega), p_65 0 9 (by omega)]; exact c_44
    have c_81 : E60 0 1 = .inr (1, [.ref (ad59 0 2), .ref (ad59 0 3), .ref (ad59 0 4), .int (nI len), .int (nI wn)]) := by rw [p_64 0 1 (by omega) (by omega), p_65 0 2 (by omega), p_65 0 3 (by omega), p_65 0 4 (by omega)]; exact c_45
    have c_82 : E60 0 2 = .inl (kA 1, 40, .inl tx_4) := by rw [p_64 0 2 (by omega) (by omega)]; exact c_46
    have c_83 : E60 0 3 = .inl (kA 0, 20, .inl fb_4) := by rw [p_64 0 3 (by omega) (by omega)]; exact c_47
    have c_84 : E60 0 4 = .inl (kA 0, 20, .inl fe_4) := by rw [p_64 0 4 (by omega) (by omega)]; exact c_48
    have c_85 : E60 0 5 = .inr (2, [.ref (ad59 0 6), .int (nI nd)]) := by rw [p_64 0 5 (by omega) (by omega), p_65 0 6 (by omega)]; exact c_49
    have c_86 : E60 0 6 = .inl (kA 4, 12, .inr (.inr (.inr (.inr fd_13)))) := by rw [p_64 0 6 (by omega) (by omega)]; exact c_50
    have c_87 : E60 0 7 = .inr (3, [.ref (ad59 0 5), .ref (ad59 0 8), .int (nI cs), .int cf_18, .null]) := by rw [p_64 0 7 (by omega) (by omega), p_65 0 5 (by omega), p_65 0 8 (by omega)]; exact c_51
    have c_88 : E60 0 8 = .inl (kA 4, 12, .inr (.inr (.inr (.inr fc_18)))) := by rw [p_64 0 8 (by omega) (by omega)]; exact c_52
    have c_89 : E60 0 9 = .inl (kA 5, 5, .inr (.inr (.inr (.inr fl_23)))) := by rw [p_64 0 9 (by omega) (by omega)]; exact c_53
    have hP : va_P D xcl (rp ad59 E60 RL61) H := hP
    have hD : va_D A (rp ad59 E60 RL61) := hD
    refine lv_astore_n hx hb xd_Ch_draft_16 rfl hl (Nat.le_of_ble_eq_true rfl) rfl (fun ls hl => ?_)
    have hl : lv_has ls 4 [(2, .ref (ad59 (20 + ml) 0)), (0, .ref (ad59 0 7)), (1, .int (nI ml))] := hl
    refine lv_iconst (v := 0) hx hb xd_Ch_draft_17 (by decide) ?_
    refine lv_istore_n hx hb xd_Ch_draft_18 rfl hl (Nat.le_of_ble_eq_true rfl) rfl (fun ls hl => ?_)
    have hl : lv_has ls 4 [(3, .int 0), (2, .ref (ad59 (20 + ml) 0)), (0, .ref (ad59 0 7)), (1, .int (nI ml))] := hl
    refine xlabC (σ := Nat × (Nat → Nat → Nat) × (Nat → Nat → va_E) × (List (Nat × Nat)) × Value × (Nat → Option Nat)) (ml := 4) 19 (fun (k, ad1, E1, RL1, pv1, fm1) => [(3, .int (nI k)), (2, .ref (ad1 (20 + ml) 0)), (0, .ref (ad1 0 7))]) (fun (k, ad1, E1, RL1, pv1, fm1) => []) (fun (k, ad1, E1, RL1, pv1, fm1) => rp ad1 E1 RL1) (fun (k, ad1, E1, RL1, pv1, fm1) => 2 + 8 * k) (fun (k, ad1, E1, RL1, pv1, fm1) => 16 + 32 * k) (fun (k, ad1, E1, RL1, pv1, fm1) => (k ≤ cs) ∧ ((∀ b2 o2, ¬ (b2 = 20 + ml) → E1 b2 o2 = E b2 o2)) ∧ ((∀ b2 o2, ¬ (b2 = 20 + ml) → ad1 b2 o2 = ad b2 o2)) ∧ (∀ x ∈ RL, x ∈ RL1) ∧ ((20 + ml, 0) ∈ RL1) ∧ ((20 + ml, 1) ∈ RL1) ∧ (pv1 = .null ∨ ∃ x, x < ml ∧ pv1 = .ref (ad1 (20 + x) 0)) ∧ (E1 (20 + ml) 0 = .inr (5, [.int (nI ml), pv1, .ref (ad1 (20 + ml) 1), .int 1])) ∧ (E1 (20 + ml) 1 = .inl (kA 6, cs, .inr (.inr (.inr (.inr fm1))))) ∧ (∀ j, j < k → fm1 j = some (ad1 (20 + ml) (10 + 10 * j)) ∧ MEI kA ad1 E1 RL1 nd ml j)) (fun (k, ad1, E1, RL1, pv1, fm1) => cs - k) ?_ (0, ad59, E60, RL61, .null, (fun _ => none)) _ _ _ (lv_sub hl [0, 1, 2] rfl) hP hD hS ⟨(show 0 ≤ cs from by first | assumption | omega), (show (∀ b2 o2, ¬ (b2 = 20 + ml) → E60 b2 o2 = E b2 o2) from fun b2 o2 h9 => by show E60 b2 o2 = _; rw [p_64 b2 o2 (by omega) (by omega), fE29 b2 o2 (by omega)]), (show (∀ b2 o2, ¬ (b2 = 20 + ml) → ad59 b2 o2 = ad b2 o2) from fun b2 o2 h9 => by show ad59 b2 o2 = _; rw [p_65 b2 o2 (by omega), fA30 b2 o2 (by omega)]), (show ∀ x ∈ RL, x ∈ RL61 from fun _ h9 => p_66 _ (hs31 _ h9)), (show (20 + ml, 0) ∈ RL61 from m_79), (show (20 + ml, 1) ∈ RL61 from p_67), (show .null = .null ∨ ∃ x, x < ml ∧ .null = .ref (ad59 (20 + x) 0) from Or.inl rfl), (show E60 (20 + ml) 0 = .inr (5, [.int (nI ml), .null, .ref (ad59 (20 + ml) 1), .int 1]) from p_62), (show E60 (20 + ml) 1 = .inl (kA 6, cs, .inr (.inr (.inr (.inr (fun _ => none))))) from p_63), (show ∀ j, j < 0 → (fun _ => none) j = some (ad59 (20 + ml) (10 + 10 * j)) ∧ MEI kA ad59 E60 RL61 nd ml j from fun j hj => absurd hj (by omega))⟩
    intro n9 ih90 a9 ls H locs hμ hl hP hD hS hI
    subst hμ
    obtain ⟨k, ad1, E1, RL1, pv1, fm1⟩ := a9
    obtain ⟨hk0, hfE, hfA, hfS, hm0, hm1, hpv1, hcA0, hcA1, hMM⟩ := hI
    have hk0 : k ≤ cs := hk0
    have hfE : (∀ b2 o2, ¬ (b2 = 20 + ml) → E1 b2 o2 = E b2 o2) := hfE
    have hfA : (∀ b2 o2, ¬ (b2 = 20 + ml) → ad1 b2 o2 = ad b2 o2) := hfA
    have hfS : ∀ x ∈ RL, x ∈ RL1 := hfS
    have hm0 : (20 + ml, 0) ∈ RL1 := hm0
    have hm1 : (20 + ml, 1) ∈ RL1 := hm1
    have hpv1 : pv1 = .null ∨ ∃ x, x < ml ∧ pv1 = .ref (ad1 (20 + x) 0) := hpv1
    have hcA0 : E1 (20 + ml) 0 = .inr (5, [.int (nI ml), pv1, .ref (ad1 (20 + ml) 1), .int 1]) := hcA0
    have hcA1 : E1 (20 + ml) 1 = .inl (kA 6, cs, .inr (.inr (.inr (.inr fm1)))) := hcA1
    have hMM : ∀ j, j < k → fm1 j = some (ad1 (20 + ml) (10 + 10 * j)) ∧ MEI kA ad1 E1 RL1 nd ml j := hMM
    have hl : lv_has ls 4 [(3, .int (nI k)), (2, .ref (ad1 (20 + ml) 0)), (0, .ref (ad1 0 7))] := hl
    have hP : va_P D xcl (rp ad1 E1 RL1) H := hP
    have hD : va_D A (rp ad1 E1 RL1) := hD
    have hDIs : DIs kA ad1 E1 RL1 nd := (DIs_same (fun d9 hd9 => fun2 fun o9 => by show E1 (1 + d9) o9 = _; rw [hfE (1 + d9) o9 (by omega)]) (fun d9 hd9 => fun2 fun o9 => by show ad1 (1 + d9) o9 = _; rw [hfA (1 + d9) o9 (by omega)]) (fun _ h9 => hfS _ h9) hDIs0)
    have hLIs : LIs kA ad1 E1 RL1 nd ml := (LIs_same (Nat.le_refl _) (fun n9 hn9 => fun2 fun o9 => by show E1 (20 + n9) o9 = _; rw [hfE (20 + n9) o9 (by omega)]) (fun n9 hn9 => fun2 fun o9 => by show ad1 (20 + n9) o9 = _; rw [hfA (20 + n9) o9 (by omega)]) (fun d9 hd9 => by show ad1 (1 + d9) 0 = _; rw [hfA (1 + d9) 0 (by omega)]) (fun _ h9 => hfS _ h9) hLIs0)
    have hmB : ∀ o, o < 10 → (0, o) ∈ RL1 := fun o9 h9 => hfS _ (hmB0 o9 h9)
    have c_91 : E1 0 0 = .inr (0, [.ref (ad1 0 1), .ref (ad1 0 5), .ref (ad1 0 7), .ref (ad1 0 9), .int (nI ml), .int lf_1]) := by rw [hfE 0 0 (by omega), hfA 0 1 (by omega), hfA 0 5 (by omega), hfA 0 7 (by omega), hfA 0 9 (by omega)]; exact c_2
    have m_92 : (0, 0) ∈ RL1 := hmB 0 (by omega)
    have c_93 : E1 0 1 = .inr (1, [.ref (ad1 0 2), .ref (ad1 0 3), .ref (ad1 0 4), .int (nI len), .int (nI wn)]) := by rw [hfE 0 1 (by omega), hfA 0 2 (by omega), hfA 0 3 (by omega), hfA 0 4 (by omega)]; exact c_5
    have m_94 : (0, 1) ∈ RL1 := hmB 1 (by omega)
    have c_95 : E1 0 2 = .inl (kA 1, 40, .inl tx_4) := by rw [hfE 0 2 (by omega)]; exact c_7
    have m_96 : (0, 2) ∈ RL1 := hmB 2 (by omega)
    have c_97 : E1 0 3 = .inl (kA 0, 20, .inl fb_4) := by rw [hfE 0 3 (by omega)]; exact c_9
    have m_98 : (0, 3) ∈ RL1 := hmB 3 (by omega)
    have c_99 : E1 0 4 = .inl (kA 0, 20, .inl fe_4) := by rw [hfE 0 4 (by omega)]; exact c_11
    have m_100 : (0, 4) ∈ RL1 := hmB 4 (by omega)
    have c_101 : E1 0 5 = .inr (2, [.ref (ad1 0 6), .int (nI nd)]) := by rw [hfE 0 5 (by omega), hfA 0 6 (by omega)]; exact c_14
    have m_102 : (0, 5) ∈ RL1 := hmB 5 (by omega)
    have c_103 : E1 0 6 = .inl (kA 4, 12, .inr (.inr (.inr (.inr fd_13)))) := by rw [hfE 0 6 (by omega)]; exact c_16
    have m_104 : (0, 6) ∈ RL1 := hmB 6 (by omega)
    have c_105 : E1 0 7 = .inr (3, [.ref (ad1 0 5), .ref (ad1 0 8), .int (nI cs), .int cf_18, .null]) := by rw [hfE 0 7 (by omega), hfA 0 5 (by omega), hfA 0 8 (by omega)]; exact c_19
    have m_106 : (0, 7) ∈ RL1 := hmB 7 (by omega)
    have c_107 : E1 0 8 = .inl (kA 4, 12, .inr (.inr (.inr (.inr fc_18)))) := by rw [hfE 0 8 (by omega)]; exact c_21
    have m_108 : (0, 8) ∈ RL1 := hmB 8 (by omega)
    have c_109 : E1 0 9 = .inl (kA 5, 5, .inr (.inr (.inr (.inr fl_23)))) := by rw [hfE 0 9 (by omega)]; exact c_24
    have m_110 : (0, 9) ∈ RL1 := hmB 9 (by omega)
    refine lv_iload_n hx hb xd_Ch_draft_19 rfl (lv_at hl 0 rfl) ?_
    refine lv_aload_n hx hb xd_Ch_draft_20 rfl (lv_at hl 2 rfl) ?_
    refine px_get (D := D) (ci := 3) (v := .int (nI cs)) (C := xR_Ch) (T := xT_Ch) (N := 5) hx hb hT xi_Ch hown hK.1 hP m_106 c_105 rfl 2 (by decide) (hT _ yu_4) (fun _ h9 => h9) rfl xd_Ch_draft_21 ?_
    refine xn_ge (a := k) (b := cs) (tgt := 53) hx hb xd_Ch_draft_24 (by decide) (by omega) (by omega) (fun hc111 => ?_) (fun hc111 => ?_)
    · have hLI : LI kA ad1 E1 RL1 nd ml := ⟨hm0, hm1, pv1, 1, cs, fm1, by omega, hpv1, hcA0, hcA1, fun j hj => hMM j (by omega)⟩
      have hLIs := LIs_add hLIs hLI
      refine lv_aload_n hx hb xd_Ch_draft_53 rfl (lv_at hl 1 rfl) ?_
      have hFc := px_free hD hS hA
      refine va_callv (va_runV (As := []) (rest := []) ⟨hx, hb, hml, hown, hT⟩ (xc_Ly_connect l D kA H.size ad1 E1 RL1 nd (ml + 1) ml pv1 1 cs fm1 hm0 hcA0 hm1 hcA1 (by first | assumption | omega) (by first | assumption | omega) (by first | assumption | omega) (by first | assumption | omega) (by first | assumption | omega) (by first | assumption | omega) (fun j hj => hMM j (by omega))) (cwV 0 hT (wT_V yu_9 yu_10 yu_11 yu_2 yu_8) rfl rfl rfl (by decide +kernel) ⟨Nat.le_of_ble_eq_true rfl, Nat.le_of_ble_eq_true rfl⟩) (px_preV hK hP hD hm0 hcA0 rfl) rfl rfl hl.1 rfl (lv_room (Nat.le_of_ble_eq_true rfl)) xd_Ch_draft_54 ⟨(show 2 + 8 * k + 2 ≤ 100 by omega), (show 16 + 32 * k + 24 ≤ 424 by omega)⟩) hS (fun q _ h => hFc q h) hFc (fun u113 t H1 locs ht hvm hp114 hB hz1 hk1 hS => ?_)
      obtain ⟨hP1, hD1⟩ := hB
      rw [ht] at hP1
      have hD1 := hD1.weaken (fun _ _ _ h => hFc _ h)
      generalize H1 = H at hP1 hS ⊢
      have hP := hP1
      have hD := hD1
      obtain ⟨ad115, E116, RL117⟩ := u113
      obtain ⟨hp123, p_118, p_119, p_120, p_121, p_122⟩ := hp114
      have p_118 : (∀ b2 o2, ¬ (b2 = 20 + ml) → E116 b2 o2 = E1 b2 o2) := p_118
      have p_119 : (∀ b2 o2, ¬ (b2 = 20 + ml ∧ o2 = 2) → ¬ (b2 = 20 + ml ∧ o2 = 3) → ad115 b2 o2 = ad1 b2 o2) := p_119
      have p_120 : (∀ x ∈ RL1, x ∈ RL117) := p_120
      have p_121 : (20 + ml, 2) ∈ RL117 := p_121
      have p_122 : (20 + ml, 3) ∈ RL117 := p_122
      have hl : lv_has ls 4 [(3, .int (nI k)), (2, .ref (ad115 (20 + ml) 0)), (0, .ref (ad115 0 7))] := by
        rw [p_119 (20 + ml) 0 (by omega) (by omega), p_119 0 7 (by omega) (by omega)]; exact hl
      have m_124 : (0, 0) ∈ RL117 := p_120 _ m_92
      have m_125 : (0, 1) ∈ RL117 := p_120 _ m_94
      have m_126 : (0, 2) ∈ RL117 := p_120 _ m_96
      have m_127 : (0, 3) ∈ RL117 := p_120 _ m_98
      have m_128 : (0, 4) ∈ RL117 := p_120 _ m_100
      have m_129 : (0, 5) ∈ RL117 := p_120 _ m_102
      have m_130 : (0, 6) ∈ RL117 := p_120 _ m_104
      have m_131 : (0, 7) ∈ RL117 := p_120 _ m_106
      have m_132 : (0, 8) ∈ RL117 := p_120 _ m_108
      have m_133 : (0, 9) ∈ RL117 := p_120 _ m_110
      have m_134 : (20 + ml, 0) ∈ RL117 := p_120 _ hm0
      have m_135 : (20 + ml, 1) ∈ RL117 := p_120 _ hm1
      have c_136 : E116 0 0 = .inr (0, [.ref (ad115 0 1), .ref (ad115 0 5), .ref (ad115 0 7), .ref (ad115 0 9), .int (nI ml), .int lf_1]) := by rw [p_118 0 0 (by omega), p_119 0 1 (by omega) (by omega), p_119 0 5 (by omega) (by omega), p_119 0 7 (by omega) (by omega), p_119 0 9 (by omega) (by omega)]; exact c_91
      have c_137 : E116 0 1 = .inr (1, [.ref (ad115 0 2), .ref (ad115 0 3), .ref (ad115 0 4), .int (nI len), .int (nI wn)]) := by rw [p_118 0 1 (by omega), p_119 0 2 (by omega) (by omega), p_119 0 3 (by omega) (by omega), p_119 0 4 (by omega) (by omega)]; exact c_93
      have c_138 : E116 0 2 = .inl (kA 1, 40, .inl tx_4) := by rw [p_118 0 2 (by omega)]; exact c_95
      have c_139 : E116 0 3 = .inl (kA 0, 20, .inl fb_4) := by rw [p_118 0 3 (by omega)]; exact c_97
      have c_140 : E116 0 4 = .inl (kA 0, 20, .inl fe_4) := by rw [p_118 0 4 (by omega)]; exact c_99
      have c_141 : E116 0 5 = .inr (2, [.ref (ad115 0 6), .int (nI nd)]) := by rw [p_118 0 5 (by omega), p_119 0 6 (by omega) (by omega)]; exact c_101
      have c_142 : E116 0 6 = .inl (kA 4, 12, .inr (.inr (.inr (.inr fd_13)))) := by rw [p_118 0 6 (by omega)]; exact c_103
      have c_143 : E116 0 7 = .inr (3, [.ref (ad115 0 5), .ref (ad115 0 8), .int (nI cs), .int cf_18, .null]) := by rw [p_118 0 7 (by omega), p_119 0 5 (by omega) (by omega), p_119 0 8 (by omega) (by omega)]; exact c_105
      have c_144 : E116 0 8 = .inl (kA 4, 12, .inr (.inr (.inr (.inr fc_18)))) := by rw [p_118 0 8 (by omega)]; exact c_107
      have c_145 : E116 0 9 = .inl (kA 5, 5, .inr (.inr (.inr (.inr fl_23)))) := by rw [p_118 0 9 (by omega)]; exact c_109
      have hP : va_P D xcl (rp ad115 E116 RL117) H := hP
      have hD : va_D A (rp ad115 E116 RL117) := hD
      obtain ⟨hDIs9, hLIs9⟩ := hp123
      refine lv_aload_n hx hb xd_Ch_draft_57 rfl (lv_at hl 1 rfl) ?_
      refine W.widen (k := 100) (n := 424) (by omega) (by omega) ?_
      exact W.aret (v := .ref (ad115 (20 + ml) 0)) hx hb hr (Or.inl ⟨_, rfl⟩) (Or.inr ⟨_, rfl⟩) (fun t ht hW => ⟨⟨(some (ad115 (20 + ml) 0)), (ad115, E116, RL117), rfl, ⟨⟨rfl, ⟨(fun o9 h9 => p_120 _ (hfS _ (hmB o9 h9))), ⟨lf_1, c_136⟩, ⟨tx_4, fb_4, fe_4, (by omega), (by omega), c_137, c_138, c_139, c_140, hws0⟩, ⟨fd_13, (by omega), c_141, c_142, (fun d9 hd9 => (hds0 d9 hd9).trans (by rw [p_119 (1 + d9) 0 (by omega) (by omega), hfA (1 + d9) 0 (by omega)]))⟩, ⟨cf_18, .null, fc_18, (by omega), (by rcases hpv0 with h | ⟨x, hx9, h⟩; exact Or.inl h; exact Or.inr ⟨x, hx9, by rw [p_119 (20 + x) 0 (by omega) (by omega), hfA (20 + x) 0 (by omega)]; exact h⟩), c_143, c_144, (fun k9 hk9 => by obtain ⟨d8, q1, q2⟩ := hfc0 k9 hk9; exact ⟨d8, q1, q2.trans (by rw [p_119 (1 + d8) 0 (by omega) (by omega), hfA (1 + d8) 0 (by omega)])⟩)⟩, ⟨fl_23, (by omega), c_145, (fun n9 hn9 => (hla0 n9 hn9).trans (by rw [p_119 (20 + n9) 0 (by omega) (by omega), hfA (20 + n9) 0 (by omega)]))⟩, hDIs9, (fun n9 hn9 => hLIs9 n9 (by omega))⟩, hLIs9 ml (by omega)⟩, (fun b2 o2 h09 => by show E116 b2 o2 = _; rw [p_118 b2 o2 (by omega), hfE b2 o2 (by omega)]), (fun b2 o2 h09 => by show ad115 b2 o2 = _; rw [p_119 b2 o2 (by omega) (by omega), hfA b2 o2 (by omega)]), (fun x9 hx9 => p_120 _ (hfS _ hx9))⟩, by rw [ht]; exact hP, hD⟩, hS.F ht⟩) hS.2.2 xd_Ch_draft_58
    · obtain ⟨d9, hd9, hf9⟩ := hfc0 k (by omega)
      obtain ⟨hm_146, fd_146, nm_146, sd_146, k0_146, k1_146, k2_146, k3_146, f0_146, f1_146, f2_146, f3_146, fe_146, fo_146, tr_146, op_146, hk0_146, hk1_146, hk2_146, hk3_146, q0_146, q1_146, q2_146, q3_146, q4_146, q5_146, q6_146, q7_146, q8_146, q9_146, q10_146, q11_146, q12_146, hg_146⟩ := id (hDIs d9 (by omega))
      have c_147 : E1 (1 + d9) 0 = .inr (7, [.int (nI d9), .int fd_146, .int nm_146, .ref (ad1 (1 + d9) 1), .ref (ad1 (1 + d9) 9), .ref (ad1 (1 + d9) 10), .ref (ad1 (1 + d9) 2), .ref (ad1 (1 + d9) 11), .ref (ad1 (1 + d9) 12), .ref (ad1 (1 + d9) 3), .ref (ad1 (1 + d9) 4), .int sd_146]) := q0_146
      have m_148 : (1 + d9, 0) ∈ RL1 := hm_146 0 (by omega)
      have c_149 : E1 (1 + d9) 1 = .inr (8, [.ref (ad1 (1 + d9) 5), .int (nI k0_146)]) := q1_146
      have m_150 : (1 + d9, 1) ∈ RL1 := hm_146 1 (by omega)
      have c_151 : E1 (1 + d9) 2 = .inr (8, [.ref (ad1 (1 + d9) 6), .int (nI k1_146)]) := q2_146
      have m_152 : (1 + d9, 2) ∈ RL1 := hm_146 2 (by omega)
      have c_153 : E1 (1 + d9) 3 = .inr (8, [.ref (ad1 (1 + d9) 7), .int (nI k2_146)]) := q3_146
      have m_154 : (1 + d9, 3) ∈ RL1 := hm_146 3 (by omega)
      have c_155 : E1 (1 + d9) 4 = .inr (8, [.ref (ad1 (1 + d9) 8), .int (nI k3_146)]) := q4_146
      have m_156 : (1 + d9, 4) ∈ RL1 := hm_146 4 (by omega)
      have c_157 : E1 (1 + d9) 5 = .inl (kA 0, 6, .inl f0_146) := q5_146
      have m_158 : (1 + d9, 5) ∈ RL1 := hm_146 5 (by omega)
      have c_159 : E1 (1 + d9) 6 = .inl (kA 0, 5, .inl f1_146) := q6_146
      have m_160 : (1 + d9, 6) ∈ RL1 := hm_146 6 (by omega)
      have c_161 : E1 (1 + d9) 7 = .inl (kA 0, 3, .inl f2_146) := q7_146
      have m_162 : (1 + d9, 7) ∈ RL1 := hm_146 7 (by omega)
      have c_163 : E1 (1 + d9) 8 = .inl (kA 0, 3, .inl f3_146) := q8_146
      have m_164 : (1 + d9, 8) ∈ RL1 := hm_146 8 (by omega)
      have c_165 : E1 (1 + d9) 9 = .inl (kA 8, 6, .inr (.inr (.inr (.inr fe_146)))) := q9_146
      have m_166 : (1 + d9, 9) ∈ RL1 := hm_146 9 (by omega)
      have c_167 : E1 (1 + d9) 10 = .inl (kA 8, 6, .inr (.inr (.inr (.inr fo_146)))) := q10_146
      have m_168 : (1 + d9, 10) ∈ RL1 := hm_146 10 (by omega)
      have c_169 : E1 (1 + d9) 11 = .inl (kA 2, 5, .inl tr_146) := q11_146
      have m_170 : (1 + d9, 11) ∈ RL1 := hm_146 11 (by omega)
      have c_171 : E1 (1 + d9) 12 = .inl (kA 2, 5, .inl op_146) := q12_146
      have m_172 : (1 + d9, 12) ∈ RL1 := hm_146 12 (by omega)
      have hg_146 : ∀ w9, w9 < k0_146 → fe_146 w9 = some (ad1 (1 + d9) (20 + 3 * w9)) ∧ fo_146 w9 = some (ad1 (1 + d9) (38 + 3 * w9)) ∧ GI kA (ad1 (1 + d9)) (E1 (1 + d9)) (fun o => (1 + d9, o) ∈ RL1) (20 + 3 * w9) (21 + 3 * w9) (22 + 3 * w9) ∧ GI kA (ad1 (1 + d9)) (E1 (1 + d9)) (fun o => (1 + d9, o) ∈ RL1) (38 + 3 * w9) (39 + 3 * w9) (40 + 3 * w9) := hg_146
      refine lv_aload_n hx hb xd_Ch_draft_27 rfl (lv_at hl 1 rfl) ?_
      refine px_get (D := D) (ci := 5) (v := .ref (ad1 (20 + ml) 1)) (C := xR_Ly) (T := xT_Ly) (N := 4) hx hb hT xi_Ly hown hK.1 hP hm0 hcA0 rfl 2 (by decide) (hT _ yu_12) (fun _ h9 => h9) rfl xd_Ch_draft_28 ?_
      refine lv_iload_n hx hb xd_Ch_draft_31 rfl (lv_at hl 0 rfl) ?_
      refine px_new (ci := 6) (fs := [.null, .null, .null, .null, .null, .null]) (C := xR_Me) (T := xT_Me) (N := 6) (20 + ml) (10 + 10 * k) hx hb hT xi_Me xt_Me xt_Me_ok hown (hT _ yu_13) (hT _ yu_14) (hT _ yu_15) hK.1 hP hD hS hA rfl (by decide +kernel) (show 2 + 8 * k + 1 ≤ 100 by omega) (show 16 + 32 * k + 6 ≤ 424 by omega) xd_Ch_draft_32 (fun ad173 E174 RL175 H hA1 hE1 hs1 hm1 hP hD hS => ?_)
      have fE176 : ∀ b2 o2, ¬ (b2 = 20 + ml ∧ o2 = 10 + 10 * k) → E174 b2 o2 = E1 b2 o2 := fun b2 o2 h9 => by rw [hE1]; exact up2_ne (by omega)
      have fA177 : ∀ b2 o2, ¬ (b2 = 20 + ml ∧ o2 = 10 + 10 * k) → ad173 b2 o2 = ad1 b2 o2 := fun b2 o2 h9 => by rw [hA1]; exact up2_ne (by omega)
      have hs178 := hs1
      refine W.eq (g2 := F0 m _ ls [.ref (ad173 (20 + ml) (10 + 10 * k)), .int (nI k), .ref (ad173 (20 + ml) 1)]) (by rw [fA177 (20 + ml) 1 (by omega)]) ?_
      have c_179 : E174 (20 + ml) (10 + 10 * k) = .inr (6, [.null, .null, .null, .null, .null, .null]) := by rw [hE1]; exact up2_eq
      have hl : lv_has ls 4 [(3, .int (nI k)), (2, .ref (ad173 (20 + ml) 0)), (0, .ref (ad173 0 7))] := by
        rw [fA177 (20 + ml) 0 (by omega), fA177 0 7 (by omega)]; exact hl
      have m_181 : (0, 0) ∈ RL175 := hs178 _ m_92
      have m_182 : (0, 1) ∈ RL175 := hs178 _ m_94
      have m_183 : (0, 2) ∈ RL175 := hs178 _ m_96
      have m_184 : (0, 3) ∈ RL175 := hs178 _ m_98
      have m_185 : (0, 4) ∈ RL175 := hs178 _ m_100
      have m_186 : (0, 5) ∈ RL175 := hs178 _ m_102
      have m_187 : (0, 6) ∈ RL175 := hs178 _ m_104
      have m_188 : (0, 7) ∈ RL175 := hs178 _ m_106
      have m_189 : (0, 8) ∈ RL175 := hs178 _ m_108
      have m_190 : (0, 9) ∈ RL175 := hs178 _ m_110
      have m_191 : (20 + ml, 0) ∈ RL175 := hs178 _ hm0
      have m_192 : (20 + ml, 1) ∈ RL175 := hs178 _ hm1
      have m_193 : (1 + d9, 0) ∈ RL175 := hs178 _ m_148
      have m_194 : (1 + d9, 1) ∈ RL175 := hs178 _ m_150
      have m_195 : (1 + d9, 2) ∈ RL175 := hs178 _ m_152
      have m_196 : (1 + d9, 3) ∈ RL175 := hs178 _ m_154
      have m_197 : (1 + d9, 4) ∈ RL175 := hs178 _ m_156
      have m_198 : (1 + d9, 5) ∈ RL175 := hs178 _ m_158
      have m_199 : (1 + d9, 6) ∈ RL175 := hs178 _ m_160
      have m_200 : (1 + d9, 7) ∈ RL175 := hs178 _ m_162
      have m_201 : (1 + d9, 8) ∈ RL175 := hs178 _ m_164
      have m_202 : (1 + d9, 9) ∈ RL175 := hs178 _ m_166
      have m_203 : (1 + d9, 10) ∈ RL175 := hs178 _ m_168
      have m_204 : (1 + d9, 11) ∈ RL175 := hs178 _ m_170
      have m_205 : (1 + d9, 12) ∈ RL175 := hs178 _ m_172
      have c_206 : E174 0 0 = .inr (0, [.ref (ad173 0 1), .ref (ad173 0 5), .ref (ad173 0 7), .ref (ad173 0 9), .int (nI ml), .int lf_1]) := by rw [fE176 0 0 (by omega), fA177 0 1 (by omega), fA177 0 5 (by omega), fA177 0 7 (by omega), fA177 0 9 (by omega)]; exact c_91
      have c_207 : E174 0 1 = .inr (1, [.ref (ad173 0 2), .ref (ad173 0 3), .ref (ad173 0 4), .int (nI len), .int (nI wn)]) := by rw [fE176 0 1 (by omega), fA177 0 2 (by omega), fA177 0 3 (by omega), fA177 0 4 (by omega)]; exact c_93
      have c_208 : E174 0 2 = .inl (kA 1, 40, .inl tx_4) := by rw [fE176 0 2 (by omega)]; exact c_95
      have c_209 : E174 0 3 = .inl (kA 0, 20, .inl fb_4) := by rw [fE176 0 3 (by omega)]; exact c_97
      have c_210 : E174 0 4 = .inl (kA 0, 20, .inl fe_4) := by rw [fE176 0 4 (by omega)]; exact c_99
      have c_211 : E174 0 5 = .inr (2, [.ref (ad173 0 6), .int (nI nd)]) := by rw [fE176 0 5 (by omega), fA177 0 6 (by omega)]; exact c_101
      have c_212 : E174 0 6 = .inl (kA 4, 12, .inr (.inr (.inr (.inr fd_13)))) := by rw [fE176 0 6 (by omega)]; exact c_103
      have c_213 : E174 0 7 = .inr (3, [.ref (ad173 0 5), .ref (ad173 0 8), .int (nI cs), .int cf_18, .null]) := by rw [fE176 0 7 (by omega), fA177 0 5 (by omega), fA177 0 8 (by omega)]; exact c_105
      have c_214 : E174 0 8 = .inl (kA 4, 12, .inr (.inr (.inr (.inr fc_18)))) := by rw [fE176 0 8 (by omega)]; exact c_107
      have c_215 : E174 0 9 = .inl (kA 5, 5, .inr (.inr (.inr (.inr fl_23)))) := by rw [fE176 0 9 (by omega)]; exact c_109
      have c_216 : E174 (20 + ml) 0 = .inr (5, [.int (nI ml), pv1, .ref (ad173 (20 + ml) 1), .int 1]) := by rw [fE176 (20 + ml) 0 (by omega), fA177 (20 + ml) 1 (by omega)]; exact hcA0
      have c_217 : E174 (20 + ml) 1 = .inl (kA 6, cs, .inr (.inr (.inr (.inr fm1)))) := by rw [fE176 (20 + ml) 1 (by omega)]; exact hcA1
      have c_218 : E174 (1 + d9) 0 = .inr (7, [.int (nI d9), .int fd_146, .int nm_146, .ref (ad173 (1 + d9) 1), .ref (ad173 (1 + d9) 9), .ref (ad173 (1 + d9) 10), .ref (ad173 (1 + d9) 2), .ref (ad173 (1 + d9) 11), .ref (ad173 (1 + d9) 12), .ref (ad173 (1 + d9) 3), .ref (ad173 (1 + d9) 4), .int sd_146]) := by rw [fE176 (1 + d9) 0 (by omega), fA177 (1 + d9) 1 (by omega), fA177 (1 + d9) 9 (by omega), fA177 (1 + d9) 10 (by omega), fA177 (1 + d9) 2 (by omega), fA177 (1 + d9) 11 (by omega), fA177 (1 + d9) 12 (by omega), fA177 (1 + d9) 3 (by omega), fA177 (1 + d9) 4 (by omega)]; exact c_147
      have c_219 : E174 (1 + d9) 1 = .inr (8, [.ref (ad173 (1 + d9) 5), .int (nI k0_146)]) := by rw [fE176 (1 + d9) 1 (by omega), fA177 (1 + d9) 5 (by omega)]; exact c_149
      have c_220 : E174 (1 + d9) 2 = .inr (8, [.ref (ad173 (1 + d9) 6), .int (nI k1_146)]) := by rw [fE176 (1 + d9) 2 (by omega), fA177 (1 + d9) 6 (by omega)]; exact c_151
      have c_221 : E174 (1 + d9) 3 = .inr (8, [.ref (ad173 (1 + d9) 7), .int (nI k2_146)]) := by rw [fE176 (1 + d9) 3 (by omega), fA177 (1 + d9) 7 (by omega)]; exact c_153
      have c_222 : E174 (1 + d9) 4 = .inr (8, [.ref (ad173 (1 + d9) 8), .int (nI k3_146)]) := by rw [fE176 (1 + d9) 4 (by omega), fA177 (1 + d9) 8 (by omega)]; exact c_155
      have c_223 : E174 (1 + d9) 5 = .inl (kA 0, 6, .inl f0_146) := by rw [fE176 (1 + d9) 5 (by omega)]; exact c_157
      have c_224 : E174 (1 + d9) 6 = .inl (kA 0, 5, .inl f1_146) := by rw [fE176 (1 + d9) 6 (by omega)]; exact c_159
      have c_225 : E174 (1 + d9) 7 = .inl (kA 0, 3, .inl f2_146) := by rw [fE176 (1 + d9) 7 (by omega)]; exact c_161
      have c_226 : E174 (1 + d9) 8 = .inl (kA 0, 3, .inl f3_146) := by rw [fE176 (1 + d9) 8 (by omega)]; exact c_163
      have c_227 : E174 (1 + d9) 9 = .inl (kA 8, 6, .inr (.inr (.inr (.inr fe_146)))) := by rw [fE176 (1 + d9) 9 (by omega)]; exact c_165
      have c_228 : E174 (1 + d9) 10 = .inl (kA 8, 6, .inr (.inr (.inr (.inr fo_146)))) := by rw [fE176 (1 + d9) 10 (by omega)]; exact c_167
      have c_229 : E174 (1 + d9) 11 = .inl (kA 2, 5, .inl tr_146) := by rw [fE176 (1 + d9) 11 (by omega)]; exact c_169
      have c_230 : E174 (1 + d9) 12 = .inl (kA 2, 5, .inl op_146) := by rw [fE176 (1 + d9) 12 (by omega)]; exact c_171
      have m_180 : (20 + ml, 10 + 10 * k) ∈ RL175 := hm1
      have hP : va_P D xcl (rp ad173 E174 RL175) H := hP
      have hD : va_D A (rp ad173 E174 RL175) := hD
      refine lv_dup hx hb xd_Ch_draft_35 rfl ?_
      refine lv_aload_n hx hb xd_Ch_draft_36 rfl (lv_at hl 1 rfl) ?_
      refine lv_aload_n hx hb xd_Ch_draft_37 rfl (lv_at hl 2 rfl) ?_
      refine px_get (D := D) (ci := 3) (v := .ref (ad173 0 8)) (C := xR_Ch) (T := xT_Ch) (N := 5) hx hb hT xi_Ch hown hK.1 hP m_188 c_213 rfl 1 (by decide) (hT _ yu_16) (fun _ h9 => h9) rfl xd_Ch_draft_38 ?_
      refine lv_iload_n hx hb xd_Ch_draft_41 rfl (lv_at hl 0 rfl) ?_
      refine px_aald (i := k) (x := (some (ad173 (1 + d9) 0))) hx hb hK.1 hP m_189 c_214 4 rfl ((hf9.trans (by rw [fA177 (1 + d9) 0 (by omega), hfA (1 + d9) 0 (by omega)]))) (by omega) (by decide) xd_Ch_draft_42 ?_
      have hFc := px_free hD hS hA
      refine va_callv (va_runI (As := [.ref (ad173 (20 + ml) 0), .ref (ad173 (1 + d9) 0)]) (rest := [.ref (ad173 (20 + ml) (10 + 10 * k)), .int (nI k), .ref (ad173 (20 + ml) 1)]) ⟨hx, hb, hml, hown, hT⟩ (xc_Me_init l D kA H.size ad173 E174 RL175 ml k d9 fd_146 nm_146 sd_146 k1_146 m_180 c_179 m_193 c_218 m_195 c_220 (by omega) (by first | assumption | omega)) (cwI 2 hT (wT_I yu_17) rfl rfl rfl (hT _ yu_15) (hT _ yu_18) (hT _ yu_19) rfl (by decide +kernel) ⟨Nat.le_of_ble_eq_true rfl, Nat.le_of_ble_eq_true rfl⟩) (x_preS hK hP hD) rfl rfl hl.1 rfl (lv_room (Nat.le_of_ble_eq_true rfl)) xd_Ch_draft_43 ⟨(show 2 + 8 * k + 1 + 7 ≤ 100 by omega), (show 16 + 32 * k + 6 + 26 ≤ 424 by omega)⟩) hS (fun q _ h => hFc q h) hFc (fun u232 t H1 locs ht hvm hp233 hB hz1 hk1 hS => ?_)
      obtain ⟨hP1, hD1⟩ := hB
      rw [ht] at hP1
      have hD1 := hD1.weaken (fun _ _ _ h => hFc _ h)
      generalize H1 = H at hP1 hS ⊢
      have hP := hP1
      have hD := hD1
      obtain ⟨ad234, E235, RL236⟩ := u232
      obtain ⟨hp255, p_237, p_238, p_239, p_240, p_241, p_242, p_243, p_244, p_245, p_246, p_247, p_248, p_249, p_250, p_251, p_252, p_253, p_254⟩ := hp233
      have p_237 : E235 (20 + ml) (10 + 10 * k) = .inr (6, [.ref (ad234 (20 + ml) 0), .ref (ad234 (1 + d9) 0), .ref (ad234 (20 + ml) (11 + 10 * k)), .ref (ad234 (20 + ml) (12 + 10 * k)), .ref (ad234 (20 + ml) (13 + 10 * k)), .ref (ad234 (20 + ml) (14 + 10 * k))]) := p_237
      have p_238 : E235 (20 + ml) (11 + 10 * k) = .inl (kA 6, k1_146, .inr (.inr (.inr (.inr (fun _ => none))))) := p_238
      have p_239 : E235 (20 + ml) (12 + 10 * k) = .inr (10, [.ref (ad234 (20 + ml) (15 + 10 * k))]) := p_239
      have p_240 : E235 (20 + ml) (13 + 10 * k) = .inr (10, [.ref (ad234 (20 + ml) (16 + 10 * k))]) := p_240
      have p_241 : E235 (20 + ml) (14 + 10 * k) = .inr (10, [.ref (ad234 (20 + ml) (17 + 10 * k))]) := p_241
      have p_242 : E235 (20 + ml) (15 + 10 * k) = .inl (kA 0, 6, .inl (fun _ => 0)) := p_242
      have p_243 : E235 (20 + ml) (16 + 10 * k) = .inl (kA 0, 6, .inl (fun _ => 0)) := p_243
      have p_244 : E235 (20 + ml) (17 + 10 * k) = .inl (kA 0, 6, .inl (fun _ => 0)) := p_244
      have p_245 : (∀ b2 o2, ¬ (b2 = 20 + ml ∧ o2 = 10 + 10 * k) → ¬ (b2 = 20 + ml ∧ o2 = 11 + 10 * k) → ¬ (b2 = 20 + ml ∧ o2 = 12 + 10 * k) → ¬ (b2 = 20 + ml ∧ o2 = 13 + 10 * k) → ¬ (b2 = 20 + ml ∧ o2 = 14 + 10 * k) → ¬ (b2 = 20 + ml ∧ o2 = 15 + 10 * k) → ¬ (b2 = 20 + ml ∧ o2 = 16 + 10 * k) → ¬ (b2 = 20 + ml ∧ o2 = 17 + 10 * k) → E235 b2 o2 = E174 b2 o2) := p_245
      have p_246 : (∀ b2 o2, ¬ (b2 = 20 + ml ∧ o2 = 11 + 10 * k) → ¬ (b2 = 20 + ml ∧ o2 = 12 + 10 * k) → ¬ (b2 = 20 + ml ∧ o2 = 13 + 10 * k) → ¬ (b2 = 20 + ml ∧ o2 = 14 + 10 * k) → ¬ (b2 = 20 + ml ∧ o2 = 15 + 10 * k) → ¬ (b2 = 20 + ml ∧ o2 = 16 + 10 * k) → ¬ (b2 = 20 + ml ∧ o2 = 17 + 10 * k) → ad234 b2 o2 = ad173 b2 o2) := p_246
      have p_247 : (∀ x ∈ RL175, x ∈ RL236) := p_247
      have p_248 : (20 + ml, 11 + 10 * k) ∈ RL236 := p_248
      have p_249 : (20 + ml, 12 + 10 * k) ∈ RL236 := p_249
      have p_250 : (20 + ml, 13 + 10 * k) ∈ RL236 := p_250
      have p_251 : (20 + ml, 14 + 10 * k) ∈ RL236 := p_251
      have p_252 : (20 + ml, 15 + 10 * k) ∈ RL236 := p_252
      have p_253 : (20 + ml, 16 + 10 * k) ∈ RL236 := p_253
      have p_254 : (20 + ml, 17 + 10 * k) ∈ RL236 := p_254
      refine W.eq (g2 := F0 m 46 ls [.ref (ad234 (20 + ml) (10 + 10 * k)), .int (nI k), .ref (ad234 (20 + ml) 1)]) (by rw [p_246 (20 + ml) (10 + 10 * k) (by omega) (by omega) (by omega) (by omega) (by omega) (by omega) (by omega), p_246 (20 + ml) 1 (by omega) (by omega) (by omega) (by omega) (by omega) (by omega) (by omega)]) ?_
      have hl : lv_has ls 4 [(3, .int (nI k)), (2, .ref (ad234 (20 + ml) 0)), (0, .ref (ad234 0 7))] := by
        rw [p_246 (20 + ml) 0 (by omega) (by omega) (by omega) (by omega) (by omega) (by omega) (by omega), p_246 0 7 (by omega) (by omega) (by omega) (by omega) (by omega) (by omega) (by omega)]; exact hl
      have m_256 : (0, 0) ∈ RL236 := p_247 _ m_181
      have m_257 : (0, 1) ∈ RL236 := p_247 _ m_182
      have m_258 : (0, 2) ∈ RL236 := p_247 _ m_183
      have m_259 : (0, 3) ∈ RL236 := p_247 _ m_184
      have m_260 : (0, 4) ∈ RL236 := p_247 _ m_185
      have m_261 : (0, 5) ∈ RL236 := p_247 _ m_186
      have m_262 : (0, 6) ∈ RL236 := p_247 _ m_187
      have m_263 : (0, 7) ∈ RL236 := p_247 _ m_188
      have m_264 : (0, 8) ∈ RL236 := p_247 _ m_189
      have m_265 : (0, 9) ∈ RL236 := p_247 _ m_190
      have m_266 : (20 + ml, 0) ∈ RL236 := p_247 _ m_191
      have m_267 : (20 + ml, 1) ∈ RL236 := p_247 _ m_192
      have m_268 : (1 + d9, 0) ∈ RL236 := p_247 _ m_193
      have m_269 : (1 + d9, 1) ∈ RL236 := p_247 _ m_194
      have m_270 : (1 + d9, 2) ∈ RL236 := p_247 _ m_195
      have m_271 : (1 + d9, 3) ∈ RL236 := p_247 _ m_196
      have m_272 : (1 + d9, 4) ∈ RL236 := p_247 _ m_197
      have m_273 : (1 + d9, 5) ∈ RL236 := p_247 _ m_198
      have m_274 : (1 + d9, 6) ∈ RL236 := p_247 _ m_199
      have m_275 : (1 + d9, 7) ∈ RL236 := p_247 _ m_200
      have m_276 : (1 + d9, 8) ∈ RL236 := p_247 _ m_201
      have m_277 : (1 + d9, 9) ∈ RL236 := p_247 _ m_202
      have m_278 : (1 + d9, 10) ∈ RL236 := p_247 _ m_203
      have m_279 : (1 + d9, 11) ∈ RL236 := p_247 _ m_204
      have m_280 : (1 + d9, 12) ∈ RL236 := p_247 _ m_205
      have m_281 : (20 + ml, 10 + 10 * k) ∈ RL236 := p_247 _ m_180
      have c_282 : E235 0 0 = .inr (0, [.ref (ad234 0 1), .ref (ad234 0 5), .ref (ad234 0 7), .ref (ad234 0 9), .int (nI ml), .int lf_1]) := by rw [p_245 0 0 (by omega) (by omega) (by omega) (by omega) (by omega) (by omega) (by omega) (by omega), p_246 0 1 (by omega) (by omega) (by omega) (by omega) (by omega) (by omega) (by omega), p_246 0 5 (by omega) (by omega) (by omega) (by omega) (by omega) (by omega) (by omega), p_246 0 7 (by omega) (by omega) (by omega) (by omega) (by omega) (by omega) (by omega), p_246 0 9 (by omega) (by omega) (by omega) (by omega) (by omega) (by omega) (by omega)]; exact c_206
      have c_283 : E235 0 1 = .inr (1, [.ref (ad234 0 2), .ref (ad234 0 3), .ref (ad234 0 4), .int (nI len), .int (nI wn)]) := by rw [p_245 0 1 (by omega) (by omega) (by omega) (by omega) (by omega) (by omega) (by omega) (by omega), p_246 0 2 (by omega) (by omega) (by omega) (by omega) (by omega) (by omega) (by omega), p_246 0 3 (by omega) (by omega) (by omega) (by omega) (by omega) (by omega) (by omega), p_246 0 4 (by omega) (by omega) (by omega) (by omega) (by omega) (by omega) (by omega)]; exact c_207
      have c_284 : E235 0 2 = .inl (kA 1, 40, .inl tx_4) := by rw [p_245 0 2 (by omega) (by omega) (by omega) (by omega) (by omega) (by omega) (by omega) (by omega)]; exact c_208
      have c_285 : E235 0 3 = .inl (kA 0, 20, .inl fb_4) := by rw [p_245 0 3 (by omega) (by omega) (by omega) (by omega) (by omega) (by omega) (by omega) (by omega)]; exact c_209
      have c_286 : E235 0 4 = .inl (kA 0, 20, .inl fe_4) := by rw [p_245 0 4 (by omega) (by omega) (by omega) (by omega) (by omega) (by omega) (by omega) (by omega)]; exact c_210
      have c_287 : E235 0 5 = .inr (2, [.ref (ad234 0 6), .int (nI nd)]) := by rw [p_245 0 5 (by omega) (by omega) (by omega) (by omega) (by omega) (by omega) (by omega) (by omega), p_246 0 6 (by omega) (by omega) (by omega) (by omega) (by omega) (by omega) (by omega)]; exact c_211
      have c_288 : E235 0 6 = .inl (kA 4, 12, .inr (.inr (.inr (.inr fd_13)))) := by rw [p_245 0 6 (by omega) (by omega) (by omega) (by omega) (by omega) (by omega) (by omega) (by omega)]; exact c_212
      have c_289 : E235 0 7 = .inr (3, [.ref (ad234 0 5), .ref (ad234 0 8), .int (nI cs), .int cf_18, .null]) := by rw [p_245 0 7 (by omega) (by omega) (by omega) (by omega) (by omega) (by omega) (by omega) (by omega), p_246 0 5 (by omega) (by omega) (by omega) (by omega) (by omega) (by omega) (by omega), p_246 0 8 (by omega) (by omega) (by omega) (by omega) (by omega) (by omega) (by omega)]; exact c_213
      have c_290 : E235 0 8 = .inl (kA 4, 12, .inr (.inr (.inr (.inr fc_18)))) := by rw [p_245 0 8 (by omega) (by omega) (by omega) (by omega) (by omega) (by omega) (by omega) (by omega)]; exact c_214
      have c_291 : E235 0 9 = .inl (kA 5, 5, .inr (.inr (.inr (.inr fl_23)))) := by rw [p_245 0 9 (by omega) (by omega) (by omega) (by omega) (by omega) (by omega) (by omega) (by omega)]; exact c_215
      have c_292 : E235 (20 + ml) 0 = .inr (5, [.int (nI ml), pv1, .ref (ad234 (20 + ml) 1), .int 1]) := by rw [p_245 (20 + ml) 0 (by omega) (by omega) (by omega) (by omega) (by omega) (by omega) (by omega) (by omega), p_246 (20 + ml) 1 (by omega) (by omega) (by omega) (by omega) (by omega) (by omega) (by omega)]; exact c_216
      have c_293 : E235 (20 + ml) 1 = .inl (kA 6, cs, .inr (.inr (.inr (.inr fm1)))) := by rw [p_245 (20 + ml) 1 (by omega) (by omega) (by omega) (by omega) (by omega) (by omega) (by omega) (by omega)]; exact c_217
      have c_294 : E235 (1 + d9) 0 = .inr (7, [.int (nI d9), .int fd_146, .int nm_146, .ref (ad234 (1 + d9) 1), .ref (ad234 (1 + d9) 9), .ref (ad234 (1 + d9) 10), .ref (ad234 (1 + d9) 2), .ref (ad234 (1 + d9) 11), .ref (ad234 (1 + d9) 12), .ref (ad234 (1 + d9) 3), .ref (ad234 (1 + d9) 4), .int sd_146]) := by rw [p_245 (1 + d9) 0 (by omega) (by omega) (by omega) (by omega) (by omega) (by omega) (by omega) (by omega), p_246 (1 + d9) 1 (by omega) (by omega) (by omega) (by omega) (by omega) (by omega) (by omega), p_246 (1 + d9) 9 (by omega) (by omega) (by omega) (by omega) (by omega) (by omega) (by omega), p_246 (1 + d9) 10 (by omega) (by omega) (by omega) (by omega) (by omega) (by omega) (by omega), p_246 (1 + d9) 2 (by omega) (by omega) (by omega) (by omega) (by omega) (by omega) (by omega), p_246 (1 + d9) 11 (by omega) (by omega) (by omega) (by omega) (by omega) (by omega) (by omega), p_246 (1 + d9) 12 (by omega) (by omega) (by omega) (by omega) (by omega) (by omega) (by omega), p_246 (1 + d9) 3 (by omega) (by omega) (by omega) (by omega) (by omega) (by omega) (by omega), p_246 (1 + d9) 4 (by omega) (by omega) (by omega) (by omega) (by omega) (by omega) (by omega)]; exact c_218
      have c_295 : E235 (1 + d9) 1 = .inr (8, [.ref (ad234 (1 + d9) 5), .int (nI k0_146)]) := by rw [p_245 (1 + d9) 1 (by omega) (by omega) (by omega) (by omega) (by omega) (by omega) (by omega) (by omega), p_246 (1 + d9) 5 (by omega) (by omega) (by omega) (by omega) (by omega) (by omega) (by omega)]; exact c_219
      have c_296 : E235 (1 + d9) 2 = .inr (8, [.ref (ad234 (1 + d9) 6), .int (nI k1_146)]) := by rw [p_245 (1 + d9) 2 (by omega) (by omega) (by omega) (by omega) (by omega) (by omega) (by omega) (by omega), p_246 (1 + d9) 6 (by omega) (by omega) (by omega) (by omega) (by omega) (by omega) (by omega)]; exact c_220
      have c_297 : E235 (1 + d9) 3 = .inr (8, [.ref (ad234 (1 + d9) 7), .int (nI k2_146)]) := by rw [p_245 (1 + d9) 3 (by omega) (by omega) (by omega) (by omega) (by omega) (by omega) (by omega) (by omega), p_246 (1 + d9) 7 (by omega) (by omega) (by omega) (by omega) (by omega) (by omega) (by omega)]; exact c_221
      have c_298 : E235 (1 + d9) 4 = .inr (8, [.ref (ad234 (1 + d9) 8), .int (nI k3_146)]) := by rw [p_245 (1 + d9) 4 (by omega) (by omega) (by omega) (by omega) (by omega) (by omega) (by omega) (by omega), p_246 (1 + d9) 8 (by omega) (by omega) (by omega) (by omega) (by omega) (by omega) (by omega)]; exact c_222
      have c_299 : E235 (1 + d9) 5 = .inl (kA 0, 6, .inl f0_146) := by rw [p_245 (1 + d9) 5 (by omega) (by omega) (by omega) (by omega) (by omega) (by omega) (by omega) (by omega)]; exact c_223
      have c_300 : E235 (1 + d9) 6 = .inl (kA 0, 5, .inl f1_146) := by rw [p_245 (1 + d9) 6 (by omega) (by omega) (by omega) (by omega) (by omega) (by omega) (by omega) (by omega)]; exact c_224
      have c_301 : E235 (1 + d9) 7 = .inl (kA 0, 3, .inl f2_146) := by rw [p_245 (1 + d9) 7 (by omega) (by omega) (by omega) (by omega) (by omega) (by omega) (by omega) (by omega)]; exact c_225
      have c_302 : E235 (1 + d9) 8 = .inl (kA 0, 3, .inl f3_146) := by rw [p_245 (1 + d9) 8 (by omega) (by omega) (by omega) (by omega) (by omega) (by omega) (by omega) (by omega)]; exact c_226
      have c_303 : E235 (1 + d9) 9 = .inl (kA 8, 6, .inr (.inr (.inr (.inr fe_146)))) := by rw [p_245 (1 + d9) 9 (by omega) (by omega) (by omega) (by omega) (by omega) (by omega) (by omega) (by omega)]; exact c_227
      have c_304 : E235 (1 + d9) 10 = .inl (kA 8, 6, .inr (.inr (.inr (.inr fo_146)))) := by rw [p_245 (1 + d9) 10 (by omega) (by omega) (by omega) (by omega) (by omega) (by omega) (by omega) (by omega)]; exact c_228
      have c_305 : E235 (1 + d9) 11 = .inl (kA 2, 5, .inl tr_146) := by rw [p_245 (1 + d9) 11 (by omega) (by omega) (by omega) (by omega) (by omega) (by omega) (by omega) (by omega)]; exact c_229
      have c_306 : E235 (1 + d9) 12 = .inl (kA 2, 5, .inl op_146) := by rw [p_245 (1 + d9) 12 (by omega) (by omega) (by omega) (by omega) (by omega) (by omega) (by omega) (by omega)]; exact c_230
      have hP : va_P D xcl (rp ad234 E235 RL236) H := hP
      have hD : va_D A (rp ad234 E235 RL236) := hD
      refine px_aast (i := k) (r := (xR_Me, xT_Me, 6)) hx hb hK.1 hP hD hS m_267 c_293 6 rfl m_281 p_237 rfl (by omega) (by omega) xd_Ch_draft_46 (fun H locs hP hD hS => ?_)
      have hP : va_P D xcl (rp ad234 (up2 E235 (20 + ml) 1 (.inl (kA 6, cs, .inr (.inr (.inr (.inr (va_up fm1 k (some (ad234 (20 + ml) (10 + 10 * k)))))))))) RL236) H := hP
      have hD : va_D A (rp ad234 (up2 E235 (20 + ml) 1 (.inl (kA 6, cs, .inr (.inr (.inr (.inr (va_up fm1 k (some (ad234 (20 + ml) (10 + 10 * k)))))))))) RL236) := hD
      generalize hE308 : up2 E235 (20 + ml) 1 (.inl (kA 6, cs, .inr (.inr (.inr (.inr (va_up fm1 k (some (ad234 (20 + ml) (10 + 10 * k))))))))) = E307 at hP hD
      have fE309 : ∀ b2 o2, ¬ (b2 = 20 + ml ∧ o2 = 1) → E307 b2 o2 = E235 b2 o2 := fun b2 o2 h9 => by rw [← hE308]; exact up2_ne (by omega)
      have c_310 : E307 (20 + ml) 1 = .inl (kA 6, cs, .inr (.inr (.inr (.inr (va_up fm1 k (some (ad234 (20 + ml) (10 + 10 * k)))))))) := by rw [← hE308]; exact up2_eq
      have c_311 : E307 (20 + ml) (10 + 10 * k) = .inr (6, [.ref (ad234 (20 + ml) 0), .ref (ad234 (1 + d9) 0), .ref (ad234 (20 + ml) (11 + 10 * k)), .ref (ad234 (20 + ml) (12 + 10 * k)), .ref (ad234 (20 + ml) (13 + 10 * k)), .ref (ad234 (20 + ml) (14 + 10 * k))]) := (fE309 (20 + ml) (10 + 10 * k) (by omega)).trans p_237
      have c_312 : E307 (20 + ml) (11 + 10 * k) = .inl (kA 6, k1_146, .inr (.inr (.inr (.inr (fun _ => none))))) := (fE309 (20 + ml) (11 + 10 * k) (by omega)).trans p_238
      have c_313 : E307 (20 + ml) (12 + 10 * k) = .inr (10, [.ref (ad234 (20 + ml) (15 + 10 * k))]) := (fE309 (20 + ml) (12 + 10 * k) (by omega)).trans p_239
      have c_314 : E307 (20 + ml) (13 + 10 * k) = .inr (10, [.ref (ad234 (20 + ml) (16 + 10 * k))]) := (fE309 (20 + ml) (13 + 10 * k) (by omega)).trans p_240
      have c_315 : E307 (20 + ml) (14 + 10 * k) = .inr (10, [.ref (ad234 (20 + ml) (17 + 10 * k))]) := (fE309 (20 + ml) (14 + 10 * k) (by omega)).trans p_241
      have c_316 : E307 (20 + ml) (15 + 10 * k) = .inl (kA 0, 6, .inl (fun _ => 0)) := (fE309 (20 + ml) (15 + 10 * k) (by omega)).trans p_242
      have c_317 : E307 (20 + ml) (16 + 10 * k) = .inl (kA 0, 6, .inl (fun _ => 0)) := (fE309 (20 + ml) (16 + 10 * k) (by omega)).trans p_243
      have c_318 : E307 (20 + ml) (17 + 10 * k) = .inl (kA 0, 6, .inl (fun _ => 0)) := (fE309 (20 + ml) (17 + 10 * k) (by omega)).trans p_244
      have c_319 : E307 0 0 = .inr (0, [.ref (ad234 0 1), .ref (ad234 0 5), .ref (ad234 0 7), .ref (ad234 0 9), .int (nI ml), .int lf_1]) := (fE309 0 0 (by omega)).trans c_282
      have c_320 : E307 0 1 = .inr (1, [.ref (ad234 0 2), .ref (ad234 0 3), .ref (ad234 0 4), .int (nI len), .int (nI wn)]) := (fE309 0 1 (by omega)).trans c_283
      have c_321 : E307 0 2 = .inl (kA 1, 40, .inl tx_4) := (fE309 0 2 (by omega)).trans c_284
      have c_322 : E307 0 3 = .inl (kA 0, 20, .inl fb_4) := (fE309 0 3 (by omega)).trans c_285
      have c_323 : E307 0 4 = .inl (kA 0, 20, .inl fe_4) := (fE309 0 4 (by omega)).trans c_286
      have c_324 : E307 0 5 = .inr (2, [.ref (ad234 0 6), .int (nI nd)]) := (fE309 0 5 (by omega)).trans c_287
      have c_325 : E307 0 6 = .inl (kA 4, 12, .inr (.inr (.inr (.inr fd_13)))) := (fE309 0 6 (by omega)).trans c_288
      have c_326 : E307 0 7 = .inr (3, [.ref (ad234 0 5), .ref (ad234 0 8), .int (nI cs), .int cf_18, .null]) := (fE309 0 7 (by omega)).trans c_289
      have c_327 : E307 0 8 = .inl (kA 4, 12, .inr (.inr (.inr (.inr fc_18)))) := (fE309 0 8 (by omega)).trans c_290
      have c_328 : E307 0 9 = .inl (kA 5, 5, .inr (.inr (.inr (.inr fl_23)))) := (fE309 0 9 (by omega)).trans c_291
      have c_329 : E307 (20 + ml) 0 = .inr (5, [.int (nI ml), pv1, .ref (ad234 (20 + ml) 1), .int 1]) := (fE309 (20 + ml) 0 (by omega)).trans c_292
      have c_330 : E307 (1 + d9) 0 = .inr (7, [.int (nI d9), .int fd_146, .int nm_146, .ref (ad234 (1 + d9) 1), .ref (ad234 (1 + d9) 9), .ref (ad234 (1 + d9) 10), .ref (ad234 (1 + d9) 2), .ref (ad234 (1 + d9) 11), .ref (ad234 (1 + d9) 12), .ref (ad234 (1 + d9) 3), .ref (ad234 (1 + d9) 4), .int sd_146]) := (fE309 (1 + d9) 0 (by omega)).trans c_294
      have c_331 : E307 (1 + d9) 1 = .inr (8, [.ref (ad234 (1 + d9) 5), .int (nI k0_146)]) := (fE309 (1 + d9) 1 (by omega)).trans c_295
      have c_332 : E307 (1 + d9) 2 = .inr (8, [.ref (ad234 (1 + d9) 6), .int (nI k1_146)]) := (fE309 (1 + d9) 2 (by omega)).trans c_296
      have c_333 : E307 (1 + d9) 3 = .inr (8, [.ref (ad234 (1 + d9) 7), .int (nI k2_146)]) := (fE309 (1 + d9) 3 (by omega)).trans c_297
      have c_334 : E307 (1 + d9) 4 = .inr (8, [.ref (ad234 (1 + d9) 8), .int (nI k3_146)]) := (fE309 (1 + d9) 4 (by omega)).trans c_298
      have c_335 : E307 (1 + d9) 5 = .inl (kA 0, 6, .inl f0_146) := (fE309 (1 + d9) 5 (by omega)).trans c_299
      have c_336 : E307 (1 + d9) 6 = .inl (kA 0, 5, .inl f1_146) := (fE309 (1 + d9) 6 (by omega)).trans c_300
      have c_337 : E307 (1 + d9) 7 = .inl (kA 0, 3, .inl f2_146) := (fE309 (1 + d9) 7 (by omega)).trans c_301
      have c_338 : E307 (1 + d9) 8 = .inl (kA 0, 3, .inl f3_146) := (fE309 (1 + d9) 8 (by omega)).trans c_302
      have c_339 : E307 (1 + d9) 9 = .inl (kA 8, 6, .inr (.inr (.inr (.inr fe_146)))) := (fE309 (1 + d9) 9 (by omega)).trans c_303
      have c_340 : E307 (1 + d9) 10 = .inl (kA 8, 6, .inr (.inr (.inr (.inr fo_146)))) := (fE309 (1 + d9) 10 (by omega)).trans c_304
      have c_341 : E307 (1 + d9) 11 = .inl (kA 2, 5, .inl tr_146) := (fE309 (1 + d9) 11 (by omega)).trans c_305
      have c_342 : E307 (1 + d9) 12 = .inl (kA 2, 5, .inl op_146) := (fE309 (1 + d9) 12 (by omega)).trans c_306
      refine lv_iinc (k := 0) (x := (nI k)) (v := (nI (k + 1))) hx hb xd_Ch_draft_47 hl rfl (xb_inc k 1) (Nat.le_of_ble_eq_true rfl) rfl (fun ls hl => ?_)
      have hl : lv_has ls 4 [(3, .int (nI (k + 1))), (2, .ref (ad234 (20 + ml) 0)), (0, .ref (ad234 0 7))] := hl
      refine lv_goto (tgt := 19) hx hb xd_Ch_draft_50 (by decide) ?_
      exact ih90 (k + 1, ad234, E307, RL236, pv1, (va_up fm1 k (some (ad234 (20 + ml) (10 + 10 * k))))) _ _ _ (show cs - (k + 1) < cs - k by omega) (lv_sub hl [0, 1, 2] rfl) hP hD hS ⟨(show (k + 1) ≤ cs from by first | assumption | omega), (show (∀ b2 o2, ¬ (b2 = 20 + ml) → E307 b2 o2 = E b2 o2) from fun b2 o2 h9 => by show E307 b2 o2 = _; rw [fE309 b2 o2 (by omega), p_245 b2 o2 (by omega) (by omega) (by omega) (by omega) (by omega) (by omega) (by omega) (by omega), fE176 b2 o2 (by omega), hfE b2 o2 (by omega)]), (show (∀ b2 o2, ¬ (b2 = 20 + ml) → ad234 b2 o2 = ad b2 o2) from fun b2 o2 h9 => by show ad234 b2 o2 = _; rw [p_246 b2 o2 (by omega) (by omega) (by omega) (by omega) (by omega) (by omega) (by omega), fA177 b2 o2 (by omega), hfA b2 o2 (by omega)]), (show ∀ x ∈ RL, x ∈ RL236 from fun _ h9 => p_247 _ (hs178 _ (hfS _ h9))), (show (20 + ml, 0) ∈ RL236 from m_266), (show (20 + ml, 1) ∈ RL236 from m_267), (show pv1 = .null ∨ ∃ x, x < ml ∧ pv1 = .ref (ad234 (20 + x) 0) from by rcases hpv1 with h | ⟨x, hx9, h⟩; exact Or.inl h; exact Or.inr ⟨x, hx9, by rw [p_246 (20 + x) 0 (by omega) (by omega) (by omega) (by omega) (by omega) (by omega) (by omega), fA177 (20 + x) 0 (by omega)]; exact h⟩), (show E307 (20 + ml) 0 = .inr (5, [.int (nI ml), pv1, .ref (ad234 (20 + ml) 1), .int 1]) from c_329), (show E307 (20 + ml) 1 = .inl (kA 6, cs, .inr (.inr (.inr (.inr (va_up fm1 k (some (ad234 (20 + ml) (10 + 10 * k)))))))) from c_310), (show ∀ j, j < (k + 1) → (va_up fm1 k (some (ad234 (20 + ml) (10 + 10 * k)))) j = some (ad234 (20 + ml) (10 + 10 * j)) ∧ MEI kA ad234 E307 RL236 nd ml j from fun j hj => by
          by_cases q : j = k
          · subst q; exact ⟨vu_eq, ⟨(fun j9 hj9 => by
              have hj8 : j9 = 0 ∨ j9 = 1 ∨ j9 = 2 ∨ j9 = 3 ∨ j9 = 4 ∨ j9 = 5 ∨ j9 = 6 ∨ j9 = 7 := by omega
              rcases hj8 with rfl | rfl | rfl | rfl | rfl | rfl | rfl | rfl
              · exact m_281
              · exact p_248
              · exact p_249
              · exact p_250
              · exact p_251
              · exact p_252
              · exact p_253
              · exact p_254), d9, k1_146, (fun _ => none), (fun _ => 0), (fun _ => 0), (fun _ => 0), hd9, by omega, c_311, c_312, c_313, c_314, c_315, c_316, c_317, c_318⟩⟩
          · exact ⟨(vu_ne q).trans ((hMM j (by omega)).1.trans (by rw [p_246 (20 + ml) (10 + 10 * j) (by omega) (by omega) (by omega) (by omega) (by omega) (by omega) (by omega), fA177 (20 + ml) (10 + 10 * j) (by omega)])), MEI_at (fun j9 hj9 => by rw [fE309 (20 + ml) (10 + j9 + 10 * j) (by omega), p_245 (20 + ml) (10 + j9 + 10 * j) (by omega) (by omega) (by omega) (by omega) (by omega) (by omega) (by omega) (by omega), fE176 (20 + ml) (10 + j9 + 10 * j) (by omega)]) (fun j9 hj9 => by rw [p_246 (20 + ml) (10 + j9 + 10 * j) (by omega) (by omega) (by omega) (by omega) (by omega) (by omega) (by omega), fA177 (20 + ml) (10 + j9 + 10 * j) (by omega)]) (by rw [p_246 (20 + ml) 0 (by omega) (by omega) (by omega) (by omega) (by omega) (by omega) (by omega), fA177 (20 + ml) 0 (by omega)]) (fun d8 hd8 => by rw [p_246 (1 + d8) 0 (by omega) (by omega) (by omega) (by omega) (by omega) (by omega) (by omega), fA177 (1 + d8) 0 (by omega)]) (fun _ h9 => p_247 _ (hs178 _ (h9))) (hMM j (by omega)).2⟩)⟩
  · refine W.eq (g2 := F0 m 9 ls [.ref (ad26 (20 + x54) 0), .int (nI ml), .ref (ad26 (20 + ml) 0), .ref (ad26 (20 + ml) 0)]) rfl ?_
    refine lv_aload_n hx hb xd_Ch_draft_9 rfl (lv_at hl 0 rfl) ?_
    refine px_get (D := D) (ci := 3) (v := .int (nI cs)) (C := xR_Ch) (T := xT_Ch) (N := 5) hx hb hT xi_Ch hown hK.1 hP m_41 c_51 rfl 2 (by decide) (hT _ yu_4) (fun _ h9 => h9) rfl xd_Ch_draft_10 ?_
    have hFc := px_free hD hS hA
    refine va_callv (va_runI (As := [.int (nI ml), .ref (ad26 (20 + x54) 0), .int (nI cs)]) (rest := [.ref (ad26 (20 + ml) 0)]) ⟨hx, hb, hml, hown, hT⟩ (xc_Ly_initR l D kA H.size ad26 E27 RL28 ml (ad26 (20 + x54) 0) cs m_33 c_32 (by first | assumption | omega)) (cwI 3 hT (wT_I yu_5) rfl rfl rfl (hT _ yu_2) (hT _ yu_6) (hT _ yu_7) rfl (by decide +kernel) ⟨Nat.le_of_ble_eq_true rfl, Nat.le_of_ble_eq_true rfl⟩) (x_preS hK hP hD) rfl rfl hl.1 rfl (lv_room (Nat.le_of_ble_eq_true rfl)) xd_Ch_draft_13 ⟨(Nat.le_of_ble_eq_true rfl), (Nat.le_of_ble_eq_true rfl)⟩) hS (fun q _ h => hFc q h) hFc (fun u344 t H1 locs ht hvm hp345 hB hz1 hk1 hS => ?_)
    obtain ⟨hP1, hD1⟩ := hB
    rw [ht] at hP1
    have hD1 := hD1.weaken (fun _ _ _ h => hFc _ h)
    generalize H1 = H at hP1 hS ⊢
    have hP := hP1
    have hD := hD1
    obtain ⟨ad346, E347, RL348⟩ := u344
    obtain ⟨hp355, p_349, p_350, p_351, p_352, p_353, p_354⟩ := hp345
    have p_349 : E347 (20 + ml) 0 = .inr (5, [.int (nI ml), .ref (ad26 (20 + x54) 0), .ref (ad346 (20 + ml) 1), .int 1]) := p_349
    have p_350 : E347 (20 + ml) 1 = .inl (kA 6, cs, .inr (.inr (.inr (.inr (fun _ => none))))) := p_350
    have p_351 : (∀ b2 o2, ¬ (b2 = 20 + ml ∧ o2 = 0) → ¬ (b2 = 20 + ml ∧ o2 = 1) → E347 b2 o2 = E27 b2 o2) := p_351
    have p_352 : (∀ b2 o2, ¬ (b2 = 20 + ml ∧ o2 = 1) → ad346 b2 o2 = ad26 b2 o2) := p_352
    have p_353 : (∀ x ∈ RL28, x ∈ RL348) := p_353
    have p_354 : (20 + ml, 1) ∈ RL348 := p_354
    refine W.eq (g2 := F0 m 16 ls [.ref (ad346 (20 + ml) 0)]) (by rw [p_352 (20 + ml) 0 (by omega)]) ?_
    have hl : lv_has ls 4 [(0, .ref (ad346 0 7)), (1, .int (nI ml))] := by
      rw [p_352 0 7 (by omega)]; exact hl
    have m_356 : (0, 0) ∈ RL348 := p_353 _ m_34
    have m_357 : (0, 1) ∈ RL348 := p_353 _ m_35
    have m_358 : (0, 2) ∈ RL348 := p_353 _ m_36
    have m_359 : (0, 3) ∈ RL348 := p_353 _ m_37
    have m_360 : (0, 4) ∈ RL348 := p_353 _ m_38
    have m_361 : (0, 5) ∈ RL348 := p_353 _ m_39
    have m_362 : (0, 6) ∈ RL348 := p_353 _ m_40
    have m_363 : (0, 7) ∈ RL348 := p_353 _ m_41
    have m_364 : (0, 8) ∈ RL348 := p_353 _ m_42
    have m_365 : (0, 9) ∈ RL348 := p_353 _ m_43
    have m_366 : (20 + ml, 0) ∈ RL348 := p_353 _ m_33
    have c_367 : E347 0 0 = .inr (0, [.ref (ad346 0 1), .ref (ad346 0 5), .ref (ad346 0 7), .ref (ad346 0 9), .int (nI ml), .int lf_1]) := by rw [p_351 0 0 (by omega) (by omega), p_352 0 1 (by omega), p_352 0 5 (by omega), p_352 0 7 (by omega), p_352 0 9 (by omega)]; exact c_44
    have c_368 : E347 0 1 = .inr (1, [.ref (ad346 0 2), .ref (ad346 0 3), .ref (ad346 0 4), .int (nI len), .int (nI wn)]) := by rw [p_351 0 1 (by omega) (by omega), p_352 0 2 (by omega), p_352 0 3 (by omega), p_352 0 4 (by omega)]; exact c_45
    have c_369 : E347 0 2 = .inl (kA 1, 40, .inl tx_4) := by rw [p_351 0 2 (by omega) (by omega)]; exact c_46
    have c_370 : E347 0 3 = .inl (kA 0, 20, .inl fb_4) := by rw [p_351 0 3 (by omega) (by omega)]; exact c_47
    have c_371 : E347 0 4 = .inl (kA 0, 20, .inl fe_4) := by rw [p_351 0 4 (by omega) (by omega)]; exact c_48
    have c_372 : E347 0 5 = .inr (2, [.ref (ad346 0 6), .int (nI nd)]) := by rw [p_351 0 5 (by omega) (by omega), p_352 0 6 (by omega)]; exact c_49
    have c_373 : E347 0 6 = .inl (kA 4, 12, .inr (.inr (.inr (.inr fd_13)))) := by rw [p_351 0 6 (by omega) (by omega)]; exact c_50
    have c_374 : E347 0 7 = .inr (3, [.ref (ad346 0 5), .ref (ad346 0 8), .int (nI cs), .int cf_18, .ref (ad346 (20 + x54) 0)]) := by rw [p_351 0 7 (by omega) (by omega), p_352 0 5 (by omega), p_352 0 8 (by omega), p_352 (20 + x54) 0 (by omega)]; exact c_51
    have c_375 : E347 0 8 = .inl (kA 4, 12, .inr (.inr (.inr (.inr fc_18)))) := by rw [p_351 0 8 (by omega) (by omega)]; exact c_52
    have c_376 : E347 0 9 = .inl (kA 5, 5, .inr (.inr (.inr (.inr fl_23)))) := by rw [p_351 0 9 (by omega) (by omega)]; exact c_53
    have hP : va_P D xcl (rp ad346 E347 RL348) H := hP
    have hD : va_D A (rp ad346 E347 RL348) := hD
    have c_377 : E347 (20 + ml) 0 = .inr (5, [.int (nI ml), .ref (ad346 (20 + x54) 0), .ref (ad346 (20 + ml) 1), .int 1]) := by rw [p_352 (20 + x54) 0 (by omega)]; exact p_349
    refine lv_astore_n hx hb xd_Ch_draft_16 rfl hl (Nat.le_of_ble_eq_true rfl) rfl (fun ls hl => ?_)
    have hl : lv_has ls 4 [(2, .ref (ad346 (20 + ml) 0)), (0, .ref (ad346 0 7)), (1, .int (nI ml))] := hl
    refine lv_iconst (v := 0) hx hb xd_Ch_draft_17 (by decide) ?_
    refine lv_istore_n hx hb xd_Ch_draft_18 rfl hl (Nat.le_of_ble_eq_true rfl) rfl (fun ls hl => ?_)
    have hl : lv_has ls 4 [(3, .int 0), (2, .ref (ad346 (20 + ml) 0)), (0, .ref (ad346 0 7)), (1, .int (nI ml))] := hl
    refine xlabC (σ := Nat × (Nat → Nat → Nat) × (Nat → Nat → va_E) × (List (Nat × Nat)) × Value × (Nat → Option Nat)) (ml := 4) 19 (fun (k, ad1, E1, RL1, pv1, fm1) => [(3, .int (nI k)), (2, .ref (ad1 (20 + ml) 0)), (0, .ref (ad1 0 7))]) (fun (k, ad1, E1, RL1, pv1, fm1) => []) (fun (k, ad1, E1, RL1, pv1, fm1) => rp ad1 E1 RL1) (fun (k, ad1, E1, RL1, pv1, fm1) => 2 + 8 * k) (fun (k, ad1, E1, RL1, pv1, fm1) => 16 + 32 * k) (fun (k, ad1, E1, RL1, pv1, fm1) => (k ≤ cs) ∧ ((∀ b2 o2, ¬ (b2 = 20 + ml) → E1 b2 o2 = E b2 o2)) ∧ ((∀ b2 o2, ¬ (b2 = 20 + ml) → ad1 b2 o2 = ad b2 o2)) ∧ (∀ x ∈ RL, x ∈ RL1) ∧ ((20 + ml, 0) ∈ RL1) ∧ ((20 + ml, 1) ∈ RL1) ∧ (pv1 = .null ∨ ∃ x, x < ml ∧ pv1 = .ref (ad1 (20 + x) 0)) ∧ (E1 (20 + ml) 0 = .inr (5, [.int (nI ml), pv1, .ref (ad1 (20 + ml) 1), .int 1])) ∧ (E1 (20 + ml) 1 = .inl (kA 6, cs, .inr (.inr (.inr (.inr fm1))))) ∧ (∀ j, j < k → fm1 j = some (ad1 (20 + ml) (10 + 10 * j)) ∧ MEI kA ad1 E1 RL1 nd ml j)) (fun (k, ad1, E1, RL1, pv1, fm1) => cs - k) ?_ (0, ad346, E347, RL348, (.ref (ad346 (20 + x54) 0)), (fun _ => none)) _ _ _ (lv_sub hl [0, 1, 2] rfl) hP hD hS ⟨(show 0 ≤ cs from by first | assumption | omega), (show (∀ b2 o2, ¬ (b2 = 20 + ml) → E347 b2 o2 = E b2 o2) from fun b2 o2 h9 => by show E347 b2 o2 = _; rw [p_351 b2 o2 (by omega) (by omega), fE29 b2 o2 (by omega)]), (show (∀ b2 o2, ¬ (b2 = 20 + ml) → ad346 b2 o2 = ad b2 o2) from fun b2 o2 h9 => by show ad346 b2 o2 = _; rw [p_352 b2 o2 (by omega), fA30 b2 o2 (by omega)]), (show ∀ x ∈ RL, x ∈ RL348 from fun _ h9 => p_353 _ (hs31 _ h9)), (show (20 + ml, 0) ∈ RL348 from m_366), (show (20 + ml, 1) ∈ RL348 from p_354), (show (.ref (ad346 (20 + x54) 0)) = .null ∨ ∃ x, x < ml ∧ (.ref (ad346 (20 + x54) 0)) = .ref (ad346 (20 + x) 0) from Or.inr ⟨_, by omega, rfl⟩), (show E347 (20 + ml) 0 = .inr (5, [.int (nI ml), (.ref (ad346 (20 + x54) 0)), .ref (ad346 (20 + ml) 1), .int 1]) from c_377), (show E347 (20 + ml) 1 = .inl (kA 6, cs, .inr (.inr (.inr (.inr (fun _ => none))))) from p_350), (show ∀ j, j < 0 → (fun _ => none) j = some (ad346 (20 + ml) (10 + 10 * j)) ∧ MEI kA ad346 E347 RL348 nd ml j from fun j hj => absurd hj (by omega))⟩
    intro n9 ih378 a9 ls H locs hμ hl hP hD hS hI
    subst hμ
    obtain ⟨k, ad1, E1, RL1, pv1, fm1⟩ := a9
    obtain ⟨hk0, hfE, hfA, hfS, hm0, hm1, hpv1, hcA0, hcA1, hMM⟩ := hI
    have hk0 : k ≤ cs := hk0
    have hfE : (∀ b2 o2, ¬ (b2 = 20 + ml) → E1 b2 o2 = E b2 o2) := hfE
    have hfA : (∀ b2 o2, ¬ (b2 = 20 + ml) → ad1 b2 o2 = ad b2 o2) := hfA
    have hfS : ∀ x ∈ RL, x ∈ RL1 := hfS
    have hm0 : (20 + ml, 0) ∈ RL1 := hm0
    have hm1 : (20 + ml, 1) ∈ RL1 := hm1
    have hpv1 : pv1 = .null ∨ ∃ x, x < ml ∧ pv1 = .ref (ad1 (20 + x) 0) := hpv1
    have hcA0 : E1 (20 + ml) 0 = .inr (5, [.int (nI ml), pv1, .ref (ad1 (20 + ml) 1), .int 1]) := hcA0
    have hcA1 : E1 (20 + ml) 1 = .inl (kA 6, cs, .inr (.inr (.inr (.inr fm1)))) := hcA1
    have hMM : ∀ j, j < k → fm1 j = some (ad1 (20 + ml) (10 + 10 * j)) ∧ MEI kA ad1 E1 RL1 nd ml j := hMM
    have hl : lv_has ls 4 [(3, .int (nI k)), (2, .ref (ad1 (20 + ml) 0)), (0, .ref (ad1 0 7))] := hl
    have hP : va_P D xcl (rp ad1 E1 RL1) H := hP
    have hD : va_D A (rp ad1 E1 RL1) := hD
    have hDIs : DIs kA ad1 E1 RL1 nd := (DIs_same (fun d9 hd9 => fun2 fun o9 => by show E1 (1 + d9) o9 = _; rw [hfE (1 + d9) o9 (by omega)]) (fun d9 hd9 => fun2 fun o9 => by show ad1 (1 + d9) o9 = _; rw [hfA (1 + d9) o9 (by omega)]) (fun _ h9 => hfS _ h9) hDIs0)
    have hLIs : LIs kA ad1 E1 RL1 nd ml := (LIs_same (Nat.le_refl _) (fun n9 hn9 => fun2 fun o9 => by show E1 (20 + n9) o9 = _; rw [hfE (20 + n9) o9 (by omega)]) (fun n9 hn9 => fun2 fun o9 => by show ad1 (20 + n9) o9 = _; rw [hfA (20 + n9) o9 (by omega)]) (fun d9 hd9 => by show ad1 (1 + d9) 0 = _; rw [hfA (1 + d9) 0 (by omega)]) (fun _ h9 => hfS _ h9) hLIs0)
    have hmB : ∀ o, o < 10 → (0, o) ∈ RL1 := fun o9 h9 => hfS _ (hmB0 o9 h9)
    have c_379 : E1 0 0 = .inr (0, [.ref (ad1 0 1), .ref (ad1 0 5), .ref (ad1 0 7), .ref (ad1 0 9), .int (nI ml), .int lf_1]) := by rw [hfE 0 0 (by omega), hfA 0 1 (by omega), hfA 0 5 (by omega), hfA 0 7 (by omega), hfA 0 9 (by omega)]; exact c_2
    have m_380 : (0, 0) ∈ RL1 := hmB 0 (by omega)
    have c_381 : E1 0 1 = .inr (1, [.ref (ad1 0 2), .ref (ad1 0 3), .ref (ad1 0 4), .int (nI len), .int (nI wn)]) := by rw [hfE 0 1 (by omega), hfA 0 2 (by omega), hfA 0 3 (by omega), hfA 0 4 (by omega)]; exact c_5
    have m_382 : (0, 1) ∈ RL1 := hmB 1 (by omega)
    have c_383 : E1 0 2 = .inl (kA 1, 40, .inl tx_4) := by rw [hfE 0 2 (by omega)]; exact c_7
    have m_384 : (0, 2) ∈ RL1 := hmB 2 (by omega)
    have c_385 : E1 0 3 = .inl (kA 0, 20, .inl fb_4) := by rw [hfE 0 3 (by omega)]; exact c_9
    have m_386 : (0, 3) ∈ RL1 := hmB 3 (by omega)
    have c_387 : E1 0 4 = .inl (kA 0, 20, .inl fe_4) := by rw [hfE 0 4 (by omega)]; exact c_11
    have m_388 : (0, 4) ∈ RL1 := hmB 4 (by omega)
    have c_389 : E1 0 5 = .inr (2, [.ref (ad1 0 6), .int (nI nd)]) := by rw [hfE 0 5 (by omega), hfA 0 6 (by omega)]; exact c_14
    have m_390 : (0, 5) ∈ RL1 := hmB 5 (by omega)
    have c_391 : E1 0 6 = .inl (kA 4, 12, .inr (.inr (.inr (.inr fd_13)))) := by rw [hfE 0 6 (by omega)]; exact c_16
    have m_392 : (0, 6) ∈ RL1 := hmB 6 (by omega)
    have c_393 : E1 0 7 = .inr (3, [.ref (ad1 0 5), .ref (ad1 0 8), .int (nI cs), .int cf_18, .ref (ad1 (20 + x54) 0)]) := by rw [hfE 0 7 (by omega), hfA 0 5 (by omega), hfA 0 8 (by omega), hfA 20 + x54 0 (by omega)]; exact c_19
    have m_394 : (0, 7) ∈ RL1 := hmB 7 (by omega)
    have c_395 : E1 0 8 = .inl (kA 4, 12, .inr (.inr (.inr (.inr fc_18)))) := by rw [hfE 0 8 (by omega)]; exact c_21
    have m_396 : (0, 8) ∈ RL1 := hmB 8 (by omega)
    have c_397 : E1 0 9 = .inl (kA 5, 5, .inr (.inr (.inr (.inr fl_23)))) := by rw [hfE 0 9 (by omega)]; exact c_24
    have m_398 : (0, 9) ∈ RL1 := hmB 9 (by omega)
    refine lv_iload_n hx hb xd_Ch_draft_19 rfl (lv_at hl 0 rfl) ?_
    refine lv_aload_n hx hb xd_Ch_draft_20 rfl (lv_at hl 2 rfl) ?_
    refine px_get (D := D) (ci := 3) (v := .int (nI cs)) (C := xR_Ch) (T := xT_Ch) (N := 5) hx hb hT xi_Ch hown hK.1 hP m_394 c_393 rfl 2 (by decide) (hT _ yu_4) (fun _ h9 => h9) rfl xd_Ch_draft_21 ?_
    refine xn_ge (a := k) (b := cs) (tgt := 53) hx hb xd_Ch_draft_24 (by decide) (by omega) (by omega) (fun hc399 => ?_) (fun hc399 => ?_)
    · have hLI : LI kA ad1 E1 RL1 nd ml := ⟨hm0, hm1, pv1, 1, cs, fm1, by omega, hpv1, hcA0, hcA1, fun j hj => hMM j (by omega)⟩
      have hLIs := LIs_add hLIs hLI
      refine lv_aload_n hx hb xd_Ch_draft_53 rfl (lv_at hl 1 rfl) ?_
      have hFc := px_free hD hS hA
      refine va_callv (va_runV (As := []) (rest := []) ⟨hx, hb, hml, hown, hT⟩ (xc_Ly_connect l D kA H.size ad1 E1 RL1 nd (ml + 1) ml pv1 1 cs fm1 hm0 hcA0 hm1 hcA1 (by first | assumption | omega) (by first | assumption | omega) (by first | assumption | omega) (by first | assumption | omega) (by first | assumption | omega) (by first | assumption | omega) (fun j hj => hMM j (by omega))) (cwV 0 hT (wT_V yu_9 yu_10 yu_11 yu_2 yu_8) rfl rfl rfl (by decide +kernel) ⟨Nat.le_of_ble_eq_true rfl, Nat.le_of_ble_eq_true rfl⟩) (px_preV hK hP hD hm0 hcA0 rfl) rfl rfl hl.1 rfl (lv_room (Nat.le_of_ble_eq_true rfl)) xd_Ch_draft_54 ⟨(show 2 + 8 * k + 2 ≤ 100 by omega), (show 16 + 32 * k + 24 ≤ 424 by omega)⟩) hS (fun q _ h => hFc q h) hFc (fun u401 t H1 locs ht hvm hp402 hB hz1 hk1 hS => ?_)
      obtain ⟨hP1, hD1⟩ := hB
      rw [ht] at hP1
      have hD1 := hD1.weaken (fun _ _ _ h => hFc _ h)
      generalize H1 = H at hP1 hS ⊢
      have hP := hP1
      have hD := hD1
      obtain ⟨ad403, E404, RL405⟩ := u401
      obtain ⟨hp411, p_406, p_407, p_408, p_409, p_410⟩ := hp402
      have p_406 : (∀ b2 o2, ¬ (b2 = 20 + ml) → E404 b2 o2 = E1 b2 o2) := p_406
      have p_407 : (∀ b2 o2, ¬ (b2 = 20 + ml ∧ o2 = 2) → ¬ (b2 = 20 + ml ∧ o2 = 3) → ad403 b2 o2 = ad1 b2 o2) := p_407
      have p_408 : (∀ x ∈ RL1, x ∈ RL405) := p_408
      have p_409 : (20 + ml, 2) ∈ RL405 := p_409
      have p_410 : (20 + ml, 3) ∈ RL405 := p_410
      have hl : lv_has ls 4 [(3, .int (nI k)), (2, .ref (ad403 (20 + ml) 0)), (0, .ref (ad403 0 7))] := by
        rw [p_407 (20 + ml) 0 (by omega) (by omega), p_407 0 7 (by omega) (by omega)]; exact hl
      have m_412 : (0, 0) ∈ RL405 := p_408 _ m_380
      have m_413 : (0, 1) ∈ RL405 := p_408 _ m_382
      have m_414 : (0, 2) ∈ RL405 := p_408 _ m_384
      have m_415 : (0, 3) ∈ RL405 := p_408 _ m_386
      have m_416 : (0, 4) ∈ RL405 := p_408 _ m_388
      have m_417 : (0, 5) ∈ RL405 := p_408 _ m_390
      have m_418 : (0, 6) ∈ RL405 := p_408 _ m_392
      have m_419 : (0, 7) ∈ RL405 := p_408 _ m_394
      have m_420 : (0, 8) ∈ RL405 := p_408 _ m_396
      have m_421 : (0, 9) ∈ RL405 := p_408 _ m_398
      have m_422 : (20 + ml, 0) ∈ RL405 := p_408 _ hm0
      have m_423 : (20 + ml, 1) ∈ RL405 := p_408 _ hm1
      have c_424 : E404 0 0 = .inr (0, [.ref (ad403 0 1), .ref (ad403 0 5), .ref (ad403 0 7), .ref (ad403 0 9), .int (nI ml), .int lf_1]) := by rw [p_406 0 0 (by omega), p_407 0 1 (by omega) (by omega), p_407 0 5 (by omega) (by omega), p_407 0 7 (by omega) (by omega), p_407 0 9 (by omega) (by omega)]; exact c_379
      have c_425 : E404 0 1 = .inr (1, [.ref (ad403 0 2), .ref (ad403 0 3), .ref (ad403 0 4), .int (nI len), .int (nI wn)]) := by rw [p_406 0 1 (by omega), p_407 0 2 (by omega) (by omega), p_407 0 3 (by omega) (by omega), p_407 0 4 (by omega) (by omega)]; exact c_381
      have c_426 : E404 0 2 = .inl (kA 1, 40, .inl tx_4) := by rw [p_406 0 2 (by omega)]; exact c_383
      have c_427 : E404 0 3 = .inl (kA 0, 20, .inl fb_4) := by rw [p_406 0 3 (by omega)]; exact c_385
      have c_428 : E404 0 4 = .inl (kA 0, 20, .inl fe_4) := by rw [p_406 0 4 (by omega)]; exact c_387
      have c_429 : E404 0 5 = .inr (2, [.ref (ad403 0 6), .int (nI nd)]) := by rw [p_406 0 5 (by omega), p_407 0 6 (by omega) (by omega)]; exact c_389
      have c_430 : E404 0 6 = .inl (kA 4, 12, .inr (.inr (.inr (.inr fd_13)))) := by rw [p_406 0 6 (by omega)]; exact c_391
      have c_431 : E404 0 7 = .inr (3, [.ref (ad403 0 5), .ref (ad403 0 8), .int (nI cs), .int cf_18, .ref (ad403 (20 + x54) 0)]) := by rw [p_406 0 7 (by omega), p_407 0 5 (by omega) (by omega), p_407 0 8 (by omega) (by omega), p_407 (20 + x54) 0 (by omega) (by omega)]; exact c_393
      have c_432 : E404 0 8 = .inl (kA 4, 12, .inr (.inr (.inr (.inr fc_18)))) := by rw [p_406 0 8 (by omega)]; exact c_395
      have c_433 : E404 0 9 = .inl (kA 5, 5, .inr (.inr (.inr (.inr fl_23)))) := by rw [p_406 0 9 (by omega)]; exact c_397
      have hP : va_P D xcl (rp ad403 E404 RL405) H := hP
      have hD : va_D A (rp ad403 E404 RL405) := hD
      obtain ⟨hDIs9, hLIs9⟩ := hp411
      refine lv_aload_n hx hb xd_Ch_draft_57 rfl (lv_at hl 1 rfl) ?_
      refine W.widen (k := 100) (n := 424) (by omega) (by omega) ?_
      exact W.aret (v := .ref (ad403 (20 + ml) 0)) hx hb hr (Or.inl ⟨_, rfl⟩) (Or.inr ⟨_, rfl⟩) (fun t ht hW => ⟨⟨(some (ad403 (20 + ml) 0)), (ad403, E404, RL405), rfl, ⟨⟨rfl, ⟨(fun o9 h9 => p_408 _ (hfS _ (hmB o9 h9))), ⟨lf_1, c_424⟩, ⟨tx_4, fb_4, fe_4, (by omega), (by omega), c_425, c_426, c_427, c_428, hws0⟩, ⟨fd_13, (by omega), c_429, c_430, (fun d9 hd9 => (hds0 d9 hd9).trans (by rw [p_407 (1 + d9) 0 (by omega) (by omega), hfA (1 + d9) 0 (by omega)]))⟩, ⟨cf_18, (.ref (ad403 (20 + x54) 0)), fc_18, (by omega), (by rcases hpv0 with h | ⟨x, hx9, h⟩; exact Or.inl h; exact Or.inr ⟨x, hx9, by rw [p_407 (20 + x) 0 (by omega) (by omega), hfA (20 + x) 0 (by omega)]; exact h⟩), c_431, c_432, (fun k9 hk9 => by obtain ⟨d8, q1, q2⟩ := hfc0 k9 hk9; exact ⟨d8, q1, q2.trans (by rw [p_407 (1 + d8) 0 (by omega) (by omega), hfA (1 + d8) 0 (by omega)])⟩)⟩, ⟨fl_23, (by omega), c_433, (fun n9 hn9 => (hla0 n9 hn9).trans (by rw [p_407 (20 + n9) 0 (by omega) (by omega), hfA (20 + n9) 0 (by omega)]))⟩, hDIs9, (fun n9 hn9 => hLIs9 n9 (by omega))⟩, hLIs9 ml (by omega)⟩, (fun b2 o2 h09 => by show E404 b2 o2 = _; rw [p_406 b2 o2 (by omega), hfE b2 o2 (by omega)]), (fun b2 o2 h09 => by show ad403 b2 o2 = _; rw [p_407 b2 o2 (by omega) (by omega), hfA b2 o2 (by omega)]), (fun x9 hx9 => p_408 _ (hfS _ hx9))⟩, by rw [ht]; exact hP, hD⟩, hS.F ht⟩) hS.2.2 xd_Ch_draft_58
    · obtain ⟨d9, hd9, hf9⟩ := hfc0 k (by omega)
      obtain ⟨hm_434, fd_434, nm_434, sd_434, k0_434, k1_434, k2_434, k3_434, f0_434, f1_434, f2_434, f3_434, fe_434, fo_434, tr_434, op_434, hk0_434, hk1_434, hk2_434, hk3_434, q0_434, q1_434, q2_434, q3_434, q4_434, q5_434, q6_434, q7_434, q8_434, q9_434, q10_434, q11_434, q12_434, hg_434⟩ := id (hDIs d9 (by omega))
      have c_435 : E1 (1 + d9) 0 = .inr (7, [.int (nI d9), .int fd_434, .int nm_434, .ref (ad1 (1 + d9) 1), .ref (ad1 (1 + d9) 9), .ref (ad1 (1 + d9) 10), .ref (ad1 (1 + d9) 2), .ref (ad1 (1 + d9) 11), .ref (ad1 (1 + d9) 12), .ref (ad1 (1 + d9) 3), .ref (ad1 (1 + d9) 4), .int sd_434]) := q0_434
      have m_436 : (1 + d9, 0) ∈ RL1 := hm_434 0 (by omega)
      have c_437 : E1 (1 + d9) 1 = .inr (8, [.ref (ad1 (1 + d9) 5), .int (nI k0_434)]) := q1_434
      have m_438 : (1 + d9, 1) ∈ RL1 := hm_434 1 (by omega)
      have c_439 : E1 (1 + d9) 2 = .inr (8, [.ref (ad1 (1 + d9) 6), .int (nI k1_434)]) := q2_434
      have m_440 : (1 + d9, 2) ∈ RL1 := hm_434 2 (by omega)
      have c_441 : E1 (1 + d9) 3 = .inr (8, [.ref (ad1 (1 + d9) 7), .int (nI k2_434)]) := q3_434
      have m_442 : (1 + d9, 3) ∈ RL1 := hm_434 3 (by omega)
      have c_443 : E1 (1 + d9) 4 = .inr (8, [.ref (ad1 (1 + d9) 8), .int (nI k3_434)]) := q4_434
      have m_444 : (1 + d9, 4) ∈ RL1 := hm_434 4 (by omega)
      have c_445 : E1 (1 + d9) 5 = .inl (kA 0, 6, .inl f0_434) := q5_434
      have m_446 : (1 + d9, 5) ∈ RL1 := hm_434 5 (by omega)
      have c_447 : E1 (1 + d9) 6 = .inl (kA 0, 5, .inl f1_434) := q6_434
      have m_448 : (1 + d9, 6) ∈ RL1 := hm_434 6 (by omega)
      have c_449 : E1 (1 + d9) 7 = .inl (kA 0, 3, .inl f2_434) := q7_434
      have m_450 : (1 + d9, 7) ∈ RL1 := hm_434 7 (by omega)
      have c_451 : E1 (1 + d9) 8 = .inl (kA 0, 3, .inl f3_434) := q8_434
      have m_452 : (1 + d9, 8) ∈ RL1 := hm_434 8 (by omega)
      have c_453 : E1 (1 + d9) 9 = .inl (kA 8, 6, .inr (.inr (.inr (.inr fe_434)))) := q9_434
      have m_454 : (1 + d9, 9) ∈ RL1 := hm_434 9 (by omega)
      have c_455 : E1 (1 + d9) 10 = .inl (kA 8, 6, .inr (.inr (.inr (.inr fo_434)))) := q10_434
      have m_456 : (1 + d9, 10) ∈ RL1 := hm_434 10 (by omega)
      have c_457 : E1 (1 + d9) 11 = .inl (kA 2, 5, .inl tr_434) := q11_434
      have m_458 : (1 + d9, 11) ∈ RL1 := hm_434 11 (by omega)
      have c_459 : E1 (1 + d9) 12 = .inl (kA 2, 5, .inl op_434) := q12_434
      have m_460 : (1 + d9, 12) ∈ RL1 := hm_434 12 (by omega)
      have hg_434 : ∀ w9, w9 < k0_434 → fe_434 w9 = some (ad1 (1 + d9) (20 + 3 * w9)) ∧ fo_434 w9 = some (ad1 (1 + d9) (38 + 3 * w9)) ∧ GI kA (ad1 (1 + d9)) (E1 (1 + d9)) (fun o => (1 + d9, o) ∈ RL1) (20 + 3 * w9) (21 + 3 * w9) (22 + 3 * w9) ∧ GI kA (ad1 (1 + d9)) (E1 (1 + d9)) (fun o => (1 + d9, o) ∈ RL1) (38 + 3 * w9) (39 + 3 * w9) (40 + 3 * w9) := hg_434
      refine lv_aload_n hx hb xd_Ch_draft_27 rfl (lv_at hl 1 rfl) ?_
      refine px_get (D := D) (ci := 5) (v := .ref (ad1 (20 + ml) 1)) (C := xR_Ly) (T := xT_Ly) (N := 4) hx hb hT xi_Ly hown hK.1 hP hm0 hcA0 rfl 2 (by decide) (hT _ yu_12) (fun _ h9 => h9) rfl xd_Ch_draft_28 ?_
      refine lv_iload_n hx hb xd_Ch_draft_31 rfl (lv_at hl 0 rfl) ?_
      refine px_new (ci := 6) (fs := [.null, .null, .null, .null, .null, .null]) (C := xR_Me) (T := xT_Me) (N := 6) (20 + ml) (10 + 10 * k) hx hb hT xi_Me xt_Me xt_Me_ok hown (hT _ yu_13) (hT _ yu_14) (hT _ yu_15) hK.1 hP hD hS hA rfl (by decide +kernel) (show 2 + 8 * k + 1 ≤ 100 by omega) (show 16 + 32 * k + 6 ≤ 424 by omega) xd_Ch_draft_32 (fun ad461 E462 RL463 H hA1 hE1 hs1 hm1 hP hD hS => ?_)
      have fE464 : ∀ b2 o2, ¬ (b2 = 20 + ml ∧ o2 = 10 + 10 * k) → E462 b2 o2 = E1 b2 o2 := fun b2 o2 h9 => by rw [hE1]; exact up2_ne (by omega)
      have fA465 : ∀ b2 o2, ¬ (b2 = 20 + ml ∧ o2 = 10 + 10 * k) → ad461 b2 o2 = ad1 b2 o2 := fun b2 o2 h9 => by rw [hA1]; exact up2_ne (by omega)
      have hs466 := hs1
      refine W.eq (g2 := F0 m _ ls [.ref (ad461 (20 + ml) (10 + 10 * k)), .int (nI k), .ref (ad461 (20 + ml) 1)]) (by rw [fA465 (20 + ml) 1 (by omega)]) ?_
      have c_467 : E462 (20 + ml) (10 + 10 * k) = .inr (6, [.null, .null, .null, .null, .null, .null]) := by rw [hE1]; exact up2_eq
      have hl : lv_has ls 4 [(3, .int (nI k)), (2, .ref (ad461 (20 + ml) 0)), (0, .ref (ad461 0 7))] := by
        rw [fA465 (20 + ml) 0 (by omega), fA465 0 7 (by omega)]; exact hl
      have m_469 : (0, 0) ∈ RL463 := hs466 _ m_380
      have m_470 : (0, 1) ∈ RL463 := hs466 _ m_382
      have m_471 : (0, 2) ∈ RL463 := hs466 _ m_384
      have m_472 : (0, 3) ∈ RL463 := hs466 _ m_386
      have m_473 : (0, 4) ∈ RL463 := hs466 _ m_388
      have m_474 : (0, 5) ∈ RL463 := hs466 _ m_390
      have m_475 : (0, 6) ∈ RL463 := hs466 _ m_392
      have m_476 : (0, 7) ∈ RL463 := hs466 _ m_394
      have m_477 : (0, 8) ∈ RL463 := hs466 _ m_396
      have m_478 : (0, 9) ∈ RL463 := hs466 _ m_398
      have m_479 : (20 + ml, 0) ∈ RL463 := hs466 _ hm0
      have m_480 : (20 + ml, 1) ∈ RL463 := hs466 _ hm1
      have m_481 : (1 + d9, 0) ∈ RL463 := hs466 _ m_436
      have m_482 : (1 + d9, 1) ∈ RL463 := hs466 _ m_438
      have m_483 : (1 + d9, 2) ∈ RL463 := hs466 _ m_440
      have m_484 : (1 + d9, 3) ∈ RL463 := hs466 _ m_442
      have m_485 : (1 + d9, 4) ∈ RL463 := hs466 _ m_444
      have m_486 : (1 + d9, 5) ∈ RL463 := hs466 _ m_446
      have m_487 : (1 + d9, 6) ∈ RL463 := hs466 _ m_448
      have m_488 : (1 + d9, 7) ∈ RL463 := hs466 _ m_450
      have m_489 : (1 + d9, 8) ∈ RL463 := hs466 _ m_452
      have m_490 : (1 + d9, 9) ∈ RL463 := hs466 _ m_454
      have m_491 : (1 + d9, 10) ∈ RL463 := hs466 _ m_456
      have m_492 : (1 + d9, 11) ∈ RL463 := hs466 _ m_458
      have m_493 : (1 + d9, 12) ∈ RL463 := hs466 _ m_460
      have c_494 : E462 0 0 = .inr (0, [.ref (ad461 0 1), .ref (ad461 0 5), .ref (ad461 0 7), .ref (ad461 0 9), .int (nI ml), .int lf_1]) := by rw [fE464 0 0 (by omega), fA465 0 1 (by omega), fA465 0 5 (by omega), fA465 0 7 (by omega), fA465 0 9 (by omega)]; exact c_379
      have c_495 : E462 0 1 = .inr (1, [.ref (ad461 0 2), .ref (ad461 0 3), .ref (ad461 0 4), .int (nI len), .int (nI wn)]) := by rw [fE464 0 1 (by omega), fA465 0 2 (by omega), fA465 0 3 (by omega), fA465 0 4 (by omega)]; exact c_381
      have c_496 : E462 0 2 = .inl (kA 1, 40, .inl tx_4) := by rw [fE464 0 2 (by omega)]; exact c_383
      have c_497 : E462 0 3 = .inl (kA 0, 20, .inl fb_4) := by rw [fE464 0 3 (by omega)]; exact c_385
      have c_498 : E462 0 4 = .inl (kA 0, 20, .inl fe_4) := by rw [fE464 0 4 (by omega)]; exact c_387
      have c_499 : E462 0 5 = .inr (2, [.ref (ad461 0 6), .int (nI nd)]) := by rw [fE464 0 5 (by omega), fA465 0 6 (by omega)]; exact c_389
      have c_500 : E462 0 6 = .inl (kA 4, 12, .inr (.inr (.inr (.inr fd_13)))) := by rw [fE464 0 6 (by omega)]; exact c_391
      have c_501 : E462 0 7 = .inr (3, [.ref (ad461 0 5), .ref (ad461 0 8), .int (nI cs), .int cf_18, .ref (ad461 (20 + x54) 0)]) := by rw [fE464 0 7 (by omega), fA465 0 5 (by omega), fA465 0 8 (by omega), fA465 (20 + x54) 0 (by omega)]; exact c_393
      have c_502 : E462 0 8 = .inl (kA 4, 12, .inr (.inr (.inr (.inr fc_18)))) := by rw [fE464 0 8 (by omega)]; exact c_395
      have c_503 : E462 0 9 = .inl (kA 5, 5, .inr (.inr (.inr (.inr fl_23)))) := by rw [fE464 0 9 (by omega)]; exact c_397
      have c_504 : E462 (20 + ml) 0 = .inr (5, [.int (nI ml), pv1, .ref (ad461 (20 + ml) 1), .int 1]) := by rw [fE464 (20 + ml) 0 (by omega), fA465 (20 + ml) 1 (by omega)]; exact hcA0
      have c_505 : E462 (20 + ml) 1 = .inl (kA 6, cs, .inr (.inr (.inr (.inr fm1)))) := by rw [fE464 (20 + ml) 1 (by omega)]; exact hcA1
      have c_506 : E462 (1 + d9) 0 = .inr (7, [.int (nI d9), .int fd_434, .int nm_434, .ref (ad461 (1 + d9) 1), .ref (ad461 (1 + d9) 9), .ref (ad461 (1 + d9) 10), .ref (ad461 (1 + d9) 2), .ref (ad461 (1 + d9) 11), .ref (ad461 (1 + d9) 12), .ref (ad461 (1 + d9) 3), .ref (ad461 (1 + d9) 4), .int sd_434]) := by rw [fE464 (1 + d9) 0 (by omega), fA465 (1 + d9) 1 (by omega), fA465 (1 + d9) 9 (by omega), fA465 (1 + d9) 10 (by omega), fA465 (1 + d9) 2 (by omega), fA465 (1 + d9) 11 (by omega), fA465 (1 + d9) 12 (by omega), fA465 (1 + d9) 3 (by omega), fA465 (1 + d9) 4 (by omega)]; exact c_435
      have c_507 : E462 (1 + d9) 1 = .inr (8, [.ref (ad461 (1 + d9) 5), .int (nI k0_434)]) := by rw [fE464 (1 + d9) 1 (by omega), fA465 (1 + d9) 5 (by omega)]; exact c_437
      have c_508 : E462 (1 + d9) 2 = .inr (8, [.ref (ad461 (1 + d9) 6), .int (nI k1_434)]) := by rw [fE464 (1 + d9) 2 (by omega), fA465 (1 + d9) 6 (by omega)]; exact c_439
      have c_509 : E462 (1 + d9) 3 = .inr (8, [.ref (ad461 (1 + d9) 7), .int (nI k2_434)]) := by rw [fE464 (1 + d9) 3 (by omega), fA465 (1 + d9) 7 (by omega)]; exact c_441
      have c_510 : E462 (1 + d9) 4 = .inr (8, [.ref (ad461 (1 + d9) 8), .int (nI k3_434)]) := by rw [fE464 (1 + d9) 4 (by omega), fA465 (1 + d9) 8 (by omega)]; exact c_443
      have c_511 : E462 (1 + d9) 5 = .inl (kA 0, 6, .inl f0_434) := by rw [fE464 (1 + d9) 5 (by omega)]; exact c_445
      have c_512 : E462 (1 + d9) 6 = .inl (kA 0, 5, .inl f1_434) := by rw [fE464 (1 + d9) 6 (by omega)]; exact c_447
      have c_513 : E462 (1 + d9) 7 = .inl (kA 0, 3, .inl f2_434) := by rw [fE464 (1 + d9) 7 (by omega)]; exact c_449
      have c_514 : E462 (1 + d9) 8 = .inl (kA 0, 3, .inl f3_434) := by rw [fE464 (1 + d9) 8 (by omega)]; exact c_451
      have c_515 : E462 (1 + d9) 9 = .inl (kA 8, 6, .inr (.inr (.inr (.inr fe_434)))) := by rw [fE464 (1 + d9) 9 (by omega)]; exact c_453
      have c_516 : E462 (1 + d9) 10 = .inl (kA 8, 6, .inr (.inr (.inr (.inr fo_434)))) := by rw [fE464 (1 + d9) 10 (by omega)]; exact c_455
      have c_517 : E462 (1 + d9) 11 = .inl (kA 2, 5, .inl tr_434) := by rw [fE464 (1 + d9) 11 (by omega)]; exact c_457
      have c_518 : E462 (1 + d9) 12 = .inl (kA 2, 5, .inl op_434) := by rw [fE464 (1 + d9) 12 (by omega)]; exact c_459
      have m_468 : (20 + ml, 10 + 10 * k) ∈ RL463 := hm1
      have hP : va_P D xcl (rp ad461 E462 RL463) H := hP
      have hD : va_D A (rp ad461 E462 RL463) := hD
      refine lv_dup hx hb xd_Ch_draft_35 rfl ?_
      refine lv_aload_n hx hb xd_Ch_draft_36 rfl (lv_at hl 1 rfl) ?_
      refine lv_aload_n hx hb xd_Ch_draft_37 rfl (lv_at hl 2 rfl) ?_
      refine px_get (D := D) (ci := 3) (v := .ref (ad461 0 8)) (C := xR_Ch) (T := xT_Ch) (N := 5) hx hb hT xi_Ch hown hK.1 hP m_476 c_501 rfl 1 (by decide) (hT _ yu_16) (fun _ h9 => h9) rfl xd_Ch_draft_38 ?_
      refine lv_iload_n hx hb xd_Ch_draft_41 rfl (lv_at hl 0 rfl) ?_
      refine px_aald (i := k) (x := (some (ad461 (1 + d9) 0))) hx hb hK.1 hP m_477 c_502 4 rfl ((hf9.trans (by rw [fA465 (1 + d9) 0 (by omega), hfA (1 + d9) 0 (by omega)]))) (by omega) (by decide) xd_Ch_draft_42 ?_
      have hFc := px_free hD hS hA
      refine va_callv (va_runI (As := [.ref (ad461 (20 + ml) 0), .ref (ad461 (1 + d9) 0)]) (rest := [.ref (ad461 (20 + ml) (10 + 10 * k)), .int (nI k), .ref (ad461 (20 + ml) 1)]) ⟨hx, hb, hml, hown, hT⟩ (xc_Me_init l D kA H.size ad461 E462 RL463 ml k d9 fd_434 nm_434 sd_434 k1_434 m_468 c_467 m_481 c_506 m_483 c_508 (by omega) (by first | assumption | omega)) (cwI 2 hT (wT_I yu_17) rfl rfl rfl (hT _ yu_15) (hT _ yu_18) (hT _ yu_19) rfl (by decide +kernel) ⟨Nat.le_of_ble_eq_true rfl, Nat.le_of_ble_eq_true rfl⟩) (x_preS hK hP hD) rfl rfl hl.1 rfl (lv_room (Nat.le_of_ble_eq_true rfl)) xd_Ch_draft_43 ⟨(show 2 + 8 * k + 1 + 7 ≤ 100 by omega), (show 16 + 32 * k + 6 + 26 ≤ 424 by omega)⟩) hS (fun q _ h => hFc q h) hFc (fun u520 t H1 locs ht hvm hp521 hB hz1 hk1 hS => ?_)
      obtain ⟨hP1, hD1⟩ := hB
      rw [ht] at hP1
      have hD1 := hD1.weaken (fun _ _ _ h => hFc _ h)
      generalize H1 = H at hP1 hS ⊢
      have hP := hP1
      have hD := hD1
      obtain ⟨ad522, E523, RL524⟩ := u520
      obtain ⟨hp543, p_525, p_526, p_527, p_528, p_529, p_530, p_531, p_532, p_533, p_534, p_535, p_536, p_537, p_538, p_539, p_540, p_541, p_542⟩ := hp521
      have p_525 : E523 (20 + ml) (10 + 10 * k) = .inr (6, [.ref (ad522 (20 + ml) 0), .ref (ad522 (1 + d9) 0), .ref (ad522 (20 + ml) (11 + 10 * k)), .ref (ad522 (20 + ml) (12 + 10 * k)), .ref (ad522 (20 + ml) (13 + 10 * k)), .ref (ad522 (20 + ml) (14 + 10 * k))]) := p_525
      have p_526 : E523 (20 + ml) (11 + 10 * k) = .inl (kA 6, k1_434, .inr (.inr (.inr (.inr (fun _ => none))))) := p_526
      have p_527 : E523 (20 + ml) (12 + 10 * k) = .inr (10, [.ref (ad522 (20 + ml) (15 + 10 * k))]) := p_527
      have p_528 : E523 (20 + ml) (13 + 10 * k) = .inr (10, [.ref (ad522 (20 + ml) (16 + 10 * k))]) := p_528
      have p_529 : E523 (20 + ml) (14 + 10 * k) = .inr (10, [.ref (ad522 (20 + ml) (17 + 10 * k))]) := p_529
      have p_530 : E523 (20 + ml) (15 + 10 * k) = .inl (kA 0, 6, .inl (fun _ => 0)) := p_530
      have p_531 : E523 (20 + ml) (16 + 10 * k) = .inl (kA 0, 6, .inl (fun _ => 0)) := p_531
      have p_532 : E523 (20 + ml) (17 + 10 * k) = .inl (kA 0, 6, .inl (fun _ => 0)) := p_532
      have p_533 : (∀ b2 o2, ¬ (b2 = 20 + ml ∧ o2 = 10 + 10 * k) → ¬ (b2 = 20 + ml ∧ o2 = 11 + 10 * k) → ¬ (b2 = 20 + ml ∧ o2 = 12 + 10 * k) → ¬ (b2 = 20 + ml ∧ o2 = 13 + 10 * k) → ¬ (b2 = 20 + ml ∧ o2 = 14 + 10 * k) → ¬ (b2 = 20 + ml ∧ o2 = 15 + 10 * k) → ¬ (b2 = 20 + ml ∧ o2 = 16 + 10 * k) → ¬ (b2 = 20 + ml ∧ o2 = 17 + 10 * k) → E523 b2 o2 = E462 b2 o2) := p_533
      have p_534 : (∀ b2 o2, ¬ (b2 = 20 + ml ∧ o2 = 11 + 10 * k) → ¬ (b2 = 20 + ml ∧ o2 = 12 + 10 * k) → ¬ (b2 = 20 + ml ∧ o2 = 13 + 10 * k) → ¬ (b2 = 20 + ml ∧ o2 = 14 + 10 * k) → ¬ (b2 = 20 + ml ∧ o2 = 15 + 10 * k) → ¬ (b2 = 20 + ml ∧ o2 = 16 + 10 * k) → ¬ (b2 = 20 + ml ∧ o2 = 17 + 10 * k) → ad522 b2 o2 = ad461 b2 o2) := p_534
      have p_535 : (∀ x ∈ RL463, x ∈ RL524) := p_535
      have p_536 : (20 + ml, 11 + 10 * k) ∈ RL524 := p_536
      have p_537 : (20 + ml, 12 + 10 * k) ∈ RL524 := p_537
      have p_538 : (20 + ml, 13 + 10 * k) ∈ RL524 := p_538
      have p_539 : (20 + ml, 14 + 10 * k) ∈ RL524 := p_539
      have p_540 : (20 + ml, 15 + 10 * k) ∈ RL524 := p_540
      have p_541 : (20 + ml, 16 + 10 * k) ∈ RL524 := p_541
      have p_542 : (20 + ml, 17 + 10 * k) ∈ RL524 := p_542
      refine W.eq (g2 := F0 m 46 ls [.ref (ad522 (20 + ml) (10 + 10 * k)), .int (nI k), .ref (ad522 (20 + ml) 1)]) (by rw [p_534 (20 + ml) (10 + 10 * k) (by omega) (by omega) (by omega) (by omega) (by omega) (by omega) (by omega), p_534 (20 + ml) 1 (by omega) (by omega) (by omega) (by omega) (by omega) (by omega) (by omega)]) ?_
      have hl : lv_has ls 4 [(3, .int (nI k)), (2, .ref (ad522 (20 + ml) 0)), (0, .ref (ad522 0 7))] := by
        rw [p_534 (20 + ml) 0 (by omega) (by omega) (by omega) (by omega) (by omega) (by omega) (by omega), p_534 0 7 (by omega) (by omega) (by omega) (by omega) (by omega) (by omega) (by omega)]; exact hl
      have m_544 : (0, 0) ∈ RL524 := p_535 _ m_469
      have m_545 : (0, 1) ∈ RL524 := p_535 _ m_470
      have m_546 : (0, 2) ∈ RL524 := p_535 _ m_471
      have m_547 : (0, 3) ∈ RL524 := p_535 _ m_472
      have m_548 : (0, 4) ∈ RL524 := p_535 _ m_473
      have m_549 : (0, 5) ∈ RL524 := p_535 _ m_474
      have m_550 : (0, 6) ∈ RL524 := p_535 _ m_475
      have m_551 : (0, 7) ∈ RL524 := p_535 _ m_476
      have m_552 : (0, 8) ∈ RL524 := p_535 _ m_477
      have m_553 : (0, 9) ∈ RL524 := p_535 _ m_478
      have m_554 : (20 + ml, 0) ∈ RL524 := p_535 _ m_479
      have m_555 : (20 + ml, 1) ∈ RL524 := p_535 _ m_480
      have m_556 : (1 + d9, 0) ∈ RL524 := p_535 _ m_481
      have m_557 : (1 + d9, 1) ∈ RL524 := p_535 _ m_482
      have m_558 : (1 + d9, 2) ∈ RL524 := p_535 _ m_483
      have m_559 : (1 + d9, 3) ∈ RL524 := p_535 _ m_484
      have m_560 : (1 + d9, 4) ∈ RL524 := p_535 _ m_485
      have m_561 : (1 + d9, 5) ∈ RL524 := p_535 _ m_486
      have m_562 : (1 + d9, 6) ∈ RL524 := p_535 _ m_487
      have m_563 : (1 + d9, 7) ∈ RL524 := p_535 _ m_488
      have m_564 : (1 + d9, 8) ∈ RL524 := p_535 _ m_489
      have m_565 : (1 + d9, 9) ∈ RL524 := p_535 _ m_490
      have m_566 : (1 + d9, 10) ∈ RL524 := p_535 _ m_491
      have m_567 : (1 + d9, 11) ∈ RL524 := p_535 _ m_492
      have m_568 : (1 + d9, 12) ∈ RL524 := p_535 _ m_493
      have m_569 : (20 + ml, 10 + 10 * k) ∈ RL524 := p_535 _ m_468
      have c_570 : E523 0 0 = .inr (0, [.ref (ad522 0 1), .ref (ad522 0 5), .ref (ad522 0 7), .ref (ad522 0 9), .int (nI ml), .int lf_1]) := by rw [p_533 0 0 (by omega) (by omega) (by omega) (by omega) (by omega) (by omega) (by omega) (by omega), p_534 0 1 (by omega) (by omega) (by omega) (by omega) (by omega) (by omega) (by omega), p_534 0 5 (by omega) (by omega) (by omega) (by omega) (by omega) (by omega) (by omega), p_534 0 7 (by omega) (by omega) (by omega) (by omega) (by omega) (by omega) (by omega), p_534 0 9 (by omega) (by omega) (by omega) (by omega) (by omega) (by omega) (by omega)]; exact c_494
      have c_571 : E523 0 1 = .inr (1, [.ref (ad522 0 2), .ref (ad522 0 3), .ref (ad522 0 4), .int (nI len), .int (nI wn)]) := by rw [p_533 0 1 (by omega) (by omega) (by omega) (by omega) (by omega) (by omega) (by omega) (by omega), p_534 0 2 (by omega) (by omega) (by omega) (by omega) (by omega) (by omega) (by omega), p_534 0 3 (by omega) (by omega) (by omega) (by omega) (by omega) (by omega) (by omega), p_534 0 4 (by omega) (by omega) (by omega) (by omega) (by omega) (by omega) (by omega)]; exact c_495
      have c_572 : E523 0 2 = .inl (kA 1, 40, .inl tx_4) := by rw [p_533 0 2 (by omega) (by omega) (by omega) (by omega) (by omega) (by omega) (by omega) (by omega)]; exact c_496
      have c_573 : E523 0 3 = .inl (kA 0, 20, .inl fb_4) := by rw [p_533 0 3 (by omega) (by omega) (by omega) (by omega) (by omega) (by omega) (by omega) (by omega)]; exact c_497
      have c_574 : E523 0 4 = .inl (kA 0, 20, .inl fe_4) := by rw [p_533 0 4 (by omega) (by omega) (by omega) (by omega) (by omega) (by omega) (by omega) (by omega)]; exact c_498
      have c_575 : E523 0 5 = .inr (2, [.ref (ad522 0 6), .int (nI nd)]) := by rw [p_533 0 5 (by omega) (by omega) (by omega) (by omega) (by omega) (by omega) (by omega) (by omega), p_534 0 6 (by omega) (by omega) (by omega) (by omega) (by omega) (by omega) (by omega)]; exact c_499
      have c_576 : E523 0 6 = .inl (kA 4, 12, .inr (.inr (.inr (.inr fd_13)))) := by rw [p_533 0 6 (by omega) (by omega) (by omega) (by omega) (by omega) (by omega) (by omega) (by omega)]; exact c_500
      have c_577 : E523 0 7 = .inr (3, [.ref (ad522 0 5), .ref (ad522 0 8), .int (nI cs), .int cf_18, .ref (ad522 (20 + x54) 0)]) := by rw [p_533 0 7 (by omega) (by omega) (by omega) (by omega) (by omega) (by omega) (by omega) (by omega), p_534 0 5 (by omega) (by omega) (by omega) (by omega) (by omega) (by omega) (by omega), p_534 0 8 (by omega) (by omega) (by omega) (by omega) (by omega) (by omega) (by omega), p_534 (20 + x54) 0 (by omega) (by omega) (by omega) (by omega) (by omega) (by omega) (by omega)]; exact c_501
      have c_578 : E523 0 8 = .inl (kA 4, 12, .inr (.inr (.inr (.inr fc_18)))) := by rw [p_533 0 8 (by omega) (by omega) (by omega) (by omega) (by omega) (by omega) (by omega) (by omega)]; exact c_502
      have c_579 : E523 0 9 = .inl (kA 5, 5, .inr (.inr (.inr (.inr fl_23)))) := by rw [p_533 0 9 (by omega) (by omega) (by omega) (by omega) (by omega) (by omega) (by omega) (by omega)]; exact c_503
      have c_580 : E523 (20 + ml) 0 = .inr (5, [.int (nI ml), pv1, .ref (ad522 (20 + ml) 1), .int 1]) := by rw [p_533 (20 + ml) 0 (by omega) (by omega) (by omega) (by omega) (by omega) (by omega) (by omega) (by omega), p_534 (20 + ml) 1 (by omega) (by omega) (by omega) (by omega) (by omega) (by omega) (by omega)]; exact c_504
      have c_581 : E523 (20 + ml) 1 = .inl (kA 6, cs, .inr (.inr (.inr (.inr fm1)))) := by rw [p_533 (20 + ml) 1 (by omega) (by omega) (by omega) (by omega) (by omega) (by omega) (by omega) (by omega)]; exact c_505
      have c_582 : E523 (1 + d9) 0 = .inr (7, [.int (nI d9), .int fd_434, .int nm_434, .ref (ad522 (1 + d9) 1), .ref (ad522 (1 + d9) 9), .ref (ad522 (1 + d9) 10), .ref (ad522 (1 + d9) 2), .ref (ad522 (1 + d9) 11), .ref (ad522 (1 + d9) 12), .ref (ad522 (1 + d9) 3), .ref (ad522 (1 + d9) 4), .int sd_434]) := by rw [p_533 (1 + d9) 0 (by omega) (by omega) (by omega) (by omega) (by omega) (by omega) (by omega) (by omega), p_534 (1 + d9) 1 (by omega) (by omega) (by omega) (by omega) (by omega) (by omega) (by omega), p_534 (1 + d9) 9 (by omega) (by omega) (by omega) (by omega) (by omega) (by omega) (by omega), p_534 (1 + d9) 10 (by omega) (by omega) (by omega) (by omega) (by omega) (by omega) (by omega), p_534 (1 + d9) 2 (by omega) (by omega) (by omega) (by omega) (by omega) (by omega) (by omega), p_534 (1 + d9) 11 (by omega) (by omega) (by omega) (by omega) (by omega) (by omega) (by omega), p_534 (1 + d9) 12 (by omega) (by omega) (by omega) (by omega) (by omega) (by omega) (by omega), p_534 (1 + d9) 3 (by omega) (by omega) (by omega) (by omega) (by omega) (by omega) (by omega), p_534 (1 + d9) 4 (by omega) (by omega) (by omega) (by omega) (by omega) (by omega) (by omega)]; exact c_506
      have c_583 : E523 (1 + d9) 1 = .inr (8, [.ref (ad522 (1 + d9) 5), .int (nI k0_434)]) := by rw [p_533 (1 + d9) 1 (by omega) (by omega) (by omega) (by omega) (by omega) (by omega) (by omega) (by omega), p_534 (1 + d9) 5 (by omega) (by omega) (by omega) (by omega) (by omega) (by omega) (by omega)]; exact c_507
      have c_584 : E523 (1 + d9) 2 = .inr (8, [.ref (ad522 (1 + d9) 6), .int (nI k1_434)]) := by rw [p_533 (1 + d9) 2 (by omega) (by omega) (by omega) (by omega) (by omega) (by omega) (by omega) (by omega), p_534 (1 + d9) 6 (by omega) (by omega) (by omega) (by omega) (by omega) (by omega) (by omega)]; exact c_508
      have c_585 : E523 (1 + d9) 3 = .inr (8, [.ref (ad522 (1 + d9) 7), .int (nI k2_434)]) := by rw [p_533 (1 + d9) 3 (by omega) (by omega) (by omega) (by omega) (by omega) (by omega) (by omega) (by omega), p_534 (1 + d9) 7 (by omega) (by omega) (by omega) (by omega) (by omega) (by omega) (by omega)]; exact c_509
      have c_586 : E523 (1 + d9) 4 = .inr (8, [.ref (ad522 (1 + d9) 8), .int (nI k3_434)]) := by rw [p_533 (1 + d9) 4 (by omega) (by omega) (by omega) (by omega) (by omega) (by omega) (by omega) (by omega), p_534 (1 + d9) 8 (by omega) (by omega) (by omega) (by omega) (by omega) (by omega) (by omega)]; exact c_510
      have c_587 : E523 (1 + d9) 5 = .inl (kA 0, 6, .inl f0_434) := by rw [p_533 (1 + d9) 5 (by omega) (by omega) (by omega) (by omega) (by omega) (by omega) (by omega) (by omega)]; exact c_511
      have c_588 : E523 (1 + d9) 6 = .inl (kA 0, 5, .inl f1_434) := by rw [p_533 (1 + d9) 6 (by omega) (by omega) (by omega) (by omega) (by omega) (by omega) (by omega) (by omega)]; exact c_512
      have c_589 : E523 (1 + d9) 7 = .inl (kA 0, 3, .inl f2_434) := by rw [p_533 (1 + d9) 7 (by omega) (by omega) (by omega) (by omega) (by omega) (by omega) (by omega) (by omega)]; exact c_513
      have c_590 : E523 (1 + d9) 8 = .inl (kA 0, 3, .inl f3_434) := by rw [p_533 (1 + d9) 8 (by omega) (by omega) (by omega) (by omega) (by omega) (by omega) (by omega) (by omega)]; exact c_514
      have c_591 : E523 (1 + d9) 9 = .inl (kA 8, 6, .inr (.inr (.inr (.inr fe_434)))) := by rw [p_533 (1 + d9) 9 (by omega) (by omega) (by omega) (by omega) (by omega) (by omega) (by omega) (by omega)]; exact c_515
      have c_592 : E523 (1 + d9) 10 = .inl (kA 8, 6, .inr (.inr (.inr (.inr fo_434)))) := by rw [p_533 (1 + d9) 10 (by omega) (by omega) (by omega) (by omega) (by omega) (by omega) (by omega) (by omega)]; exact c_516
      have c_593 : E523 (1 + d9) 11 = .inl (kA 2, 5, .inl tr_434) := by rw [p_533 (1 + d9) 11 (by omega) (by omega) (by omega) (by omega) (by omega) (by omega) (by omega) (by omega)]; exact c_517
      have c_594 : E523 (1 + d9) 12 = .inl (kA 2, 5, .inl op_434) := by rw [p_533 (1 + d9) 12 (by omega) (by omega) (by omega) (by omega) (by omega) (by omega) (by omega) (by omega)]; exact c_518
      have hP : va_P D xcl (rp ad522 E523 RL524) H := hP
      have hD : va_D A (rp ad522 E523 RL524) := hD
      refine px_aast (i := k) (r := (xR_Me, xT_Me, 6)) hx hb hK.1 hP hD hS m_555 c_581 6 rfl m_569 p_525 rfl (by omega) (by omega) xd_Ch_draft_46 (fun H locs hP hD hS => ?_)
      have hP : va_P D xcl (rp ad522 (up2 E523 (20 + ml) 1 (.inl (kA 6, cs, .inr (.inr (.inr (.inr (va_up fm1 k (some (ad522 (20 + ml) (10 + 10 * k)))))))))) RL524) H := hP
      have hD : va_D A (rp ad522 (up2 E523 (20 + ml) 1 (.inl (kA 6, cs, .inr (.inr (.inr (.inr (va_up fm1 k (some (ad522 (20 + ml) (10 + 10 * k)))))))))) RL524) := hD
      generalize hE596 : up2 E523 (20 + ml) 1 (.inl (kA 6, cs, .inr (.inr (.inr (.inr (va_up fm1 k (some (ad522 (20 + ml) (10 + 10 * k))))))))) = E595 at hP hD
      have fE597 : ∀ b2 o2, ¬ (b2 = 20 + ml ∧ o2 = 1) → E595 b2 o2 = E523 b2 o2 := fun b2 o2 h9 => by rw [← hE596]; exact up2_ne (by omega)
      have c_598 : E595 (20 + ml) 1 = .inl (kA 6, cs, .inr (.inr (.inr (.inr (va_up fm1 k (some (ad522 (20 + ml) (10 + 10 * k)))))))) := by rw [← hE596]; exact up2_eq
      have c_599 : E595 (20 + ml) (10 + 10 * k) = .inr (6, [.ref (ad522 (20 + ml) 0), .ref (ad522 (1 + d9) 0), .ref (ad522 (20 + ml) (11 + 10 * k)), .ref (ad522 (20 + ml) (12 + 10 * k)), .ref (ad522 (20 + ml) (13 + 10 * k)), .ref (ad522 (20 + ml) (14 + 10 * k))]) := (fE597 (20 + ml) (10 + 10 * k) (by omega)).trans p_525
      have c_600 : E595 (20 + ml) (11 + 10 * k) = .inl (kA 6, k1_434, .inr (.inr (.inr (.inr (fun _ => none))))) := (fE597 (20 + ml) (11 + 10 * k) (by omega)).trans p_526
      have c_601 : E595 (20 + ml) (12 + 10 * k) = .inr (10, [.ref (ad522 (20 + ml) (15 + 10 * k))]) := (fE597 (20 + ml) (12 + 10 * k) (by omega)).trans p_527
      have c_602 : E595 (20 + ml) (13 + 10 * k) = .inr (10, [.ref (ad522 (20 + ml) (16 + 10 * k))]) := (fE597 (20 + ml) (13 + 10 * k) (by omega)).trans p_528
      have c_603 : E595 (20 + ml) (14 + 10 * k) = .inr (10, [.ref (ad522 (20 + ml) (17 + 10 * k))]) := (fE597 (20 + ml) (14 + 10 * k) (by omega)).trans p_529
      have c_604 : E595 (20 + ml) (15 + 10 * k) = .inl (kA 0, 6, .inl (fun _ => 0)) := (fE597 (20 + ml) (15 + 10 * k) (by omega)).trans p_530
      have c_605 : E595 (20 + ml) (16 + 10 * k) = .inl (kA 0, 6, .inl (fun _ => 0)) := (fE597 (20 + ml) (16 + 10 * k) (by omega)).trans p_531
      have c_606 : E595 (20 + ml) (17 + 10 * k) = .inl (kA 0, 6, .inl (fun _ => 0)) := (fE597 (20 + ml) (17 + 10 * k) (by omega)).trans p_532
      have c_607 : E595 0 0 = .inr (0, [.ref (ad522 0 1), .ref (ad522 0 5), .ref (ad522 0 7), .ref (ad522 0 9), .int (nI ml), .int lf_1]) := (fE597 0 0 (by omega)).trans c_570
      have c_608 : E595 0 1 = .inr (1, [.ref (ad522 0 2), .ref (ad522 0 3), .ref (ad522 0 4), .int (nI len), .int (nI wn)]) := (fE597 0 1 (by omega)).trans c_571
      have c_609 : E595 0 2 = .inl (kA 1, 40, .inl tx_4) := (fE597 0 2 (by omega)).trans c_572
      have c_610 : E595 0 3 = .inl (kA 0, 20, .inl fb_4) := (fE597 0 3 (by omega)).trans c_573
      have c_611 : E595 0 4 = .inl (kA 0, 20, .inl fe_4) := (fE597 0 4 (by omega)).trans c_574
      have c_612 : E595 0 5 = .inr (2, [.ref (ad522 0 6), .int (nI nd)]) := (fE597 0 5 (by omega)).trans c_575
      have c_613 : E595 0 6 = .inl (kA 4, 12, .inr (.inr (.inr (.inr fd_13)))) := (fE597 0 6 (by omega)).trans c_576
      have c_614 : E595 0 7 = .inr (3, [.ref (ad522 0 5), .ref (ad522 0 8), .int (nI cs), .int cf_18, .ref (ad522 (20 + x54) 0)]) := (fE597 0 7 (by omega)).trans c_577
      have c_615 : E595 0 8 = .inl (kA 4, 12, .inr (.inr (.inr (.inr fc_18)))) := (fE597 0 8 (by omega)).trans c_578
      have c_616 : E595 0 9 = .inl (kA 5, 5, .inr (.inr (.inr (.inr fl_23)))) := (fE597 0 9 (by omega)).trans c_579
      have c_617 : E595 (20 + ml) 0 = .inr (5, [.int (nI ml), pv1, .ref (ad522 (20 + ml) 1), .int 1]) := (fE597 (20 + ml) 0 (by omega)).trans c_580
      have c_618 : E595 (1 + d9) 0 = .inr (7, [.int (nI d9), .int fd_434, .int nm_434, .ref (ad522 (1 + d9) 1), .ref (ad522 (1 + d9) 9), .ref (ad522 (1 + d9) 10), .ref (ad522 (1 + d9) 2), .ref (ad522 (1 + d9) 11), .ref (ad522 (1 + d9) 12), .ref (ad522 (1 + d9) 3), .ref (ad522 (1 + d9) 4), .int sd_434]) := (fE597 (1 + d9) 0 (by omega)).trans c_582
      have c_619 : E595 (1 + d9) 1 = .inr (8, [.ref (ad522 (1 + d9) 5), .int (nI k0_434)]) := (fE597 (1 + d9) 1 (by omega)).trans c_583
      have c_620 : E595 (1 + d9) 2 = .inr (8, [.ref (ad522 (1 + d9) 6), .int (nI k1_434)]) := (fE597 (1 + d9) 2 (by omega)).trans c_584
      have c_621 : E595 (1 + d9) 3 = .inr (8, [.ref (ad522 (1 + d9) 7), .int (nI k2_434)]) := (fE597 (1 + d9) 3 (by omega)).trans c_585
      have c_622 : E595 (1 + d9) 4 = .inr (8, [.ref (ad522 (1 + d9) 8), .int (nI k3_434)]) := (fE597 (1 + d9) 4 (by omega)).trans c_586
      have c_623 : E595 (1 + d9) 5 = .inl (kA 0, 6, .inl f0_434) := (fE597 (1 + d9) 5 (by omega)).trans c_587
      have c_624 : E595 (1 + d9) 6 = .inl (kA 0, 5, .inl f1_434) := (fE597 (1 + d9) 6 (by omega)).trans c_588
      have c_625 : E595 (1 + d9) 7 = .inl (kA 0, 3, .inl f2_434) := (fE597 (1 + d9) 7 (by omega)).trans c_589
      have c_626 : E595 (1 + d9) 8 = .inl (kA 0, 3, .inl f3_434) := (fE597 (1 + d9) 8 (by omega)).trans c_590
      have c_627 : E595 (1 + d9) 9 = .inl (kA 8, 6, .inr (.inr (.inr (.inr fe_434)))) := (fE597 (1 + d9) 9 (by omega)).trans c_591
      have c_628 : E595 (1 + d9) 10 = .inl (kA 8, 6, .inr (.inr (.inr (.inr fo_434)))) := (fE597 (1 + d9) 10 (by omega)).trans c_592
      have c_629 : E595 (1 + d9) 11 = .inl (kA 2, 5, .inl tr_434) := (fE597 (1 + d9) 11 (by omega)).trans c_593
      have c_630 : E595 (1 + d9) 12 = .inl (kA 2, 5, .inl op_434) := (fE597 (1 + d9) 12 (by omega)).trans c_594
      refine lv_iinc (k := 0) (x := (nI k)) (v := (nI (k + 1))) hx hb xd_Ch_draft_47 hl rfl (xb_inc k 1) (Nat.le_of_ble_eq_true rfl) rfl (fun ls hl => ?_)
      have hl : lv_has ls 4 [(3, .int (nI (k + 1))), (2, .ref (ad522 (20 + ml) 0)), (0, .ref (ad522 0 7))] := hl
      refine lv_goto (tgt := 19) hx hb xd_Ch_draft_50 (by decide) ?_
      exact ih378 (k + 1, ad522, E595, RL524, pv1, (va_up fm1 k (some (ad522 (20 + ml) (10 + 10 * k))))) _ _ _ (show cs - (k + 1) < cs - k by omega) (lv_sub hl [0, 1, 2] rfl) hP hD hS ⟨(show (k + 1) ≤ cs from by first | assumption | omega), (show (∀ b2 o2, ¬ (b2 = 20 + ml) → E595 b2 o2 = E b2 o2) from fun b2 o2 h9 => by show E595 b2 o2 = _; rw [fE597 b2 o2 (by omega), p_533 b2 o2 (by omega) (by omega) (by omega) (by omega) (by omega) (by omega) (by omega) (by omega), fE464 b2 o2 (by omega), hfE b2 o2 (by omega)]), (show (∀ b2 o2, ¬ (b2 = 20 + ml) → ad522 b2 o2 = ad b2 o2) from fun b2 o2 h9 => by show ad522 b2 o2 = _; rw [p_534 b2 o2 (by omega) (by omega) (by omega) (by omega) (by omega) (by omega) (by omega), fA465 b2 o2 (by omega), hfA b2 o2 (by omega)]), (show ∀ x ∈ RL, x ∈ RL524 from fun _ h9 => p_535 _ (hs466 _ (hfS _ h9))), (show (20 + ml, 0) ∈ RL524 from m_554), (show (20 + ml, 1) ∈ RL524 from m_555), (show pv1 = .null ∨ ∃ x, x < ml ∧ pv1 = .ref (ad522 (20 + x) 0) from by rcases hpv1 with h | ⟨x, hx9, h⟩; exact Or.inl h; exact Or.inr ⟨x, hx9, by rw [p_534 (20 + x) 0 (by omega) (by omega) (by omega) (by omega) (by omega) (by omega) (by omega), fA465 (20 + x) 0 (by omega)]; exact h⟩), (show E595 (20 + ml) 0 = .inr (5, [.int (nI ml), pv1, .ref (ad522 (20 + ml) 1), .int 1]) from c_617), (show E595 (20 + ml) 1 = .inl (kA 6, cs, .inr (.inr (.inr (.inr (va_up fm1 k (some (ad522 (20 + ml) (10 + 10 * k)))))))) from c_598), (show ∀ j, j < (k + 1) → (va_up fm1 k (some (ad522 (20 + ml) (10 + 10 * k)))) j = some (ad522 (20 + ml) (10 + 10 * j)) ∧ MEI kA ad522 E595 RL524 nd ml j from fun j hj => by
          by_cases q : j = k
          · subst q; exact ⟨vu_eq, ⟨(fun j9 hj9 => by
              have hj8 : j9 = 0 ∨ j9 = 1 ∨ j9 = 2 ∨ j9 = 3 ∨ j9 = 4 ∨ j9 = 5 ∨ j9 = 6 ∨ j9 = 7 := by omega
              rcases hj8 with rfl | rfl | rfl | rfl | rfl | rfl | rfl | rfl
              · exact m_569
              · exact p_536
              · exact p_537
              · exact p_538
              · exact p_539
              · exact p_540
              · exact p_541
              · exact p_542), d9, k1_434, (fun _ => none), (fun _ => 0), (fun _ => 0), (fun _ => 0), hd9, by omega, c_599, c_600, c_601, c_602, c_603, c_604, c_605, c_606⟩⟩
          · exact ⟨(vu_ne q).trans ((hMM j (by omega)).1.trans (by rw [p_534 (20 + ml) (10 + 10 * j) (by omega) (by omega) (by omega) (by omega) (by omega) (by omega) (by omega), fA465 (20 + ml) (10 + 10 * j) (by omega)])), MEI_at (fun j9 hj9 => by rw [fE597 (20 + ml) (10 + j9 + 10 * j) (by omega), p_533 (20 + ml) (10 + j9 + 10 * j) (by omega) (by omega) (by omega) (by omega) (by omega) (by omega) (by omega) (by omega), fE464 (20 + ml) (10 + j9 + 10 * j) (by omega)]) (fun j9 hj9 => by rw [p_534 (20 + ml) (10 + j9 + 10 * j) (by omega) (by omega) (by omega) (by omega) (by omega) (by omega) (by omega), fA465 (20 + ml) (10 + j9 + 10 * j) (by omega)]) (by rw [p_534 (20 + ml) 0 (by omega) (by omega) (by omega) (by omega) (by omega) (by omega) (by omega), fA465 (20 + ml) 0 (by omega)]) (fun d8 hd8 => by rw [p_534 (1 + d8) 0 (by omega) (by omega) (by omega) (by omega) (by omega) (by omega) (by omega), fA465 (1 + d8) 0 (by omega)]) (fun _ h9 => p_535 _ (hs466 _ (h9))) (hMM j (by omega)).2⟩)⟩
set_option maxHeartbeats 4000000 in
set_option maxRecDepth 100000 in
theorem xc_De_faultOf (l : Launch) (D : va_G) (kA : Nat → ClassId) (sz : Nat) (ad : Nat → Nat → Nat) (E : Nat → Nat → va_E) (RL : List (Nat × Nat)) (ml : Nat) (nd : Nat) (len : Nat) (wn : Nat) (cs : Nat) (hCI : CI kA ad E RL ml nd len wn cs) (hLI : LI kA ad E RL nd ml) : Met l xy_De_faultOf (.code xy_De_faultOf xb_De_faultOf 2 (some .int) :: wT) { frames := 6, cells := 0, slots := 0, locals := 137 } (va_Pc [.ref (ad 0 0), .ref (ad (20 + ml) 0)] (xPre D kA sz (rp ad E RL))) (va_Qi (fun (r : Int32) (u : Unit) => (r = 0 ∧ ml < 5) ∨ ¬ r = 0) (fun (u : Unit) t => va_P D xcl (rp ad E RL) t.heap ∧ va_D (va_A (rp ad E RL) sz) (rp ad E RL)) (va_A (rp ad E RL) sz)) 0 0 (va_A (rp ad E RL) sz) := by
  refine Met.ofW (cc := xb_De_faultOf) (maxL := 2) (ret := (some .int)) (by decide) rfl ?_
  intro p e s m args below meth c s₁ B hml hv
  obtain ⟨rfl, hsz, hP, hK, hD0⟩ := hv
  have hx := B.exec
  have hb := B.bytes
  have hr := B.returns
  have hT := x_hT B.pre
  have hown : s.vm.findClass xR_De = some m.cls := findClass_of_methodNamed B.named
  have hlocks := B.notSynchronized
  subst hsz
  have hD := hD0.self (sz := s.heap.size)
  generalize hAe : va_A (rp ad E RL) s.heap.size = A at hD ⊢
  have hA : ∀ q : Nat, s.heap.size ≤ q → A q := fun q h => by rw [← hAe]; exact Or.inr h
  have hS : va_S A s.heap s.heap [] := va_S.rf
  have hl := lv_entry ([.ref (ad 0 0), .ref (ad (20 + ml) 0)]) (n := 2) (Nat.le_of_ble_eq_true rfl)
  rw [lg_entry_eq]
  generalize (lg_sl ([.ref (ad 0 0), .ref (ad (20 + ml) 0)]) ++ List.replicate (2 - (lg_sl ([.ref (ad 0 0), .ref (ad (20 + ml) 0)])).length) Slot.unset).toArray = ls at hl ⊢
  have hl : lv_has ls 2 [(0, .ref (ad 0 0)), (1, .ref (ad (20 + ml) 0))] := hl
  have hP : va_P D xcl (rp ad E RL) s.heap := hP
  obtain ⟨hmB, hDk, hLi, hSh, hCh, hLa, hDIs, hLIs⟩ := id hCI
  obtain ⟨lf_1, q_1⟩ := id (hDk)
  have c_2 : E 0 0 = .inr (0, [.ref (ad 0 1), .ref (ad 0 5), .ref (ad 0 7), .ref (ad 0 9), .int (nI ml), .int lf_1]) := q_1
  have m_3 : (0, 0) ∈ RL := hmB 0 (by omega)
  obtain ⟨fd_4, hnd_4, q5_4, q6_4, hds_4⟩ := id (hSh)
  have c_5 : E 0 5 = .inr (2, [.ref (ad 0 6), .int (nI nd)]) := q5_4
  have m_6 : (0, 5) ∈ RL := hmB 5 (by omega)
  have c_7 : E 0 6 = .inl (kA 4, 12, .inr (.inr (.inr (.inr fd_4)))) := q6_4
  have m_8 : (0, 6) ∈ RL := hmB 6 (by omega)
  obtain ⟨fl_9, hml_9, q9_9, hla_9⟩ := id (hLa)
  have c_10 : E 0 9 = .inl (kA 5, 5, .inr (.inr (.inr (.inr fl_9)))) := q9_9
  have m_11 : (0, 9) ∈ RL := hmB 9 (by omega)
  have hLIx := LIs_add hLIs hLI
  refine lv_aload_n hx hb xd_De_faultOf_0 rfl (lv_at hl 1 rfl) ?_
  have hFc := px_free hD hS hA
  obtain ⟨m0_12, m1_12, pv_12, op_12, mk_12, fm_12, hmk_12, hpv_12, q0_12, q1_12, hk_12⟩ := id (hLI)
  have c_13 : E (20 + ml) 0 = .inr (5, [.int (nI ml), pv_12, .ref (ad (20 + ml) 1), .int op_12]) := q0_12
  have m_14 : (20 + ml, 0) ∈ RL := m0_12
  have c_15 : E (20 + ml) 1 = .inl (kA 6, mk_12, .inr (.inr (.inr (.inr fm_12)))) := q1_12
  have m_16 : (20 + ml, 1) ∈ RL := m1_12
  refine va_calli (va_runV (As := []) (rest := []) ⟨hx, hb, hml, hown, hT⟩ (xc_Ly_hasCycle l D kA s.heap.size ad E RL nd (ml + 1) ml (by first | assumption | omega) hLIx (by first | assumption | omega) (by first | assumption | omega)) (cwV 0 hT (wT_V yu_21 yu_22 yu_23 yu_2 yu_20) rfl rfl rfl (by decide +kernel) ⟨Nat.le_of_ble_eq_true rfl, Nat.le_of_ble_eq_true rfl⟩) (px_preV hK hP hD m_14 c_13 rfl) rfl rfl hl.1 rfl (lv_room (Nat.le_of_ble_eq_true rfl)) xd_De_faultOf_1 ⟨(Nat.le_of_ble_eq_true rfl), (Nat.le_of_ble_eq_true rfl)⟩) hS (fun q _ h => hFc q h) hFc (fun r17 u18 t H1 locs ht hvm hp19 hB hz1 hk1 hS => ?_)
  obtain ⟨hP1, hD1⟩ := hB
  rw [ht] at hP1
  have hD1 := hD1.weaken (fun _ _ _ h => hFc _ h)
  generalize H1 = H at hP1 hS ⊢
  have hP := hP1
  have hD := hD1
  have hP : va_P D xcl (rp ad E RL) H := hP
  have hD : va_D A (rp ad E RL) := hD
  rcases hp19 with rfl | rfl
  · refine W.eq (g2 := F0 m 4 ls [.int 0]) rfl ?_
    refine lv_if_eq (tgt := 9) hx hb xd_De_faultOf_4 (by decide) (fun _ => ?_) (fun hc20 => absurd (by decide) hc20)
    refine lv_aload_n hx hb xd_De_faultOf_9 rfl (lv_at hl 1 rfl) ?_
    have hFc := px_free hD hS hA
    refine va_calli (va_runV (As := []) (rest := []) ⟨hx, hb, hml, hown, hT⟩ (xc_Ly_hasSplit l D kA H.size ad E RL nd (ml + 1) ml (by first | assumption | omega) hLIx (by first | assumption | omega) (by first | assumption | omega)) (cwV 0 hT (wT_V yu_25 yu_26 yu_27 yu_2 yu_24) rfl rfl rfl (by decide +kernel) ⟨Nat.le_of_ble_eq_true rfl, Nat.le_of_ble_eq_true rfl⟩) (px_preV hK hP hD m_14 c_13 rfl) rfl rfl hl.1 rfl (lv_room (Nat.le_of_ble_eq_true rfl)) xd_De_faultOf_10 ⟨(Nat.le_of_ble_eq_true rfl), (Nat.le_of_ble_eq_true rfl)⟩) hS (fun q _ h => hFc q h) hFc (fun r21 u22 t H1 locs ht hvm hp23 hB hz1 hk1 hS => ?_)
    obtain ⟨hP1, hD1⟩ := hB
    rw [ht] at hP1
    have hD1 := hD1.weaken (fun _ _ _ h => hFc _ h)
    generalize H1 = H at hP1 hS ⊢
    have hP := hP1
    have hD := hD1
    have hP : va_P D xcl (rp ad E RL) H := hP
    have hD : va_D A (rp ad E RL) := hD
    rcases hp23 with rfl | rfl
    · refine W.eq (g2 := F0 m 13 ls [.int 0]) rfl ?_
      refine lv_if_eq (tgt := 18) hx hb xd_De_faultOf_13 (by decide) (fun _ => ?_) (fun hc24 => absurd (by decide) hc24)
      refine lv_aload_n hx hb xd_De_faultOf_18 rfl (lv_at hl 0 rfl) ?_
      refine px_get (D := D) (ci := 0) (v := .int (nI ml)) (C := xR_De) (T := xT_De) (N := 6) hx hb hT xi_De hown hK.1 hP m_3 c_2 rfl 4 (by decide) (hT _ yu_28) (fun _ h9 => h9) rfl xd_De_faultOf_19 ?_
      refine lv_iconst (v := 5) hx hb xd_De_faultOf_22 (by decide) ?_
      refine xn_lt (a := ml) (b := 5) (tgt := 30) hx hb xd_De_faultOf_23 (by decide) (by omega) (by omega) (fun hc25 => ?_) (fun hc25 => ?_)
      · refine lv_iconst (v := 0) hx hb xd_De_faultOf_30 (by decide) ?_
        exact W.iret (v := 0) hx hb hr (fun t ht hW => ⟨⟨0, (), rfl, Or.inl ⟨rfl, by omega⟩, by rw [ht]; exact hP, hD⟩, hS.F ht⟩) hS.2.2 xd_De_faultOf_31
      · refine lv_iconst (v := 3) hx hb xd_De_faultOf_26 (by decide) ?_
        refine lv_goto (tgt := 31) hx hb xd_De_faultOf_27 (by decide) ?_
        exact W.iret (v := 3) hx hb hr (fun t ht hW => ⟨⟨3, (), rfl, Or.inr (by decide), by rw [ht]; exact hP, hD⟩, hS.F ht⟩) hS.2.2 xd_De_faultOf_31
    · refine W.eq (g2 := F0 m 13 ls [.int 1]) rfl ?_
      refine lv_if_eq (tgt := 18) hx hb xd_De_faultOf_13 (by decide) (fun hc26 => absurd hc26 (by decide)) (fun _ => ?_)
      refine lv_iconst (v := 2) hx hb xd_De_faultOf_16 (by decide) ?_
      exact W.iret (v := 2) hx hb hr (fun t ht hW => ⟨⟨2, (), rfl, Or.inr (by decide), by rw [ht]; exact hP, hD⟩, hS.F ht⟩) hS.2.2 xd_De_faultOf_17
  · refine W.eq (g2 := F0 m 4 ls [.int 1]) rfl ?_
    refine lv_if_eq (tgt := 9) hx hb xd_De_faultOf_4 (by decide) (fun hc27 => absurd hc27 (by decide)) (fun _ => ?_)
    refine lv_iconst (v := 1) hx hb xd_De_faultOf_7 (by decide) ?_
    exact W.iret (v := 1) hx hb hr (fun t ht hW => ⟨⟨1, (), rfl, Or.inr (by decide), by rw [ht]; exact hP, hD⟩, hS.F ht⟩) hS.2.2 xd_De_faultOf_8
set_option maxHeartbeats 4000000 in
set_option maxRecDepth 100000 in
theorem xc_De_keep (l : Launch) (D : va_G) (kA : Nat → ClassId) (sz : Nat) (ad : Nat → Nat → Nat) (E : Nat → Nat → va_E) (RL : List (Nat × Nat)) (ml : Nat) (nd : Nat) (len : Nat) (wn : Nat) (cs : Nat) (hCI : CI kA ad E RL ml nd len wn cs) (hLI : LI kA ad E RL nd ml) (hml5 : ml < 5) : Met l xy_De_keep (.code xy_De_keep xb_De_keep 3 none :: wT) { frames := 0, cells := 0, slots := 0, locals := 0 } (va_Pc [.ref (ad 0 0), .ref (ad (20 + ml) 0)] (xPre D kA sz (rp ad E RL))) (va_Qv (fun (u : Nat → Nat → va_E) => CI kA ad u RL (ml + 1) nd len wn cs) (fun (u : Nat → Nat → va_E) t => va_P D xcl (rp ad u RL) t.heap ∧ va_D (va_A (rp ad E RL) sz) (rp ad u RL)) (va_A (rp ad E RL) sz)) 0 0 (va_A (rp ad E RL) sz) := by
  refine Met.ofW (cc := xb_De_keep) (maxL := 3) (ret := none) (by decide) rfl ?_
  intro p e s m args below meth c s₁ B hml hv
  obtain ⟨rfl, hsz, hP, hK, hD0⟩ := hv
  have hx := B.exec
  have hb := B.bytes
  have hr := B.returns
  have hT := x_hT B.pre
  have hown : s.vm.findClass xR_De = some m.cls := findClass_of_methodNamed B.named
  have hlocks := B.notSynchronized
  subst hsz
  have hD := hD0.self (sz := s.heap.size)
  generalize hAe : va_A (rp ad E RL) s.heap.size = A at hD ⊢
  have hA : ∀ q : Nat, s.heap.size ≤ q → A q := fun q h => by rw [← hAe]; exact Or.inr h
  have hS : va_S A s.heap s.heap [] := va_S.rf
  have hl := lv_entry ([.ref (ad 0 0), .ref (ad (20 + ml) 0)]) (n := 3) (Nat.le_of_ble_eq_true rfl)
  rw [lg_entry_eq]
  generalize (lg_sl ([.ref (ad 0 0), .ref (ad (20 + ml) 0)]) ++ List.replicate (3 - (lg_sl ([.ref (ad 0 0), .ref (ad (20 + ml) 0)])).length) Slot.unset).toArray = ls at hl ⊢
  have hl : lv_has ls 3 [(0, .ref (ad 0 0)), (1, .ref (ad (20 + ml) 0))] := hl
  have hP : va_P D xcl (rp ad E RL) s.heap := hP
  obtain ⟨hmB, hDk, hLi, hSh, hCh, hLa, hDIs, hLIs⟩ := id hCI
  obtain ⟨lf_1, q_1⟩ := id (hDk)
  have c_2 : E 0 0 = .inr (0, [.ref (ad 0 1), .ref (ad 0 5), .ref (ad 0 7), .ref (ad 0 9), .int (nI ml), .int lf_1]) := q_1
  have m_3 : (0, 0) ∈ RL := hmB 0 (by omega)
  obtain ⟨tx_4, fb_4, fe_4, hl1_4, hw2_4, q1_4, q2_4, q3_4, q4_4, hws_4⟩ := id (hLi)
  have c_5 : E 0 1 = .inr (1, [.ref (ad 0 2), .ref (ad 0 3), .ref (ad 0 4), .int (nI len), .int (nI wn)]) := q1_4
  have m_6 : (0, 1) ∈ RL := hmB 1 (by omega)
  have c_7 : E 0 2 = .inl (kA 1, 40, .inl tx_4) := q2_4
  have m_8 : (0, 2) ∈ RL := hmB 2 (by omega)
  have c_9 : E 0 3 = .inl (kA 0, 20, .inl fb_4) := q3_4
  have m_10 : (0, 3) ∈ RL := hmB 3 (by omega)
  have c_11 : E 0 4 = .inl (kA 0, 20, .inl fe_4) := q4_4
  have m_12 : (0, 4) ∈ RL := hmB 4 (by omega)
  obtain ⟨fd_13, hnd_13, q5_13, q6_13, hds_13⟩ := id (hSh)
  have c_14 : E 0 5 = .inr (2, [.ref (ad 0 6), .int (nI nd)]) := q5_13
  have m_15 : (0, 5) ∈ RL := hmB 5 (by omega)
  have c_16 : E 0 6 = .inl (kA 4, 12, .inr (.inr (.inr (.inr fd_13)))) := q6_13
  have m_17 : (0, 6) ∈ RL := hmB 6 (by omega)
  obtain ⟨cf_18, pv_18, fc_18, hcs_18, hpv_18, q7_18, q8_18, hfc_18⟩ := id (hCh)
  have c_19 : E 0 7 = .inr (3, [.ref (ad 0 5), .ref (ad 0 8), .int (nI cs), .int cf_18, pv_18]) := q7_18
  have m_20 : (0, 7) ∈ RL := hmB 7 (by omega)
  have c_21 : E 0 8 = .inl (kA 4, 12, .inr (.inr (.inr (.inr fc_18)))) := q8_18
  have m_22 : (0, 8) ∈ RL := hmB 8 (by omega)
  obtain ⟨fl_23, hml_23, q9_23, hla_23⟩ := id (hLa)
  have c_24 : E 0 9 = .inl (kA 5, 5, .inr (.inr (.inr (.inr fl_23)))) := q9_23
  have m_25 : (0, 9) ∈ RL := hmB 9 (by omega)
  obtain ⟨m0_26, m1_26, pv_26, op_26, mk_26, fm_26, hmk_26, hpv_26, q0_26, q1_26, hk_26⟩ := id (hLI)
  have c_27 : E (20 + ml) 0 = .inr (5, [.int (nI ml), pv_26, .ref (ad (20 + ml) 1), .int op_26]) := q0_26
  have m_28 : (20 + ml, 0) ∈ RL := m0_26
  have c_29 : E (20 + ml) 1 = .inl (kA 6, mk_26, .inr (.inr (.inr (.inr fm_26)))) := q1_26
  have m_30 : (20 + ml, 1) ∈ RL := m1_26
  refine lv_aload_n hx hb xd_De_keep_0 rfl (lv_at hl 0 rfl) ?_
  refine px_get (D := D) (ci := 0) (v := .int (nI ml)) (C := xR_De) (T := xT_De) (N := 6) hx hb hT xi_De hown hK.1 hP m_3 c_2 rfl 4 (by decide) (hT _ yu_28) (fun _ h9 => h9) rfl xd_De_keep_1 ?_
  refine lv_iconst (v := 5) hx hb xd_De_keep_4 (by decide) ?_
  refine xn_lt (a := ml) (b := 5) (tgt := 9) hx hb xd_De_keep_5 (by decide) (by omega) (by omega) (fun _ => ?_) (fun hc31 => absurd hc31 (by omega))
  refine lv_aload_n hx hb xd_De_keep_9 rfl (lv_at hl 0 rfl) ?_
  refine px_get (D := D) (ci := 0) (v := .ref (ad 0 9)) (C := xR_De) (T := xT_De) (N := 6) hx hb hT xi_De hown hK.1 hP m_3 c_2 rfl 3 (by decide) (hT _ yu_29) (fun _ h9 => h9) rfl xd_De_keep_10 ?_
  refine lv_aload_n hx hb xd_De_keep_13 rfl (lv_at hl 0 rfl) ?_
  refine px_get (D := D) (ci := 0) (v := .int (nI ml)) (C := xR_De) (T := xT_De) (N := 6) hx hb hT xi_De hown hK.1 hP m_3 c_2 rfl 4 (by decide) (hT _ yu_28) (fun _ h9 => h9) rfl xd_De_keep_14 ?_
  refine lv_aload_n hx hb xd_De_keep_17 rfl (lv_at hl 1 rfl) ?_
  refine px_aast (i := ml) (r := (xR_Ly, xT_Ly, 4)) hx hb hK.1 hP hD hS m_25 c_24 5 rfl m_28 c_27 rfl (by omega) (by decide) xd_De_keep_18 (fun H locs hP hD hS => ?_)
  have hP : va_P D xcl (rp ad (up2 E 0 9 (.inl (kA 5, 5, .inr (.inr (.inr (.inr (va_up fl_23 ml (some (ad (20 + ml) 0))))))))) RL) H := hP
  have hD : va_D A (rp ad (up2 E 0 9 (.inl (kA 5, 5, .inr (.inr (.inr (.inr (va_up fl_23 ml (some (ad (20 + ml) 0))))))))) RL) := hD
  generalize hE33 : up2 E 0 9 (.inl (kA 5, 5, .inr (.inr (.inr (.inr (va_up fl_23 ml (some (ad (20 + ml) 0)))))))) = E32 at hP hD
  have fE34 : ∀ b2 o2, ¬ (b2 = 0 ∧ o2 = 9) → E32 b2 o2 = E b2 o2 := fun b2 o2 h9 => by rw [← hE33]; exact up2_ne (by omega)
  have c_35 : E32 0 9 = .inl (kA 5, 5, .inr (.inr (.inr (.inr (va_up fl_23 ml (some (ad (20 + ml) 0))))))) := by rw [← hE33]; exact up2_eq
  have c_36 : E32 0 0 = .inr (0, [.ref (ad 0 1), .ref (ad 0 5), .ref (ad 0 7), .ref (ad 0 9), .int (nI ml), .int lf_1]) := (fE34 0 0 (by omega)).trans c_2
  have c_37 : E32 0 1 = .inr (1, [.ref (ad 0 2), .ref (ad 0 3), .ref (ad 0 4), .int (nI len), .int (nI wn)]) := (fE34 0 1 (by omega)).trans c_5
  have c_38 : E32 0 2 = .inl (kA 1, 40, .inl tx_4) := (fE34 0 2 (by omega)).trans c_7
  have c_39 : E32 0 3 = .inl (kA 0, 20, .inl fb_4) := (fE34 0 3 (by omega)).trans c_9
  have c_40 : E32 0 4 = .inl (kA 0, 20, .inl fe_4) := (fE34 0 4 (by omega)).trans c_11
  have c_41 : E32 0 5 = .inr (2, [.ref (ad 0 6), .int (nI nd)]) := (fE34 0 5 (by omega)).trans c_14
  have c_42 : E32 0 6 = .inl (kA 4, 12, .inr (.inr (.inr (.inr fd_13)))) := (fE34 0 6 (by omega)).trans c_16
  have c_43 : E32 0 7 = .inr (3, [.ref (ad 0 5), .ref (ad 0 8), .int (nI cs), .int cf_18, pv_18]) := (fE34 0 7 (by omega)).trans c_19
  have c_44 : E32 0 8 = .inl (kA 4, 12, .inr (.inr (.inr (.inr fc_18)))) := (fE34 0 8 (by omega)).trans c_21
  have c_45 : E32 (20 + ml) 0 = .inr (5, [.int (nI ml), pv_26, .ref (ad (20 + ml) 1), .int op_26]) := (fE34 (20 + ml) 0 (by omega)).trans c_27
  have c_46 : E32 (20 + ml) 1 = .inl (kA 6, mk_26, .inr (.inr (.inr (.inr fm_26)))) := (fE34 (20 + ml) 1 (by omega)).trans c_29
  refine lv_aload_n hx hb xd_De_keep_19 rfl (lv_at hl 0 rfl) ?_
  refine lv_dup hx hb xd_De_keep_20 rfl ?_
  refine px_get (D := D) (ci := 0) (v := .int (nI ml)) (C := xR_De) (T := xT_De) (N := 6) hx hb hT xi_De hown hK.1 hP m_3 c_36 rfl 4 (by decide) (hT _ yu_28) (fun _ h9 => h9) rfl xd_De_keep_21 ?_
  refine lv_iconst (v := 1) hx hb xd_De_keep_24 (by decide) ?_
  refine lv_iadd hx hb xd_De_keep_25 ?_
  refine xn_top (y := nI (ml + 1)) (nI_add ml 1) ?_
  refine px_put (D := D) (ci := 0) (v := .int (nI (ml + 1))) (ty := .int) (C := xR_De) (T := xT_De) (N := 6) hx hb hT xi_De xt_De xt_De_ok xn_De hown hK.1 hP hD hS m_3 c_36 rfl 4 (by decide) (hT _ yu_28) (fun _ h9 => h9) rfl (by decide +kernel) rfl rfl (Nat.le_of_ble_eq_true rfl) xd_De_keep_26 (fun H locs hP hD hS => ?_)
  have hP : va_P D xcl (rp ad (up2 E32 0 0 (.inr (0, [.ref (ad 0 1), .ref (ad 0 5), .ref (ad 0 7), .ref (ad 0 9), .int (nI (ml + 1)), .int lf_1]))) RL) H := hP
  have hD : va_D A (rp ad (up2 E32 0 0 (.inr (0, [.ref (ad 0 1), .ref (ad 0 5), .ref (ad 0 7), .ref (ad 0 9), .int (nI (ml + 1)), .int lf_1]))) RL) := hD
  generalize hE48 : up2 E32 0 0 (.inr (0, [.ref (ad 0 1), .ref (ad 0 5), .ref (ad 0 7), .ref (ad 0 9), .int (nI (ml + 1)), .int lf_1])) = E47 at hP hD
  have fE49 : ∀ b2 o2, ¬ (b2 = 0 ∧ o2 = 0) → E47 b2 o2 = E32 b2 o2 := fun b2 o2 h9 => by rw [← hE48]; exact up2_ne (by omega)
  have c_50 : E47 0 0 = .inr (0, [.ref (ad 0 1), .ref (ad 0 5), .ref (ad 0 7), .ref (ad 0 9), .int (nI (ml + 1)), .int lf_1]) := by rw [← hE48]; exact up2_eq
  have c_51 : E47 0 9 = .inl (kA 5, 5, .inr (.inr (.inr (.inr (va_up fl_23 ml (some (ad (20 + ml) 0))))))) := (fE49 0 9 (by omega)).trans c_35
  have c_52 : E47 0 1 = .inr (1, [.ref (ad 0 2), .ref (ad 0 3), .ref (ad 0 4), .int (nI len), .int (nI wn)]) := (fE49 0 1 (by omega)).trans c_37
  have c_53 : E47 0 2 = .inl (kA 1, 40, .inl tx_4) := (fE49 0 2 (by omega)).trans c_38
  have c_54 : E47 0 3 = .inl (kA 0, 20, .inl fb_4) := (fE49 0 3 (by omega)).trans c_39
  have c_55 : E47 0 4 = .inl (kA 0, 20, .inl fe_4) := (fE49 0 4 (by omega)).trans c_40
  have c_56 : E47 0 5 = .inr (2, [.ref (ad 0 6), .int (nI nd)]) := (fE49 0 5 (by omega)).trans c_41
  have c_57 : E47 0 6 = .inl (kA 4, 12, .inr (.inr (.inr (.inr fd_13)))) := (fE49 0 6 (by omega)).trans c_42
  have c_58 : E47 0 7 = .inr (3, [.ref (ad 0 5), .ref (ad 0 8), .int (nI cs), .int cf_18, pv_18]) := (fE49 0 7 (by omega)).trans c_43
  have c_59 : E47 0 8 = .inl (kA 4, 12, .inr (.inr (.inr (.inr fc_18)))) := (fE49 0 8 (by omega)).trans c_44
  have c_60 : E47 (20 + ml) 0 = .inr (5, [.int (nI ml), pv_26, .ref (ad (20 + ml) 1), .int op_26]) := (fE49 (20 + ml) 0 (by omega)).trans c_45
  have c_61 : E47 (20 + ml) 1 = .inl (kA 6, mk_26, .inr (.inr (.inr (.inr fm_26)))) := (fE49 (20 + ml) 1 (by omega)).trans c_46
  have hCI : CI kA ad E47 RL (ml + 1) nd len wn cs := ⟨hmB, ⟨lf_1, c_50⟩, ⟨tx_4, fb_4, fe_4, (by omega), (by omega), c_52, c_53, c_54, c_55, hws_4⟩, ⟨fd_13, (by omega), c_56, c_57, hds_13⟩, ⟨cf_18, pv_18, fc_18, (by omega), (PV_le hpv_18 (by omega)), c_58, c_59, hfc_18⟩, ⟨(va_up fl_23 ml (some (ad (20 + ml) 0))), (by omega), c_51, (LA_add hla_23)⟩, (DIs_same (fun d9 hd9 => fun2 fun o9 => by show E47 (1 + d9) o9 = _; rw [fE49 (1 + d9) o9 (by omega), fE34 (1 + d9) o9 (by omega)]) (fun _ _ => rfl) (fun _ h9 => h9) hDIs), (LIs_add (LIs_same (Nat.le_refl _) (fun n9 hn9 => fun2 fun o9 => by show E47 (20 + n9) o9 = _; rw [fE49 (20 + n9) o9 (by omega), fE34 (20 + n9) o9 (by omega)]) (fun _ _ => rfl) (fun _ _ => rfl) (fun _ h9 => h9) hLIs) (LI_same (Nat.le_refl _) (fun2 fun o9 => by show E47 (20 + ml) o9 = _; rw [fE49 (20 + ml) o9 (by omega), fE34 (20 + ml) o9 (by omega)]) rfl (fun _ _ => rfl) (fun _ _ => rfl) (fun _ h => h) hLI))⟩
  obtain ⟨hmB, hDk, hLi, hSh, hCh, hLa, hDIs, hLIs⟩ := id hCI
  refine lv_iconst (v := 0) hx hb xd_De_keep_29 (by decide) ?_
  refine lv_istore_n hx hb xd_De_keep_30 rfl hl (Nat.le_of_ble_eq_true rfl) rfl (fun ls hl => ?_)
  have hl : lv_has ls 3 [(2, .int 0), (0, .ref (ad 0 0)), (1, .ref (ad (20 + ml) 0))] := hl
  refine xlab (σ := Nat × (Nat → Nat → va_E)) (ml := 3) 31 (fun (k, E1) => [(2, .int (nI k)), (1, .ref (ad (20 + ml) 0)), (0, .ref (ad 0 0))]) (fun (k, E1) => []) (fun (k, E1) => rp ad E1 RL) (fun (k, E1) => (k ≤ 12) ∧ (CI kA ad E1 RL (ml + 1) nd len wn cs)) (fun (k, E1) => 12 - k) ?_ (0, E47) _ _ _ (lv_sub hl [0, 2, 1] rfl) hP hD hS ⟨(show 0 ≤ 12 from by first | assumption | omega), (show CI kA ad E47 RL (ml + 1) nd len wn cs from hCI)⟩
  intro n9 ih62 a9 ls H locs hμ hl hP hD hS hI
  subst hμ
  obtain ⟨k, E1⟩ := a9
  obtain ⟨hk0, hCI⟩ := hI
  have hk0 : k ≤ 12 := hk0
  have hCI : CI kA ad E1 RL (ml + 1) nd len wn cs := hCI
  have hl : lv_has ls 3 [(2, .int (nI k)), (1, .ref (ad (20 + ml) 0)), (0, .ref (ad 0 0))] := hl
  have hP : va_P D xcl (rp ad E1 RL) H := hP
  have hD : va_D A (rp ad E1 RL) := hD
  obtain ⟨hmB, hDk, hLi, hSh, hCh, hLa, hDIs, hLIs⟩ := id hCI
  obtain ⟨lf_63, q_63⟩ := id (hDk)
  have c_64 : E1 0 0 = .inr (0, [.ref (ad 0 1), .ref (ad 0 5), .ref (ad 0 7), .ref (ad 0 9), .int (nI (ml + 1)), .int lf_63]) := q_63
  have m_65 : (0, 0) ∈ RL := hmB 0 (by omega)
  obtain ⟨tx_66, fb_66, fe_66, hl1_66, hw2_66, q1_66, q2_66, q3_66, q4_66, hws_66⟩ := id (hLi)
  have c_67 : E1 0 1 = .inr (1, [.ref (ad 0 2), .ref (ad 0 3), .ref (ad 0 4), .int (nI len), .int (nI wn)]) := q1_66
  have m_68 : (0, 1) ∈ RL := hmB 1 (by omega)
  have c_69 : E1 0 2 = .inl (kA 1, 40, .inl tx_66) := q2_66
  have m_70 : (0, 2) ∈ RL := hmB 2 (by omega)
  have c_71 : E1 0 3 = .inl (kA 0, 20, .inl fb_66) := q3_66
  have m_72 : (0, 3) ∈ RL := hmB 3 (by omega)
  have c_73 : E1 0 4 = .inl (kA 0, 20, .inl fe_66) := q4_66
  have m_74 : (0, 4) ∈ RL := hmB 4 (by omega)
  obtain ⟨fd_75, hnd_75, q5_75, q6_75, hds_75⟩ := id (hSh)
  have c_76 : E1 0 5 = .inr (2, [.ref (ad 0 6), .int (nI nd)]) := q5_75
  have m_77 : (0, 5) ∈ RL := hmB 5 (by omega)
  have c_78 : E1 0 6 = .inl (kA 4, 12, .inr (.inr (.inr (.inr fd_75)))) := q6_75
  have m_79 : (0, 6) ∈ RL := hmB 6 (by omega)
  obtain ⟨cf_80, pv_80, fc_80, hcs_80, hpv_80, q7_80, q8_80, hfc_80⟩ := id (hCh)
  have c_81 : E1 0 7 = .inr (3, [.ref (ad 0 5), .ref (ad 0 8), .int (nI cs), .int cf_80, pv_80]) := q7_80
  have m_82 : (0, 7) ∈ RL := hmB 7 (by omega)
  have c_83 : E1 0 8 = .inl (kA 4, 12, .inr (.inr (.inr (.inr fc_80)))) := q8_80
  have m_84 : (0, 8) ∈ RL := hmB 8 (by omega)
  obtain ⟨fl_85, hml_85, q9_85, hla_85⟩ := id (hLa)
  have c_86 : E1 0 9 = .inl (kA 5, 5, .inr (.inr (.inr (.inr fl_85)))) := q9_85
  have m_87 : (0, 9) ∈ RL := hmB 9 (by omega)
  obtain ⟨m0_88, m1_88, pv_88, op_88, mk_88, fm_88, hmk_88, hpv_88, q0_88, q1_88, hk_88⟩ := id (hLIs ml (by omega))
  have c_89 : E1 (20 + ml) 0 = .inr (5, [.int (nI ml), pv_88, .ref (ad (20 + ml) 1), .int op_88]) := q0_88
  have m_90 : (20 + ml, 0) ∈ RL := m0_88
  have c_91 : E1 (20 + ml) 1 = .inl (kA 6, mk_88, .inr (.inr (.inr (.inr fm_88)))) := q1_88
  have m_92 : (20 + ml, 1) ∈ RL := m1_88
  refine lv_iload_n hx hb xd_De_keep_31 rfl (lv_at hl 0 rfl) ?_
  refine lv_aload_n hx hb xd_De_keep_32 rfl (lv_at hl 1 rfl) ?_
  refine px_get (D := D) (ci := 5) (v := .ref (ad (20 + ml) 1)) (C := xR_Ly) (T := xT_Ly) (N := 4) hx hb hT xi_Ly hown hK.1 hP m_90 c_89 rfl 2 (by decide) (hT _ yu_30) (fun _ h9 => h9) rfl xd_De_keep_33 ?_
  refine px_alen hx hb hK.1 hP m_92 c_91 6 rfl xd_De_keep_36 ?_
  refine W.eq (g2 := F0 m 37 ls [.int (nI mk_88), .int (nI k)]) rfl ?_
  refine xn_ge (a := k) (b := mk_88) (tgt := 59) hx hb xd_De_keep_37 (by decide) (by omega) (by omega) (fun hc93 => ?_) (fun hc93 => ?_)
  · exact W.vret hx hb hr (fun t ht hW => ⟨⟨E1, rfl, hCI, by rw [ht]; exact hP, hD⟩, hS.F ht⟩) hS.2.2 xd_De_keep_59
  · refine lv_aload_n hx hb xd_De_keep_40 rfl (lv_at hl 1 rfl) ?_
    refine px_get (D := D) (ci := 5) (v := .ref (ad (20 + ml) 1)) (C := xR_Ly) (T := xT_Ly) (N := 4) hx hb hT xi_Ly hown hK.1 hP m_90 c_89 rfl 2 (by decide) (hT _ yu_30) (fun _ h9 => h9) rfl xd_De_keep_41 ?_
    refine lv_iload_n hx hb xd_De_keep_44 rfl (lv_at hl 0 rfl) ?_
    refine px_aald (i := k) (x := (some (ad (20 + ml) (10 + 10 * k)))) hx hb hK.1 hP m_92 c_91 6 rfl ((hk_88 k (by omega)).1) (by omega) (by omega) xd_De_keep_45 ?_
    obtain ⟨hm_94, d_94, rs_94, fr_94, g2_94, g3_94, g4_94, hd_94, hrs_94, q0_94, q1_94, q2_94, q3_94, q4_94, q5_94, q6_94, q7_94⟩ := (hk_88 k (by omega)).2
    have c_95 : E1 (20 + ml) (10 + 10 * k) = .inr (6, [.ref (ad (20 + ml) 0), .ref (ad (1 + d_94) 0), .ref (ad (20 + ml) (11 + 10 * k)), .ref (ad (20 + ml) (12 + 10 * k)), .ref (ad (20 + ml) (13 + 10 * k)), .ref (ad (20 + ml) (14 + 10 * k))]) := q0_94
    have m_96 : (20 + ml, 10 + 10 * k) ∈ RL := hm_94 0 (by omega)
    have c_97 : E1 (20 + ml) (11 + 10 * k) = .inl (kA 6, rs_94, .inr (.inr (.inr (.inr fr_94)))) := q1_94
    have m_98 : (20 + ml, 11 + 10 * k) ∈ RL := hm_94 1 (by omega)
    have c_99 : E1 (20 + ml) (12 + 10 * k) = .inr (10, [.ref (ad (20 + ml) (15 + 10 * k))]) := q2_94
    have m_100 : (20 + ml, 12 + 10 * k) ∈ RL := hm_94 2 (by omega)
    have c_101 : E1 (20 + ml) (13 + 10 * k) = .inr (10, [.ref (ad (20 + ml) (16 + 10 * k))]) := q3_94
    have m_102 : (20 + ml, 13 + 10 * k) ∈ RL := hm_94 3 (by omega)
    have c_103 : E1 (20 + ml) (14 + 10 * k) = .inr (10, [.ref (ad (20 + ml) (17 + 10 * k))]) := q4_94
    have m_104 : (20 + ml, 14 + 10 * k) ∈ RL := hm_94 4 (by omega)
    have c_105 : E1 (20 + ml) (15 + 10 * k) = .inl (kA 0, 6, .inl g2_94) := q5_94
    have m_106 : (20 + ml, 15 + 10 * k) ∈ RL := hm_94 5 (by omega)
    have c_107 : E1 (20 + ml) (16 + 10 * k) = .inl (kA 0, 6, .inl g3_94) := q6_94
    have m_108 : (20 + ml, 16 + 10 * k) ∈ RL := hm_94 6 (by omega)
    have c_109 : E1 (20 + ml) (17 + 10 * k) = .inl (kA 0, 6, .inl g4_94) := q7_94
    have m_110 : (20 + ml, 17 + 10 * k) ∈ RL := hm_94 7 (by omega)
    refine px_get (D := D) (ci := 6) (v := .ref (ad (1 + d_94) 0)) (C := xR_Me) (T := xT_Me) (N := 6) hx hb hT xi_Me hown hK.1 hP m_96 c_95 rfl 1 (by decide) (hT _ yu_31) (fun _ h9 => h9) rfl xd_De_keep_46 ?_
    refine lv_iconst (v := 1) hx hb xd_De_keep_49 (by decide) ?_
    obtain ⟨hm_111, fd_111, nm_111, sd_111, k0_111, k1_111, k2_111, k3_111, f0_111, f1_111, f2_111, f3_111, fe_111, fo_111, tr_111, op_111, hk0_111, hk1_111, hk2_111, hk3_111, q0_111, q1_111, q2_111, q3_111, q4_111, q5_111, q6_111, q7_111, q8_111, q9_111, q10_111, q11_111, q12_111, hg_111⟩ := id (hDIs d_94 (by omega))
    have c_112 : E1 (1 + d_94) 0 = .inr (7, [.int (nI d_94), .int fd_111, .int nm_111, .ref (ad (1 + d_94) 1), .ref (ad (1 + d_94) 9), .ref (ad (1 + d_94) 10), .ref (ad (1 + d_94) 2), .ref (ad (1 + d_94) 11), .ref (ad (1 + d_94) 12), .ref (ad (1 + d_94) 3), .ref (ad (1 + d_94) 4), .int sd_111]) := q0_111
    have m_113 : (1 + d_94, 0) ∈ RL := hm_111 0 (by omega)
    have c_114 : E1 (1 + d_94) 1 = .inr (8, [.ref (ad (1 + d_94) 5), .int (nI k0_111)]) := q1_111
    have m_115 : (1 + d_94, 1) ∈ RL := hm_111 1 (by omega)
    have c_116 : E1 (1 + d_94) 2 = .inr (8, [.ref (ad (1 + d_94) 6), .int (nI k1_111)]) := q2_111
    have m_117 : (1 + d_94, 2) ∈ RL := hm_111 2 (by omega)
    have c_118 : E1 (1 + d_94) 3 = .inr (8, [.ref (ad (1 + d_94) 7), .int (nI k2_111)]) := q3_111
    have m_119 : (1 + d_94, 3) ∈ RL := hm_111 3 (by omega)
    have c_120 : E1 (1 + d_94) 4 = .inr (8, [.ref (ad (1 + d_94) 8), .int (nI k3_111)]) := q4_111
    have m_121 : (1 + d_94, 4) ∈ RL := hm_111 4 (by omega)
    have c_122 : E1 (1 + d_94) 5 = .inl (kA 0, 6, .inl f0_111) := q5_111
    have m_123 : (1 + d_94, 5) ∈ RL := hm_111 5 (by omega)
    have c_124 : E1 (1 + d_94) 6 = .inl (kA 0, 5, .inl f1_111) := q6_111
    have m_125 : (1 + d_94, 6) ∈ RL := hm_111 6 (by omega)
    have c_126 : E1 (1 + d_94) 7 = .inl (kA 0, 3, .inl f2_111) := q7_111
    have m_127 : (1 + d_94, 7) ∈ RL := hm_111 7 (by omega)
    have c_128 : E1 (1 + d_94) 8 = .inl (kA 0, 3, .inl f3_111) := q8_111
    have m_129 : (1 + d_94, 8) ∈ RL := hm_111 8 (by omega)
    have c_130 : E1 (1 + d_94) 9 = .inl (kA 8, 6, .inr (.inr (.inr (.inr fe_111)))) := q9_111
    have m_131 : (1 + d_94, 9) ∈ RL := hm_111 9 (by omega)
    have c_132 : E1 (1 + d_94) 10 = .inl (kA 8, 6, .inr (.inr (.inr (.inr fo_111)))) := q10_111
    have m_133 : (1 + d_94, 10) ∈ RL := hm_111 10 (by omega)
    have c_134 : E1 (1 + d_94) 11 = .inl (kA 2, 5, .inl tr_111) := q11_111
    have m_135 : (1 + d_94, 11) ∈ RL := hm_111 11 (by omega)
    have c_136 : E1 (1 + d_94) 12 = .inl (kA 2, 5, .inl op_111) := q12_111
    have m_137 : (1 + d_94, 12) ∈ RL := hm_111 12 (by omega)
    have hg_111 : ∀ w9, w9 < k0_111 → fe_111 w9 = some (ad (1 + d_94) (20 + 3 * w9)) ∧ fo_111 w9 = some (ad (1 + d_94) (38 + 3 * w9)) ∧ GI kA (ad (1 + d_94)) (E1 (1 + d_94)) (fun o => (1 + d_94, o) ∈ RL) (20 + 3 * w9) (21 + 3 * w9) (22 + 3 * w9) ∧ GI kA (ad (1 + d_94)) (E1 (1 + d_94)) (fun o => (1 + d_94, o) ∈ RL) (38 + 3 * w9) (39 + 3 * w9) (40 + 3 * w9) := hg_111
    refine px_put (D := D) (ci := 7) (v := .int 1) (ty := .boolean) (C := xR_Ds) (T := xT_Ds) (N := 12) hx hb hT xi_Ds xt_Ds xt_Ds_ok xn_Ds hown hK.1 hP hD hS m_113 c_112 rfl 11 (by decide) (hT _ yu_32) (fun _ h9 => h9) rfl (by decide +kernel) rfl rfl (Nat.le_of_ble_eq_true rfl) xd_De_keep_50 (fun H locs hP hD hS => ?_)
    have hP : va_P D xcl (rp ad (up2 E1 (1 + d_94) 0 (.inr (7, [.int (nI d_94), .int fd_111, .int nm_111, .ref (ad (1 + d_94) 1), .ref (ad (1 + d_94) 9), .ref (ad (1 + d_94) 10), .ref (ad (1 + d_94) 2), .ref (ad (1 + d_94) 11), .ref (ad (1 + d_94) 12), .ref (ad (1 + d_94) 3), .ref (ad (1 + d_94) 4), .int 1]))) RL) H := hP
    have hD : va_D A (rp ad (up2 E1 (1 + d_94) 0 (.inr (7, [.int (nI d_94), .int fd_111, .int nm_111, .ref (ad (1 + d_94) 1), .ref (ad (1 + d_94) 9), .ref (ad (1 + d_94) 10), .ref (ad (1 + d_94) 2), .ref (ad (1 + d_94) 11), .ref (ad (1 + d_94) 12), .ref (ad (1 + d_94) 3), .ref (ad (1 + d_94) 4), .int 1]))) RL) := hD
    generalize hE139 : up2 E1 (1 + d_94) 0 (.inr (7, [.int (nI d_94), .int fd_111, .int nm_111, .ref (ad (1 + d_94) 1), .ref (ad (1 + d_94) 9), .ref (ad (1 + d_94) 10), .ref (ad (1 + d_94) 2), .ref (ad (1 + d_94) 11), .ref (ad (1 + d_94) 12), .ref (ad (1 + d_94) 3), .ref (ad (1 + d_94) 4), .int 1])) = E138 at hP hD
    have fE140 : ∀ b2 o2, ¬ (b2 = 1 + d_94 ∧ o2 = 0) → E138 b2 o2 = E1 b2 o2 := fun b2 o2 h9 => by rw [← hE139]; exact up2_ne (by omega)
    have c_141 : E138 (1 + d_94) 0 = .inr (7, [.int (nI d_94), .int fd_111, .int nm_111, .ref (ad (1 + d_94) 1), .ref (ad (1 + d_94) 9), .ref (ad (1 + d_94) 10), .ref (ad (1 + d_94) 2), .ref (ad (1 + d_94) 11), .ref (ad (1 + d_94) 12), .ref (ad (1 + d_94) 3), .ref (ad (1 + d_94) 4), .int 1]) := by rw [← hE139]; exact up2_eq
    have c_142 : E138 0 0 = .inr (0, [.ref (ad 0 1), .ref (ad 0 5), .ref (ad 0 7), .ref (ad 0 9), .int (nI (ml + 1)), .int lf_63]) := (fE140 0 0 (by omega)).trans c_64
    have c_143 : E138 0 1 = .inr (1, [.ref (ad 0 2), .ref (ad 0 3), .ref (ad 0 4), .int (nI len), .int (nI wn)]) := (fE140 0 1 (by omega)).trans c_67
    have c_144 : E138 0 2 = .inl (kA 1, 40, .inl tx_66) := (fE140 0 2 (by omega)).trans c_69
    have c_145 : E138 0 3 = .inl (kA 0, 20, .inl fb_66) := (fE140 0 3 (by omega)).trans c_71
    have c_146 : E138 0 4 = .inl (kA 0, 20, .inl fe_66) := (fE140 0 4 (by omega)).trans c_73
    have c_147 : E138 0 5 = .inr (2, [.ref (ad 0 6), .int (nI nd)]) := (fE140 0 5 (by omega)).trans c_76
    have c_148 : E138 0 6 = .inl (kA 4, 12, .inr (.inr (.inr (.inr fd_75)))) := (fE140 0 6 (by omega)).trans c_78
    have c_149 : E138 0 7 = .inr (3, [.ref (ad 0 5), .ref (ad 0 8), .int (nI cs), .int cf_80, pv_80]) := (fE140 0 7 (by omega)).trans c_81
    have c_150 : E138 0 8 = .inl (kA 4, 12, .inr (.inr (.inr (.inr fc_80)))) := (fE140 0 8 (by omega)).trans c_83
    have c_151 : E138 0 9 = .inl (kA 5, 5, .inr (.inr (.inr (.inr fl_85)))) := (fE140 0 9 (by omega)).trans c_86
    have c_152 : E138 (20 + ml) 0 = .inr (5, [.int (nI ml), pv_88, .ref (ad (20 + ml) 1), .int op_88]) := (fE140 (20 + ml) 0 (by omega)).trans c_89
    have c_153 : E138 (20 + ml) 1 = .inl (kA 6, mk_88, .inr (.inr (.inr (.inr fm_88)))) := (fE140 (20 + ml) 1 (by omega)).trans c_91
    have c_154 : E138 (20 + ml) (10 + 10 * k) = .inr (6, [.ref (ad (20 + ml) 0), .ref (ad (1 + d_94) 0), .ref (ad (20 + ml) (11 + 10 * k)), .ref (ad (20 + ml) (12 + 10 * k)), .ref (ad (20 + ml) (13 + 10 * k)), .ref (ad (20 + ml) (14 + 10 * k))]) := (fE140 (20 + ml) (10 + 10 * k) (by omega)).trans c_95
    have c_155 : E138 (20 + ml) (11 + 10 * k) = .inl (kA 6, rs_94, .inr (.inr (.inr (.inr fr_94)))) := (fE140 (20 + ml) (11 + 10 * k) (by omega)).trans c_97
    have c_156 : E138 (20 + ml) (12 + 10 * k) = .inr (10, [.ref (ad (20 + ml) (15 + 10 * k))]) := (fE140 (20 + ml) (12 + 10 * k) (by omega)).trans c_99
    have c_157 : E138 (20 + ml) (13 + 10 * k) = .inr (10, [.ref (ad (20 + ml) (16 + 10 * k))]) := (fE140 (20 + ml) (13 + 10 * k) (by omega)).trans c_101
    have c_158 : E138 (20 + ml) (14 + 10 * k) = .inr (10, [.ref (ad (20 + ml) (17 + 10 * k))]) := (fE140 (20 + ml) (14 + 10 * k) (by omega)).trans c_103
    have c_159 : E138 (20 + ml) (15 + 10 * k) = .inl (kA 0, 6, .inl g2_94) := (fE140 (20 + ml) (15 + 10 * k) (by omega)).trans c_105
    have c_160 : E138 (20 + ml) (16 + 10 * k) = .inl (kA 0, 6, .inl g3_94) := (fE140 (20 + ml) (16 + 10 * k) (by omega)).trans c_107
    have c_161 : E138 (20 + ml) (17 + 10 * k) = .inl (kA 0, 6, .inl g4_94) := (fE140 (20 + ml) (17 + 10 * k) (by omega)).trans c_109
    have c_162 : E138 (1 + d_94) 1 = .inr (8, [.ref (ad (1 + d_94) 5), .int (nI k0_111)]) := (fE140 (1 + d_94) 1 (by omega)).trans c_114
    have c_163 : E138 (1 + d_94) 2 = .inr (8, [.ref (ad (1 + d_94) 6), .int (nI k1_111)]) := (fE140 (1 + d_94) 2 (by omega)).trans c_116
    have c_164 : E138 (1 + d_94) 3 = .inr (8, [.ref (ad (1 + d_94) 7), .int (nI k2_111)]) := (fE140 (1 + d_94) 3 (by omega)).trans c_118
    have c_165 : E138 (1 + d_94) 4 = .inr (8, [.ref (ad (1 + d_94) 8), .int (nI k3_111)]) := (fE140 (1 + d_94) 4 (by omega)).trans c_120
    have c_166 : E138 (1 + d_94) 5 = .inl (kA 0, 6, .inl f0_111) := (fE140 (1 + d_94) 5 (by omega)).trans c_122
    have c_167 : E138 (1 + d_94) 6 = .inl (kA 0, 5, .inl f1_111) := (fE140 (1 + d_94) 6 (by omega)).trans c_124
    have c_168 : E138 (1 + d_94) 7 = .inl (kA 0, 3, .inl f2_111) := (fE140 (1 + d_94) 7 (by omega)).trans c_126
    have c_169 : E138 (1 + d_94) 8 = .inl (kA 0, 3, .inl f3_111) := (fE140 (1 + d_94) 8 (by omega)).trans c_128
    have c_170 : E138 (1 + d_94) 9 = .inl (kA 8, 6, .inr (.inr (.inr (.inr fe_111)))) := (fE140 (1 + d_94) 9 (by omega)).trans c_130
    have c_171 : E138 (1 + d_94) 10 = .inl (kA 8, 6, .inr (.inr (.inr (.inr fo_111)))) := (fE140 (1 + d_94) 10 (by omega)).trans c_132
    have c_172 : E138 (1 + d_94) 11 = .inl (kA 2, 5, .inl tr_111) := (fE140 (1 + d_94) 11 (by omega)).trans c_134
    have c_173 : E138 (1 + d_94) 12 = .inl (kA 2, 5, .inl op_111) := (fE140 (1 + d_94) 12 (by omega)).trans c_136
    have hCI : CI kA ad E138 RL (ml + 1) nd len wn cs := ⟨hmB, ⟨lf_63, c_142⟩, ⟨tx_66, fb_66, fe_66, (by omega), (by omega), c_143, c_144, c_145, c_146, hws_66⟩, ⟨fd_75, (by omega), c_147, c_148, hds_75⟩, ⟨cf_80, pv_80, fc_80, (by omega), hpv_80, c_149, c_150, hfc_80⟩, ⟨fl_85, (by omega), c_151, hla_85⟩, (DIs_set (x := d_94) (fun d9 hd9 hx9 => fun2 fun o9 => by show E138 (1 + d9) o9 = _; rw [fE140 (1 + d9) o9 (by omega)]) (fun _ _ _ => rfl) (fun _ h => h) (DI_set0 (hDIs d_94 (by omega)) (fun o9 ho9 => by show E138 (1 + d_94) o9 = _; rw [fE140 (1 + d_94) o9 (by omega)]) c_141) hDIs), (LIs_same (Nat.le_refl _) (fun n9 hn9 => fun2 fun o9 => by show E138 (20 + n9) o9 = _; rw [fE140 (20 + n9) o9 (by omega)]) (fun _ _ => rfl) (fun _ _ => rfl) (fun _ h9 => h9) hLIs)⟩
    obtain ⟨hmB, hDk, hLi, hSh, hCh, hLa, hDIs, hLIs⟩ := id hCI
    refine lv_iinc (k := 0) (x := (nI k)) (v := (nI (k + 1))) hx hb xd_De_keep_53 hl rfl (xb_inc k 1) (Nat.le_of_ble_eq_true rfl) rfl (fun ls hl => ?_)
    have hl : lv_has ls 3 [(2, .int (nI (k + 1))), (1, .ref (ad (20 + ml) 0)), (0, .ref (ad 0 0))] := hl
    refine lv_goto (tgt := 31) hx hb xd_De_keep_56 (by decide) ?_
    exact ih62 (k + 1, E138) _ _ _ (show 12 - (k + 1) < 12 - k by omega) (lv_sub hl [0, 1, 2] rfl) hP hD hS ⟨(show (k + 1) ≤ 12 from by first | assumption | omega), (show CI kA ad E138 RL (ml + 1) nd len wn cs from hCI)⟩
