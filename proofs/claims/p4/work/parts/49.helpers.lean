abbrev xb_La_line : ByteArray := method_3_code
def xy_La_line : MethodName := ⟨"LayerDeskLaw", "line", "(LLayerDesk;[J)I"⟩
abbrev xb_La_layer : ByteArray := method_4_code
def xy_La_layer : MethodName := ⟨"LayerDeskLaw", "layer", "(LLayerDesk;IIZ[J)I"⟩
abbrev xb_La_load : ByteArray := method_5_code
def xy_La_load : MethodName := ⟨"LayerDeskLaw", "load", "(LLayerDesk;II[J)I"⟩
abbrev xb_La_peek : ByteArray := method_6_code
def xy_La_peek : MethodName := ⟨"LayerDeskLaw", "peek", "(LLayerDesk;IIII[J)I"⟩
abbrev xb_La_provider : ByteArray := method_7_code
def xy_La_provider : MethodName := ⟨"LayerDeskLaw", "provider", "(LLayerDesk;II[J)I"⟩
theorem xd_La_layer_0 : decode xb_La_layer 0 = .ok (.aload 4, 2) := by decide +kernel
theorem xd_La_layer_2 : decode xb_La_layer 2 = .ok (.iconst 0, 1) := by decide +kernel
theorem xd_La_layer_3 : decode xb_La_layer 3 = .ok (.aload_n 0, 1) := by decide +kernel
theorem xd_La_layer_4 : decode xb_La_layer 4 = .ok (.iload_n 1, 1) := by decide +kernel
theorem xd_La_layer_5 : decode xb_La_layer 5 = .ok (.iload_n 2, 1) := by decide +kernel
theorem xd_La_layer_6 : decode xb_La_layer 6 = .ok (.iload_n 3, 1) := by decide +kernel
theorem xd_La_layer_7 : decode xb_La_layer 7 = .ok (.invokevirtual 17, 3) := by decide +kernel
theorem xd_La_layer_10 : decode xb_La_layer 10 = .ok (.i2l, 1) := by decide +kernel
theorem xd_La_layer_11 : decode xb_La_layer 11 = .ok (.lastore, 1) := by decide +kernel
theorem xd_La_layer_12 : decode xb_La_layer 12 = .ok (.goto 15, 3) := by decide +kernel
theorem xd_La_layer_15 : decode xb_La_layer 15 = .ok (.astore 5, 2) := by decide +kernel
theorem xd_La_layer_17 : decode xb_La_layer 17 = .ok (.iconst 1, 1) := by decide +kernel
theorem xd_La_layer_18 : decode xb_La_layer 18 = .ok (.ireturn, 1) := by decide +kernel
theorem xd_La_layer_19 : decode xb_La_layer 19 = .ok (.astore 5, 2) := by decide +kernel
theorem xd_La_layer_21 : decode xb_La_layer 21 = .ok (.iconst 2, 1) := by decide +kernel
theorem xd_La_layer_22 : decode xb_La_layer 22 = .ok (.ireturn, 1) := by decide +kernel
theorem xd_La_layer_23 : decode xb_La_layer 23 = .ok (.astore 5, 2) := by decide +kernel
theorem xd_La_layer_25 : decode xb_La_layer 25 = .ok (.iconst 3, 1) := by decide +kernel
theorem xd_La_layer_26 : decode xb_La_layer 26 = .ok (.ireturn, 1) := by decide +kernel
theorem xd_La_layer_27 : decode xb_La_layer 27 = .ok (.iconst 0, 1) := by decide +kernel
theorem xd_La_layer_28 : decode xb_La_layer 28 = .ok (.ireturn, 1) := by decide +kernel
theorem xd_La_line_0 : decode xb_La_line 0 = .ok (.aload_n 1, 1) := by decide +kernel
theorem xd_La_line_1 : decode xb_La_line 1 = .ok (.iconst 0, 1) := by decide +kernel
theorem xd_La_line_2 : decode xb_La_line 2 = .ok (.aload_n 0, 1) := by decide +kernel
theorem xd_La_line_3 : decode xb_La_line 3 = .ok (.invokevirtual 7, 3) := by decide +kernel
theorem xd_La_line_6 : decode xb_La_line 6 = .ok (.i2l, 1) := by decide +kernel
theorem xd_La_line_7 : decode xb_La_line 7 = .ok (.lastore, 1) := by decide +kernel
theorem xd_La_line_8 : decode xb_La_line 8 = .ok (.goto 9, 3) := by decide +kernel
theorem xd_La_line_11 : decode xb_La_line 11 = .ok (.astore_n 2, 1) := by decide +kernel
theorem xd_La_line_12 : decode xb_La_line 12 = .ok (.iconst 1, 1) := by decide +kernel
theorem xd_La_line_13 : decode xb_La_line 13 = .ok (.ireturn, 1) := by decide +kernel
theorem xd_La_line_14 : decode xb_La_line 14 = .ok (.astore_n 2, 1) := by decide +kernel
theorem xd_La_line_15 : decode xb_La_line 15 = .ok (.iconst 2, 1) := by decide +kernel
theorem xd_La_line_16 : decode xb_La_line 16 = .ok (.ireturn, 1) := by decide +kernel
theorem xd_La_line_17 : decode xb_La_line 17 = .ok (.iconst 0, 1) := by decide +kernel
theorem xd_La_line_18 : decode xb_La_line 18 = .ok (.ireturn, 1) := by decide +kernel
theorem xd_La_load_0 : decode xb_La_load 0 = .ok (.aload_n 3, 1) := by decide +kernel
theorem xd_La_load_1 : decode xb_La_load 1 = .ok (.iconst 0, 1) := by decide +kernel
theorem xd_La_load_2 : decode xb_La_load 2 = .ok (.aload_n 0, 1) := by decide +kernel
theorem xd_La_load_3 : decode xb_La_load 3 = .ok (.iload_n 1, 1) := by decide +kernel
theorem xd_La_load_4 : decode xb_La_load 4 = .ok (.iload_n 2, 1) := by decide +kernel
theorem xd_La_load_5 : decode xb_La_load 5 = .ok (.invokevirtual 23, 3) := by decide +kernel
theorem xd_La_load_8 : decode xb_La_load 8 = .ok (.i2l, 1) := by decide +kernel
theorem xd_La_load_9 : decode xb_La_load 9 = .ok (.lastore, 1) := by decide +kernel
theorem xd_La_load_10 : decode xb_La_load 10 = .ok (.goto 11, 3) := by decide +kernel
theorem xd_La_load_13 : decode xb_La_load 13 = .ok (.astore 4, 2) := by decide +kernel
theorem xd_La_load_15 : decode xb_La_load 15 = .ok (.iconst 1, 1) := by decide +kernel
theorem xd_La_load_16 : decode xb_La_load 16 = .ok (.ireturn, 1) := by decide +kernel
theorem xd_La_load_17 : decode xb_La_load 17 = .ok (.astore 4, 2) := by decide +kernel
theorem xd_La_load_19 : decode xb_La_load 19 = .ok (.iconst 2, 1) := by decide +kernel
theorem xd_La_load_20 : decode xb_La_load 20 = .ok (.ireturn, 1) := by decide +kernel
theorem xd_La_load_21 : decode xb_La_load 21 = .ok (.iconst 0, 1) := by decide +kernel
theorem xd_La_load_22 : decode xb_La_load 22 = .ok (.ireturn, 1) := by decide +kernel
theorem xd_La_peek_0 : decode xb_La_peek 0 = .ok (.aload 5, 2) := by decide +kernel
theorem xd_La_peek_2 : decode xb_La_peek 2 = .ok (.iconst 0, 1) := by decide +kernel
theorem xd_La_peek_3 : decode xb_La_peek 3 = .ok (.aload_n 0, 1) := by decide +kernel
theorem xd_La_peek_4 : decode xb_La_peek 4 = .ok (.iload_n 1, 1) := by decide +kernel
theorem xd_La_peek_5 : decode xb_La_peek 5 = .ok (.iload_n 2, 1) := by decide +kernel
theorem xd_La_peek_6 : decode xb_La_peek 6 = .ok (.iload_n 3, 1) := by decide +kernel
theorem xd_La_peek_7 : decode xb_La_peek 7 = .ok (.iload 4, 2) := by decide +kernel
theorem xd_La_peek_9 : decode xb_La_peek 9 = .ok (.invokevirtual 27, 3) := by decide +kernel
theorem xd_La_peek_12 : decode xb_La_peek 12 = .ok (.ifCond .eq 7, 3) := by decide +kernel
theorem xd_La_peek_15 : decode xb_La_peek 15 = .ok (.lconst 1, 1) := by decide +kernel
theorem xd_La_peek_16 : decode xb_La_peek 16 = .ok (.goto 4, 3) := by decide +kernel
theorem xd_La_peek_19 : decode xb_La_peek 19 = .ok (.lconst 0, 1) := by decide +kernel
theorem xd_La_peek_20 : decode xb_La_peek 20 = .ok (.lastore, 1) := by decide +kernel
theorem xd_La_peek_21 : decode xb_La_peek 21 = .ok (.goto 11, 3) := by decide +kernel
theorem xd_La_peek_24 : decode xb_La_peek 24 = .ok (.astore 6, 2) := by decide +kernel
theorem xd_La_peek_26 : decode xb_La_peek 26 = .ok (.iconst 1, 1) := by decide +kernel
theorem xd_La_peek_27 : decode xb_La_peek 27 = .ok (.ireturn, 1) := by decide +kernel
theorem xd_La_peek_28 : decode xb_La_peek 28 = .ok (.astore 6, 2) := by decide +kernel
theorem xd_La_peek_30 : decode xb_La_peek 30 = .ok (.iconst 2, 1) := by decide +kernel
theorem xd_La_peek_31 : decode xb_La_peek 31 = .ok (.ireturn, 1) := by decide +kernel
theorem xd_La_peek_32 : decode xb_La_peek 32 = .ok (.iconst 0, 1) := by decide +kernel
theorem xd_La_peek_33 : decode xb_La_peek 33 = .ok (.ireturn, 1) := by decide +kernel
theorem xd_La_provider_0 : decode xb_La_provider 0 = .ok (.aload_n 3, 1) := by decide +kernel
theorem xd_La_provider_1 : decode xb_La_provider 1 = .ok (.iconst 0, 1) := by decide +kernel
theorem xd_La_provider_2 : decode xb_La_provider 2 = .ok (.aload_n 0, 1) := by decide +kernel
theorem xd_La_provider_3 : decode xb_La_provider 3 = .ok (.iload_n 1, 1) := by decide +kernel
theorem xd_La_provider_4 : decode xb_La_provider 4 = .ok (.iload_n 2, 1) := by decide +kernel
theorem xd_La_provider_5 : decode xb_La_provider 5 = .ok (.invokevirtual 31, 3) := by decide +kernel
theorem xd_La_provider_8 : decode xb_La_provider 8 = .ok (.i2l, 1) := by decide +kernel
theorem xd_La_provider_9 : decode xb_La_provider 9 = .ok (.lastore, 1) := by decide +kernel
theorem xd_La_provider_10 : decode xb_La_provider 10 = .ok (.goto 7, 3) := by decide +kernel
theorem xd_La_provider_13 : decode xb_La_provider 13 = .ok (.astore 4, 2) := by decide +kernel
theorem xd_La_provider_15 : decode xb_La_provider 15 = .ok (.iconst 1, 1) := by decide +kernel
theorem xd_La_provider_16 : decode xb_La_provider 16 = .ok (.ireturn, 1) := by decide +kernel
theorem xd_La_provider_17 : decode xb_La_provider 17 = .ok (.iconst 0, 1) := by decide +kernel
theorem xd_La_provider_18 : decode xb_La_provider 18 = .ok (.ireturn, 1) := by decide +kernel
theorem yz_0 : (Cond.code xy_De_line xb_De_line 2 (some .int)) ∈ wT := wT_t (List.mem_append_left _ (List.mem_of_getElem? (i := 186) rfl)) rfl
theorem yz_1 : (Cond.methodLink "LayerDeskLaw" 7 xy_De_line) ∈ wT := wT_t (List.mem_append_left _ (List.mem_of_getElem? (i := 183) rfl)) rfl
theorem yz_2 : (Cond.instanceMethod xy_De_line) ∈ wT := wT_t (List.mem_append_left _ (List.mem_of_getElem? (i := 184) rfl)) rfl
theorem yz_3 : (Cond.selects "LayerDesk" xy_De_line xy_De_line) ∈ wT := wT_t (List.mem_append_left _ (List.mem_of_getElem? (i := 185) rfl)) rfl
theorem yz_4 : (Cond.initialized "LayerDesk") ∈ wT := wT_t (List.mem_append_left _ (List.mem_of_getElem? (i := 1) rfl)) rfl
theorem yz_5 : (Cond.classLink "LayerDeskLaw" 13 "java/lang/IllegalArgumentException") ∈ wT := wT_t (List.mem_append_left _ (List.mem_of_getElem? (i := 181) rfl)) rfl
theorem yz_6 : (Cond.classLink "LayerDeskLaw" 15 "java/lang/IllegalStateException") ∈ wT := wT_t (List.mem_append_left _ (List.mem_of_getElem? (i := 182) rfl)) rfl
theorem yz_7 : (Cond.code xy_De_layer xb_De_layer 7 (some .int)) ∈ wT := wT_t (List.mem_append_right _ (List.mem_append_right _ (List.mem_append_left _ (List.mem_of_getElem? (i := 55) rfl)))) rfl
theorem yz_8 : (Cond.methodLink "LayerDeskLaw" 17 xy_De_layer) ∈ wT := wT_t (List.mem_append_right _ (List.mem_append_right _ (List.mem_append_left _ (List.mem_of_getElem? (i := 52) rfl)))) rfl
theorem yz_9 : (Cond.instanceMethod xy_De_layer) ∈ wT := wT_t (List.mem_append_right _ (List.mem_append_right _ (List.mem_append_left _ (List.mem_of_getElem? (i := 53) rfl)))) rfl
theorem yz_10 : (Cond.selects "LayerDesk" xy_De_layer xy_De_layer) ∈ wT := wT_t (List.mem_append_right _ (List.mem_append_right _ (List.mem_append_left _ (List.mem_of_getElem? (i := 54) rfl)))) rfl
theorem yz_11 : (Cond.classLink "LayerDeskLaw" 21 "java/util/NoSuchElementException") ∈ wT := wT_t (List.mem_append_right _ (List.mem_append_right _ (List.mem_append_left _ (List.mem_of_getElem? (i := 51) rfl)))) rfl
theorem yz_12 : (Cond.code xy_De_load xb_De_load 6 (some .int)) ∈ wT := wT_t (List.mem_append_right _ (List.mem_append_right _ (List.mem_append_right _ (List.mem_append_left _ (List.mem_of_getElem? (i := 38) rfl))))) rfl
theorem yz_13 : (Cond.methodLink "LayerDeskLaw" 23 xy_De_load) ∈ wT := wT_t (List.mem_append_right _ (List.mem_append_right _ (List.mem_append_right _ (List.mem_append_left _ (List.mem_of_getElem? (i := 35) rfl))))) rfl
theorem yz_14 : (Cond.instanceMethod xy_De_load) ∈ wT := wT_t (List.mem_append_right _ (List.mem_append_right _ (List.mem_append_right _ (List.mem_append_left _ (List.mem_of_getElem? (i := 36) rfl))))) rfl
theorem yz_15 : (Cond.selects "LayerDesk" xy_De_load xy_De_load) ∈ wT := wT_t (List.mem_append_right _ (List.mem_append_right _ (List.mem_append_right _ (List.mem_append_left _ (List.mem_of_getElem? (i := 37) rfl))))) rfl
theorem yz_16 : (Cond.code xy_De_peek xb_De_peek 8 (some .boolean)) ∈ wT := wT_t (List.mem_append_right _ (List.mem_append_right _ (List.mem_append_right _ (List.mem_append_left _ (List.mem_of_getElem? (i := 59) rfl))))) rfl
theorem yz_17 : (Cond.methodLink "LayerDeskLaw" 27 xy_De_peek) ∈ wT := wT_t (List.mem_append_right _ (List.mem_append_right _ (List.mem_append_right _ (List.mem_append_left _ (List.mem_of_getElem? (i := 56) rfl))))) rfl
theorem yz_18 : (Cond.instanceMethod xy_De_peek) ∈ wT := wT_t (List.mem_append_right _ (List.mem_append_right _ (List.mem_append_right _ (List.mem_append_left _ (List.mem_of_getElem? (i := 57) rfl))))) rfl
theorem yz_19 : (Cond.selects "LayerDesk" xy_De_peek xy_De_peek) ∈ wT := wT_t (List.mem_append_right _ (List.mem_append_right _ (List.mem_append_right _ (List.mem_append_left _ (List.mem_of_getElem? (i := 58) rfl))))) rfl
theorem yz_20 : (Cond.code xy_De_provider xb_De_provider 6 (some .int)) ∈ wT := wT_t (List.mem_append_right _ (List.mem_append_right _ (List.mem_append_right _ (List.mem_append_left _ (List.mem_of_getElem? (i := 71) rfl))))) rfl
theorem yz_21 : (Cond.methodLink "LayerDeskLaw" 31 xy_De_provider) ∈ wT := wT_t (List.mem_append_right _ (List.mem_append_right _ (List.mem_append_right _ (List.mem_append_left _ (List.mem_of_getElem? (i := 68) rfl))))) rfl
theorem yz_22 : (Cond.instanceMethod xy_De_provider) ∈ wT := wT_t (List.mem_append_right _ (List.mem_append_right _ (List.mem_append_right _ (List.mem_append_left _ (List.mem_of_getElem? (i := 69) rfl))))) rfl
theorem yz_23 : (Cond.selects "LayerDesk" xy_De_provider xy_De_provider) ∈ wT := wT_t (List.mem_append_right _ (List.mem_append_right _ (List.mem_append_right _ (List.mem_append_left _ (List.mem_of_getElem? (i := 70) rfl))))) rfl
set_option maxHeartbeats 4000000 in
set_option maxRecDepth 100000 in
theorem xc_La_line (l : Launch) (hlt : l.stackTraces = false) (D : va_G) (kA : Nat → ClassId) (sz : Nat) (ad : Nat → Nat → Nat) (E : Nat → Nat → va_E) (RL : List (Nat × Nat)) (Z : zT) (ml : Nat) (nd : Nat) (len : Nat) (wn : Nat) (cs : Nat) (ob : Nat) (fo : Nat → Int64) (hCI : CI kA ad E RL ml nd len wn cs) : Met l xy_La_line (.codeWith xy_La_line xb_La_line 3 (some .int) [(0, 8, 11, 13), (0, 8, 14, 15)] :: wT) { frames := 8, cells := 14, slots := 72, locals := 176 } (va_Pc [.ref (ad 0 0), .ref ob] (xPreZ D kA sz ((ob, .inl (kA 3, 1, .inr (.inl fo))) :: rp ad E RL) Z)) (va_Qi (fun (r : Int32) (u : ((Nat → Nat → Nat) × (Nat → Nat → va_E) × List (Nat × Nat)) × (Nat → Int64)) => OI kA ad u.1.1 u.1.2.1 u.1.2.2 0) (fun (u : ((Nat → Nat → Nat) × (Nat → Nat → va_E) × List (Nat × Nat)) × (Nat → Int64)) t => va_P D xcl ((ob, .inl (kA 3, 1, .inr (.inl u.2))) :: rp u.1.1 u.1.2.1 u.1.2.2) t.heap ∧ va_D (va_A ((ob, .inl (kA 3, 1, .inr (.inl fo))) :: rp ad E RL) sz) ((ob, .inl (kA 3, 1, .inr (.inl u.2))) :: rp u.1.1 u.1.2.1 u.1.2.2)) (va_A ((ob, .inl (kA 3, 1, .inr (.inl fo))) :: rp ad E RL) sz)) 14 72 (va_A ((ob, .inl (kA 3, 1, .inr (.inl fo))) :: rp ad E RL) sz) := by
  refine va_MetW (cc := xb_La_line) (maxL := 3) (ret := (some .int)) (by decide) rfl ?_
  intro p e s m args below meth c s₁ B hml hv
  obtain ⟨rfl, ⟨hsz, hP, hK, hD0⟩, hZ⟩ := hv
  have hx := B.exec
  have hb := B.bytes
  have hr := B.returns
  have hT := x_hT B.pre
  have hown : s.vm.findClass xR_La = some m.cls := findClass_of_methodNamed B.named
  have hlocks := B.notSynchronized
  subst hsz
  have hD := hD0.self (sz := s.heap.size)
  generalize hAe : va_A ((ob, .inl (kA 3, 1, .inr (.inl fo))) :: rp ad E RL) s.heap.size = A at hD hZ ⊢
  have hA : ∀ q : Nat, s.heap.size ≤ q → A q := fun q h => by rw [← hAe]; exact Or.inr h
  have hS : va_S A s.heap s.heap [] := va_S.rf
  have hl := lv_entry ([.ref (ad 0 0), .ref ob]) (n := 3) (Nat.le_of_ble_eq_true rfl)
  rw [lg_entry_eq]
  generalize (lg_sl ([.ref (ad 0 0), .ref ob]) ++ List.replicate (3 - (lg_sl ([.ref (ad 0 0), .ref ob])).length) Slot.unset).toArray = ls at hl ⊢
  have hl : lv_has ls 3 [(0, .ref (ad 0 0)), (1, .ref ob)] := hl
  have hP : va_P D xcl ((ob, .inl (kA 3, 1, .inr (.inl fo))) :: rp ad E RL) s.heap := hP
  have hex := vx_table (x := xy_La_line) B (atoms_spec (ws := .codeWith xy_La_line xb_La_line 3 (some .int) [(0, 8, 11, 13), (0, 8, 14, 15)] :: wT) B.pre _ List.mem_cons_self)
  refine lv_aload_n hx hb xd_La_line_0 rfl (lv_at hl 1 rfl) ?_
  refine lv_iconst (v := 0) hx hb xd_La_line_1 (by decide) ?_
  refine lv_aload_n hx hb xd_La_line_2 rfl (lv_at hl 0 rfl) ?_
  have hPc := xp_P (X := [(ob, .inl (kA 3, 1, .inr (.inl fo)))]) hP
  have hDc := xp_D (X := [(ob, .inl (kA 3, 1, .inr (.inl fo)))]) hD
  have hFc := va_freeP (X := [(ob, .inl (kA 3, 1, .inr (.inl fo)))]) (cx := []) hD hS hA [] rfl
  have hZc := hZ.kept hS
  obtain ⟨lf, hc0⟩ := hCI.2.1
  refine vx_calli (vx_runV (As := []) (rest := [.int 0, .ref ob]) ⟨hx, hb, hml, hown, hT⟩ (xc_De_line l hlt D kA s.heap.size ad E RL Z ml nd len wn cs hCI) (cwV 0 hT (wT_V yz_1 yz_2 yz_3 yz_4 yz_0) rfl rfl rfl (by decide +kernel) ⟨Nat.le_of_ble_eq_true rfl, Nat.le_of_ble_eq_true rfl⟩) (px_preVZ hK hPc hDc (hCI.1 0 (by omega)) hc0 rfl hFc hZc) rfl rfl hl.1 rfl (lv_room (Nat.le_of_ble_eq_true rfl)) xd_La_line_3 ⟨Nat.le_of_ble_eq_true rfl, Nat.le_of_ble_eq_true rfl⟩) hS (fun q _ h => hFc q h) hFc (fun q _ h => hFc q h) (fun E9 ce q9 u t H1 locs ht hvm hpost hB hz1 hk1 hS hce hcv hcl => ?_) (fun r u t H1 locs ht hvm hpost hB hz1 hk1 hS => ?_)
  · obtain ⟨hE9, hP1, hD1⟩ := hB
    rw [ht] at hP1
    obtain ⟨hP, hD⟩ := va_joinP (X := [(ob, .inl (kA 3, 1, .inr (.inl fo)))]) (cx := []) (wr := [(ob, .inl (kA 3, 1, .inr (.inl fo)))]) (rx := []) hP hD [] [0] rfl rfl (by decide) (by decide) hk1 hFc hP1 hD1
    generalize H1 = H at hP hS hce ⊢
    have hOI : OI kA ad u.1 u.2.1 u.2.2 0 := by
      obtain ⟨⟨nd2, wn2, h1⟩, h2⟩ := hpost; exact ⟨⟨_, _, _, _, h1⟩, h2⟩
    have hl := lv_sub hl [1] rfl
    have hl : lv_has ls 3 [(1, .ref ob)] := hl
    have hP : va_P D xcl ((ob, .inl (kA 3, 1, .inr (.inl fo))) :: rp u.1 u.2.1 u.2.2) H := hP
    have hD : va_D A ((ob, .inl (kA 3, 1, .inr (.inl fo))) :: rp u.1 u.2.1 u.2.2) := hD
    rcases hE9 with rfl | rfl
    · refine vx_catch (own := "LayerDeskLaw") (name := "java/lang/IllegalArgumentException") hown [] ⟨0, 8, 11, 13⟩ [⟨0, 8, 14, 15⟩] (by rw [hex]; rfl) (fun z hz => nomatch hz) rfl (by decide) (hT _ yz_5) (va_Nw.use rfl hK.2.2.2.2.2.1) hce hcv hcl ?_
      refine lv_astore_n hx hb xd_La_line_11 rfl hl (Nat.le_of_ble_eq_true rfl) rfl (fun ls hl => ?_)
      have hl : lv_has ls 3 [(2, .ref q9), (1, .ref ob)] := hl
      refine lv_iconst (v := 1) hx hb xd_La_line_12 (by decide) ?_
      refine W.widen (k := 14) (n := 72) (Nat.le_of_ble_eq_true rfl) (Nat.le_of_ble_eq_true rfl) ?_
      exact W.iret (v := 1) hx hb hr (fun t ht hW => ⟨⟨1, ((u.1, u.2.1, u.2.2), fo), rfl, hOI, by rw [ht]; exact hP, hD⟩, hS.F ht⟩) hS.2.2 xd_La_line_13
    · refine vx_catch (own := "LayerDeskLaw") (name := "java/lang/IllegalStateException") hown [⟨0, 8, 11, 13⟩] ⟨0, 8, 14, 15⟩ [] (by rw [hex]; rfl) (fun z hz => by rw [List.mem_singleton] at hz; subst hz; exact Or.inr ⟨(by decide), "java/lang/IllegalArgumentException", hT _ yz_5, hZ.2.2.2.2.1⟩) rfl (by decide) (hT _ yz_6) (va_Nw.use rfl hK.2.2.2.2.2.2.1) hce hcv hcl ?_
      refine lv_astore_n hx hb xd_La_line_14 rfl hl (Nat.le_of_ble_eq_true rfl) rfl (fun ls hl => ?_)
      have hl : lv_has ls 3 [(2, .ref q9), (1, .ref ob)] := hl
      refine lv_iconst (v := 2) hx hb xd_La_line_15 (by decide) ?_
      refine W.widen (k := 14) (n := 72) (Nat.le_of_ble_eq_true rfl) (Nat.le_of_ble_eq_true rfl) ?_
      exact W.iret (v := 2) hx hb hr (fun t ht hW => ⟨⟨2, ((u.1, u.2.1, u.2.2), fo), rfl, hOI, by rw [ht]; exact hP, hD⟩, hS.F ht⟩) hS.2.2 xd_La_line_16
  · obtain ⟨hP1, hD1⟩ := hB
    rw [ht] at hP1
    obtain ⟨hP, hD⟩ := va_joinP (X := [(ob, .inl (kA 3, 1, .inr (.inl fo)))]) (cx := []) (wr := [(ob, .inl (kA 3, 1, .inr (.inl fo)))]) (rx := []) hP hD [] [0] rfl rfl (by decide) (by decide) hk1 hFc hP1 hD1
    generalize H1 = H at hP hS ⊢
    have hOI : OI kA ad u.1 u.2.1 u.2.2 0 := by
      obtain ⟨⟨nd2, wn2, h1⟩, h2⟩ := hpost; exact ⟨⟨_, _, _, _, h1⟩, h2⟩
    have hl := lv_sub hl [1] rfl
    have hl : lv_has ls 3 [(1, .ref ob)] := hl
    have hP : va_P D xcl ((ob, .inl (kA 3, 1, .inr (.inl fo))) :: rp u.1 u.2.1 u.2.2) H := hP
    have hD : va_D A ((ob, .inl (kA 3, 1, .inr (.inl fo))) :: rp u.1 u.2.1 u.2.2) := hD
    refine lv_i2l (v := ((r : Int32).toInt64)) hx hb xd_La_line_6 rfl ?_
    refine va_last hx hb hK.1 hP hD hS 0 3 rfl rfl (show ¬ _ by decide) xd_La_line_7 (fun H locs hP hD hS => ?_)
    have hP : va_P D xcl ((ob, .inl (kA 3, 1, .inr (.inl (vp_updL fo (0 : Int32).toNatClampNeg ((r : Int32).toInt64))))) :: rp u.1 u.2.1 u.2.2) H := hP
    have hD : va_D A ((ob, .inl (kA 3, 1, .inr (.inl (vp_updL fo (0 : Int32).toNatClampNeg ((r : Int32).toInt64))))) :: rp u.1 u.2.1 u.2.2) := hD
    refine lv_goto (tgt := 17) hx hb xd_La_line_8 (by decide) ?_
    refine lv_iconst (v := 0) hx hb xd_La_line_17 (by decide) ?_
    refine W.widen (k := 14) (n := 72) (Nat.le_of_ble_eq_true rfl) (Nat.le_of_ble_eq_true rfl) ?_
    exact W.iret (v := 0) hx hb hr (fun t ht hW => ⟨⟨0, ((u.1, u.2.1, u.2.2), (vp_updL fo (0 : Int32).toNatClampNeg ((r : Int32).toInt64))), rfl, hOI, by rw [ht]; exact hP, hD⟩, hS.F ht⟩) hS.2.2 xd_La_line_18
set_option maxHeartbeats 4000000 in
set_option maxRecDepth 100000 in
theorem xc_La_layer (l : Launch) (hlt : l.stackTraces = false) (D : va_G) (kA : Nat → ClassId) (sz : Nat) (ad : Nat → Nat → Nat) (E : Nat → Nat → va_E) (RL : List (Nat × Nat)) (Z : zT) (ml : Nat) (nd : Nat) (len : Nat) (wn : Nat) (cs : Nat) (ob : Nat) (fo : Nat → Int64) (fi : Int32) (px : Int32) (bi : Int32) (hCI : CI kA ad E RL ml nd len wn cs) : Met l xy_La_layer (.codeWith xy_La_layer xb_La_layer 6 (some .int) [(0, 12, 15, 13), (0, 12, 19, 21), (0, 12, 23, 15)] :: wT) { frames := 24, cells := 101, slots := 430, locals := 1310 } (va_Pc [.ref (ad 0 0), .int fi, .int px, .int bi, .ref ob] (xPreZ D kA sz ((ob, .inl (kA 3, 1, .inr (.inl fo))) :: rp ad E RL) Z)) (va_Qi (fun (r : Int32) (u : ((Nat → Nat → Nat) × (Nat → Nat → va_E) × List (Nat × Nat)) × (Nat → Int64)) => OI kA ad u.1.1 u.1.2.1 u.1.2.2 0) (fun (u : ((Nat → Nat → Nat) × (Nat → Nat → va_E) × List (Nat × Nat)) × (Nat → Int64)) t => va_P D xcl ((ob, .inl (kA 3, 1, .inr (.inl u.2))) :: rp u.1.1 u.1.2.1 u.1.2.2) t.heap ∧ va_D (va_A ((ob, .inl (kA 3, 1, .inr (.inl fo))) :: rp ad E RL) sz) ((ob, .inl (kA 3, 1, .inr (.inl u.2))) :: rp u.1.1 u.1.2.1 u.1.2.2)) (va_A ((ob, .inl (kA 3, 1, .inr (.inl fo))) :: rp ad E RL) sz)) 101 430 (va_A ((ob, .inl (kA 3, 1, .inr (.inl fo))) :: rp ad E RL) sz) := by
  refine va_MetW (cc := xb_La_layer) (maxL := 6) (ret := (some .int)) (by decide) rfl ?_
  intro p e s m args below meth c s₁ B hml hv
  obtain ⟨rfl, ⟨hsz, hP, hK, hD0⟩, hZ⟩ := hv
  have hx := B.exec
  have hb := B.bytes
  have hr := B.returns
  have hT := x_hT B.pre
  have hown : s.vm.findClass xR_La = some m.cls := findClass_of_methodNamed B.named
  have hlocks := B.notSynchronized
  subst hsz
  have hD := hD0.self (sz := s.heap.size)
  generalize hAe : va_A ((ob, .inl (kA 3, 1, .inr (.inl fo))) :: rp ad E RL) s.heap.size = A at hD hZ ⊢
  have hA : ∀ q : Nat, s.heap.size ≤ q → A q := fun q h => by rw [← hAe]; exact Or.inr h
  have hS : va_S A s.heap s.heap [] := va_S.rf
  have hl := lv_entry ([.ref (ad 0 0), .int fi, .int px, .int bi, .ref ob]) (n := 6) (Nat.le_of_ble_eq_true rfl)
  rw [lg_entry_eq]
  generalize (lg_sl ([.ref (ad 0 0), .int fi, .int px, .int bi, .ref ob]) ++ List.replicate (6 - (lg_sl ([.ref (ad 0 0), .int fi, .int px, .int bi, .ref ob])).length) Slot.unset).toArray = ls at hl ⊢
  have hl : lv_has ls 6 [(0, .ref (ad 0 0)), (1, .int fi), (2, .int px), (3, .int bi), (4, .ref ob)] := hl
  have hP : va_P D xcl ((ob, .inl (kA 3, 1, .inr (.inl fo))) :: rp ad E RL) s.heap := hP
  have hex := vx_table (x := xy_La_layer) B (atoms_spec (ws := .codeWith xy_La_layer xb_La_layer 6 (some .int) [(0, 12, 15, 13), (0, 12, 19, 21), (0, 12, 23, 15)] :: wT) B.pre _ List.mem_cons_self)
  refine lv_aload hx hb xd_La_layer_0 (lv_at hl 4 rfl) ?_
  refine lv_iconst (v := 0) hx hb xd_La_layer_2 (by decide) ?_
  refine lv_aload_n hx hb xd_La_layer_3 rfl (lv_at hl 0 rfl) ?_
  refine lv_iload_n hx hb xd_La_layer_4 rfl (lv_at hl 1 rfl) ?_
  refine lv_iload_n hx hb xd_La_layer_5 rfl (lv_at hl 2 rfl) ?_
  refine lv_iload_n hx hb xd_La_layer_6 rfl (lv_at hl 3 rfl) ?_
  have hPc := xp_P (X := [(ob, .inl (kA 3, 1, .inr (.inl fo)))]) hP
  have hDc := xp_D (X := [(ob, .inl (kA 3, 1, .inr (.inl fo)))]) hD
  have hFc := va_freeP (X := [(ob, .inl (kA 3, 1, .inr (.inl fo)))]) (cx := []) hD hS hA [] rfl
  have hZc := hZ.kept hS
  obtain ⟨lf, hc0⟩ := hCI.2.1
  refine vx_calli (vx_runV (As := [.int fi, .int px, .int bi]) (rest := [.int 0, .ref ob]) ⟨hx, hb, hml, hown, hT⟩ (xc_De_layer l hlt D kA s.heap.size ad E RL Z ml nd len wn cs fi px bi hCI) (cwV 3 hT (wT_V yz_8 yz_9 yz_10 yz_4 yz_7) rfl rfl rfl (by decide +kernel) ⟨Nat.le_of_ble_eq_true rfl, Nat.le_of_ble_eq_true rfl⟩) (px_preVZ hK hPc hDc (hCI.1 0 (by omega)) hc0 rfl hFc hZc) rfl rfl hl.1 rfl (lv_room (Nat.le_of_ble_eq_true rfl)) xd_La_layer_7 ⟨Nat.le_of_ble_eq_true rfl, Nat.le_of_ble_eq_true rfl⟩) hS (fun q _ h => hFc q h) hFc (fun q _ h => hFc q h) (fun E9 ce q9 u t H1 locs ht hvm hpost hB hz1 hk1 hS hce hcv hcl => ?_) (fun r u t H1 locs ht hvm hpost hB hz1 hk1 hS => ?_)
  · obtain ⟨hE9, hP1, hD1⟩ := hB
    rw [ht] at hP1
    obtain ⟨hP, hD⟩ := va_joinP (X := [(ob, .inl (kA 3, 1, .inr (.inl fo)))]) (cx := []) (wr := [(ob, .inl (kA 3, 1, .inr (.inl fo)))]) (rx := []) hP hD [] [0] rfl rfl (by decide) (by decide) hk1 hFc hP1 hD1
    generalize H1 = H at hP hS hce ⊢
    have hOI : OI kA ad u.1 u.2.1 u.2.2 0 := by
      obtain ⟨⟨ml2, wn2, cs2, h1⟩, h2⟩ := hpost; exact ⟨⟨_, _, _, _, h1⟩, h2⟩
    have hl := lv_sub hl [1, 2, 3, 4] rfl
    have hl : lv_has ls 6 [(1, .int fi), (2, .int px), (3, .int bi), (4, .ref ob)] := hl
    have hP : va_P D xcl ((ob, .inl (kA 3, 1, .inr (.inl fo))) :: rp u.1 u.2.1 u.2.2) H := hP
    have hD : va_D A ((ob, .inl (kA 3, 1, .inr (.inl fo))) :: rp u.1 u.2.1 u.2.2) := hD
    rcases hE9 with rfl | rfl | rfl
    · refine vx_catch (own := "LayerDeskLaw") (name := "java/lang/IllegalArgumentException") hown [] ⟨0, 12, 15, 13⟩ [⟨0, 12, 19, 21⟩, ⟨0, 12, 23, 15⟩] (by rw [hex]; rfl) (fun z hz => nomatch hz) rfl (by decide) (hT _ yz_5) (va_Nw.use rfl hK.2.2.2.2.2.1) hce hcv hcl ?_
      refine lv_astore hx hb xd_La_layer_15 hl (Nat.le_of_ble_eq_true rfl) rfl (fun ls hl => ?_)
      have hl : lv_has ls 6 [(5, .ref q9), (1, .int fi), (2, .int px), (3, .int bi), (4, .ref ob)] := hl
      refine lv_iconst (v := 1) hx hb xd_La_layer_17 (by decide) ?_
      refine W.widen (k := 101) (n := 430) (Nat.le_of_ble_eq_true rfl) (Nat.le_of_ble_eq_true rfl) ?_
      exact W.iret (v := 1) hx hb hr (fun t ht hW => ⟨⟨1, ((u.1, u.2.1, u.2.2), fo), rfl, hOI, by rw [ht]; exact hP, hD⟩, hS.F ht⟩) hS.2.2 xd_La_layer_18
    · refine vx_catch (own := "LayerDeskLaw") (name := "java/util/NoSuchElementException") hown [⟨0, 12, 15, 13⟩] ⟨0, 12, 19, 21⟩ [⟨0, 12, 23, 15⟩] (by rw [hex]; rfl) (fun z hz => by rw [List.mem_singleton] at hz; subst hz; exact Or.inr ⟨(by decide), "java/lang/IllegalArgumentException", hT _ yz_5, hZ.2.2.2.2.2.1⟩) rfl (by decide) (hT _ yz_11) (va_Nw.use rfl hK.2.2.2.2.2.2.2) hce hcv hcl ?_
      refine lv_astore hx hb xd_La_layer_19 hl (Nat.le_of_ble_eq_true rfl) rfl (fun ls hl => ?_)
      have hl : lv_has ls 6 [(5, .ref q9), (1, .int fi), (2, .int px), (3, .int bi), (4, .ref ob)] := hl
      refine lv_iconst (v := 2) hx hb xd_La_layer_21 (by decide) ?_
      refine W.widen (k := 101) (n := 430) (Nat.le_of_ble_eq_true rfl) (Nat.le_of_ble_eq_true rfl) ?_
      exact W.iret (v := 2) hx hb hr (fun t ht hW => ⟨⟨2, ((u.1, u.2.1, u.2.2), fo), rfl, hOI, by rw [ht]; exact hP, hD⟩, hS.F ht⟩) hS.2.2 xd_La_layer_22
    · refine vx_catch (own := "LayerDeskLaw") (name := "java/lang/IllegalStateException") hown [⟨0, 12, 15, 13⟩, ⟨0, 12, 19, 21⟩] ⟨0, 12, 23, 15⟩ [] (by rw [hex]; rfl) (fun z hz => by rcases List.mem_cons.mp hz with hz | hz; subst hz; exact Or.inr ⟨(by decide), "java/lang/IllegalArgumentException", hT _ yz_5, hZ.2.2.2.2.1⟩; rw [List.mem_singleton] at hz; subst hz; exact Or.inr ⟨(by decide), "java/util/NoSuchElementException", hT _ yz_11, hZ.2.2.2.2.2.2⟩) rfl (by decide) (hT _ yz_6) (va_Nw.use rfl hK.2.2.2.2.2.2.1) hce hcv hcl ?_
      refine lv_astore hx hb xd_La_layer_23 hl (Nat.le_of_ble_eq_true rfl) rfl (fun ls hl => ?_)
      have hl : lv_has ls 6 [(5, .ref q9), (1, .int fi), (2, .int px), (3, .int bi), (4, .ref ob)] := hl
      refine lv_iconst (v := 3) hx hb xd_La_layer_25 (by decide) ?_
      refine W.widen (k := 101) (n := 430) (Nat.le_of_ble_eq_true rfl) (Nat.le_of_ble_eq_true rfl) ?_
      exact W.iret (v := 3) hx hb hr (fun t ht hW => ⟨⟨3, ((u.1, u.2.1, u.2.2), fo), rfl, hOI, by rw [ht]; exact hP, hD⟩, hS.F ht⟩) hS.2.2 xd_La_layer_26
  · obtain ⟨hP1, hD1⟩ := hB
    rw [ht] at hP1
    obtain ⟨hP, hD⟩ := va_joinP (X := [(ob, .inl (kA 3, 1, .inr (.inl fo)))]) (cx := []) (wr := [(ob, .inl (kA 3, 1, .inr (.inl fo)))]) (rx := []) hP hD [] [0] rfl rfl (by decide) (by decide) hk1 hFc hP1 hD1
    generalize H1 = H at hP hS ⊢
    have hOI : OI kA ad u.1 u.2.1 u.2.2 0 := by
      obtain ⟨⟨ml2, wn2, cs2, h1⟩, h2⟩ := hpost; exact ⟨⟨_, _, _, _, h1⟩, h2⟩
    have hl := lv_sub hl [1, 2, 3, 4] rfl
    have hl : lv_has ls 6 [(1, .int fi), (2, .int px), (3, .int bi), (4, .ref ob)] := hl
    have hP : va_P D xcl ((ob, .inl (kA 3, 1, .inr (.inl fo))) :: rp u.1 u.2.1 u.2.2) H := hP
    have hD : va_D A ((ob, .inl (kA 3, 1, .inr (.inl fo))) :: rp u.1 u.2.1 u.2.2) := hD
    refine lv_i2l (v := ((r : Int32).toInt64)) hx hb xd_La_layer_10 rfl ?_
    refine va_last hx hb hK.1 hP hD hS 0 3 rfl rfl (show ¬ _ by decide) xd_La_layer_11 (fun H locs hP hD hS => ?_)
    have hP : va_P D xcl ((ob, .inl (kA 3, 1, .inr (.inl (vp_updL fo (0 : Int32).toNatClampNeg ((r : Int32).toInt64))))) :: rp u.1 u.2.1 u.2.2) H := hP
    have hD : va_D A ((ob, .inl (kA 3, 1, .inr (.inl (vp_updL fo (0 : Int32).toNatClampNeg ((r : Int32).toInt64))))) :: rp u.1 u.2.1 u.2.2) := hD
    refine lv_goto (tgt := 27) hx hb xd_La_layer_12 (by decide) ?_
    refine lv_iconst (v := 0) hx hb xd_La_layer_27 (by decide) ?_
    refine W.widen (k := 101) (n := 430) (Nat.le_of_ble_eq_true rfl) (Nat.le_of_ble_eq_true rfl) ?_
    exact W.iret (v := 0) hx hb hr (fun t ht hW => ⟨⟨0, ((u.1, u.2.1, u.2.2), (vp_updL fo (0 : Int32).toNatClampNeg ((r : Int32).toInt64))), rfl, hOI, by rw [ht]; exact hP, hD⟩, hS.F ht⟩) hS.2.2 xd_La_layer_28
set_option maxHeartbeats 4000000 in
set_option maxRecDepth 100000 in
theorem xc_La_load (l : Launch) (hlt : l.stackTraces = false) (D : va_G) (kA : Nat → ClassId) (sz : Nat) (ad : Nat → Nat → Nat) (E : Nat → Nat → va_E) (RL : List (Nat × Nat)) (Z : zT) (ml : Nat) (nd : Nat) (len : Nat) (wn : Nat) (cs : Nat) (ob : Nat) (fo : Nat → Int64) (ix : Int32) (kx : Int32) (hCI : CI kA ad E RL ml nd len wn cs) : Met l xy_La_load (.codeWith xy_La_load xb_La_load 5 (some .int) [(0, 10, 13, 13), (0, 10, 17, 21)] :: wT) { frames := 7, cells := 1, slots := 6, locals := 115 } (va_Pc [.ref (ad 0 0), .int ix, .int kx, .ref ob] (xPreZ D kA sz ((ob, .inl (kA 3, 1, .inr (.inl fo))) :: rp ad E RL) Z)) (va_Qi (fun (r : Int32) (u : ((Nat → Nat → Nat) × (Nat → Nat → va_E) × List (Nat × Nat)) × (Nat → Int64)) => OI kA ad u.1.1 u.1.2.1 u.1.2.2 0) (fun (u : ((Nat → Nat → Nat) × (Nat → Nat → va_E) × List (Nat × Nat)) × (Nat → Int64)) t => va_P D xcl ((ob, .inl (kA 3, 1, .inr (.inl u.2))) :: rp u.1.1 u.1.2.1 u.1.2.2) t.heap ∧ va_D (va_A ((ob, .inl (kA 3, 1, .inr (.inl fo))) :: rp ad E RL) sz) ((ob, .inl (kA 3, 1, .inr (.inl u.2))) :: rp u.1.1 u.1.2.1 u.1.2.2)) (va_A ((ob, .inl (kA 3, 1, .inr (.inl fo))) :: rp ad E RL) sz)) 1 6 (va_A ((ob, .inl (kA 3, 1, .inr (.inl fo))) :: rp ad E RL) sz) := by
  refine va_MetW (cc := xb_La_load) (maxL := 5) (ret := (some .int)) (by decide) rfl ?_
  intro p e s m args below meth c s₁ B hml hv
  obtain ⟨rfl, ⟨hsz, hP, hK, hD0⟩, hZ⟩ := hv
  have hx := B.exec
  have hb := B.bytes
  have hr := B.returns
  have hT := x_hT B.pre
  have hown : s.vm.findClass xR_La = some m.cls := findClass_of_methodNamed B.named
  have hlocks := B.notSynchronized
  subst hsz
  have hD := hD0.self (sz := s.heap.size)
  generalize hAe : va_A ((ob, .inl (kA 3, 1, .inr (.inl fo))) :: rp ad E RL) s.heap.size = A at hD hZ ⊢
  have hA : ∀ q : Nat, s.heap.size ≤ q → A q := fun q h => by rw [← hAe]; exact Or.inr h
  have hS : va_S A s.heap s.heap [] := va_S.rf
  have hl := lv_entry ([.ref (ad 0 0), .int ix, .int kx, .ref ob]) (n := 5) (Nat.le_of_ble_eq_true rfl)
  rw [lg_entry_eq]
  generalize (lg_sl ([.ref (ad 0 0), .int ix, .int kx, .ref ob]) ++ List.replicate (5 - (lg_sl ([.ref (ad 0 0), .int ix, .int kx, .ref ob])).length) Slot.unset).toArray = ls at hl ⊢
  have hl : lv_has ls 5 [(0, .ref (ad 0 0)), (1, .int ix), (2, .int kx), (3, .ref ob)] := hl
  have hP : va_P D xcl ((ob, .inl (kA 3, 1, .inr (.inl fo))) :: rp ad E RL) s.heap := hP
  have hex := vx_table (x := xy_La_load) B (atoms_spec (ws := .codeWith xy_La_load xb_La_load 5 (some .int) [(0, 10, 13, 13), (0, 10, 17, 21)] :: wT) B.pre _ List.mem_cons_self)
  refine lv_aload_n hx hb xd_La_load_0 rfl (lv_at hl 3 rfl) ?_
  refine lv_iconst (v := 0) hx hb xd_La_load_1 (by decide) ?_
  refine lv_aload_n hx hb xd_La_load_2 rfl (lv_at hl 0 rfl) ?_
  refine lv_iload_n hx hb xd_La_load_3 rfl (lv_at hl 1 rfl) ?_
  refine lv_iload_n hx hb xd_La_load_4 rfl (lv_at hl 2 rfl) ?_
  have hPc := xp_P (X := [(ob, .inl (kA 3, 1, .inr (.inl fo)))]) hP
  have hDc := xp_D (X := [(ob, .inl (kA 3, 1, .inr (.inl fo)))]) hD
  have hFc := va_freeP (X := [(ob, .inl (kA 3, 1, .inr (.inl fo)))]) (cx := []) hD hS hA [] rfl
  have hZc := hZ.kept hS
  obtain ⟨lf, hc0⟩ := hCI.2.1
  refine vx_calli (vx_runV (As := [.int ix, .int kx]) (rest := [.int 0, .ref ob]) ⟨hx, hb, hml, hown, hT⟩ (xc_De_load l hlt D kA s.heap.size ad E RL Z ml nd len wn cs ix kx hCI) (cwV 2 hT (wT_V yz_13 yz_14 yz_15 yz_4 yz_12) rfl rfl rfl (by decide +kernel) ⟨Nat.le_of_ble_eq_true rfl, Nat.le_of_ble_eq_true rfl⟩) (px_preVZ hK hPc hDc (hCI.1 0 (by omega)) hc0 rfl hFc hZc) rfl rfl hl.1 rfl (lv_room (Nat.le_of_ble_eq_true rfl)) xd_La_load_5 ⟨Nat.le_of_ble_eq_true rfl, Nat.le_of_ble_eq_true rfl⟩) hS (fun q _ h => hFc q h) hFc (fun q _ h => hFc q h) (fun E9 ce q9 u t H1 locs ht hvm hpost hB hz1 hk1 hS hce hcv hcl => ?_) (fun r u t H1 locs ht hvm hpost hB hz1 hk1 hS => ?_)
  · obtain ⟨hE9, hP1, hD1⟩ := hB
    rw [ht] at hP1
    obtain ⟨hP, hD⟩ := va_joinP (X := [(ob, .inl (kA 3, 1, .inr (.inl fo)))]) (cx := []) (wr := [(ob, .inl (kA 3, 1, .inr (.inl fo)))]) (rx := []) hP hD [] [0] rfl rfl (by decide) (by decide) hk1 hFc hP1 hD1
    generalize H1 = H at hP hS hce ⊢
    have hOI : OI kA ad ad u RL 0 := by obtain ⟨wn2, h1⟩ := hpost; exact ⟨⟨_, _, _, _, h1⟩, rfl⟩
    have hl := lv_sub hl [1, 2, 3] rfl
    have hl : lv_has ls 5 [(1, .int ix), (2, .int kx), (3, .ref ob)] := hl
    have hP : va_P D xcl ((ob, .inl (kA 3, 1, .inr (.inl fo))) :: rp ad u RL) H := hP
    have hD : va_D A ((ob, .inl (kA 3, 1, .inr (.inl fo))) :: rp ad u RL) := hD
    rcases hE9 with rfl | rfl
    · refine vx_catch (own := "LayerDeskLaw") (name := "java/lang/IllegalArgumentException") hown [] ⟨0, 10, 13, 13⟩ [⟨0, 10, 17, 21⟩] (by rw [hex]; rfl) (fun z hz => nomatch hz) rfl (by decide) (hT _ yz_5) (va_Nw.use rfl hK.2.2.2.2.2.1) hce hcv hcl ?_
      refine lv_astore hx hb xd_La_load_13 hl (Nat.le_of_ble_eq_true rfl) rfl (fun ls hl => ?_)
      have hl : lv_has ls 5 [(4, .ref q9), (1, .int ix), (2, .int kx), (3, .ref ob)] := hl
      refine lv_iconst (v := 1) hx hb xd_La_load_15 (by decide) ?_
      refine W.widen (k := 1) (n := 6) (Nat.le_of_ble_eq_true rfl) (Nat.le_of_ble_eq_true rfl) ?_
      exact W.iret (v := 1) hx hb hr (fun t ht hW => ⟨⟨1, ((ad, u, RL), fo), rfl, hOI, by rw [ht]; exact hP, hD⟩, hS.F ht⟩) hS.2.2 xd_La_load_16
    · refine vx_catch (own := "LayerDeskLaw") (name := "java/util/NoSuchElementException") hown [⟨0, 10, 13, 13⟩] ⟨0, 10, 17, 21⟩ [] (by rw [hex]; rfl) (fun z hz => by rw [List.mem_singleton] at hz; subst hz; exact Or.inr ⟨(by decide), "java/lang/IllegalArgumentException", hT _ yz_5, hZ.2.2.2.2.2.1⟩) rfl (by decide) (hT _ yz_11) (va_Nw.use rfl hK.2.2.2.2.2.2.2) hce hcv hcl ?_
      refine lv_astore hx hb xd_La_load_17 hl (Nat.le_of_ble_eq_true rfl) rfl (fun ls hl => ?_)
      have hl : lv_has ls 5 [(4, .ref q9), (1, .int ix), (2, .int kx), (3, .ref ob)] := hl
      refine lv_iconst (v := 2) hx hb xd_La_load_19 (by decide) ?_
      refine W.widen (k := 1) (n := 6) (Nat.le_of_ble_eq_true rfl) (Nat.le_of_ble_eq_true rfl) ?_
      exact W.iret (v := 2) hx hb hr (fun t ht hW => ⟨⟨2, ((ad, u, RL), fo), rfl, hOI, by rw [ht]; exact hP, hD⟩, hS.F ht⟩) hS.2.2 xd_La_load_20
  · obtain ⟨hP1, hD1⟩ := hB
    rw [ht] at hP1
    obtain ⟨hP, hD⟩ := va_joinP (X := [(ob, .inl (kA 3, 1, .inr (.inl fo)))]) (cx := []) (wr := [(ob, .inl (kA 3, 1, .inr (.inl fo)))]) (rx := []) hP hD [] [0] rfl rfl (by decide) (by decide) hk1 hFc hP1 hD1
    generalize H1 = H at hP hS ⊢
    have hOI : OI kA ad ad u RL 0 := by obtain ⟨wn2, h1⟩ := hpost; exact ⟨⟨_, _, _, _, h1⟩, rfl⟩
    have hl := lv_sub hl [1, 2, 3] rfl
    have hl : lv_has ls 5 [(1, .int ix), (2, .int kx), (3, .ref ob)] := hl
    have hP : va_P D xcl ((ob, .inl (kA 3, 1, .inr (.inl fo))) :: rp ad u RL) H := hP
    have hD : va_D A ((ob, .inl (kA 3, 1, .inr (.inl fo))) :: rp ad u RL) := hD
    refine lv_i2l (v := ((r : Int32).toInt64)) hx hb xd_La_load_8 rfl ?_
    refine va_last hx hb hK.1 hP hD hS 0 3 rfl rfl (show ¬ _ by decide) xd_La_load_9 (fun H locs hP hD hS => ?_)
    have hP : va_P D xcl ((ob, .inl (kA 3, 1, .inr (.inl (vp_updL fo (0 : Int32).toNatClampNeg ((r : Int32).toInt64))))) :: rp ad u RL) H := hP
    have hD : va_D A ((ob, .inl (kA 3, 1, .inr (.inl (vp_updL fo (0 : Int32).toNatClampNeg ((r : Int32).toInt64))))) :: rp ad u RL) := hD
    refine lv_goto (tgt := 21) hx hb xd_La_load_10 (by decide) ?_
    refine lv_iconst (v := 0) hx hb xd_La_load_21 (by decide) ?_
    refine W.widen (k := 1) (n := 6) (Nat.le_of_ble_eq_true rfl) (Nat.le_of_ble_eq_true rfl) ?_
    exact W.iret (v := 0) hx hb hr (fun t ht hW => ⟨⟨0, ((ad, u, RL), (vp_updL fo (0 : Int32).toNatClampNeg ((r : Int32).toInt64))), rfl, hOI, by rw [ht]; exact hP, hD⟩, hS.F ht⟩) hS.2.2 xd_La_load_22
set_option maxHeartbeats 4000000 in
set_option maxRecDepth 100000 in
theorem xc_La_peek (l : Launch) (hlt : l.stackTraces = false) (D : va_G) (kA : Nat → ClassId) (sz : Nat) (ad : Nat → Nat → Nat) (E : Nat → Nat → va_E) (RL : List (Nat × Nat)) (Z : zT) (ml : Nat) (nd : Nat) (len : Nat) (wn : Nat) (cs : Nat) (ob : Nat) (fo : Nat → Int64) (ix : Int32) (kx : Int32) (tx : Int32) (dx : Int32) (hCI : CI kA ad E RL ml nd len wn cs) : Met l xy_La_peek (.codeWith xy_La_peek xb_La_peek 7 (some .int) [(0, 21, 24, 13), (0, 21, 28, 21)] :: wT) { frames := 7, cells := 1, slots := 6, locals := 109 } (va_Pc [.ref (ad 0 0), .int ix, .int kx, .int tx, .int dx, .ref ob] (xPreZ D kA sz ((ob, .inl (kA 3, 1, .inr (.inl fo))) :: rp ad E RL) Z)) (va_Qi (fun (r : Int32) (u : ((Nat → Nat → Nat) × (Nat → Nat → va_E) × List (Nat × Nat)) × (Nat → Int64)) => OI kA ad u.1.1 u.1.2.1 u.1.2.2 0) (fun (u : ((Nat → Nat → Nat) × (Nat → Nat → va_E) × List (Nat × Nat)) × (Nat → Int64)) t => va_P D xcl ((ob, .inl (kA 3, 1, .inr (.inl u.2))) :: rp u.1.1 u.1.2.1 u.1.2.2) t.heap ∧ va_D (va_A ((ob, .inl (kA 3, 1, .inr (.inl fo))) :: rp ad E RL) sz) ((ob, .inl (kA 3, 1, .inr (.inl u.2))) :: rp u.1.1 u.1.2.1 u.1.2.2)) (va_A ((ob, .inl (kA 3, 1, .inr (.inl fo))) :: rp ad E RL) sz)) 1 6 (va_A ((ob, .inl (kA 3, 1, .inr (.inl fo))) :: rp ad E RL) sz) := by
  refine va_MetW (cc := xb_La_peek) (maxL := 7) (ret := (some .int)) (by decide) rfl ?_
  intro p e s m args below meth c s₁ B hml hv
  obtain ⟨rfl, ⟨hsz, hP, hK, hD0⟩, hZ⟩ := hv
  have hx := B.exec
  have hb := B.bytes
  have hr := B.returns
  have hT := x_hT B.pre
  have hown : s.vm.findClass xR_La = some m.cls := findClass_of_methodNamed B.named
  have hlocks := B.notSynchronized
  subst hsz
  have hD := hD0.self (sz := s.heap.size)
  generalize hAe : va_A ((ob, .inl (kA 3, 1, .inr (.inl fo))) :: rp ad E RL) s.heap.size = A at hD hZ ⊢
  have hA : ∀ q : Nat, s.heap.size ≤ q → A q := fun q h => by rw [← hAe]; exact Or.inr h
  have hS : va_S A s.heap s.heap [] := va_S.rf
  have hl := lv_entry ([.ref (ad 0 0), .int ix, .int kx, .int tx, .int dx, .ref ob]) (n := 7) (Nat.le_of_ble_eq_true rfl)
  rw [lg_entry_eq]
  generalize (lg_sl ([.ref (ad 0 0), .int ix, .int kx, .int tx, .int dx, .ref ob]) ++ List.replicate (7 - (lg_sl ([.ref (ad 0 0), .int ix, .int kx, .int tx, .int dx, .ref ob])).length) Slot.unset).toArray = ls at hl ⊢
  have hl : lv_has ls 7 [(0, .ref (ad 0 0)), (1, .int ix), (2, .int kx), (3, .int tx), (4, .int dx), (5, .ref ob)] := hl
  have hP : va_P D xcl ((ob, .inl (kA 3, 1, .inr (.inl fo))) :: rp ad E RL) s.heap := hP
  have hex := vx_table (x := xy_La_peek) B (atoms_spec (ws := .codeWith xy_La_peek xb_La_peek 7 (some .int) [(0, 21, 24, 13), (0, 21, 28, 21)] :: wT) B.pre _ List.mem_cons_self)
  refine lv_aload hx hb xd_La_peek_0 (lv_at hl 5 rfl) ?_
  refine lv_iconst (v := 0) hx hb xd_La_peek_2 (by decide) ?_
  refine lv_aload_n hx hb xd_La_peek_3 rfl (lv_at hl 0 rfl) ?_
  refine lv_iload_n hx hb xd_La_peek_4 rfl (lv_at hl 1 rfl) ?_
  refine lv_iload_n hx hb xd_La_peek_5 rfl (lv_at hl 2 rfl) ?_
  refine lv_iload_n hx hb xd_La_peek_6 rfl (lv_at hl 3 rfl) ?_
  refine lv_iload hx hb xd_La_peek_7 (lv_at hl 4 rfl) ?_
  have hPc := xp_P (X := [(ob, .inl (kA 3, 1, .inr (.inl fo)))]) hP
  have hDc := xp_D (X := [(ob, .inl (kA 3, 1, .inr (.inl fo)))]) hD
  have hFc := va_freeP (X := [(ob, .inl (kA 3, 1, .inr (.inl fo)))]) (cx := []) hD hS hA [] rfl
  have hZc := hZ.kept hS
  obtain ⟨lf, hc0⟩ := hCI.2.1
  refine vx_calli (vx_runV (As := [.int ix, .int kx, .int tx, .int dx]) (rest := [.int 0, .ref ob]) ⟨hx, hb, hml, hown, hT⟩ (xc_De_peek l hlt D kA s.heap.size ad E RL Z ml nd len wn cs ix kx tx dx hCI) (cwV 4 hT (wT_V yz_17 yz_18 yz_19 yz_4 yz_16) rfl rfl rfl (by decide +kernel) ⟨Nat.le_of_ble_eq_true rfl, Nat.le_of_ble_eq_true rfl⟩) (px_preVZ hK hPc hDc (hCI.1 0 (by omega)) hc0 rfl hFc hZc) rfl rfl hl.1 rfl (lv_room (Nat.le_of_ble_eq_true rfl)) xd_La_peek_9 ⟨Nat.le_of_ble_eq_true rfl, Nat.le_of_ble_eq_true rfl⟩) hS (fun q _ h => hFc q h) hFc (fun q _ h => hFc q h) (fun E9 ce q9 u t H1 locs ht hvm hpost hB hz1 hk1 hS hce hcv hcl => ?_) (fun r u t H1 locs ht hvm hpost hB hz1 hk1 hS => ?_)
  · obtain ⟨hE9, hP1, hD1⟩ := hB
    rw [ht] at hP1
    obtain ⟨hP, hD⟩ := va_joinP (X := [(ob, .inl (kA 3, 1, .inr (.inl fo)))]) (cx := []) (wr := [(ob, .inl (kA 3, 1, .inr (.inl fo)))]) (rx := []) hP hD [] [0] rfl rfl (by decide) (by decide) hk1 hFc hP1 hD1
    generalize H1 = H at hP hS hce ⊢
    have hOI : OI kA ad ad u RL 0 := by obtain ⟨wn2, h1⟩ := hpost; exact ⟨⟨_, _, _, _, h1⟩, rfl⟩
    have hl := lv_sub hl [1, 2, 3, 4, 5] rfl
    have hl : lv_has ls 7 [(1, .int ix), (2, .int kx), (3, .int tx), (4, .int dx), (5, .ref ob)] := hl
    have hP : va_P D xcl ((ob, .inl (kA 3, 1, .inr (.inl fo))) :: rp ad u RL) H := hP
    have hD : va_D A ((ob, .inl (kA 3, 1, .inr (.inl fo))) :: rp ad u RL) := hD
    rcases hE9 with rfl | rfl
    · refine vx_catch (own := "LayerDeskLaw") (name := "java/lang/IllegalArgumentException") hown [] ⟨0, 21, 24, 13⟩ [⟨0, 21, 28, 21⟩] (by rw [hex]; rfl) (fun z hz => nomatch hz) rfl (by decide) (hT _ yz_5) (va_Nw.use rfl hK.2.2.2.2.2.1) hce hcv hcl ?_
      refine lv_astore hx hb xd_La_peek_24 hl (Nat.le_of_ble_eq_true rfl) rfl (fun ls hl => ?_)
      have hl : lv_has ls 7 [(6, .ref q9), (1, .int ix), (2, .int kx), (3, .int tx), (4, .int dx), (5, .ref ob)] := hl
      refine lv_iconst (v := 1) hx hb xd_La_peek_26 (by decide) ?_
      refine W.widen (k := 1) (n := 6) (Nat.le_of_ble_eq_true rfl) (Nat.le_of_ble_eq_true rfl) ?_
      exact W.iret (v := 1) hx hb hr (fun t ht hW => ⟨⟨1, ((ad, u, RL), fo), rfl, hOI, by rw [ht]; exact hP, hD⟩, hS.F ht⟩) hS.2.2 xd_La_peek_27
    · refine vx_catch (own := "LayerDeskLaw") (name := "java/util/NoSuchElementException") hown [⟨0, 21, 24, 13⟩] ⟨0, 21, 28, 21⟩ [] (by rw [hex]; rfl) (fun z hz => by rw [List.mem_singleton] at hz; subst hz; exact Or.inr ⟨(by decide), "java/lang/IllegalArgumentException", hT _ yz_5, hZ.2.2.2.2.2.1⟩) rfl (by decide) (hT _ yz_11) (va_Nw.use rfl hK.2.2.2.2.2.2.2) hce hcv hcl ?_
      refine lv_astore hx hb xd_La_peek_28 hl (Nat.le_of_ble_eq_true rfl) rfl (fun ls hl => ?_)
      have hl : lv_has ls 7 [(6, .ref q9), (1, .int ix), (2, .int kx), (3, .int tx), (4, .int dx), (5, .ref ob)] := hl
      refine lv_iconst (v := 2) hx hb xd_La_peek_30 (by decide) ?_
      refine W.widen (k := 1) (n := 6) (Nat.le_of_ble_eq_true rfl) (Nat.le_of_ble_eq_true rfl) ?_
      exact W.iret (v := 2) hx hb hr (fun t ht hW => ⟨⟨2, ((ad, u, RL), fo), rfl, hOI, by rw [ht]; exact hP, hD⟩, hS.F ht⟩) hS.2.2 xd_La_peek_31
  · obtain ⟨hP1, hD1⟩ := hB
    rw [ht] at hP1
    obtain ⟨hP, hD⟩ := va_joinP (X := [(ob, .inl (kA 3, 1, .inr (.inl fo)))]) (cx := []) (wr := [(ob, .inl (kA 3, 1, .inr (.inl fo)))]) (rx := []) hP hD [] [0] rfl rfl (by decide) (by decide) hk1 hFc hP1 hD1
    generalize H1 = H at hP hS ⊢
    have hOI : OI kA ad ad u RL 0 := by obtain ⟨wn2, h1⟩ := hpost; exact ⟨⟨_, _, _, _, h1⟩, rfl⟩
    have hl := lv_sub hl [1, 2, 3, 4, 5] rfl
    have hl : lv_has ls 7 [(1, .int ix), (2, .int kx), (3, .int tx), (4, .int dx), (5, .ref ob)] := hl
    have hP : va_P D xcl ((ob, .inl (kA 3, 1, .inr (.inl fo))) :: rp ad u RL) H := hP
    have hD : va_D A ((ob, .inl (kA 3, 1, .inr (.inl fo))) :: rp ad u RL) := hD
    refine lv_if_eq (tgt := 19) hx hb xd_La_peek_12 (by decide) (fun hc1 => ?_) (fun hc1 => ?_)
    · refine lv_lconst (v := 0) hx hb xd_La_peek_19 (by decide) ?_
      refine va_last hx hb hK.1 hP hD hS 0 3 rfl rfl (show ¬ _ by decide) xd_La_peek_20 (fun H locs hP hD hS => ?_)
      have hP : va_P D xcl ((ob, .inl (kA 3, 1, .inr (.inl (vp_updL fo (0 : Int32).toNatClampNeg 0)))) :: rp ad u RL) H := hP
      have hD : va_D A ((ob, .inl (kA 3, 1, .inr (.inl (vp_updL fo (0 : Int32).toNatClampNeg 0)))) :: rp ad u RL) := hD
      refine lv_goto (tgt := 32) hx hb xd_La_peek_21 (by decide) ?_
      refine lv_iconst (v := 0) hx hb xd_La_peek_32 (by decide) ?_
      refine W.widen (k := 1) (n := 6) (Nat.le_of_ble_eq_true rfl) (Nat.le_of_ble_eq_true rfl) ?_
      exact W.iret (v := 0) hx hb hr (fun t ht hW => ⟨⟨0, ((ad, u, RL), (vp_updL fo (0 : Int32).toNatClampNeg 0)), rfl, hOI, by rw [ht]; exact hP, hD⟩, hS.F ht⟩) hS.2.2 xd_La_peek_33
    · refine lv_lconst (v := 1) hx hb xd_La_peek_15 (by decide) ?_
      refine lv_goto (tgt := 20) hx hb xd_La_peek_16 (by decide) ?_
      refine va_last hx hb hK.1 hP hD hS 0 3 rfl rfl (show ¬ _ by decide) xd_La_peek_20 (fun H locs hP hD hS => ?_)
      have hP : va_P D xcl ((ob, .inl (kA 3, 1, .inr (.inl (vp_updL fo (0 : Int32).toNatClampNeg 1)))) :: rp ad u RL) H := hP
      have hD : va_D A ((ob, .inl (kA 3, 1, .inr (.inl (vp_updL fo (0 : Int32).toNatClampNeg 1)))) :: rp ad u RL) := hD
      refine lv_goto (tgt := 32) hx hb xd_La_peek_21 (by decide) ?_
      refine lv_iconst (v := 0) hx hb xd_La_peek_32 (by decide) ?_
      refine W.widen (k := 1) (n := 6) (Nat.le_of_ble_eq_true rfl) (Nat.le_of_ble_eq_true rfl) ?_
      exact W.iret (v := 0) hx hb hr (fun t ht hW => ⟨⟨0, ((ad, u, RL), (vp_updL fo (0 : Int32).toNatClampNeg 1)), rfl, hOI, by rw [ht]; exact hP, hD⟩, hS.F ht⟩) hS.2.2 xd_La_peek_33
set_option maxHeartbeats 4000000 in
set_option maxRecDepth 100000 in
theorem xc_La_provider (l : Launch) (hlt : l.stackTraces = false) (D : va_G) (kA : Nat → ClassId) (sz : Nat) (ad : Nat → Nat → Nat) (E : Nat → Nat → va_E) (RL : List (Nat × Nat)) (Z : zT) (ml : Nat) (nd : Nat) (len : Nat) (wn : Nat) (cs : Nat) (ob : Nat) (fo : Nat → Int64) (ix : Int32) (kx : Int32) (hCI : CI kA ad E RL ml nd len wn cs) : Met l xy_La_provider (.codeWith xy_La_provider xb_La_provider 5 (some .int) [(0, 10, 13, 13)] :: wT) { frames := 7, cells := 1, slots := 6, locals := 107 } (va_Pc [.ref (ad 0 0), .int ix, .int kx, .ref ob] (xPreZ D kA sz ((ob, .inl (kA 3, 1, .inr (.inl fo))) :: rp ad E RL) Z)) (va_Qi (fun (r : Int32) (u : ((Nat → Nat → Nat) × (Nat → Nat → va_E) × List (Nat × Nat)) × (Nat → Int64)) => OI kA ad u.1.1 u.1.2.1 u.1.2.2 0) (fun (u : ((Nat → Nat → Nat) × (Nat → Nat → va_E) × List (Nat × Nat)) × (Nat → Int64)) t => va_P D xcl ((ob, .inl (kA 3, 1, .inr (.inl u.2))) :: rp u.1.1 u.1.2.1 u.1.2.2) t.heap ∧ va_D (va_A ((ob, .inl (kA 3, 1, .inr (.inl fo))) :: rp ad E RL) sz) ((ob, .inl (kA 3, 1, .inr (.inl u.2))) :: rp u.1.1 u.1.2.1 u.1.2.2)) (va_A ((ob, .inl (kA 3, 1, .inr (.inl fo))) :: rp ad E RL) sz)) 1 6 (va_A ((ob, .inl (kA 3, 1, .inr (.inl fo))) :: rp ad E RL) sz) := by
  refine va_MetW (cc := xb_La_provider) (maxL := 5) (ret := (some .int)) (by decide) rfl ?_
  intro p e s m args below meth c s₁ B hml hv
  obtain ⟨rfl, ⟨hsz, hP, hK, hD0⟩, hZ⟩ := hv
  have hx := B.exec
  have hb := B.bytes
  have hr := B.returns
  have hT := x_hT B.pre
  have hown : s.vm.findClass xR_La = some m.cls := findClass_of_methodNamed B.named
  have hlocks := B.notSynchronized
  subst hsz
  have hD := hD0.self (sz := s.heap.size)
  generalize hAe : va_A ((ob, .inl (kA 3, 1, .inr (.inl fo))) :: rp ad E RL) s.heap.size = A at hD hZ ⊢
  have hA : ∀ q : Nat, s.heap.size ≤ q → A q := fun q h => by rw [← hAe]; exact Or.inr h
  have hS : va_S A s.heap s.heap [] := va_S.rf
  have hl := lv_entry ([.ref (ad 0 0), .int ix, .int kx, .ref ob]) (n := 5) (Nat.le_of_ble_eq_true rfl)
  rw [lg_entry_eq]
  generalize (lg_sl ([.ref (ad 0 0), .int ix, .int kx, .ref ob]) ++ List.replicate (5 - (lg_sl ([.ref (ad 0 0), .int ix, .int kx, .ref ob])).length) Slot.unset).toArray = ls at hl ⊢
  have hl : lv_has ls 5 [(0, .ref (ad 0 0)), (1, .int ix), (2, .int kx), (3, .ref ob)] := hl
  have hP : va_P D xcl ((ob, .inl (kA 3, 1, .inr (.inl fo))) :: rp ad E RL) s.heap := hP
  have hex := vx_table (x := xy_La_provider) B (atoms_spec (ws := .codeWith xy_La_provider xb_La_provider 5 (some .int) [(0, 10, 13, 13)] :: wT) B.pre _ List.mem_cons_self)
  refine lv_aload_n hx hb xd_La_provider_0 rfl (lv_at hl 3 rfl) ?_
  refine lv_iconst (v := 0) hx hb xd_La_provider_1 (by decide) ?_
  refine lv_aload_n hx hb xd_La_provider_2 rfl (lv_at hl 0 rfl) ?_
  refine lv_iload_n hx hb xd_La_provider_3 rfl (lv_at hl 1 rfl) ?_
  refine lv_iload_n hx hb xd_La_provider_4 rfl (lv_at hl 2 rfl) ?_
  have hPc := xp_P (X := [(ob, .inl (kA 3, 1, .inr (.inl fo)))]) hP
  have hDc := xp_D (X := [(ob, .inl (kA 3, 1, .inr (.inl fo)))]) hD
  have hFc := va_freeP (X := [(ob, .inl (kA 3, 1, .inr (.inl fo)))]) (cx := []) hD hS hA [] rfl
  have hZc := hZ.kept hS
  obtain ⟨lf, hc0⟩ := hCI.2.1
  refine vx_calli (vx_runV (As := [.int ix, .int kx]) (rest := [.int 0, .ref ob]) ⟨hx, hb, hml, hown, hT⟩ (xc_De_provider l hlt D kA s.heap.size ad E RL Z ml nd len wn cs ix kx hCI) (cwV 2 hT (wT_V yz_21 yz_22 yz_23 yz_4 yz_20) rfl rfl rfl (by decide +kernel) ⟨Nat.le_of_ble_eq_true rfl, Nat.le_of_ble_eq_true rfl⟩) (px_preVZ hK hPc hDc (hCI.1 0 (by omega)) hc0 rfl hFc hZc) rfl rfl hl.1 rfl (lv_room (Nat.le_of_ble_eq_true rfl)) xd_La_provider_5 ⟨Nat.le_of_ble_eq_true rfl, Nat.le_of_ble_eq_true rfl⟩) hS (fun q _ h => hFc q h) hFc (fun q _ h => hFc q h) (fun E9 ce q9 u t H1 locs ht hvm hpost hB hz1 hk1 hS hce hcv hcl => ?_) (fun r u t H1 locs ht hvm hpost hB hz1 hk1 hS => ?_)
  · obtain ⟨hE9, hP1, hD1⟩ := hB
    rw [ht] at hP1
    obtain ⟨hP, hD⟩ := va_joinP (X := [(ob, .inl (kA 3, 1, .inr (.inl fo)))]) (cx := []) (wr := [(ob, .inl (kA 3, 1, .inr (.inl fo)))]) (rx := []) hP hD [] [0] rfl rfl (by decide) (by decide) hk1 hFc hP1 hD1
    generalize H1 = H at hP hS hce ⊢
    have hOI : OI kA ad ad u RL 0 := by obtain ⟨wn2, h1⟩ := hpost; exact ⟨⟨_, _, _, _, h1⟩, rfl⟩
    have hl := lv_sub hl [1, 2, 3] rfl
    have hl : lv_has ls 5 [(1, .int ix), (2, .int kx), (3, .ref ob)] := hl
    have hP : va_P D xcl ((ob, .inl (kA 3, 1, .inr (.inl fo))) :: rp ad u RL) H := hP
    have hD : va_D A ((ob, .inl (kA 3, 1, .inr (.inl fo))) :: rp ad u RL) := hD
    subst hE9
    · refine vx_catch (own := "LayerDeskLaw") (name := "java/lang/IllegalArgumentException") hown [] ⟨0, 10, 13, 13⟩ [] (by rw [hex]; rfl) (fun z hz => nomatch hz) rfl (by decide) (hT _ yz_5) (va_Nw.use rfl hK.2.2.2.2.2.1) hce hcv hcl ?_
      refine lv_astore hx hb xd_La_provider_13 hl (Nat.le_of_ble_eq_true rfl) rfl (fun ls hl => ?_)
      have hl : lv_has ls 5 [(4, .ref q9), (1, .int ix), (2, .int kx), (3, .ref ob)] := hl
      refine lv_iconst (v := 1) hx hb xd_La_provider_15 (by decide) ?_
      refine W.widen (k := 1) (n := 6) (Nat.le_of_ble_eq_true rfl) (Nat.le_of_ble_eq_true rfl) ?_
      exact W.iret (v := 1) hx hb hr (fun t ht hW => ⟨⟨1, ((ad, u, RL), fo), rfl, hOI, by rw [ht]; exact hP, hD⟩, hS.F ht⟩) hS.2.2 xd_La_provider_16
  · obtain ⟨hP1, hD1⟩ := hB
    rw [ht] at hP1
    obtain ⟨hP, hD⟩ := va_joinP (X := [(ob, .inl (kA 3, 1, .inr (.inl fo)))]) (cx := []) (wr := [(ob, .inl (kA 3, 1, .inr (.inl fo)))]) (rx := []) hP hD [] [0] rfl rfl (by decide) (by decide) hk1 hFc hP1 hD1
    generalize H1 = H at hP hS ⊢
    have hOI : OI kA ad ad u RL 0 := by obtain ⟨wn2, h1⟩ := hpost; exact ⟨⟨_, _, _, _, h1⟩, rfl⟩
    have hl := lv_sub hl [1, 2, 3] rfl
    have hl : lv_has ls 5 [(1, .int ix), (2, .int kx), (3, .ref ob)] := hl
    have hP : va_P D xcl ((ob, .inl (kA 3, 1, .inr (.inl fo))) :: rp ad u RL) H := hP
    have hD : va_D A ((ob, .inl (kA 3, 1, .inr (.inl fo))) :: rp ad u RL) := hD
    refine lv_i2l (v := ((r : Int32).toInt64)) hx hb xd_La_provider_8 rfl ?_
    refine va_last hx hb hK.1 hP hD hS 0 3 rfl rfl (show ¬ _ by decide) xd_La_provider_9 (fun H locs hP hD hS => ?_)
    have hP : va_P D xcl ((ob, .inl (kA 3, 1, .inr (.inl (vp_updL fo (0 : Int32).toNatClampNeg ((r : Int32).toInt64))))) :: rp ad u RL) H := hP
    have hD : va_D A ((ob, .inl (kA 3, 1, .inr (.inl (vp_updL fo (0 : Int32).toNatClampNeg ((r : Int32).toInt64))))) :: rp ad u RL) := hD
    refine lv_goto (tgt := 17) hx hb xd_La_provider_10 (by decide) ?_
    refine lv_iconst (v := 0) hx hb xd_La_provider_17 (by decide) ?_
    refine W.widen (k := 1) (n := 6) (Nat.le_of_ble_eq_true rfl) (Nat.le_of_ble_eq_true rfl) ?_
    exact W.iret (v := 0) hx hb hr (fun t ht hW => ⟨⟨0, ((ad, u, RL), (vp_updL fo (0 : Int32).toNatClampNeg ((r : Int32).toInt64))), rfl, hOI, by rw [ht]; exact hP, hD⟩, hS.F ht⟩) hS.2.2 xd_La_provider_18
