abbrev xb_Gr_covers : ByteArray := prog_4_method_2_code
def xy_Gr_covers : MethodName := ⟨"LayerDesk$Grant", "covers", "(I)Z"⟩
abbrev xb_Gr_hasRoomFor : ByteArray := prog_4_method_3_code
def xy_Gr_hasRoomFor : MethodName := ⟨"LayerDesk$Grant", "hasRoomFor", "(I)Z"⟩
abbrev xb_Gr_extendTo : ByteArray := prog_4_method_4_code
def xy_Gr_extendTo : MethodName := ⟨"LayerDesk$Grant", "extendTo", "(I)V"⟩
theorem xd_Gr_covers_0 : decode xb_Gr_covers 0 = .ok (.aload_n 0, 1) := by decide +kernel
theorem xd_Gr_covers_1 : decode xb_Gr_covers 1 = .ok (.getfield 20, 3) := by decide +kernel
theorem xd_Gr_covers_4 : decode xb_Gr_covers 4 = .ok (.ifCond .ne 14, 3) := by decide +kernel
theorem xd_Gr_covers_7 : decode xb_Gr_covers 7 = .ok (.aload_n 0, 1) := by decide +kernel
theorem xd_Gr_covers_8 : decode xb_Gr_covers 8 = .ok (.getfield 16, 3) := by decide +kernel
theorem xd_Gr_covers_11 : decode xb_Gr_covers 11 = .ok (.iload_n 1, 1) := by decide +kernel
theorem xd_Gr_covers_12 : decode xb_Gr_covers 12 = .ok (.invokevirtual 24, 3) := by decide +kernel
theorem xd_Gr_covers_15 : decode xb_Gr_covers 15 = .ok (.ifCond .lt 7, 3) := by decide +kernel
theorem xd_Gr_covers_18 : decode xb_Gr_covers 18 = .ok (.iconst 1, 1) := by decide +kernel
theorem xd_Gr_covers_19 : decode xb_Gr_covers 19 = .ok (.goto 4, 3) := by decide +kernel
theorem xd_Gr_covers_22 : decode xb_Gr_covers 22 = .ok (.iconst 0, 1) := by decide +kernel
theorem xd_Gr_covers_23 : decode xb_Gr_covers 23 = .ok (.ireturn, 1) := by decide +kernel
theorem xd_Gr_extendTo_0 : decode xb_Gr_extendTo 0 = .ok (.iload_n 1, 1) := by decide +kernel
theorem xd_Gr_extendTo_1 : decode xb_Gr_extendTo 1 = .ok (.ifCond .ne 11, 3) := by decide +kernel
theorem xd_Gr_extendTo_4 : decode xb_Gr_extendTo 4 = .ok (.aload_n 0, 1) := by decide +kernel
theorem xd_Gr_extendTo_5 : decode xb_Gr_extendTo 5 = .ok (.iconst 1, 1) := by decide +kernel
theorem xd_Gr_extendTo_6 : decode xb_Gr_extendTo 6 = .ok (.putfield 20, 3) := by decide +kernel
theorem xd_Gr_extendTo_9 : decode xb_Gr_extendTo 9 = .ok (.goto 19, 3) := by decide +kernel
theorem xd_Gr_extendTo_12 : decode xb_Gr_extendTo 12 = .ok (.aload_n 0, 1) := by decide +kernel
theorem xd_Gr_extendTo_13 : decode xb_Gr_extendTo 13 = .ok (.iload_n 1, 1) := by decide +kernel
theorem xd_Gr_extendTo_14 : decode xb_Gr_extendTo 14 = .ok (.invokevirtual 28, 3) := by decide +kernel
theorem xd_Gr_extendTo_17 : decode xb_Gr_extendTo 17 = .ok (.ifCond .ne 11, 3) := by decide +kernel
theorem xd_Gr_extendTo_20 : decode xb_Gr_extendTo 20 = .ok (.aload_n 0, 1) := by decide +kernel
theorem xd_Gr_extendTo_21 : decode xb_Gr_extendTo 21 = .ok (.getfield 16, 3) := by decide +kernel
theorem xd_Gr_extendTo_24 : decode xb_Gr_extendTo 24 = .ok (.iload_n 1, 1) := by decide +kernel
theorem xd_Gr_extendTo_25 : decode xb_Gr_extendTo 25 = .ok (.invokevirtual 36, 3) := by decide +kernel
theorem xd_Gr_extendTo_28 : decode xb_Gr_extendTo 28 = .ok (.return_, 1) := by decide +kernel
theorem xd_Gr_hasRoomFor_0 : decode xb_Gr_hasRoomFor 0 = .ok (.iload_n 1, 1) := by decide +kernel
theorem xd_Gr_hasRoomFor_1 : decode xb_Gr_hasRoomFor 1 = .ok (.ifCond .eq 21, 3) := by decide +kernel
theorem xd_Gr_hasRoomFor_4 : decode xb_Gr_hasRoomFor 4 = .ok (.aload_n 0, 1) := by decide +kernel
theorem xd_Gr_hasRoomFor_5 : decode xb_Gr_hasRoomFor 5 = .ok (.iload_n 1, 1) := by decide +kernel
theorem xd_Gr_hasRoomFor_6 : decode xb_Gr_hasRoomFor 6 = .ok (.invokevirtual 28, 3) := by decide +kernel
theorem xd_Gr_hasRoomFor_9 : decode xb_Gr_hasRoomFor 9 = .ok (.ifCond .ne 13, 3) := by decide +kernel
theorem xd_Gr_hasRoomFor_12 : decode xb_Gr_hasRoomFor 12 = .ok (.aload_n 0, 1) := by decide +kernel
theorem xd_Gr_hasRoomFor_13 : decode xb_Gr_hasRoomFor 13 = .ok (.getfield 16, 3) := by decide +kernel
theorem xd_Gr_hasRoomFor_16 : decode xb_Gr_hasRoomFor 16 = .ok (.invokevirtual 32, 3) := by decide +kernel
theorem xd_Gr_hasRoomFor_19 : decode xb_Gr_hasRoomFor 19 = .ok (.ifCond .ne 7, 3) := by decide +kernel
theorem xd_Gr_hasRoomFor_22 : decode xb_Gr_hasRoomFor 22 = .ok (.iconst 1, 1) := by decide +kernel
theorem xd_Gr_hasRoomFor_23 : decode xb_Gr_hasRoomFor 23 = .ok (.goto 4, 3) := by decide +kernel
theorem xd_Gr_hasRoomFor_26 : decode xb_Gr_hasRoomFor 26 = .ok (.iconst 0, 1) := by decide +kernel
theorem xd_Gr_hasRoomFor_27 : decode xb_Gr_hasRoomFor 27 = .ok (.ireturn, 1) := by decide +kernel
theorem yl_0 : (Cond.fieldLink "LayerDesk$Grant" 20 "LayerDesk$Grant" "toAll" "Z") ∈ wT := wT_t (List.mem_append_right _ (List.mem_append_left _ (List.mem_of_getElem? (i := 145) rfl))) rfl
theorem yl_1 : (Cond.fieldLink "LayerDesk$Grant" 16 "LayerDesk$Grant" "names" "LLayerDesk$Names;") ∈ wT := wT_t (List.mem_append_right _ (List.mem_append_left _ (List.mem_of_getElem? (i := 144) rfl))) rfl
theorem yl_2 : (Cond.code xy_Na_indexOf xb_Na_indexOf 3 (some .int)) ∈ wT := wT_t (List.mem_append_right _ (List.mem_append_left _ (List.mem_of_getElem? (i := 127) rfl))) rfl
theorem yl_3 : (Cond.methodLink "LayerDesk$Grant" 24 xy_Na_indexOf) ∈ wT := wT_t (List.mem_append_right _ (List.mem_append_left _ (List.mem_of_getElem? (i := 180) rfl))) rfl
theorem yl_4 : (Cond.instanceMethod xy_Na_indexOf) ∈ wT := wT_t (List.mem_append_right _ (List.mem_append_left _ (List.mem_of_getElem? (i := 125) rfl))) rfl
theorem yl_5 : (Cond.selects "LayerDesk$Names" xy_Na_indexOf xy_Na_indexOf) ∈ wT := wT_t (List.mem_append_right _ (List.mem_append_left _ (List.mem_of_getElem? (i := 126) rfl))) rfl
theorem yl_6 : (Cond.initialized "LayerDesk$Names") ∈ wT := wT_t (List.mem_append_left _ (List.mem_of_getElem? (i := 11) rfl)) rfl
theorem yl_7 : (Cond.code xy_Gr_covers xb_Gr_covers 2 (some .boolean)) ∈ wT := wT_t (List.mem_append_right _ (List.mem_append_left _ (List.mem_of_getElem? (i := 179) rfl))) rfl
theorem yl_8 : (Cond.methodLink "LayerDesk$Grant" 28 xy_Gr_covers) ∈ wT := wT_t (List.mem_append_right _ (List.mem_append_left _ (List.mem_of_getElem? (i := 176) rfl))) rfl
theorem yl_9 : (Cond.instanceMethod xy_Gr_covers) ∈ wT := wT_t (List.mem_append_right _ (List.mem_append_left _ (List.mem_of_getElem? (i := 177) rfl))) rfl
theorem yl_10 : (Cond.selects "LayerDesk$Grant" xy_Gr_covers xy_Gr_covers) ∈ wT := wT_t (List.mem_append_right _ (List.mem_append_left _ (List.mem_of_getElem? (i := 178) rfl))) rfl
theorem yl_11 : (Cond.initialized "LayerDesk$Grant") ∈ wT := wT_t (List.mem_append_left _ (List.mem_of_getElem? (i := 12) rfl)) rfl
theorem yl_12 : (Cond.code xy_Na_isFull xb_Na_isFull 1 (some .boolean)) ∈ wT := wT_t (List.mem_append_right _ (List.mem_append_left _ (List.mem_of_getElem? (i := 131) rfl))) rfl
theorem yl_13 : (Cond.methodLink "LayerDesk$Grant" 32 xy_Na_isFull) ∈ wT := wT_t (List.mem_append_right _ (List.mem_append_left _ (List.mem_of_getElem? (i := 181) rfl))) rfl
theorem yl_14 : (Cond.instanceMethod xy_Na_isFull) ∈ wT := wT_t (List.mem_append_right _ (List.mem_append_left _ (List.mem_of_getElem? (i := 129) rfl))) rfl
theorem yl_15 : (Cond.selects "LayerDesk$Names" xy_Na_isFull xy_Na_isFull) ∈ wT := wT_t (List.mem_append_right _ (List.mem_append_left _ (List.mem_of_getElem? (i := 130) rfl))) rfl
theorem yl_16 : (Cond.code xy_Na_append xb_Na_append 2 none) ∈ wT := wT_t (List.mem_append_right _ (List.mem_append_left _ (List.mem_of_getElem? (i := 154) rfl))) rfl
theorem yl_17 : (Cond.methodLink "LayerDesk$Grant" 36 xy_Na_append) ∈ wT := wT_t (List.mem_append_right _ (List.mem_append_left _ (List.mem_of_getElem? (i := 186) rfl))) rfl
theorem yl_18 : (Cond.instanceMethod xy_Na_append) ∈ wT := wT_t (List.mem_append_right _ (List.mem_append_left _ (List.mem_of_getElem? (i := 152) rfl))) rfl
theorem yl_19 : (Cond.selects "LayerDesk$Names" xy_Na_append xy_Na_append) ∈ wT := wT_t (List.mem_append_right _ (List.mem_append_left _ (List.mem_of_getElem? (i := 153) rfl))) rfl
set_option maxHeartbeats 4000000 in
set_option maxRecDepth 100000 in
theorem xc_Gr_covers (l : Launch) (D : va_G) (kA : Nat → ClassId) (sz : Nat) (ad : Nat → Nat → Nat) (E : Nat → Nat → va_E) (RL : List (Nat × Nat)) (b : Nat) (g : Nat) (gn : Nat) (ga : Nat) (ta : Int32) (n : Nat) (f : Nat → Int32) (nm : Int32) (ym0 : (b, g) ∈ RL) (yc0 : E b g = .inr (9, [.ref (ad b gn), .int ta])) (ym1 : (b, gn) ∈ RL) (yc1 : E b gn = .inr (8, [.ref (ad b ga), .int (nI n)])) (ym2 : (b, ga) ∈ RL) (yc2 : E b ga = .inl (kA 0, 3, .inl f)) (hn3 : n ≤ 3) : Met l xy_Gr_covers (.code xy_Gr_covers xb_Gr_covers 2 (some .boolean) :: wT) { frames := 1, cells := 0, slots := 0, locals := 22 } (va_Pc [.ref (ad b g), .int nm] (xPre D kA sz (rp ad E RL))) (va_Qi (fun (r : Int32) (u : Unit) => (r = 1 ∧ (¬ ta = 0 ∨ ∃ k, k < n ∧ f k = nm)) ∨ (r = 0 ∧ ta = 0 ∧ ∀ j, j < n → ¬ f j = nm)) (fun (u : Unit) t => va_P D xcl (rp ad E RL) t.heap ∧ va_D (va_A (rp ad E RL) sz) (rp ad E RL)) (va_A (rp ad E RL) sz)) 0 0 (va_A (rp ad E RL) sz) := by
  refine Met.ofW (cc := xb_Gr_covers) (maxL := 2) (ret := (some .boolean)) (by decide) rfl ?_
  intro p e s m args below meth c s₁ B hml hv
  obtain ⟨rfl, hsz, hP, hK, hD0⟩ := hv
  have hx := B.exec
  have hb := B.bytes
  have hr := B.returns
  have hT := x_hT B.pre
  have hown : s.vm.findClass xR_Gr = some m.cls := findClass_of_methodNamed B.named
  have hlocks := B.notSynchronized
  subst hsz
  have hD := hD0.self (sz := s.heap.size)
  generalize hAe : va_A (rp ad E RL) s.heap.size = A at hD ⊢
  have hA : ∀ q : Nat, s.heap.size ≤ q → A q := fun q h => by rw [← hAe]; exact Or.inr h
  have hS : va_S A s.heap s.heap [] := va_S.rf
  have hl := lv_entry ([.ref (ad b g), .int nm]) (n := 2) (Nat.le_of_ble_eq_true rfl)
  rw [lg_entry_eq]
  generalize (lg_sl ([.ref (ad b g), .int nm]) ++ List.replicate (2 - (lg_sl ([.ref (ad b g), .int nm])).length) Slot.unset).toArray = ls at hl ⊢
  have hl : lv_has ls 2 [(0, .ref (ad b g)), (1, .int nm)] := hl
  have hP : va_P D xcl (rp ad E RL) s.heap := hP
  refine lv_aload_n hx hb xd_Gr_covers_0 rfl (lv_at hl 0 rfl) ?_
  refine px_get (D := D) (ci := 9) (v := .int ta) (C := xR_Gr) (T := xT_Gr) (N := 2) hx hb hT xi_Gr hown hK.1 hP ym0 yc0 rfl 1 (by decide) (hT _ yl_0) (fun _ h9 => h9) rfl xd_Gr_covers_1 ?_
  refine lv_if_ne (tgt := 18) hx hb xd_Gr_covers_4 (by decide) (fun hc1 => ?_) (fun hc1 => ?_)
  · refine lv_iconst (v := 1) hx hb xd_Gr_covers_18 (by decide) ?_
    refine lv_goto (tgt := 23) hx hb xd_Gr_covers_19 (by decide) ?_
    exact W.zret (v := 1) hx hb hr rfl (fun t ht hW => ⟨⟨1, (), rfl, Or.inl ⟨rfl, Or.inl hc1⟩, by rw [ht]; exact hP, hD⟩, hS.F ht⟩) hS.2.2 xd_Gr_covers_23
  · refine lv_aload_n hx hb xd_Gr_covers_7 rfl (lv_at hl 0 rfl) ?_
    refine px_get (D := D) (ci := 9) (v := .ref (ad b gn)) (C := xR_Gr) (T := xT_Gr) (N := 2) hx hb hT xi_Gr hown hK.1 hP ym0 yc0 rfl 0 (by decide) (hT _ yl_1) (fun _ h9 => h9) rfl xd_Gr_covers_8 ?_
    refine lv_iload_n hx hb xd_Gr_covers_11 rfl (lv_at hl 1 rfl) ?_
    have hFc := px_free hD hS hA
    refine va_calli (va_runV (As := [.int nm]) (rest := []) ⟨hx, hb, hml, hown, hT⟩ (xc_Na_indexOf l D kA s.heap.size ad E RL b gn ga 3 n f nm ym1 yc1 ym2 yc2 (by first | assumption | omega) (by first | assumption | omega)) (cwV 1 hT (wT_V yl_3 yl_4 yl_5 yl_6 yl_2) rfl rfl rfl (by decide +kernel) ⟨Nat.le_of_ble_eq_true rfl, Nat.le_of_ble_eq_true rfl⟩) (px_preV hK hP hD ym1 yc1 rfl) rfl rfl hl.1 rfl (lv_room (Nat.le_of_ble_eq_true rfl)) xd_Gr_covers_12 ⟨(Nat.le_of_ble_eq_true rfl), (Nat.le_of_ble_eq_true rfl)⟩) hS (fun q _ h => hFc q h) hFc (fun r2 u3 t H1 locs ht hvm hp4 hB hz1 hk1 hS => ?_)
    obtain ⟨hP1, hD1⟩ := hB
    rw [ht] at hP1
    have hD1 := hD1.weaken (fun _ _ _ h => hFc _ h)
    generalize H1 = H at hP1 hS ⊢
    have hP := hP1
    have hD := hD1
    have hP : va_P D xcl (rp ad E RL) H := hP
    have hD : va_D A (rp ad E RL) := hD
    rcases hp4 with ⟨z5, z6, rfl, z7, z8⟩ | ⟨rfl, z9⟩
    · refine W.eq (g2 := F0 m 15 ls [.int (nI z5)]) rfl ?_
      refine xz_lt (a := z5) (tgt := 22) hx hb xd_Gr_covers_15 (by decide) (by omega) ?_
      refine lv_iconst (v := 1) hx hb xd_Gr_covers_18 (by decide) ?_
      refine lv_goto (tgt := 23) hx hb xd_Gr_covers_19 (by decide) ?_
      exact W.zret (v := 1) hx hb hr rfl (fun t ht hW => ⟨⟨1, (), rfl, Or.inl ⟨rfl, Or.inr ⟨z5, z6, z7⟩⟩, by rw [ht]; exact hP, hD⟩, hS.F ht⟩) hS.2.2 xd_Gr_covers_23
    · refine W.eq (g2 := F0 m 15 ls [.int (-1)]) rfl ?_
      refine lv_if_lt (tgt := 22) hx hb xd_Gr_covers_15 (by decide) (fun _ => ?_) (fun hc11 => absurd (by decide) hc11)
      refine lv_iconst (v := 0) hx hb xd_Gr_covers_22 (by decide) ?_
      exact W.zret (v := 0) hx hb hr rfl (fun t ht hW => ⟨⟨0, (), rfl, Or.inr ⟨rfl, hc1, z9⟩, by rw [ht]; exact hP, hD⟩, hS.F ht⟩) hS.2.2 xd_Gr_covers_23
set_option maxHeartbeats 4000000 in
set_option maxRecDepth 100000 in
theorem xc_Gr_hasRoomFor (l : Launch) (D : va_G) (kA : Nat → ClassId) (sz : Nat) (ad : Nat → Nat → Nat) (E : Nat → Nat → va_E) (RL : List (Nat × Nat)) (b : Nat) (g : Nat) (gn : Nat) (ga : Nat) (ta : Int32) (n : Nat) (f : Nat → Int32) (nm : Int32) (ym0 : (b, g) ∈ RL) (yc0 : E b g = .inr (9, [.ref (ad b gn), .int ta])) (ym1 : (b, gn) ∈ RL) (yc1 : E b gn = .inr (8, [.ref (ad b ga), .int (nI n)])) (ym2 : (b, ga) ∈ RL) (yc2 : E b ga = .inl (kA 0, 3, .inl f)) (hn3 : n ≤ 3) : Met l xy_Gr_hasRoomFor (.code xy_Gr_hasRoomFor xb_Gr_hasRoomFor 2 (some .boolean) :: wT) { frames := 2, cells := 0, slots := 0, locals := 43 } (va_Pc [.ref (ad b g), .int nm] (xPre D kA sz (rp ad E RL))) (va_Qi (fun (r : Int32) (u : Unit) => r = 0 ∨ r = 1) (fun (u : Unit) t => va_P D xcl (rp ad E RL) t.heap ∧ va_D (va_A (rp ad E RL) sz) (rp ad E RL)) (va_A (rp ad E RL) sz)) 0 0 (va_A (rp ad E RL) sz) := by
  refine Met.ofW (cc := xb_Gr_hasRoomFor) (maxL := 2) (ret := (some .boolean)) (by decide) rfl ?_
  intro p e s m args below meth c s₁ B hml hv
  obtain ⟨rfl, hsz, hP, hK, hD0⟩ := hv
  have hx := B.exec
  have hb := B.bytes
  have hr := B.returns
  have hT := x_hT B.pre
  have hown : s.vm.findClass xR_Gr = some m.cls := findClass_of_methodNamed B.named
  have hlocks := B.notSynchronized
  subst hsz
  have hD := hD0.self (sz := s.heap.size)
  generalize hAe : va_A (rp ad E RL) s.heap.size = A at hD ⊢
  have hA : ∀ q : Nat, s.heap.size ≤ q → A q := fun q h => by rw [← hAe]; exact Or.inr h
  have hS : va_S A s.heap s.heap [] := va_S.rf
  have hl := lv_entry ([.ref (ad b g), .int nm]) (n := 2) (Nat.le_of_ble_eq_true rfl)
  rw [lg_entry_eq]
  generalize (lg_sl ([.ref (ad b g), .int nm]) ++ List.replicate (2 - (lg_sl ([.ref (ad b g), .int nm])).length) Slot.unset).toArray = ls at hl ⊢
  have hl : lv_has ls 2 [(0, .ref (ad b g)), (1, .int nm)] := hl
  have hP : va_P D xcl (rp ad E RL) s.heap := hP
  refine lv_iload_n hx hb xd_Gr_hasRoomFor_0 rfl (lv_at hl 1 rfl) ?_
  refine lv_if_eq (tgt := 22) hx hb xd_Gr_hasRoomFor_1 (by decide) (fun hc1 => ?_) (fun hc1 => ?_)
  · refine lv_iconst (v := 1) hx hb xd_Gr_hasRoomFor_22 (by decide) ?_
    refine lv_goto (tgt := 27) hx hb xd_Gr_hasRoomFor_23 (by decide) ?_
    exact W.zret (v := 1) hx hb hr rfl (fun t ht hW => ⟨⟨1, (), rfl, Or.inr rfl, by rw [ht]; exact hP, hD⟩, hS.F ht⟩) hS.2.2 xd_Gr_hasRoomFor_27
  · refine lv_aload_n hx hb xd_Gr_hasRoomFor_4 rfl (lv_at hl 0 rfl) ?_
    refine lv_iload_n hx hb xd_Gr_hasRoomFor_5 rfl (lv_at hl 1 rfl) ?_
    have hFc := px_free hD hS hA
    refine va_calli (va_runV (As := [.int nm]) (rest := []) ⟨hx, hb, hml, hown, hT⟩ (xc_Gr_covers l D kA s.heap.size ad E RL b g gn ga ta n f nm ym0 yc0 ym1 yc1 ym2 yc2 (by first | assumption | omega)) (cwV 1 hT (wT_V yl_8 yl_9 yl_10 yl_11 yl_7) rfl rfl rfl (by decide +kernel) ⟨Nat.le_of_ble_eq_true rfl, Nat.le_of_ble_eq_true rfl⟩) (px_preV hK hP hD ym0 yc0 rfl) rfl rfl hl.1 rfl (lv_room (Nat.le_of_ble_eq_true rfl)) xd_Gr_hasRoomFor_6 ⟨(Nat.le_of_ble_eq_true rfl), (Nat.le_of_ble_eq_true rfl)⟩) hS (fun q _ h => hFc q h) hFc (fun r2 u3 t H1 locs ht hvm hp4 hB hz1 hk1 hS => ?_)
    obtain ⟨hP1, hD1⟩ := hB
    rw [ht] at hP1
    have hD1 := hD1.weaken (fun _ _ _ h => hFc _ h)
    generalize H1 = H at hP1 hS ⊢
    have hP := hP1
    have hD := hD1
    have hP : va_P D xcl (rp ad E RL) H := hP
    have hD : va_D A (rp ad E RL) := hD
    rcases hp4 with ⟨rfl, z5⟩ | ⟨rfl, z6, z7⟩
    · refine W.eq (g2 := F0 m 9 ls [.int 1]) rfl ?_
      refine lv_if_ne (tgt := 22) hx hb xd_Gr_hasRoomFor_9 (by decide) (fun _ => ?_) (fun hc8 => absurd hc8 (by decide))
      refine lv_iconst (v := 1) hx hb xd_Gr_hasRoomFor_22 (by decide) ?_
      refine lv_goto (tgt := 27) hx hb xd_Gr_hasRoomFor_23 (by decide) ?_
      exact W.zret (v := 1) hx hb hr rfl (fun t ht hW => ⟨⟨1, (), rfl, Or.inr rfl, by rw [ht]; exact hP, hD⟩, hS.F ht⟩) hS.2.2 xd_Gr_hasRoomFor_27
    · refine W.eq (g2 := F0 m 9 ls [.int 0]) rfl ?_
      refine lv_if_ne (tgt := 22) hx hb xd_Gr_hasRoomFor_9 (by decide) (fun hc9 => absurd (by decide) hc9) (fun _ => ?_)
      refine lv_aload_n hx hb xd_Gr_hasRoomFor_12 rfl (lv_at hl 0 rfl) ?_
      refine px_get (D := D) (ci := 9) (v := .ref (ad b gn)) (C := xR_Gr) (T := xT_Gr) (N := 2) hx hb hT xi_Gr hown hK.1 hP ym0 yc0 rfl 0 (by decide) (hT _ yl_1) (fun _ h9 => h9) rfl xd_Gr_hasRoomFor_13 ?_
      have hFc := px_free hD hS hA
      refine va_calli (va_runV (As := []) (rest := []) ⟨hx, hb, hml, hown, hT⟩ (xc_Na_isFull l D kA H.size ad E RL b gn ga 3 n f ym1 yc1 ym2 yc2 (by first | assumption | omega) (by first | assumption | omega)) (cwV 0 hT (wT_V yl_13 yl_14 yl_15 yl_6 yl_12) rfl rfl rfl (by decide +kernel) ⟨Nat.le_of_ble_eq_true rfl, Nat.le_of_ble_eq_true rfl⟩) (px_preV hK hP hD ym1 yc1 rfl) rfl rfl hl.1 rfl (lv_room (Nat.le_of_ble_eq_true rfl)) xd_Gr_hasRoomFor_16 ⟨(Nat.le_of_ble_eq_true rfl), (Nat.le_of_ble_eq_true rfl)⟩) hS (fun q _ h => hFc q h) hFc (fun r10 u11 t H1 locs ht hvm hp12 hB hz1 hk1 hS => ?_)
      obtain ⟨hP1, hD1⟩ := hB
      rw [ht] at hP1
      have hD1 := hD1.weaken (fun _ _ _ h => hFc _ h)
      generalize H1 = H at hP1 hS ⊢
      have hP := hP1
      have hD := hD1
      have hP : va_P D xcl (rp ad E RL) H := hP
      have hD : va_D A (rp ad E RL) := hD
      rcases hp12 with ⟨rfl, z13⟩ | ⟨rfl, z14⟩
      · refine W.eq (g2 := F0 m 19 ls [.int 1]) rfl ?_
        refine lv_if_ne (tgt := 26) hx hb xd_Gr_hasRoomFor_19 (by decide) (fun _ => ?_) (fun hc15 => absurd hc15 (by decide))
        refine lv_iconst (v := 0) hx hb xd_Gr_hasRoomFor_26 (by decide) ?_
        exact W.zret (v := 0) hx hb hr rfl (fun t ht hW => ⟨⟨0, (), rfl, Or.inl rfl, by rw [ht]; exact hP, hD⟩, hS.F ht⟩) hS.2.2 xd_Gr_hasRoomFor_27
      · refine W.eq (g2 := F0 m 19 ls [.int 0]) rfl ?_
        refine lv_if_ne (tgt := 26) hx hb xd_Gr_hasRoomFor_19 (by decide) (fun hc16 => absurd (by decide) hc16) (fun _ => ?_)
        refine lv_iconst (v := 1) hx hb xd_Gr_hasRoomFor_22 (by decide) ?_
        refine lv_goto (tgt := 27) hx hb xd_Gr_hasRoomFor_23 (by decide) ?_
        exact W.zret (v := 1) hx hb hr rfl (fun t ht hW => ⟨⟨1, (), rfl, Or.inr rfl, by rw [ht]; exact hP, hD⟩, hS.F ht⟩) hS.2.2 xd_Gr_hasRoomFor_27
set_option maxHeartbeats 4000000 in
set_option maxRecDepth 100000 in
theorem xc_Gr_extendTo (l : Launch) (D : va_G) (kA : Nat → ClassId) (sz : Nat) (ad : Nat → Nat → Nat) (E : Nat → Nat → va_E) (RL : List (Nat × Nat)) (b : Nat) (g : Nat) (gn : Nat) (ga : Nat) (ta : Int32) (n : Nat) (f : Nat → Int32) (nm : Int32) (ym0 : (b, g) ∈ RL) (yc0 : E b g = .inr (9, [.ref (ad b gn), .int ta])) (ym1 : (b, gn) ∈ RL) (yc1 : E b gn = .inr (8, [.ref (ad b ga), .int (nI n)])) (ym2 : (b, ga) ∈ RL) (yc2 : E b ga = .inl (kA 0, 3, .inl f)) (hn3 : n ≤ 3) (hgd : g ≠ gn ∧ gn ≠ ga ∧ g ≠ ga) : Met l xy_Gr_extendTo (.code xy_Gr_extendTo xb_Gr_extendTo 2 none :: wT) { frames := 2, cells := 0, slots := 0, locals := 43 } (va_Pc [.ref (ad b g), .int nm] (xPre D kA sz (rp ad E RL))) (va_Qv (fun (u : Nat → Nat → va_E) => ∃ ta2 : Int32, ∃ n2 : Nat, ∃ f2 : Nat → Int32, (n2 ≤ 3) ∧ (u b g = .inr (9, [.ref (ad b gn), .int ta2])) ∧ (u b gn = .inr (8, [.ref (ad b ga), .int (nI n2)])) ∧ (u b ga = .inl (kA 0, 3, .inl f2)) ∧ ((∀ b2 o2, ¬ (b2 = b ∧ o2 = g) → ¬ (b2 = b ∧ o2 = gn) → ¬ (b2 = b ∧ o2 = ga) → u b2 o2 = E b2 o2))) (fun (u : Nat → Nat → va_E) t => va_P D xcl (rp ad u RL) t.heap ∧ va_D (va_A (rp ad E RL) sz) (rp ad u RL)) (va_A (rp ad E RL) sz)) 0 0 (va_A (rp ad E RL) sz) := by
  refine Met.ofW (cc := xb_Gr_extendTo) (maxL := 2) (ret := none) (by decide) rfl ?_
  intro p e s m args below meth c s₁ B hml hv
  obtain ⟨rfl, hsz, hP, hK, hD0⟩ := hv
  have hx := B.exec
  have hb := B.bytes
  have hr := B.returns
  have hT := x_hT B.pre
  have hown : s.vm.findClass xR_Gr = some m.cls := findClass_of_methodNamed B.named
  have hlocks := B.notSynchronized
  subst hsz
  have hD := hD0.self (sz := s.heap.size)
  generalize hAe : va_A (rp ad E RL) s.heap.size = A at hD ⊢
  have hA : ∀ q : Nat, s.heap.size ≤ q → A q := fun q h => by rw [← hAe]; exact Or.inr h
  have hS : va_S A s.heap s.heap [] := va_S.rf
  have hl := lv_entry ([.ref (ad b g), .int nm]) (n := 2) (Nat.le_of_ble_eq_true rfl)
  rw [lg_entry_eq]
  generalize (lg_sl ([.ref (ad b g), .int nm]) ++ List.replicate (2 - (lg_sl ([.ref (ad b g), .int nm])).length) Slot.unset).toArray = ls at hl ⊢
  have hl : lv_has ls 2 [(0, .ref (ad b g)), (1, .int nm)] := hl
  have hP : va_P D xcl (rp ad E RL) s.heap := hP
  refine lv_iload_n hx hb xd_Gr_extendTo_0 rfl (lv_at hl 1 rfl) ?_
  refine lv_if_ne (tgt := 12) hx hb xd_Gr_extendTo_1 (by decide) (fun hc1 => ?_) (fun hc1 => ?_)
  · refine lv_aload_n hx hb xd_Gr_extendTo_12 rfl (lv_at hl 0 rfl) ?_
    refine lv_iload_n hx hb xd_Gr_extendTo_13 rfl (lv_at hl 1 rfl) ?_
    have hFc := px_free hD hS hA
    refine va_calli (va_runV (As := [.int nm]) (rest := []) ⟨hx, hb, hml, hown, hT⟩ (xc_Gr_covers l D kA s.heap.size ad E RL b g gn ga ta n f nm ym0 yc0 ym1 yc1 ym2 yc2 (by first | assumption | omega)) (cwV 1 hT (wT_V yl_8 yl_9 yl_10 yl_11 yl_7) rfl rfl rfl (by decide +kernel) ⟨Nat.le_of_ble_eq_true rfl, Nat.le_of_ble_eq_true rfl⟩) (px_preV hK hP hD ym0 yc0 rfl) rfl rfl hl.1 rfl (lv_room (Nat.le_of_ble_eq_true rfl)) xd_Gr_extendTo_14 ⟨(Nat.le_of_ble_eq_true rfl), (Nat.le_of_ble_eq_true rfl)⟩) hS (fun q _ h => hFc q h) hFc (fun r2 u3 t H1 locs ht hvm hp4 hB hz1 hk1 hS => ?_)
    obtain ⟨hP1, hD1⟩ := hB
    rw [ht] at hP1
    have hD1 := hD1.weaken (fun _ _ _ h => hFc _ h)
    generalize H1 = H at hP1 hS ⊢
    have hP := hP1
    have hD := hD1
    have hP : va_P D xcl (rp ad E RL) H := hP
    have hD : va_D A (rp ad E RL) := hD
    rcases hp4 with ⟨rfl, z5⟩ | ⟨rfl, z6, z7⟩
    · refine W.eq (g2 := F0 m 17 ls [.int 1]) rfl ?_
      refine lv_if_ne (tgt := 28) hx hb xd_Gr_extendTo_17 (by decide) (fun _ => ?_) (fun hc8 => absurd hc8 (by decide))
      exact W.vret hx hb hr (fun t ht hW => ⟨⟨E, rfl, ⟨ta, n, f, (by omega), yc0, yc1, yc2, (fun b2 o2 h09 h19 h29 => rfl)⟩, by rw [ht]; exact hP, hD⟩, hS.F ht⟩) hS.2.2 xd_Gr_extendTo_28
    · refine W.eq (g2 := F0 m 17 ls [.int 0]) rfl ?_
      refine lv_if_ne (tgt := 28) hx hb xd_Gr_extendTo_17 (by decide) (fun hc9 => absurd (by decide) hc9) (fun _ => ?_)
      refine lv_aload_n hx hb xd_Gr_extendTo_20 rfl (lv_at hl 0 rfl) ?_
      refine px_get (D := D) (ci := 9) (v := .ref (ad b gn)) (C := xR_Gr) (T := xT_Gr) (N := 2) hx hb hT xi_Gr hown hK.1 hP ym0 yc0 rfl 0 (by decide) (hT _ yl_1) (fun _ h9 => h9) rfl xd_Gr_extendTo_21 ?_
      refine lv_iload_n hx hb xd_Gr_extendTo_24 rfl (lv_at hl 1 rfl) ?_
      have hFc := px_free hD hS hA
      refine va_callv (va_runV (As := [.int nm]) (rest := []) ⟨hx, hb, hml, hown, hT⟩ (xc_Na_append l D kA H.size ad E RL b gn ga 3 n f nm ym1 yc1 ym2 yc2 (by first | assumption | omega) (by first | assumption | omega) (by first | assumption | omega)) (cwV 1 hT (wT_V yl_17 yl_18 yl_19 yl_6 yl_16) rfl rfl rfl (by decide +kernel) ⟨Nat.le_of_ble_eq_true rfl, Nat.le_of_ble_eq_true rfl⟩) (px_preV hK hP hD ym1 yc1 rfl) rfl rfl hl.1 rfl (lv_room (Nat.le_of_ble_eq_true rfl)) xd_Gr_extendTo_25 ⟨(Nat.le_of_ble_eq_true rfl), (Nat.le_of_ble_eq_true rfl)⟩) hS (fun q _ h => hFc q h) hFc (fun u11 t H1 locs ht hvm hp12 hB hz1 hk1 hS => ?_)
      obtain ⟨hP1, hD1⟩ := hB
      rw [ht] at hP1
      have hD1 := hD1.weaken (fun _ _ _ h => hFc _ h)
      generalize H1 = H at hP1 hS ⊢
      have hP := hP1
      have hD := hD1
      obtain ⟨E13, rfl⟩ : ∃ z, z = u11 := ⟨_, rfl⟩
      obtain ⟨w14, w15, hp19, p_16, p_17, p_18⟩ := hp12
      have p_16 : E13 b gn = .inr (8, [.ref (ad b ga), .int (nI w14)]) := p_16
      have p_17 : E13 b ga = .inl (kA 0, 3, .inl w15) := p_17
      have p_18 : (∀ b2 o2, ¬ (b2 = b ∧ o2 = gn) → ¬ (b2 = b ∧ o2 = ga) → E13 b2 o2 = E b2 o2) := p_18
      have c_20 : E13 b g = .inr (9, [.ref (ad b gn), .int ta]) := (p_18 b g (by omega) (by omega)).trans yc0
      have hP : va_P D xcl (rp ad E13 RL) H := hP
      have hD : va_D A (rp ad E13 RL) := hD
      exact W.vret hx hb hr (fun t ht hW => ⟨⟨E13, rfl, ⟨ta, w14, w15, (by omega), c_20, p_16, p_17, (fun b2 o2 h09 h19 h29 => by show E13 b2 o2 = _; rw [p_18 b2 o2 (by omega) (by omega)])⟩, by rw [ht]; exact hP, hD⟩, hS.F ht⟩) hS.2.2 xd_Gr_extendTo_28
  · refine lv_aload_n hx hb xd_Gr_extendTo_4 rfl (lv_at hl 0 rfl) ?_
    refine lv_iconst (v := 1) hx hb xd_Gr_extendTo_5 (by decide) ?_
    refine px_put (D := D) (ci := 9) (v := .int 1) (ty := .boolean) (C := xR_Gr) (T := xT_Gr) (N := 2) hx hb hT xi_Gr xt_Gr xt_Gr_ok xn_Gr hown hK.1 hP hD hS ym0 yc0 rfl 1 (by decide) (hT _ yl_0) (fun _ h9 => h9) rfl (by decide +kernel) rfl rfl (Nat.le_of_ble_eq_true rfl) xd_Gr_extendTo_6 (fun H locs hP hD hS => ?_)
    have hP : va_P D xcl (rp ad (up2 E b g (.inr (9, [.ref (ad b gn), .int 1]))) RL) H := hP
    have hD : va_D A (rp ad (up2 E b g (.inr (9, [.ref (ad b gn), .int 1]))) RL) := hD
    generalize hE22 : up2 E b g (.inr (9, [.ref (ad b gn), .int 1])) = E21 at hP hD
    have fE23 : ∀ b2 o2, ¬ (b2 = b ∧ o2 = g) → E21 b2 o2 = E b2 o2 := fun b2 o2 h9 => by rw [← hE22]; exact up2_ne (by omega)
    have c_24 : E21 b g = .inr (9, [.ref (ad b gn), .int 1]) := by rw [← hE22]; exact up2_eq
    have c_25 : E21 b gn = .inr (8, [.ref (ad b ga), .int (nI n)]) := (fE23 b gn (by omega)).trans yc1
    have c_26 : E21 b ga = .inl (kA 0, 3, .inl f) := (fE23 b ga (by omega)).trans yc2
    refine lv_goto (tgt := 28) hx hb xd_Gr_extendTo_9 (by decide) ?_
    exact W.vret hx hb hr (fun t ht hW => ⟨⟨E21, rfl, ⟨1, n, f, (by omega), c_24, c_25, c_26, (fun b2 o2 h09 h19 h29 => by show E21 b2 o2 = _; rw [fE23 b2 o2 (by omega)])⟩, by rw [ht]; exact hP, hD⟩, hS.F ht⟩) hS.2.2 xd_Gr_extendTo_28
