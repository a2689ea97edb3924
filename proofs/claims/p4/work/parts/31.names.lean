abbrev xb_Na_at : ByteArray := prog_8_method_2_code
def xy_Na_at : MethodName := ⟨"LayerDesk$Names", "at", "(I)I"⟩
abbrev xb_Na_indexOf : ByteArray := prog_8_method_3_code
def xy_Na_indexOf : MethodName := ⟨"LayerDesk$Names", "indexOf", "(I)I"⟩
abbrev xb_Na_holds : ByteArray := prog_8_method_4_code
def xy_Na_holds : MethodName := ⟨"LayerDesk$Names", "holds", "(I)Z"⟩
abbrev xb_Na_isFull : ByteArray := prog_8_method_5_code
def xy_Na_isFull : MethodName := ⟨"LayerDesk$Names", "isFull", "()Z"⟩
abbrev xb_Na_append : ByteArray := prog_8_method_6_code
def xy_Na_append : MethodName := ⟨"LayerDesk$Names", "append", "(I)V"⟩
theorem xd_Na_append_0 : decode xb_Na_append 0 = .ok (.aload_n 0, 1) := by decide +kernel
theorem xd_Na_append_1 : decode xb_Na_append 1 = .ok (.invokevirtual 23, 3) := by decide +kernel
theorem xd_Na_append_4 : decode xb_Na_append 4 = .ok (.ifCond .ne 23, 3) := by decide +kernel
theorem xd_Na_append_7 : decode xb_Na_append 7 = .ok (.aload_n 0, 1) := by decide +kernel
theorem xd_Na_append_8 : decode xb_Na_append 8 = .ok (.getfield 7, 3) := by decide +kernel
theorem xd_Na_append_11 : decode xb_Na_append 11 = .ok (.aload_n 0, 1) := by decide +kernel
theorem xd_Na_append_12 : decode xb_Na_append 12 = .ok (.getfield 13, 3) := by decide +kernel
theorem xd_Na_append_15 : decode xb_Na_append 15 = .ok (.iload_n 1, 1) := by decide +kernel
theorem xd_Na_append_16 : decode xb_Na_append 16 = .ok (.iastore, 1) := by decide +kernel
theorem xd_Na_append_17 : decode xb_Na_append 17 = .ok (.aload_n 0, 1) := by decide +kernel
theorem xd_Na_append_18 : decode xb_Na_append 18 = .ok (.dup, 1) := by decide +kernel
theorem xd_Na_append_19 : decode xb_Na_append 19 = .ok (.getfield 13, 3) := by decide +kernel
theorem xd_Na_append_22 : decode xb_Na_append 22 = .ok (.iconst 1, 1) := by decide +kernel
theorem xd_Na_append_23 : decode xb_Na_append 23 = .ok (.iadd, 1) := by decide +kernel
theorem xd_Na_append_24 : decode xb_Na_append 24 = .ok (.putfield 13, 3) := by decide +kernel
theorem xd_Na_append_27 : decode xb_Na_append 27 = .ok (.return_, 1) := by decide +kernel
theorem xd_Na_at_0 : decode xb_Na_at 0 = .ok (.iload_n 1, 1) := by decide +kernel
theorem xd_Na_at_1 : decode xb_Na_at 1 = .ok (.ifCond .lt 11, 3) := by decide +kernel
theorem xd_Na_at_4 : decode xb_Na_at 4 = .ok (.iload_n 1, 1) := by decide +kernel
theorem xd_Na_at_5 : decode xb_Na_at 5 = .ok (.aload_n 0, 1) := by decide +kernel
theorem xd_Na_at_6 : decode xb_Na_at 6 = .ok (.getfield 13, 3) := by decide +kernel
theorem xd_Na_at_9 : decode xb_Na_at 9 = .ok (.if_icmp .lt 7, 3) := by decide +kernel
theorem xd_Na_at_12 : decode xb_Na_at 12 = .ok (.iconst 0, 1) := by decide +kernel
theorem xd_Na_at_13 : decode xb_Na_at 13 = .ok (.goto 9, 3) := by decide +kernel
theorem xd_Na_at_16 : decode xb_Na_at 16 = .ok (.aload_n 0, 1) := by decide +kernel
theorem xd_Na_at_17 : decode xb_Na_at 17 = .ok (.getfield 7, 3) := by decide +kernel
theorem xd_Na_at_20 : decode xb_Na_at 20 = .ok (.iload_n 1, 1) := by decide +kernel
theorem xd_Na_at_21 : decode xb_Na_at 21 = .ok (.iaload, 1) := by decide +kernel
theorem xd_Na_at_22 : decode xb_Na_at 22 = .ok (.ireturn, 1) := by decide +kernel
theorem xd_Na_holds_0 : decode xb_Na_holds 0 = .ok (.aload_n 0, 1) := by decide +kernel
theorem xd_Na_holds_1 : decode xb_Na_holds 1 = .ok (.iload_n 1, 1) := by decide +kernel
theorem xd_Na_holds_2 : decode xb_Na_holds 2 = .ok (.invokevirtual 19, 3) := by decide +kernel
theorem xd_Na_holds_5 : decode xb_Na_holds 5 = .ok (.ifCond .lt 7, 3) := by decide +kernel
theorem xd_Na_holds_8 : decode xb_Na_holds 8 = .ok (.iconst 1, 1) := by decide +kernel
theorem xd_Na_holds_9 : decode xb_Na_holds 9 = .ok (.goto 4, 3) := by decide +kernel
theorem xd_Na_holds_12 : decode xb_Na_holds 12 = .ok (.iconst 0, 1) := by decide +kernel
theorem xd_Na_holds_13 : decode xb_Na_holds 13 = .ok (.ireturn, 1) := by decide +kernel
theorem xd_Na_indexOf_0 : decode xb_Na_indexOf 0 = .ok (.iconst 0, 1) := by decide +kernel
theorem xd_Na_indexOf_1 : decode xb_Na_indexOf 1 = .ok (.istore_n 2, 1) := by decide +kernel
theorem xd_Na_indexOf_2 : decode xb_Na_indexOf 2 = .ok (.iload_n 2, 1) := by decide +kernel
theorem xd_Na_indexOf_3 : decode xb_Na_indexOf 3 = .ok (.aload_n 0, 1) := by decide +kernel
theorem xd_Na_indexOf_4 : decode xb_Na_indexOf 4 = .ok (.getfield 13, 3) := by decide +kernel
theorem xd_Na_indexOf_7 : decode xb_Na_indexOf 7 = .ok (.if_icmp .ge 21, 3) := by decide +kernel
theorem xd_Na_indexOf_10 : decode xb_Na_indexOf 10 = .ok (.aload_n 0, 1) := by decide +kernel
theorem xd_Na_indexOf_11 : decode xb_Na_indexOf 11 = .ok (.getfield 7, 3) := by decide +kernel
theorem xd_Na_indexOf_14 : decode xb_Na_indexOf 14 = .ok (.iload_n 2, 1) := by decide +kernel
theorem xd_Na_indexOf_15 : decode xb_Na_indexOf 15 = .ok (.iaload, 1) := by decide +kernel
theorem xd_Na_indexOf_16 : decode xb_Na_indexOf 16 = .ok (.iload_n 1, 1) := by decide +kernel
theorem xd_Na_indexOf_17 : decode xb_Na_indexOf 17 = .ok (.if_icmp .ne 5, 3) := by decide +kernel
theorem xd_Na_indexOf_20 : decode xb_Na_indexOf 20 = .ok (.iload_n 2, 1) := by decide +kernel
theorem xd_Na_indexOf_21 : decode xb_Na_indexOf 21 = .ok (.ireturn, 1) := by decide +kernel
theorem xd_Na_indexOf_22 : decode xb_Na_indexOf 22 = .ok (.iinc 2 1, 3) := by decide +kernel
theorem xd_Na_indexOf_25 : decode xb_Na_indexOf 25 = .ok (.goto (-23), 3) := by decide +kernel
theorem xd_Na_indexOf_28 : decode xb_Na_indexOf 28 = .ok (.iconst (-1), 1) := by decide +kernel
theorem xd_Na_indexOf_29 : decode xb_Na_indexOf 29 = .ok (.ireturn, 1) := by decide +kernel
theorem xd_Na_isFull_0 : decode xb_Na_isFull 0 = .ok (.aload_n 0, 1) := by decide +kernel
theorem xd_Na_isFull_1 : decode xb_Na_isFull 1 = .ok (.getfield 13, 3) := by decide +kernel
theorem xd_Na_isFull_4 : decode xb_Na_isFull 4 = .ok (.aload_n 0, 1) := by decide +kernel
theorem xd_Na_isFull_5 : decode xb_Na_isFull 5 = .ok (.getfield 7, 3) := by decide +kernel
theorem xd_Na_isFull_8 : decode xb_Na_isFull 8 = .ok (.arraylength, 1) := by decide +kernel
theorem xd_Na_isFull_9 : decode xb_Na_isFull 9 = .ok (.if_icmp .lt 7, 3) := by decide +kernel
theorem xd_Na_isFull_12 : decode xb_Na_isFull 12 = .ok (.iconst 1, 1) := by decide +kernel
theorem xd_Na_isFull_13 : decode xb_Na_isFull 13 = .ok (.goto 4, 3) := by decide +kernel
theorem xd_Na_isFull_16 : decode xb_Na_isFull 16 = .ok (.iconst 0, 1) := by decide +kernel
theorem xd_Na_isFull_17 : decode xb_Na_isFull 17 = .ok (.ireturn, 1) := by decide +kernel
theorem yk_0 : (Cond.fieldLink "LayerDesk$Names" 13 "LayerDesk$Names" "size" "I") ∈ wT := wT_t (List.mem_append_right _ (List.mem_append_left _ (List.mem_of_getElem? (i := 34) rfl))) rfl
theorem yk_1 : (Cond.fieldLink "LayerDesk$Names" 7 "LayerDesk$Names" "entries" "[I") ∈ wT := wT_t (List.mem_append_right _ (List.mem_append_left _ (List.mem_of_getElem? (i := 33) rfl))) rfl
theorem yk_2 : (Cond.code xy_Na_indexOf xb_Na_indexOf 3 (some .int)) ∈ wT := wT_t (List.mem_append_right _ (List.mem_append_left _ (List.mem_of_getElem? (i := 127) rfl))) rfl
theorem yk_3 : (Cond.methodLink "LayerDesk$Names" 19 xy_Na_indexOf) ∈ wT := wT_t (List.mem_append_right _ (List.mem_append_left _ (List.mem_of_getElem? (i := 124) rfl))) rfl
theorem yk_4 : (Cond.instanceMethod xy_Na_indexOf) ∈ wT := wT_t (List.mem_append_right _ (List.mem_append_left _ (List.mem_of_getElem? (i := 125) rfl))) rfl
theorem yk_5 : (Cond.selects "LayerDesk$Names" xy_Na_indexOf xy_Na_indexOf) ∈ wT := wT_t (List.mem_append_right _ (List.mem_append_left _ (List.mem_of_getElem? (i := 126) rfl))) rfl
theorem yk_6 : (Cond.initialized "LayerDesk$Names") ∈ wT := wT_t (List.mem_append_left _ (List.mem_of_getElem? (i := 11) rfl)) rfl
theorem yk_7 : (Cond.code xy_Na_isFull xb_Na_isFull 1 (some .boolean)) ∈ wT := wT_t (List.mem_append_right _ (List.mem_append_left _ (List.mem_of_getElem? (i := 131) rfl))) rfl
theorem yk_8 : (Cond.methodLink "LayerDesk$Names" 23 xy_Na_isFull) ∈ wT := wT_t (List.mem_append_right _ (List.mem_append_left _ (List.mem_of_getElem? (i := 155) rfl))) rfl
theorem yk_9 : (Cond.instanceMethod xy_Na_isFull) ∈ wT := wT_t (List.mem_append_right _ (List.mem_append_left _ (List.mem_of_getElem? (i := 129) rfl))) rfl
theorem yk_10 : (Cond.selects "LayerDesk$Names" xy_Na_isFull xy_Na_isFull) ∈ wT := wT_t (List.mem_append_right _ (List.mem_append_left _ (List.mem_of_getElem? (i := 130) rfl))) rfl
set_option maxHeartbeats 4000000 in
set_option maxRecDepth 100000 in
theorem xc_Na_at (l : Launch) (D : va_G) (kA : Nat → ClassId) (sz : Nat) (ad : Nat → Nat → Nat) (E : Nat → Nat → va_E) (RL : List (Nat × Nat)) (b : Nat) (o : Nat) (oa : Nat) (cp : Nat) (n : Nat) (f : Nat → Int32) (k : Nat) (ym0 : (b, o) ∈ RL) (yc0 : E b o = .inr (8, [.ref (ad b oa), .int (nI n)])) (ym1 : (b, oa) ∈ RL) (yc1 : E b oa = .inl (kA 0, cp, .inl f)) (hn : n ≤ cp) (hcp : cp ≤ 12) (hk : k ≤ 100) : Met l xy_Na_at (.code xy_Na_at xb_Na_at 2 (some .int) :: wT) { frames := 0, cells := 0, slots := 0, locals := 0 } (va_Pc [.ref (ad b o), .int (nI k)] (xPre D kA sz (rp ad E RL))) (va_Qi (fun (r : Int32) (u : Unit) => (k < n ∧ r = f k) ∨ (n ≤ k ∧ r = 0)) (fun (u : Unit) t => va_P D xcl (rp ad E RL) t.heap ∧ va_D (va_A (rp ad E RL) sz) (rp ad E RL)) (va_A (rp ad E RL) sz)) 0 0 (va_A (rp ad E RL) sz) := by
  refine Met.ofW (cc := xb_Na_at) (maxL := 2) (ret := (some .int)) (by decide) rfl ?_
  intro p e s m args below meth c s₁ B hml hv
  obtain ⟨rfl, hsz, hP, hK, hD0⟩ := hv
  have hx := B.exec
  have hb := B.bytes
  have hr := B.returns
  have hT := x_hT B.pre
  have hown : s.vm.findClass xR_Na = some m.cls := findClass_of_methodNamed B.named
  have hlocks := B.notSynchronized
  subst hsz
  have hD := hD0.self (sz := s.heap.size)
  generalize hAe : va_A (rp ad E RL) s.heap.size = A at hD ⊢
  have hA : ∀ q : Nat, s.heap.size ≤ q → A q := fun q h => by rw [← hAe]; exact Or.inr h
  have hS : va_S A s.heap s.heap [] := va_S.rf
  have hl := lv_entry ([.ref (ad b o), .int (nI k)]) (n := 2) (Nat.le_of_ble_eq_true rfl)
  rw [lg_entry_eq]
  generalize (lg_sl ([.ref (ad b o), .int (nI k)]) ++ List.replicate (2 - (lg_sl ([.ref (ad b o), .int (nI k)])).length) Slot.unset).toArray = ls at hl ⊢
  have hl : lv_has ls 2 [(0, .ref (ad b o)), (1, .int (nI k))] := hl
  have hP : va_P D xcl (rp ad E RL) s.heap := hP
  refine lv_iload_n hx hb xd_Na_at_0 rfl (lv_at hl 1 rfl) ?_
  refine xz_lt (a := k) (tgt := 12) hx hb xd_Na_at_1 (by decide) (by omega) ?_
  refine lv_iload_n hx hb xd_Na_at_4 rfl (lv_at hl 1 rfl) ?_
  refine lv_aload_n hx hb xd_Na_at_5 rfl (lv_at hl 0 rfl) ?_
  refine px_get (D := D) (ci := 8) (v := .int (nI n)) (C := xR_Na) (T := xT_Na) (N := 2) hx hb hT xi_Na hown hK.1 hP ym0 yc0 rfl 1 (by decide) (hT _ yk_0) (fun _ h9 => h9) rfl xd_Na_at_6 ?_
  refine xn_lt (a := k) (b := n) (tgt := 16) hx hb xd_Na_at_9 (by decide) (by omega) (by omega) (fun hc2 => ?_) (fun hc2 => ?_)
  · refine lv_aload_n hx hb xd_Na_at_16 rfl (lv_at hl 0 rfl) ?_
    refine px_get (D := D) (ci := 8) (v := .ref (ad b oa)) (C := xR_Na) (T := xT_Na) (N := 2) hx hb hT xi_Na hown hK.1 hP ym0 yc0 rfl 0 (by decide) (hT _ yk_1) (fun _ h9 => h9) rfl xd_Na_at_17 ?_
    refine lv_iload_n hx hb xd_Na_at_20 rfl (lv_at hl 1 rfl) ?_
    refine px_iald (i := k) hx hb hK.1 hP ym1 yc1 0 rfl (by omega) (by omega) xd_Na_at_21 ?_
    exact W.iret (v := (f k)) hx hb hr (fun t ht hW => ⟨⟨(f k), (), rfl, Or.inl ⟨by omega, rfl⟩, by rw [ht]; exact hP, hD⟩, hS.F ht⟩) hS.2.2 xd_Na_at_22
  · refine lv_iconst (v := 0) hx hb xd_Na_at_12 (by decide) ?_
    refine lv_goto (tgt := 22) hx hb xd_Na_at_13 (by decide) ?_
    exact W.iret (v := 0) hx hb hr (fun t ht hW => ⟨⟨0, (), rfl, Or.inr ⟨by omega, rfl⟩, by rw [ht]; exact hP, hD⟩, hS.F ht⟩) hS.2.2 xd_Na_at_22
set_option maxHeartbeats 4000000 in
set_option maxRecDepth 100000 in
theorem xc_Na_indexOf (l : Launch) (D : va_G) (kA : Nat → ClassId) (sz : Nat) (ad : Nat → Nat → Nat) (E : Nat → Nat → va_E) (RL : List (Nat × Nat)) (b : Nat) (o : Nat) (oa : Nat) (cp : Nat) (n : Nat) (f : Nat → Int32) (nm : Int32) (ym0 : (b, o) ∈ RL) (yc0 : E b o = .inr (8, [.ref (ad b oa), .int (nI n)])) (ym1 : (b, oa) ∈ RL) (yc1 : E b oa = .inl (kA 0, cp, .inl f)) (hn : n ≤ cp) (hcp : cp ≤ 12) : Met l xy_Na_indexOf (.code xy_Na_indexOf xb_Na_indexOf 3 (some .int) :: wT) { frames := 0, cells := 0, slots := 0, locals := 0 } (va_Pc [.ref (ad b o), .int nm] (xPre D kA sz (rp ad E RL))) (va_Qi (fun (r : Int32) (u : Unit) => (∃ k, k < n ∧ r = nI k ∧ f k = nm ∧ ∀ j, j < k → ¬ f j = nm) ∨ (r = -1 ∧ ∀ j, j < n → ¬ f j = nm)) (fun (u : Unit) t => va_P D xcl (rp ad E RL) t.heap ∧ va_D (va_A (rp ad E RL) sz) (rp ad E RL)) (va_A (rp ad E RL) sz)) 0 0 (va_A (rp ad E RL) sz) := by
  refine Met.ofW (cc := xb_Na_indexOf) (maxL := 3) (ret := (some .int)) (by decide) rfl ?_
  intro p e s m args below meth c s₁ B hml hv
  obtain ⟨rfl, hsz, hP, hK, hD0⟩ := hv
  have hx := B.exec
  have hb := B.bytes
  have hr := B.returns
  have hT := x_hT B.pre
  have hown : s.vm.findClass xR_Na = some m.cls := findClass_of_methodNamed B.named
  have hlocks := B.notSynchronized
  subst hsz
  have hD := hD0.self (sz := s.heap.size)
  generalize hAe : va_A (rp ad E RL) s.heap.size = A at hD ⊢
  have hA : ∀ q : Nat, s.heap.size ≤ q → A q := fun q h => by rw [← hAe]; exact Or.inr h
  have hS : va_S A s.heap s.heap [] := va_S.rf
  have hl := lv_entry ([.ref (ad b o), .int nm]) (n := 3) (Nat.le_of_ble_eq_true rfl)
  rw [lg_entry_eq]
  generalize (lg_sl ([.ref (ad b o), .int nm]) ++ List.replicate (3 - (lg_sl ([.ref (ad b o), .int nm])).length) Slot.unset).toArray = ls at hl ⊢
  have hl : lv_has ls 3 [(0, .ref (ad b o)), (1, .int nm)] := hl
  have hP : va_P D xcl (rp ad E RL) s.heap := hP
  refine lv_iconst (v := 0) hx hb xd_Na_indexOf_0 (by decide) ?_
  refine lv_istore_n hx hb xd_Na_indexOf_1 rfl hl (Nat.le_of_ble_eq_true rfl) rfl (fun ls hl => ?_)
  have hl : lv_has ls 3 [(2, .int 0), (0, .ref (ad b o)), (1, .int nm)] := hl
  refine xlab (σ := Nat) (ml := 3) 2 (fun (i : Nat) => [(2, .int (nI i)), (0, .ref (ad b o)), (1, .int nm)]) (fun (i : Nat) => []) (fun (i : Nat) => rp ad E RL) (fun (i : Nat) => (i ≤ n) ∧ (∀ j, j < i → ¬ f j = nm)) (fun (i : Nat) => n - i) ?_ 0 _ _ _ (lv_sub hl [0, 1, 2] rfl) hP hD hS ⟨(show 0 ≤ n from by first | assumption | omega), (show ∀ j, j < 0 → ¬ f j = nm from fun j hj => absurd hj (by omega))⟩
  intro n9 ih1 a9 ls H locs hμ hl hP hD hS hI
  subst hμ
  obtain ⟨i, rfl⟩ : ∃ z, z = a9 := ⟨_, rfl⟩
  obtain ⟨hi, hno⟩ := hI
  have hi : i ≤ n := hi
  have hno : ∀ j, j < i → ¬ f j = nm := hno
  have hl : lv_has ls 3 [(2, .int (nI i)), (0, .ref (ad b o)), (1, .int nm)] := hl
  have hP : va_P D xcl (rp ad E RL) H := hP
  have hD : va_D A (rp ad E RL) := hD
  refine lv_iload_n hx hb xd_Na_indexOf_2 rfl (lv_at hl 0 rfl) ?_
  refine lv_aload_n hx hb xd_Na_indexOf_3 rfl (lv_at hl 1 rfl) ?_
  refine px_get (D := D) (ci := 8) (v := .int (nI n)) (C := xR_Na) (T := xT_Na) (N := 2) hx hb hT xi_Na hown hK.1 hP ym0 yc0 rfl 1 (by decide) (hT _ yk_0) (fun _ h9 => h9) rfl xd_Na_indexOf_4 ?_
  refine xn_ge (a := i) (b := n) (tgt := 28) hx hb xd_Na_indexOf_7 (by decide) (by omega) (by omega) (fun hc2 => ?_) (fun hc2 => ?_)
  · refine lv_iconst (v := (-1)) hx hb xd_Na_indexOf_28 (by decide) ?_
    exact W.iret (v := (-1)) hx hb hr (fun t ht hW => ⟨⟨(-1), (), rfl, Or.inr ⟨rfl, fun j hj => hno j (by omega)⟩, by rw [ht]; exact hP, hD⟩, hS.F ht⟩) hS.2.2 xd_Na_indexOf_29
  · refine lv_aload_n hx hb xd_Na_indexOf_10 rfl (lv_at hl 1 rfl) ?_
    refine px_get (D := D) (ci := 8) (v := .ref (ad b oa)) (C := xR_Na) (T := xT_Na) (N := 2) hx hb hT xi_Na hown hK.1 hP ym0 yc0 rfl 0 (by decide) (hT _ yk_1) (fun _ h9 => h9) rfl xd_Na_indexOf_11 ?_
    refine lv_iload_n hx hb xd_Na_indexOf_14 rfl (lv_at hl 0 rfl) ?_
    refine px_iald (i := i) hx hb hK.1 hP ym1 yc1 0 rfl (by omega) (by omega) xd_Na_indexOf_15 ?_
    refine lv_iload_n hx hb xd_Na_indexOf_16 rfl (lv_at hl 2 rfl) ?_
    refine lv_icmp_ne (tgt := 22) hx hb xd_Na_indexOf_17 (by decide) (fun hc3 => ?_) (fun hc3 => ?_)
    · refine lv_iinc (k := 0) (x := (nI i)) (v := (nI (i + 1))) hx hb xd_Na_indexOf_22 hl rfl (xb_inc i 1) (Nat.le_of_ble_eq_true rfl) rfl (fun ls hl => ?_)
      have hl : lv_has ls 3 [(2, .int (nI (i + 1))), (0, .ref (ad b o)), (1, .int nm)] := hl
      refine lv_goto (tgt := 2) hx hb xd_Na_indexOf_25 (by decide) ?_
      exact ih1 (i + 1) _ _ _ (show n - (i + 1) < n - i by omega) (lv_sub hl [0, 1, 2] rfl) hP hD hS ⟨(show (i + 1) ≤ n from by first | assumption | omega), (show ∀ j, j < (i + 1) → ¬ f j = nm from lt_s hno hc3)⟩
    · refine lv_iload_n hx hb xd_Na_indexOf_20 rfl (lv_at hl 0 rfl) ?_
      exact W.iret (v := (nI i)) hx hb hr (fun t ht hW => ⟨⟨(nI i), (), rfl, Or.inl ⟨i, by omega, rfl, hc3, hno⟩, by rw [ht]; exact hP, hD⟩, hS.F ht⟩) hS.2.2 xd_Na_indexOf_21
set_option maxHeartbeats 4000000 in
set_option maxRecDepth 100000 in
theorem xc_Na_holds (l : Launch) (D : va_G) (kA : Nat → ClassId) (sz : Nat) (ad : Nat → Nat → Nat) (E : Nat → Nat → va_E) (RL : List (Nat × Nat)) (b : Nat) (o : Nat) (oa : Nat) (cp : Nat) (n : Nat) (f : Nat → Int32) (nm : Int32) (ym0 : (b, o) ∈ RL) (yc0 : E b o = .inr (8, [.ref (ad b oa), .int (nI n)])) (ym1 : (b, oa) ∈ RL) (yc1 : E b oa = .inl (kA 0, cp, .inl f)) (hn : n ≤ cp) (hcp : cp ≤ 12) : Met l xy_Na_holds (.code xy_Na_holds xb_Na_holds 2 (some .boolean) :: wT) { frames := 1, cells := 0, slots := 0, locals := 22 } (va_Pc [.ref (ad b o), .int nm] (xPre D kA sz (rp ad E RL))) (va_Qi (fun (r : Int32) (u : Unit) => (r = 1 ∧ ∃ k, k < n ∧ f k = nm) ∨ (r = 0 ∧ ∀ j, j < n → ¬ f j = nm)) (fun (u : Unit) t => va_P D xcl (rp ad E RL) t.heap ∧ va_D (va_A (rp ad E RL) sz) (rp ad E RL)) (va_A (rp ad E RL) sz)) 0 0 (va_A (rp ad E RL) sz) := by
  refine Met.ofW (cc := xb_Na_holds) (maxL := 2) (ret := (some .boolean)) (by decide) rfl ?_
  intro p e s m args below meth c s₁ B hml hv
  obtain ⟨rfl, hsz, hP, hK, hD0⟩ := hv
  have hx := B.exec
  have hb := B.bytes
  have hr := B.returns
  have hT := x_hT B.pre
  have hown : s.vm.findClass xR_Na = some m.cls := findClass_of_methodNamed B.named
  have hlocks := B.notSynchronized
  subst hsz
  have hD := hD0.self (sz := s.heap.size)
  generalize hAe : va_A (rp ad E RL) s.heap.size = A at hD ⊢
  have hA : ∀ q : Nat, s.heap.size ≤ q → A q := fun q h => by rw [← hAe]; exact Or.inr h
  have hS : va_S A s.heap s.heap [] := va_S.rf
  have hl := lv_entry ([.ref (ad b o), .int nm]) (n := 2) (Nat.le_of_ble_eq_true rfl)
  rw [lg_entry_eq]
  generalize (lg_sl ([.ref (ad b o), .int nm]) ++ List.replicate (2 - (lg_sl ([.ref (ad b o), .int nm])).length) Slot.unset).toArray = ls at hl ⊢
  have hl : lv_has ls 2 [(0, .ref (ad b o)), (1, .int nm)] := hl
  have hP : va_P D xcl (rp ad E RL) s.heap := hP
  refine lv_aload_n hx hb xd_Na_holds_0 rfl (lv_at hl 0 rfl) ?_
  refine lv_iload_n hx hb xd_Na_holds_1 rfl (lv_at hl 1 rfl) ?_
  have hFc := px_free hD hS hA
  refine va_calli (va_runV (As := [.int nm]) (rest := []) ⟨hx, hb, hml, hown, hT⟩ (xc_Na_indexOf l D kA s.heap.size ad E RL b o oa cp n f nm ym0 yc0 ym1 yc1 (by first | assumption | omega) (by first | assumption | omega)) (cwV 1 hT (wT_V yk_3 yk_4 yk_5 yk_6 yk_2) rfl rfl rfl (by decide +kernel) ⟨Nat.le_of_ble_eq_true rfl, Nat.le_of_ble_eq_true rfl⟩) (px_preV hK hP hD ym0 yc0 rfl) rfl rfl hl.1 rfl (lv_room (Nat.le_of_ble_eq_true rfl)) xd_Na_holds_2 ⟨(Nat.le_of_ble_eq_true rfl), (Nat.le_of_ble_eq_true rfl)⟩) hS (fun q _ h => hFc q h) hFc (fun r1 u2 t H1 locs ht hvm hp3 hB hz1 hk1 hS => ?_)
  obtain ⟨hP1, hD1⟩ := hB
  rw [ht] at hP1
  have hD1 := hD1.weaken (fun _ _ _ h => hFc _ h)
  generalize H1 = H at hP1 hS ⊢
  have hP := hP1
  have hD := hD1
  have hP : va_P D xcl (rp ad E RL) H := hP
  have hD : va_D A (rp ad E RL) := hD
  rcases hp3 with ⟨z4, z5, rfl, z6, z7⟩ | ⟨rfl, z8⟩
  · refine W.eq (g2 := F0 m 5 ls [.int (nI z4)]) rfl ?_
    refine xz_lt (a := z4) (tgt := 12) hx hb xd_Na_holds_5 (by decide) (by omega) ?_
    refine lv_iconst (v := 1) hx hb xd_Na_holds_8 (by decide) ?_
    refine lv_goto (tgt := 13) hx hb xd_Na_holds_9 (by decide) ?_
    exact W.zret (v := 1) hx hb hr rfl (fun t ht hW => ⟨⟨1, (), rfl, Or.inl ⟨rfl, z4, z5, z6⟩, by rw [ht]; exact hP, hD⟩, hS.F ht⟩) hS.2.2 xd_Na_holds_13
  · refine W.eq (g2 := F0 m 5 ls [.int (-1)]) rfl ?_
    refine lv_if_lt (tgt := 12) hx hb xd_Na_holds_5 (by decide) (fun _ => ?_) (fun hc10 => absurd (by decide) hc10)
    refine lv_iconst (v := 0) hx hb xd_Na_holds_12 (by decide) ?_
    exact W.zret (v := 0) hx hb hr rfl (fun t ht hW => ⟨⟨0, (), rfl, Or.inr ⟨rfl, z8⟩, by rw [ht]; exact hP, hD⟩, hS.F ht⟩) hS.2.2 xd_Na_holds_13
set_option maxHeartbeats 4000000 in
set_option maxRecDepth 100000 in
theorem xc_Na_isFull (l : Launch) (D : va_G) (kA : Nat → ClassId) (sz : Nat) (ad : Nat → Nat → Nat) (E : Nat → Nat → va_E) (RL : List (Nat × Nat)) (b : Nat) (o : Nat) (oa : Nat) (cp : Nat) (n : Nat) (f : Nat → Int32) (ym0 : (b, o) ∈ RL) (yc0 : E b o = .inr (8, [.ref (ad b oa), .int (nI n)])) (ym1 : (b, oa) ∈ RL) (yc1 : E b oa = .inl (kA 0, cp, .inl f)) (hn : n ≤ cp) (hcp : cp ≤ 12) : Met l xy_Na_isFull (.code xy_Na_isFull xb_Na_isFull 1 (some .boolean) :: wT) { frames := 0, cells := 0, slots := 0, locals := 0 } (va_Pc [.ref (ad b o)] (xPre D kA sz (rp ad E RL))) (va_Qi (fun (r : Int32) (u : Unit) => (r = 1 ∧ cp ≤ n) ∨ (r = 0 ∧ n < cp)) (fun (u : Unit) t => va_P D xcl (rp ad E RL) t.heap ∧ va_D (va_A (rp ad E RL) sz) (rp ad E RL)) (va_A (rp ad E RL) sz)) 0 0 (va_A (rp ad E RL) sz) := by
  refine Met.ofW (cc := xb_Na_isFull) (maxL := 1) (ret := (some .boolean)) (by decide) rfl ?_
  intro p e s m args below meth c s₁ B hml hv
  obtain ⟨rfl, hsz, hP, hK, hD0⟩ := hv
  have hx := B.exec
  have hb := B.bytes
  have hr := B.returns
  have hT := x_hT B.pre
  have hown : s.vm.findClass xR_Na = some m.cls := findClass_of_methodNamed B.named
  have hlocks := B.notSynchronized
  subst hsz
  have hD := hD0.self (sz := s.heap.size)
  generalize hAe : va_A (rp ad E RL) s.heap.size = A at hD ⊢
  have hA : ∀ q : Nat, s.heap.size ≤ q → A q := fun q h => by rw [← hAe]; exact Or.inr h
  have hS : va_S A s.heap s.heap [] := va_S.rf
  have hl := lv_entry ([.ref (ad b o)]) (n := 1) (Nat.le_of_ble_eq_true rfl)
  rw [lg_entry_eq]
  generalize (lg_sl ([.ref (ad b o)]) ++ List.replicate (1 - (lg_sl ([.ref (ad b o)])).length) Slot.unset).toArray = ls at hl ⊢
  have hl : lv_has ls 1 [(0, .ref (ad b o))] := hl
  have hP : va_P D xcl (rp ad E RL) s.heap := hP
  refine lv_aload_n hx hb xd_Na_isFull_0 rfl (lv_at hl 0 rfl) ?_
  refine px_get (D := D) (ci := 8) (v := .int (nI n)) (C := xR_Na) (T := xT_Na) (N := 2) hx hb hT xi_Na hown hK.1 hP ym0 yc0 rfl 1 (by decide) (hT _ yk_0) (fun _ h9 => h9) rfl xd_Na_isFull_1 ?_
  refine lv_aload_n hx hb xd_Na_isFull_4 rfl (lv_at hl 0 rfl) ?_
  refine px_get (D := D) (ci := 8) (v := .ref (ad b oa)) (C := xR_Na) (T := xT_Na) (N := 2) hx hb hT xi_Na hown hK.1 hP ym0 yc0 rfl 0 (by decide) (hT _ yk_1) (fun _ h9 => h9) rfl xd_Na_isFull_5 ?_
  refine px_alen hx hb hK.1 hP ym1 yc1 0 rfl xd_Na_isFull_8 ?_
  refine W.eq (g2 := F0 m 9 ls [.int (nI cp), .int (nI n)]) rfl ?_
  refine xn_lt (a := n) (b := cp) (tgt := 16) hx hb xd_Na_isFull_9 (by decide) (by omega) (by omega) (fun hc1 => ?_) (fun hc1 => ?_)
  · refine lv_iconst (v := 0) hx hb xd_Na_isFull_16 (by decide) ?_
    exact W.zret (v := 0) hx hb hr rfl (fun t ht hW => ⟨⟨0, (), rfl, Or.inr ⟨rfl, by omega⟩, by rw [ht]; exact hP, hD⟩, hS.F ht⟩) hS.2.2 xd_Na_isFull_17
  · refine lv_iconst (v := 1) hx hb xd_Na_isFull_12 (by decide) ?_
    refine lv_goto (tgt := 17) hx hb xd_Na_isFull_13 (by decide) ?_
    exact W.zret (v := 1) hx hb hr rfl (fun t ht hW => ⟨⟨1, (), rfl, Or.inl ⟨rfl, by omega⟩, by rw [ht]; exact hP, hD⟩, hS.F ht⟩) hS.2.2 xd_Na_isFull_17
set_option maxHeartbeats 4000000 in
set_option maxRecDepth 100000 in
theorem xc_Na_append (l : Launch) (D : va_G) (kA : Nat → ClassId) (sz : Nat) (ad : Nat → Nat → Nat) (E : Nat → Nat → va_E) (RL : List (Nat × Nat)) (b : Nat) (o : Nat) (oa : Nat) (cp : Nat) (n : Nat) (f : Nat → Int32) (nm : Int32) (ym0 : (b, o) ∈ RL) (yc0 : E b o = .inr (8, [.ref (ad b oa), .int (nI n)])) (ym1 : (b, oa) ∈ RL) (yc1 : E b oa = .inl (kA 0, cp, .inl f)) (hn : n ≤ cp) (hcp : cp ≤ 12) (hoa : o ≠ oa) : Met l xy_Na_append (.code xy_Na_append xb_Na_append 2 none :: wT) { frames := 1, cells := 0, slots := 0, locals := 20 } (va_Pc [.ref (ad b o), .int nm] (xPre D kA sz (rp ad E RL))) (va_Qv (fun (u : Nat → Nat → va_E) => ∃ n2 : Nat, ∃ f2 : Nat → Int32, (n2 ≤ cp ∧ ((n < cp ∧ n2 = n + 1 ∧ f2 = upd f n nm) ∨ (cp ≤ n ∧ n2 = n ∧ f2 = f))) ∧ (u b o = .inr (8, [.ref (ad b oa), .int (nI n2)])) ∧ (u b oa = .inl (kA 0, cp, .inl f2)) ∧ ((∀ b2 o2, ¬ (b2 = b ∧ o2 = o) → ¬ (b2 = b ∧ o2 = oa) → u b2 o2 = E b2 o2))) (fun (u : Nat → Nat → va_E) t => va_P D xcl (rp ad u RL) t.heap ∧ va_D (va_A (rp ad E RL) sz) (rp ad u RL)) (va_A (rp ad E RL) sz)) 0 0 (va_A (rp ad E RL) sz) := by
  refine Met.ofW (cc := xb_Na_append) (maxL := 2) (ret := none) (by decide) rfl ?_
  intro p e s m args below meth c s₁ B hml hv
  obtain ⟨rfl, hsz, hP, hK, hD0⟩ := hv
  have hx := B.exec
  have hb := B.bytes
  have hr := B.returns
  have hT := x_hT B.pre
  have hown : s.vm.findClass xR_Na = some m.cls := findClass_of_methodNamed B.named
  have hlocks := B.notSynchronized
  subst hsz
  have hD := hD0.self (sz := s.heap.size)
  generalize hAe : va_A (rp ad E RL) s.heap.size = A at hD ⊢
  have hA : ∀ q : Nat, s.heap.size ≤ q → A q := fun q h => by rw [← hAe]; exact Or.inr h
  have hS : va_S A s.heap s.heap [] := va_S.rf
  have hl := lv_entry ([.ref (ad b o), .int nm]) (n := 2) (Nat.le_of_ble_eq_true rfl)
  rw [lg_entry_eq]
  generalize (lg_sl ([.ref (ad b o), .int nm]) ++ List.replicate (2 - (lg_sl ([.ref (ad b o), .int nm])).length) Slot.unset).toArray = ls at hl ⊢
  have hl : lv_has ls 2 [(0, .ref (ad b o)), (1, .int nm)] := hl
  have hP : va_P D xcl (rp ad E RL) s.heap := hP
  refine lv_aload_n hx hb xd_Na_append_0 rfl (lv_at hl 0 rfl) ?_
  have hFc := px_free hD hS hA
  refine va_calli (va_runV (As := []) (rest := []) ⟨hx, hb, hml, hown, hT⟩ (xc_Na_isFull l D kA s.heap.size ad E RL b o oa cp n f ym0 yc0 ym1 yc1 (by first | assumption | omega) (by first | assumption | omega)) (cwV 0 hT (wT_V yk_8 yk_9 yk_10 yk_6 yk_7) rfl rfl rfl (by decide +kernel) ⟨Nat.le_of_ble_eq_true rfl, Nat.le_of_ble_eq_true rfl⟩) (px_preV hK hP hD ym0 yc0 rfl) rfl rfl hl.1 rfl (lv_room (Nat.le_of_ble_eq_true rfl)) xd_Na_append_1 ⟨(Nat.le_of_ble_eq_true rfl), (Nat.le_of_ble_eq_true rfl)⟩) hS (fun q _ h => hFc q h) hFc (fun r1 u2 t H1 locs ht hvm hp3 hB hz1 hk1 hS => ?_)
  obtain ⟨hP1, hD1⟩ := hB
  rw [ht] at hP1
  have hD1 := hD1.weaken (fun _ _ _ h => hFc _ h)
  generalize H1 = H at hP1 hS ⊢
  have hP := hP1
  have hD := hD1
  have hP : va_P D xcl (rp ad E RL) H := hP
  have hD : va_D A (rp ad E RL) := hD
  rcases hp3 with ⟨rfl, z4⟩ | ⟨rfl, z5⟩
  · refine W.eq (g2 := F0 m 4 ls [.int 1]) rfl ?_
    refine lv_if_ne (tgt := 27) hx hb xd_Na_append_4 (by decide) (fun _ => ?_) (fun hc6 => absurd hc6 (by decide))
    exact W.vret hx hb hr (fun t ht hW => ⟨⟨E, rfl, ⟨n, f, ⟨by omega, Or.inr ⟨by omega, rfl, rfl⟩⟩, yc0, yc1, (fun b2 o2 h09 h19 => rfl)⟩, by rw [ht]; exact hP, hD⟩, hS.F ht⟩) hS.2.2 xd_Na_append_27
  · refine W.eq (g2 := F0 m 4 ls [.int 0]) rfl ?_
    refine lv_if_ne (tgt := 27) hx hb xd_Na_append_4 (by decide) (fun hc7 => absurd (by decide) hc7) (fun _ => ?_)
    refine lv_aload_n hx hb xd_Na_append_7 rfl (lv_at hl 0 rfl) ?_
    refine px_get (D := D) (ci := 8) (v := .ref (ad b oa)) (C := xR_Na) (T := xT_Na) (N := 2) hx hb hT xi_Na hown hK.1 hP ym0 yc0 rfl 0 (by decide) (hT _ yk_1) (fun _ h9 => h9) rfl xd_Na_append_8 ?_
    refine lv_aload_n hx hb xd_Na_append_11 rfl (lv_at hl 0 rfl) ?_
    refine px_get (D := D) (ci := 8) (v := .int (nI n)) (C := xR_Na) (T := xT_Na) (N := 2) hx hb hT xi_Na hown hK.1 hP ym0 yc0 rfl 1 (by decide) (hT _ yk_0) (fun _ h9 => h9) rfl xd_Na_append_12 ?_
    refine lv_iload_n hx hb xd_Na_append_15 rfl (lv_at hl 1 rfl) ?_
    refine px_iast (i := n) hx hb hK.1 hP hD hS ym1 yc1 0 rfl (by omega) (by omega) xd_Na_append_16 (fun H locs hP hD hS => ?_)
    have hP : va_P D xcl (rp ad (up2 E b oa (.inl (kA 0, cp, .inl (upd f n nm)))) RL) H := hP
    have hD : va_D A (rp ad (up2 E b oa (.inl (kA 0, cp, .inl (upd f n nm)))) RL) := hD
    generalize hE9 : up2 E b oa (.inl (kA 0, cp, .inl (upd f n nm))) = E8 at hP hD
    have fE10 : ∀ b2 o2, ¬ (b2 = b ∧ o2 = oa) → E8 b2 o2 = E b2 o2 := fun b2 o2 h9 => by rw [← hE9]; exact up2_ne (by omega)
    have c_11 : E8 b oa = .inl (kA 0, cp, .inl (upd f n nm)) := by rw [← hE9]; exact up2_eq
    have c_12 : E8 b o = .inr (8, [.ref (ad b oa), .int (nI n)]) := (fE10 b o (by omega)).trans yc0
    refine lv_aload_n hx hb xd_Na_append_17 rfl (lv_at hl 0 rfl) ?_
    refine lv_dup hx hb xd_Na_append_18 rfl ?_
    refine px_get (D := D) (ci := 8) (v := .int (nI n)) (C := xR_Na) (T := xT_Na) (N := 2) hx hb hT xi_Na hown hK.1 hP ym0 c_12 rfl 1 (by decide) (hT _ yk_0) (fun _ h9 => h9) rfl xd_Na_append_19 ?_
    refine lv_iconst (v := 1) hx hb xd_Na_append_22 (by decide) ?_
    refine lv_iadd hx hb xd_Na_append_23 ?_
    refine xn_top (y := nI (n + 1)) (nI_add n 1) ?_
    refine px_put (D := D) (ci := 8) (v := .int (nI (n + 1))) (ty := .int) (C := xR_Na) (T := xT_Na) (N := 2) hx hb hT xi_Na xt_Na xt_Na_ok xn_Na hown hK.1 hP hD hS ym0 c_12 rfl 1 (by decide) (hT _ yk_0) (fun _ h9 => h9) rfl (by decide +kernel) rfl rfl (Nat.le_of_ble_eq_true rfl) xd_Na_append_24 (fun H locs hP hD hS => ?_)
    have hP : va_P D xcl (rp ad (up2 E8 b o (.inr (8, [.ref (ad b oa), .int (nI (n + 1))]))) RL) H := hP
    have hD : va_D A (rp ad (up2 E8 b o (.inr (8, [.ref (ad b oa), .int (nI (n + 1))]))) RL) := hD
    generalize hE14 : up2 E8 b o (.inr (8, [.ref (ad b oa), .int (nI (n + 1))])) = E13 at hP hD
    have fE15 : ∀ b2 o2, ¬ (b2 = b ∧ o2 = o) → E13 b2 o2 = E8 b2 o2 := fun b2 o2 h9 => by rw [← hE14]; exact up2_ne (by omega)
    have c_16 : E13 b o = .inr (8, [.ref (ad b oa), .int (nI (n + 1))]) := by rw [← hE14]; exact up2_eq
    have c_17 : E13 b oa = .inl (kA 0, cp, .inl (upd f n nm)) := (fE15 b oa (by omega)).trans c_11
    exact W.vret hx hb hr (fun t ht hW => ⟨⟨E13, rfl, ⟨n + 1, upd f n nm, ⟨by omega, Or.inl ⟨by omega, rfl, rfl⟩⟩, c_16, c_17, (fun b2 o2 h09 h19 => by show E13 b2 o2 = _; rw [fE15 b2 o2 (by omega), fE10 b2 o2 (by omega)])⟩, by rw [ht]; exact hP, hD⟩, hS.F ht⟩) hS.2.2 xd_Na_append_27
