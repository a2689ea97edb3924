abbrev xb_Ch_begin : ByteArray := prog_2_method_2_code
def xy_Ch_begin : MethodName := ⟨"LayerDesk$Chooser", "begin", "(ILLayerDesk$Layer;)V"⟩
theorem xd_Ch_begin_0 : decode xb_Ch_begin 0 = .ok (.aload_n 0, 1) := by decide +kernel
theorem xd_Ch_begin_1 : decode xb_Ch_begin 1 = .ok (.iload_n 1, 1) := by decide +kernel
theorem xd_Ch_begin_2 : decode xb_Ch_begin 2 = .ok (.putfield 21, 3) := by decide +kernel
theorem xd_Ch_begin_5 : decode xb_Ch_begin 5 = .ok (.aload_n 0, 1) := by decide +kernel
theorem xd_Ch_begin_6 : decode xb_Ch_begin 6 = .ok (.aload_n 2, 1) := by decide +kernel
theorem xd_Ch_begin_7 : decode xb_Ch_begin 7 = .ok (.putfield 24, 3) := by decide +kernel
theorem xd_Ch_begin_10 : decode xb_Ch_begin 10 = .ok (.aload_n 0, 1) := by decide +kernel
theorem xd_Ch_begin_11 : decode xb_Ch_begin 11 = .ok (.iconst 0, 1) := by decide +kernel
theorem xd_Ch_begin_12 : decode xb_Ch_begin 12 = .ok (.putfield 17, 3) := by decide +kernel
theorem xd_Ch_begin_15 : decode xb_Ch_begin 15 = .ok (.return_, 1) := by decide +kernel
theorem yr_0 : (Cond.fieldLink "LayerDesk$Chooser" 21 "LayerDesk$Chooser" "finder" "I") ∈ wT := wT_t (List.mem_append_left _ (List.mem_of_getElem? (i := 84) rfl)) rfl
theorem yr_1 : (Cond.fieldLink "LayerDesk$Chooser" 24 "LayerDesk$Chooser" "parent" "LLayerDesk$Layer;") ∈ wT := wT_t (List.mem_append_left _ (List.mem_of_getElem? (i := 85) rfl)) rfl
theorem yr_2 : (Cond.fieldLink "LayerDesk$Chooser" 17 "LayerDesk$Chooser" "size" "I") ∈ wT := wT_t (List.mem_append_left _ (List.mem_of_getElem? (i := 83) rfl)) rfl
set_option maxHeartbeats 4000000 in
set_option maxRecDepth 100000 in
theorem xc_Ch_beginN (l : Launch) (D : va_G) (kA : Nat → ClassId) (sz : Nat) (ad : Nat → Nat → Nat) (E : Nat → Nat → va_E) (RL : List (Nat × Nat)) (cs : Nat) (cf : Int32) (pv : Value) (fi : Int32) (ym0 : (0, 7) ∈ RL) (yc0 : E 0 7 = .inr (3, [.ref (ad 0 5), .ref (ad 0 8), .int (nI cs), .int cf, pv])) : Met l xy_Ch_begin (.code xy_Ch_begin xb_Ch_begin 3 none :: wT) { frames := 0, cells := 0, slots := 0, locals := 0 } (va_Pc [.ref (ad 0 7), .int fi, .null] (xPre D kA sz (rp ad E RL))) (va_Qv (fun (u : Nat → Nat → va_E) => (True) ∧ (u 0 7 = .inr (3, [.ref (ad 0 5), .ref (ad 0 8), .int 0, .int fi, .null])) ∧ ((∀ b2 o2, ¬ (b2 = 0 ∧ o2 = 7) → u b2 o2 = E b2 o2))) (fun (u : Nat → Nat → va_E) t => va_P D xcl (rp ad u RL) t.heap ∧ va_D (va_A (rp ad E RL) sz) (rp ad u RL)) (va_A (rp ad E RL) sz)) 0 0 (va_A (rp ad E RL) sz) := by
  refine Met.ofW (cc := xb_Ch_begin) (maxL := 3) (ret := none) (by decide) rfl ?_
  intro p e s m args below meth c s₁ B hml hv
  obtain ⟨rfl, hsz, hP, hK, hD0⟩ := hv
  have hx := B.exec
  have hb := B.bytes
  have hr := B.returns
  have hT := x_hT B.pre
  have hown : s.vm.findClass xR_Ch = some m.cls := findClass_of_methodNamed B.named
  have hlocks := B.notSynchronized
  subst hsz
  have hD := hD0.self (sz := s.heap.size)
  generalize hAe : va_A (rp ad E RL) s.heap.size = A at hD ⊢
  have hA : ∀ q : Nat, s.heap.size ≤ q → A q := fun q h => by rw [← hAe]; exact Or.inr h
  have hS : va_S A s.heap s.heap [] := va_S.rf
  have hl := lv_entry ([.ref (ad 0 7), .int fi, .null]) (n := 3) (Nat.le_of_ble_eq_true rfl)
  rw [lg_entry_eq]
  generalize (lg_sl ([.ref (ad 0 7), .int fi, .null]) ++ List.replicate (3 - (lg_sl ([.ref (ad 0 7), .int fi, .null])).length) Slot.unset).toArray = ls at hl ⊢
  have hl : lv_has ls 3 [(0, .ref (ad 0 7)), (1, .int fi), (2, .null)] := hl
  have hP : va_P D xcl (rp ad E RL) s.heap := hP
  refine lv_aload_n hx hb xd_Ch_begin_0 rfl (lv_at hl 0 rfl) ?_
  refine lv_iload_n hx hb xd_Ch_begin_1 rfl (lv_at hl 1 rfl) ?_
  refine px_put (D := D) (ci := 3) (v := .int fi) (ty := .int) (C := xR_Ch) (T := xT_Ch) (N := 5) hx hb hT xi_Ch xt_Ch xt_Ch_ok xn_Ch hown hK.1 hP hD hS ym0 yc0 rfl 3 (by decide) (hT _ yr_0) (fun _ h9 => h9) rfl (by decide +kernel) rfl rfl (Nat.le_of_ble_eq_true rfl) xd_Ch_begin_2 (fun H locs hP hD hS => ?_)
  have hP : va_P D xcl (rp ad (up2 E 0 7 (.inr (3, [.ref (ad 0 5), .ref (ad 0 8), .int (nI cs), .int fi, pv]))) RL) H := hP
  have hD : va_D A (rp ad (up2 E 0 7 (.inr (3, [.ref (ad 0 5), .ref (ad 0 8), .int (nI cs), .int fi, pv]))) RL) := hD
  generalize hE2 : up2 E 0 7 (.inr (3, [.ref (ad 0 5), .ref (ad 0 8), .int (nI cs), .int fi, pv])) = E1 at hP hD
  have fE3 : ∀ b2 o2, ¬ (b2 = 0 ∧ o2 = 7) → E1 b2 o2 = E b2 o2 := fun b2 o2 h9 => by rw [← hE2]; exact up2_ne (by omega)
  have c_4 : E1 0 7 = .inr (3, [.ref (ad 0 5), .ref (ad 0 8), .int (nI cs), .int fi, pv]) := by rw [← hE2]; exact up2_eq
  refine lv_aload_n hx hb xd_Ch_begin_5 rfl (lv_at hl 0 rfl) ?_
  refine lv_aload_nN hx hb xd_Ch_begin_6 rfl (lv_at hl 2 rfl) ?_
  refine px_put (D := D) (ci := 3) (v := .null) (ty := .object "LayerDesk$Layer") (C := xR_Ch) (T := xT_Ch) (N := 5) hx hb hT xi_Ch xt_Ch xt_Ch_ok xn_Ch hown hK.1 hP hD hS ym0 c_4 rfl 4 (by decide) (hT _ yr_1) (fun _ h9 => h9) rfl (by decide +kernel) rfl rfl (Nat.le_of_ble_eq_true rfl) xd_Ch_begin_7 (fun H locs hP hD hS => ?_)
  have hP : va_P D xcl (rp ad (up2 E1 0 7 (.inr (3, [.ref (ad 0 5), .ref (ad 0 8), .int (nI cs), .int fi, .null]))) RL) H := hP
  have hD : va_D A (rp ad (up2 E1 0 7 (.inr (3, [.ref (ad 0 5), .ref (ad 0 8), .int (nI cs), .int fi, .null]))) RL) := hD
  generalize hE6 : up2 E1 0 7 (.inr (3, [.ref (ad 0 5), .ref (ad 0 8), .int (nI cs), .int fi, .null])) = E5 at hP hD
  have fE7 : ∀ b2 o2, ¬ (b2 = 0 ∧ o2 = 7) → E5 b2 o2 = E1 b2 o2 := fun b2 o2 h9 => by rw [← hE6]; exact up2_ne (by omega)
  have c_8 : E5 0 7 = .inr (3, [.ref (ad 0 5), .ref (ad 0 8), .int (nI cs), .int fi, .null]) := by rw [← hE6]; exact up2_eq
  refine lv_aload_n hx hb xd_Ch_begin_10 rfl (lv_at hl 0 rfl) ?_
  refine lv_iconst (v := 0) hx hb xd_Ch_begin_11 (by decide) ?_
  refine px_put (D := D) (ci := 3) (v := .int 0) (ty := .int) (C := xR_Ch) (T := xT_Ch) (N := 5) hx hb hT xi_Ch xt_Ch xt_Ch_ok xn_Ch hown hK.1 hP hD hS ym0 c_8 rfl 2 (by decide) (hT _ yr_2) (fun _ h9 => h9) rfl (by decide +kernel) rfl rfl (Nat.le_of_ble_eq_true rfl) xd_Ch_begin_12 (fun H locs hP hD hS => ?_)
  have hP : va_P D xcl (rp ad (up2 E5 0 7 (.inr (3, [.ref (ad 0 5), .ref (ad 0 8), .int 0, .int fi, .null]))) RL) H := hP
  have hD : va_D A (rp ad (up2 E5 0 7 (.inr (3, [.ref (ad 0 5), .ref (ad 0 8), .int 0, .int fi, .null]))) RL) := hD
  generalize hE10 : up2 E5 0 7 (.inr (3, [.ref (ad 0 5), .ref (ad 0 8), .int 0, .int fi, .null])) = E9 at hP hD
  have fE11 : ∀ b2 o2, ¬ (b2 = 0 ∧ o2 = 7) → E9 b2 o2 = E5 b2 o2 := fun b2 o2 h9 => by rw [← hE10]; exact up2_ne (by omega)
  have c_12 : E9 0 7 = .inr (3, [.ref (ad 0 5), .ref (ad 0 8), .int 0, .int fi, .null]) := by rw [← hE10]; exact up2_eq
  exact W.vret hx hb hr (fun t ht hW => ⟨⟨E9, rfl, ⟨trivial, c_12, (fun b2 o2 h09 => by show E9 b2 o2 = _; rw [fE11 b2 o2 (by omega), fE7 b2 o2 (by omega), fE3 b2 o2 (by omega)])⟩, by rw [ht]; exact hP, hD⟩, hS.F ht⟩) hS.2.2 xd_Ch_begin_15
set_option maxHeartbeats 4000000 in
set_option maxRecDepth 100000 in
theorem xc_Ch_beginR (l : Launch) (D : va_G) (kA : Nat → ClassId) (sz : Nat) (ad : Nat → Nat → Nat) (E : Nat → Nat → va_E) (RL : List (Nat × Nat)) (cs : Nat) (cf : Int32) (pv : Value) (fi : Int32) (pa : Nat) (ym0 : (0, 7) ∈ RL) (yc0 : E 0 7 = .inr (3, [.ref (ad 0 5), .ref (ad 0 8), .int (nI cs), .int cf, pv])) : Met l xy_Ch_begin (.code xy_Ch_begin xb_Ch_begin 3 none :: wT) { frames := 0, cells := 0, slots := 0, locals := 0 } (va_Pc [.ref (ad 0 7), .int fi, .ref pa] (xPre D kA sz (rp ad E RL))) (va_Qv (fun (u : Nat → Nat → va_E) => (True) ∧ (u 0 7 = .inr (3, [.ref (ad 0 5), .ref (ad 0 8), .int 0, .int fi, .ref pa])) ∧ ((∀ b2 o2, ¬ (b2 = 0 ∧ o2 = 7) → u b2 o2 = E b2 o2))) (fun (u : Nat → Nat → va_E) t => va_P D xcl (rp ad u RL) t.heap ∧ va_D (va_A (rp ad E RL) sz) (rp ad u RL)) (va_A (rp ad E RL) sz)) 0 0 (va_A (rp ad E RL) sz) := by
  refine Met.ofW (cc := xb_Ch_begin) (maxL := 3) (ret := none) (by decide) rfl ?_
  intro p e s m args below meth c s₁ B hml hv
  obtain ⟨rfl, hsz, hP, hK, hD0⟩ := hv
  have hx := B.exec
  have hb := B.bytes
  have hr := B.returns
  have hT := x_hT B.pre
  have hown : s.vm.findClass xR_Ch = some m.cls := findClass_of_methodNamed B.named
  have hlocks := B.notSynchronized
  subst hsz
  have hD := hD0.self (sz := s.heap.size)
  generalize hAe : va_A (rp ad E RL) s.heap.size = A at hD ⊢
  have hA : ∀ q : Nat, s.heap.size ≤ q → A q := fun q h => by rw [← hAe]; exact Or.inr h
  have hS : va_S A s.heap s.heap [] := va_S.rf
  have hl := lv_entry ([.ref (ad 0 7), .int fi, .ref pa]) (n := 3) (Nat.le_of_ble_eq_true rfl)
  rw [lg_entry_eq]
  generalize (lg_sl ([.ref (ad 0 7), .int fi, .ref pa]) ++ List.replicate (3 - (lg_sl ([.ref (ad 0 7), .int fi, .ref pa])).length) Slot.unset).toArray = ls at hl ⊢
  have hl : lv_has ls 3 [(0, .ref (ad 0 7)), (1, .int fi), (2, .ref pa)] := hl
  have hP : va_P D xcl (rp ad E RL) s.heap := hP
  refine lv_aload_n hx hb xd_Ch_begin_0 rfl (lv_at hl 0 rfl) ?_
  refine lv_iload_n hx hb xd_Ch_begin_1 rfl (lv_at hl 1 rfl) ?_
  refine px_put (D := D) (ci := 3) (v := .int fi) (ty := .int) (C := xR_Ch) (T := xT_Ch) (N := 5) hx hb hT xi_Ch xt_Ch xt_Ch_ok xn_Ch hown hK.1 hP hD hS ym0 yc0 rfl 3 (by decide) (hT _ yr_0) (fun _ h9 => h9) rfl (by decide +kernel) rfl rfl (Nat.le_of_ble_eq_true rfl) xd_Ch_begin_2 (fun H locs hP hD hS => ?_)
  have hP : va_P D xcl (rp ad (up2 E 0 7 (.inr (3, [.ref (ad 0 5), .ref (ad 0 8), .int (nI cs), .int fi, pv]))) RL) H := hP
  have hD : va_D A (rp ad (up2 E 0 7 (.inr (3, [.ref (ad 0 5), .ref (ad 0 8), .int (nI cs), .int fi, pv]))) RL) := hD
  generalize hE2 : up2 E 0 7 (.inr (3, [.ref (ad 0 5), .ref (ad 0 8), .int (nI cs), .int fi, pv])) = E1 at hP hD
  have fE3 : ∀ b2 o2, ¬ (b2 = 0 ∧ o2 = 7) → E1 b2 o2 = E b2 o2 := fun b2 o2 h9 => by rw [← hE2]; exact up2_ne (by omega)
  have c_4 : E1 0 7 = .inr (3, [.ref (ad 0 5), .ref (ad 0 8), .int (nI cs), .int fi, pv]) := by rw [← hE2]; exact up2_eq
  refine lv_aload_n hx hb xd_Ch_begin_5 rfl (lv_at hl 0 rfl) ?_
  refine lv_aload_n hx hb xd_Ch_begin_6 rfl (lv_at hl 2 rfl) ?_
  refine px_put (D := D) (ci := 3) (v := .ref pa) (ty := .object "LayerDesk$Layer") (C := xR_Ch) (T := xT_Ch) (N := 5) hx hb hT xi_Ch xt_Ch xt_Ch_ok xn_Ch hown hK.1 hP hD hS ym0 c_4 rfl 4 (by decide) (hT _ yr_1) (fun _ h9 => h9) rfl (by decide +kernel) rfl rfl (Nat.le_of_ble_eq_true rfl) xd_Ch_begin_7 (fun H locs hP hD hS => ?_)
  have hP : va_P D xcl (rp ad (up2 E1 0 7 (.inr (3, [.ref (ad 0 5), .ref (ad 0 8), .int (nI cs), .int fi, .ref pa]))) RL) H := hP
  have hD : va_D A (rp ad (up2 E1 0 7 (.inr (3, [.ref (ad 0 5), .ref (ad 0 8), .int (nI cs), .int fi, .ref pa]))) RL) := hD
  generalize hE6 : up2 E1 0 7 (.inr (3, [.ref (ad 0 5), .ref (ad 0 8), .int (nI cs), .int fi, .ref pa])) = E5 at hP hD
  have fE7 : ∀ b2 o2, ¬ (b2 = 0 ∧ o2 = 7) → E5 b2 o2 = E1 b2 o2 := fun b2 o2 h9 => by rw [← hE6]; exact up2_ne (by omega)
  have c_8 : E5 0 7 = .inr (3, [.ref (ad 0 5), .ref (ad 0 8), .int (nI cs), .int fi, .ref pa]) := by rw [← hE6]; exact up2_eq
  refine lv_aload_n hx hb xd_Ch_begin_10 rfl (lv_at hl 0 rfl) ?_
  refine lv_iconst (v := 0) hx hb xd_Ch_begin_11 (by decide) ?_
  refine px_put (D := D) (ci := 3) (v := .int 0) (ty := .int) (C := xR_Ch) (T := xT_Ch) (N := 5) hx hb hT xi_Ch xt_Ch xt_Ch_ok xn_Ch hown hK.1 hP hD hS ym0 c_8 rfl 2 (by decide) (hT _ yr_2) (fun _ h9 => h9) rfl (by decide +kernel) rfl rfl (Nat.le_of_ble_eq_true rfl) xd_Ch_begin_12 (fun H locs hP hD hS => ?_)
  have hP : va_P D xcl (rp ad (up2 E5 0 7 (.inr (3, [.ref (ad 0 5), .ref (ad 0 8), .int 0, .int fi, .ref pa]))) RL) H := hP
  have hD : va_D A (rp ad (up2 E5 0 7 (.inr (3, [.ref (ad 0 5), .ref (ad 0 8), .int 0, .int fi, .ref pa]))) RL) := hD
  generalize hE10 : up2 E5 0 7 (.inr (3, [.ref (ad 0 5), .ref (ad 0 8), .int 0, .int fi, .ref pa])) = E9 at hP hD
  have fE11 : ∀ b2 o2, ¬ (b2 = 0 ∧ o2 = 7) → E9 b2 o2 = E5 b2 o2 := fun b2 o2 h9 => by rw [← hE10]; exact up2_ne (by omega)
  have c_12 : E9 0 7 = .inr (3, [.ref (ad 0 5), .ref (ad 0 8), .int 0, .int fi, .ref pa]) := by rw [← hE10]; exact up2_eq
  exact W.vret hx hb hr (fun t ht hW => ⟨⟨E9, rfl, ⟨trivial, c_12, (fun b2 o2 h09 => by show E9 b2 o2 = _; rw [fE11 b2 o2 (by omega), fE7 b2 o2 (by omega), fE3 b2 o2 (by omega)])⟩, by rw [ht]; exact hP, hD⟩, hS.F ht⟩) hS.2.2 xd_Ch_begin_15
