set_option maxHeartbeats 4000000 in
set_option maxRecDepth 100000 in
theorem xc_Mo_thrown (l : Launch) (D : va_G) (kA : Nat → ClassId) (sz : Nat) (h : Nat) (m0 : Nat) (m1 : Nat) (m2 : Nat) (m3 : Nat) (m4 : Nat) (m5 : Nat) (m6 : Nat) (m7 : Nat) (m8 : Nat) (m9 : Nat) (m10 : Nat) (m11 : Nat) (m12 : Nat) (m13 : Nat) (m14 : Nat) (m15 : Nat) (m16 : Nat) (m17 : Nat) (m18 : Nat) (m19 : Nat) (m20 : Nat) (m21 : Nat) (m22 : Nat) (m23 : Nat) (m24 : Nat) (F : Int32) : Met l xy_Mo_thrown (.code xy_Mo_thrown xb_Mo_thrown 1 (some .int) :: wT) { frames := 0, cells := 0, slots := 0, locals := 0 } (va_Pc [.ref h] (xPre D kA sz [(h, .inr (4, [.int F, .int 0, .ref m0, .int 0, .int 0, .ref m1, .ref m2, .int 0, .ref m3, .ref m4, .ref m5, .ref m6, .ref m7, .ref m8, .ref m9, .ref m10, .ref m11, .ref m12, .ref m13, .ref m14, .ref m15, .ref m16, .ref m17, .int 0, .ref m18, .ref m19, .ref m20, .ref m21, .ref m22, .ref m23, .ref m24]))])) (va_Qi (fun (r : Int32) (u : Unit) => r = F) (fun (u : Unit) t => va_P D xcl [(h, .inr (4, [.int F, .int 0, .ref m0, .int 0, .int 0, .ref m1, .ref m2, .int 0, .ref m3, .ref m4, .ref m5, .ref m6, .ref m7, .ref m8, .ref m9, .ref m10, .ref m11, .ref m12, .ref m13, .ref m14, .ref m15, .ref m16, .ref m17, .int 0, .ref m18, .ref m19, .ref m20, .ref m21, .ref m22, .ref m23, .ref m24]))] t.heap ∧ va_D (va_A [(h, .inr (4, [.int F, .int 0, .ref m0, .int 0, .int 0, .ref m1, .ref m2, .int 0, .ref m3, .ref m4, .ref m5, .ref m6, .ref m7, .ref m8, .ref m9, .ref m10, .ref m11, .ref m12, .ref m13, .ref m14, .ref m15, .ref m16, .ref m17, .int 0, .ref m18, .ref m19, .ref m20, .ref m21, .ref m22, .ref m23, .ref m24]))] sz) [(h, .inr (4, [.int F, .int 0, .ref m0, .int 0, .int 0, .ref m1, .ref m2, .int 0, .ref m3, .ref m4, .ref m5, .ref m6, .ref m7, .ref m8, .ref m9, .ref m10, .ref m11, .ref m12, .ref m13, .ref m14, .ref m15, .ref m16, .ref m17, .int 0, .ref m18, .ref m19, .ref m20, .ref m21, .ref m22, .ref m23, .ref m24]))]) (va_A [(h, .inr (4, [.int F, .int 0, .ref m0, .int 0, .int 0, .ref m1, .ref m2, .int 0, .ref m3, .ref m4, .ref m5, .ref m6, .ref m7, .ref m8, .ref m9, .ref m10, .ref m11, .ref m12, .ref m13, .ref m14, .ref m15, .ref m16, .ref m17, .int 0, .ref m18, .ref m19, .ref m20, .ref m21, .ref m22, .ref m23, .ref m24]))] sz)) 0 0 (va_A [(h, .inr (4, [.int F, .int 0, .ref m0, .int 0, .int 0, .ref m1, .ref m2, .int 0, .ref m3, .ref m4, .ref m5, .ref m6, .ref m7, .ref m8, .ref m9, .ref m10, .ref m11, .ref m12, .ref m13, .ref m14, .ref m15, .ref m16, .ref m17, .int 0, .ref m18, .ref m19, .ref m20, .ref m21, .ref m22, .ref m23, .ref m24]))] sz) := by
  refine Met.ofW (cc := xb_Mo_thrown) (maxL := 1) (ret := (some .int)) (by decide) rfl ?_
  intro p e s m args below meth c s₁ B hml hv
  obtain ⟨rfl, hsz, hP, hK, hD0⟩ := hv
  have hx := B.exec
  have hb := B.bytes
  have hr := B.returns
  have hT := x_hT B.pre
  have hown : s.vm.findClass xR_Mo = some m.cls := findClass_of_methodNamed B.named
  have hlocks := B.notSynchronized
  subst hsz
  have hD := hD0.self (sz := s.heap.size)
  generalize hAe : va_A [(h, .inr (4, [.int F, .int 0, .ref m0, .int 0, .int 0, .ref m1, .ref m2, .int 0, .ref m3, .ref m4, .ref m5, .ref m6, .ref m7, .ref m8, .ref m9, .ref m10, .ref m11, .ref m12, .ref m13, .ref m14, .ref m15, .ref m16, .ref m17, .int 0, .ref m18, .ref m19, .ref m20, .ref m21, .ref m22, .ref m23, .ref m24]))] s.heap.size = A at hD ⊢
  have hA : ∀ q : Nat, s.heap.size ≤ q → A q := fun q h => by rw [← hAe]; exact Or.inr h
  have hS : va_S A s.heap s.heap [] := va_S.rf
  have hP : va_P D xcl [(h, .inr (4, [.int F, .int 0, .ref m0, .int 0, .int 0, .ref m1, .ref m2, .int 0, .ref m3, .ref m4, .ref m5, .ref m6, .ref m7, .ref m8, .ref m9, .ref m10, .ref m11, .ref m12, .ref m13, .ref m14, .ref m15, .ref m16, .ref m17, .int 0, .ref m18, .ref m19, .ref m20, .ref m21, .ref m22, .ref m23, .ref m24]))] s.heap := hP
  have hl := lv_entry ([.ref h]) (n := 1) (Nat.le_of_ble_eq_true rfl)
  rw [lg_entry_eq]
  generalize (lg_sl ([.ref h]) ++ List.replicate (1 - (lg_sl ([.ref h])).length) Slot.unset).toArray = ls at hl ⊢
  have hl : lv_has ls 1 [(0, .ref h)] := hl
  refine lv_aload_n hx hb xd_Mo_thrown_0 rfl (lv_at hl 0 rfl) ?_
  refine va_get (D := D) (ci := 4) (v := .int F) (C := xR_Mo) (T := xT_Mo) (N := 31) hx hb hT xi_Mo hown hK.1 hP 0 rfl rfl 0 (by decide) (hT _ xk_115) (fun _ h9 => h9) rfl xd_Mo_thrown_1 ?_
  have hP9 := hP.sub (ws' := [(h, .inr (4, [.int F, .int 0, .ref m0, .int 0, .int 0, .ref m1, .ref m2, .int 0, .ref m3, .ref m4, .ref m5, .ref m6, .ref m7, .ref m8, .ref m9, .ref m10, .ref m11, .ref m12, .ref m13, .ref m14, .ref m15, .ref m16, .ref m17, .int 0, .ref m18, .ref m19, .ref m20, .ref m21, .ref m22, .ref m23, .ref m24]))]) [0] rfl
  have hD9 := hD.sub (ws' := [(h, .inr (4, [.int F, .int 0, .ref m0, .int 0, .int 0, .ref m1, .ref m2, .int 0, .ref m3, .ref m4, .ref m5, .ref m6, .ref m7, .ref m8, .ref m9, .ref m10, .ref m11, .ref m12, .ref m13, .ref m14, .ref m15, .ref m16, .ref m17, .int 0, .ref m18, .ref m19, .ref m20, .ref m21, .ref m22, .ref m23, .ref m24]))]) [0] (by decide) rfl
  refine W.widen (k := 0) (n := 0) (Nat.le_of_ble_eq_true rfl) (Nat.le_of_ble_eq_true rfl) ?_
  exact W.iret (v := F) hx hb hr (fun t ht hW => ⟨⟨F, (), rfl, rfl, by rw [ht]; exact hP9, hD9⟩, hS.F ht⟩) hS.2.2 xd_Mo_thrown_4
set_option maxHeartbeats 4000000 in
set_option maxRecDepth 100000 in
theorem xc_Mo_fails (l : Launch) (D : va_G) (kA : Nat → ClassId) (sz : Nat) (h : Nat) (m0 : Nat) (m1 : Nat) (m2 : Nat) (m3 : Nat) (m4 : Nat) (m5 : Nat) (m6 : Nat) (m7 : Nat) (m8 : Nat) (m9 : Nat) (m10 : Nat) (m11 : Nat) (m12 : Nat) (m13 : Nat) (m14 : Nat) (m15 : Nat) (m16 : Nat) (m17 : Nat) (m18 : Nat) (m19 : Nat) (m20 : Nat) (m21 : Nat) (m22 : Nat) (m23 : Nat) (m24 : Nat) (F : Int32) (cd : Int32) : Met l xy_Mo_fails (.code xy_Mo_fails xb_Mo_fails 2 (some .int) :: wT) { frames := 0, cells := 0, slots := 0, locals := 0 } (va_Pc [.ref h, .int cd] (xPre D kA sz [(h, .inr (4, [.int F, .int 0, .ref m0, .int 0, .int 0, .ref m1, .ref m2, .int 0, .ref m3, .ref m4, .ref m5, .ref m6, .ref m7, .ref m8, .ref m9, .ref m10, .ref m11, .ref m12, .ref m13, .ref m14, .ref m15, .ref m16, .ref m17, .int 0, .ref m18, .ref m19, .ref m20, .ref m21, .ref m22, .ref m23, .ref m24]))])) (va_Qi (fun (r : Int32) (u : Unit) => r = 0) (fun (u : Unit) t => va_P D xcl [(h, .inr (4, [.int cd, .int 0, .ref m0, .int 0, .int 0, .ref m1, .ref m2, .int 0, .ref m3, .ref m4, .ref m5, .ref m6, .ref m7, .ref m8, .ref m9, .ref m10, .ref m11, .ref m12, .ref m13, .ref m14, .ref m15, .ref m16, .ref m17, .int 0, .ref m18, .ref m19, .ref m20, .ref m21, .ref m22, .ref m23, .ref m24]))] t.heap ∧ va_D (va_A [(h, .inr (4, [.int F, .int 0, .ref m0, .int 0, .int 0, .ref m1, .ref m2, .int 0, .ref m3, .ref m4, .ref m5, .ref m6, .ref m7, .ref m8, .ref m9, .ref m10, .ref m11, .ref m12, .ref m13, .ref m14, .ref m15, .ref m16, .ref m17, .int 0, .ref m18, .ref m19, .ref m20, .ref m21, .ref m22, .ref m23, .ref m24]))] sz) [(h, .inr (4, [.int cd, .int 0, .ref m0, .int 0, .int 0, .ref m1, .ref m2, .int 0, .ref m3, .ref m4, .ref m5, .ref m6, .ref m7, .ref m8, .ref m9, .ref m10, .ref m11, .ref m12, .ref m13, .ref m14, .ref m15, .ref m16, .ref m17, .int 0, .ref m18, .ref m19, .ref m20, .ref m21, .ref m22, .ref m23, .ref m24]))]) (va_A [(h, .inr (4, [.int F, .int 0, .ref m0, .int 0, .int 0, .ref m1, .ref m2, .int 0, .ref m3, .ref m4, .ref m5, .ref m6, .ref m7, .ref m8, .ref m9, .ref m10, .ref m11, .ref m12, .ref m13, .ref m14, .ref m15, .ref m16, .ref m17, .int 0, .ref m18, .ref m19, .ref m20, .ref m21, .ref m22, .ref m23, .ref m24]))] sz)) 0 0 (va_A [(h, .inr (4, [.int F, .int 0, .ref m0, .int 0, .int 0, .ref m1, .ref m2, .int 0, .ref m3, .ref m4, .ref m5, .ref m6, .ref m7, .ref m8, .ref m9, .ref m10, .ref m11, .ref m12, .ref m13, .ref m14, .ref m15, .ref m16, .ref m17, .int 0, .ref m18, .ref m19, .ref m20, .ref m21, .ref m22, .ref m23, .ref m24]))] sz) := by
  refine Met.ofW (cc := xb_Mo_fails) (maxL := 2) (ret := (some .int)) (by decide) rfl ?_
  intro p e s m args below meth c s₁ B hml hv
  obtain ⟨rfl, hsz, hP, hK, hD0⟩ := hv
  have hx := B.exec
  have hb := B.bytes
  have hr := B.returns
  have hT := x_hT B.pre
  have hown : s.vm.findClass xR_Mo = some m.cls := findClass_of_methodNamed B.named
  have hlocks := B.notSynchronized
  subst hsz
  have hD := hD0.self (sz := s.heap.size)
  generalize hAe : va_A [(h, .inr (4, [.int F, .int 0, .ref m0, .int 0, .int 0, .ref m1, .ref m2, .int 0, .ref m3, .ref m4, .ref m5, .ref m6, .ref m7, .ref m8, .ref m9, .ref m10, .ref m11, .ref m12, .ref m13, .ref m14, .ref m15, .ref m16, .ref m17, .int 0, .ref m18, .ref m19, .ref m20, .ref m21, .ref m22, .ref m23, .ref m24]))] s.heap.size = A at hD ⊢
  have hA : ∀ q : Nat, s.heap.size ≤ q → A q := fun q h => by rw [← hAe]; exact Or.inr h
  have hS : va_S A s.heap s.heap [] := va_S.rf
  have hP : va_P D xcl [(h, .inr (4, [.int F, .int 0, .ref m0, .int 0, .int 0, .ref m1, .ref m2, .int 0, .ref m3, .ref m4, .ref m5, .ref m6, .ref m7, .ref m8, .ref m9, .ref m10, .ref m11, .ref m12, .ref m13, .ref m14, .ref m15, .ref m16, .ref m17, .int 0, .ref m18, .ref m19, .ref m20, .ref m21, .ref m22, .ref m23, .ref m24]))] s.heap := hP
  have hl := lv_entry ([.ref h, .int cd]) (n := 2) (Nat.le_of_ble_eq_true rfl)
  rw [lg_entry_eq]
  generalize (lg_sl ([.ref h, .int cd]) ++ List.replicate (2 - (lg_sl ([.ref h, .int cd])).length) Slot.unset).toArray = ls at hl ⊢
  have hl : lv_has ls 2 [(0, .ref h), (1, .int cd)] := hl
  refine lv_aload_n hx hb xd_Mo_fails_0 rfl (lv_at hl 0 rfl) ?_
  refine lv_iload_n hx hb xd_Mo_fails_1 rfl (lv_at hl 1 rfl) ?_
  refine va_put (D := D) (ci := 4) (v := .int cd) (ty := .int) (C := xR_Mo) (T := xT_Mo) (N := 31) hx hb hT xi_Mo xt_Mo xt_Mo_ok xn_Mo hown hK.1 hP hD hS 0 rfl rfl 0 (by decide) (hT _ xk_115) (fun _ h9 => h9) rfl (by decide +kernel) rfl rfl (Nat.le_of_ble_eq_true rfl) xd_Mo_fails_2 (fun H locs hP hD hS => ?_)
  have hP : va_P D xcl [(h, .inr (4, [.int cd, .int 0, .ref m0, .int 0, .int 0, .ref m1, .ref m2, .int 0, .ref m3, .ref m4, .ref m5, .ref m6, .ref m7, .ref m8, .ref m9, .ref m10, .ref m11, .ref m12, .ref m13, .ref m14, .ref m15, .ref m16, .ref m17, .int 0, .ref m18, .ref m19, .ref m20, .ref m21, .ref m22, .ref m23, .ref m24]))] H := hP
  have hD : va_D A [(h, .inr (4, [.int cd, .int 0, .ref m0, .int 0, .int 0, .ref m1, .ref m2, .int 0, .ref m3, .ref m4, .ref m5, .ref m6, .ref m7, .ref m8, .ref m9, .ref m10, .ref m11, .ref m12, .ref m13, .ref m14, .ref m15, .ref m16, .ref m17, .int 0, .ref m18, .ref m19, .ref m20, .ref m21, .ref m22, .ref m23, .ref m24]))] := hD
  refine lv_iconst (v := 0) hx hb xd_Mo_fails_5 (by decide) ?_
  have hP9 := hP.sub (ws' := [(h, .inr (4, [.int cd, .int 0, .ref m0, .int 0, .int 0, .ref m1, .ref m2, .int 0, .ref m3, .ref m4, .ref m5, .ref m6, .ref m7, .ref m8, .ref m9, .ref m10, .ref m11, .ref m12, .ref m13, .ref m14, .ref m15, .ref m16, .ref m17, .int 0, .ref m18, .ref m19, .ref m20, .ref m21, .ref m22, .ref m23, .ref m24]))]) [0] rfl
  have hD9 := hD.sub (ws' := [(h, .inr (4, [.int cd, .int 0, .ref m0, .int 0, .int 0, .ref m1, .ref m2, .int 0, .ref m3, .ref m4, .ref m5, .ref m6, .ref m7, .ref m8, .ref m9, .ref m10, .ref m11, .ref m12, .ref m13, .ref m14, .ref m15, .ref m16, .ref m17, .int 0, .ref m18, .ref m19, .ref m20, .ref m21, .ref m22, .ref m23, .ref m24]))]) [0] (by decide) rfl
  refine W.widen (k := 0) (n := 0) (Nat.le_of_ble_eq_true rfl) (Nat.le_of_ble_eq_true rfl) ?_
  exact W.iret (v := 0) hx hb hr (fun t ht hW => ⟨⟨0, (), rfl, rfl, by rw [ht]; exact hP9, hD9⟩, hS.F ht⟩) hS.2.2 xd_Mo_fails_6
set_option maxHeartbeats 4000000 in
set_option maxRecDepth 100000 in
theorem xc_Mo_write (l : Launch) (D : va_G) (kA : Nat → ClassId) (sz : Nat) (h : Nat) (m0 : Nat) (m1 : Nat) (m2 : Nat) (m3 : Nat) (m4 : Nat) (m5 : Nat) (m6 : Nat) (m7 : Nat) (m8 : Nat) (m9 : Nat) (m10 : Nat) (m11 : Nat) (m12 : Nat) (m13 : Nat) (m14 : Nat) (m15 : Nat) (m16 : Nat) (m17 : Nat) (m18 : Nat) (m19 : Nat) (m20 : Nat) (m21 : Nat) (m22 : Nat) (m23 : Nat) (m24 : Nat) (F : Int32) (cc9 : Int32) : Met l xy_Mo_write (.code xy_Mo_write xb_Mo_write 2 (some .boolean) :: wT) { frames := 0, cells := 0, slots := 0, locals := 0 } (va_Pc [.ref h, .int cc9] (xPre D kA sz [(h, .inr (4, [.int F, .int 0, .ref m0, .int 0, .int 0, .ref m1, .ref m2, .int 0, .ref m3, .ref m4, .ref m5, .ref m6, .ref m7, .ref m8, .ref m9, .ref m10, .ref m11, .ref m12, .ref m13, .ref m14, .ref m15, .ref m16, .ref m17, .int 0, .ref m18, .ref m19, .ref m20, .ref m21, .ref m22, .ref m23, .ref m24])), (m0, .inl (kA 1, 40, .inl (fun _ => 0)))])) (va_Qi (fun (r : Int32) (u : Int32 × (Nat → Int32)) => r = (if cc9 < 32 then 0 else if cc9 ≤ 126 then 1 else 0)) (fun (u : Int32 × (Nat → Int32)) t => va_P D xcl [(h, .inr (4, [.int 0, .int 0, .ref m0, .int u.1, .int 0, .ref m1, .ref m2, .int 0, .ref m3, .ref m4, .ref m5, .ref m6, .ref m7, .ref m8, .ref m9, .ref m10, .ref m11, .ref m12, .ref m13, .ref m14, .ref m15, .ref m16, .ref m17, .int 0, .ref m18, .ref m19, .ref m20, .ref m21, .ref m22, .ref m23, .ref m24])), (m0, .inl (kA 1, 40, .inl u.2))] t.heap ∧ va_D (va_A [(h, .inr (4, [.int F, .int 0, .ref m0, .int 0, .int 0, .ref m1, .ref m2, .int 0, .ref m3, .ref m4, .ref m5, .ref m6, .ref m7, .ref m8, .ref m9, .ref m10, .ref m11, .ref m12, .ref m13, .ref m14, .ref m15, .ref m16, .ref m17, .int 0, .ref m18, .ref m19, .ref m20, .ref m21, .ref m22, .ref m23, .ref m24])), (m0, .inl (kA 1, 40, .inl (fun _ => 0)))] sz) [(h, .inr (4, [.int 0, .int 0, .ref m0, .int u.1, .int 0, .ref m1, .ref m2, .int 0, .ref m3, .ref m4, .ref m5, .ref m6, .ref m7, .ref m8, .ref m9, .ref m10, .ref m11, .ref m12, .ref m13, .ref m14, .ref m15, .ref m16, .ref m17, .int 0, .ref m18, .ref m19, .ref m20, .ref m21, .ref m22, .ref m23, .ref m24])), (m0, .inl (kA 1, 40, .inl u.2))]) (va_A [(h, .inr (4, [.int F, .int 0, .ref m0, .int 0, .int 0, .ref m1, .ref m2, .int 0, .ref m3, .ref m4, .ref m5, .ref m6, .ref m7, .ref m8, .ref m9, .ref m10, .ref m11, .ref m12, .ref m13, .ref m14, .ref m15, .ref m16, .ref m17, .int 0, .ref m18, .ref m19, .ref m20, .ref m21, .ref m22, .ref m23, .ref m24])), (m0, .inl (kA 1, 40, .inl (fun _ => 0)))] sz)) 0 0 (va_A [(h, .inr (4, [.int F, .int 0, .ref m0, .int 0, .int 0, .ref m1, .ref m2, .int 0, .ref m3, .ref m4, .ref m5, .ref m6, .ref m7, .ref m8, .ref m9, .ref m10, .ref m11, .ref m12, .ref m13, .ref m14, .ref m15, .ref m16, .ref m17, .int 0, .ref m18, .ref m19, .ref m20, .ref m21, .ref m22, .ref m23, .ref m24])), (m0, .inl (kA 1, 40, .inl (fun _ => 0)))] sz) := by
  refine Met.ofW (cc := xb_Mo_write) (maxL := 2) (ret := (some .boolean)) (by decide) rfl ?_
  intro p e s m args below meth c s₁ B hml hv
  obtain ⟨rfl, hsz, hP, hK, hD0⟩ := hv
  have hx := B.exec
  have hb := B.bytes
  have hr := B.returns
  have hT := x_hT B.pre
  have hown : s.vm.findClass xR_Mo = some m.cls := findClass_of_methodNamed B.named
  have hlocks := B.notSynchronized
  subst hsz
  have hD := hD0.self (sz := s.heap.size)
  generalize hAe : va_A [(h, .inr (4, [.int F, .int 0, .ref m0, .int 0, .int 0, .ref m1, .ref m2, .int 0, .ref m3, .ref m4, .ref m5, .ref m6, .ref m7, .ref m8, .ref m9, .ref m10, .ref m11, .ref m12, .ref m13, .ref m14, .ref m15, .ref m16, .ref m17, .int 0, .ref m18, .ref m19, .ref m20, .ref m21, .ref m22, .ref m23, .ref m24])), (m0, .inl (kA 1, 40, .inl (fun _ => 0)))] s.heap.size = A at hD ⊢
  have hA : ∀ q : Nat, s.heap.size ≤ q → A q := fun q h => by rw [← hAe]; exact Or.inr h
  have hS : va_S A s.heap s.heap [] := va_S.rf
  have hP : va_P D xcl [(h, .inr (4, [.int F, .int 0, .ref m0, .int 0, .int 0, .ref m1, .ref m2, .int 0, .ref m3, .ref m4, .ref m5, .ref m6, .ref m7, .ref m8, .ref m9, .ref m10, .ref m11, .ref m12, .ref m13, .ref m14, .ref m15, .ref m16, .ref m17, .int 0, .ref m18, .ref m19, .ref m20, .ref m21, .ref m22, .ref m23, .ref m24])), (m0, .inl (kA 1, 40, .inl (fun _ => 0)))] s.heap := hP
  have hl := lv_entry ([.ref h, .int cc9]) (n := 2) (Nat.le_of_ble_eq_true rfl)
  rw [lg_entry_eq]
  generalize (lg_sl ([.ref h, .int cc9]) ++ List.replicate (2 - (lg_sl ([.ref h, .int cc9])).length) Slot.unset).toArray = ls at hl ⊢
  have hl : lv_has ls 2 [(0, .ref h), (1, .int cc9)] := hl
  refine lv_aload_n hx hb xd_Mo_write_0 rfl (lv_at hl 0 rfl) ?_
  refine lv_iconst (v := 0) hx hb xd_Mo_write_1 (by decide) ?_
  refine va_put (D := D) (ci := 4) (v := .int 0) (ty := .int) (C := xR_Mo) (T := xT_Mo) (N := 31) hx hb hT xi_Mo xt_Mo xt_Mo_ok xn_Mo hown hK.1 hP hD hS 0 rfl rfl 0 (by decide) (hT _ xk_115) (fun _ h9 => h9) rfl (by decide +kernel) rfl rfl (Nat.le_of_ble_eq_true rfl) xd_Mo_write_2 (fun H locs hP hD hS => ?_)
  have hP : va_P D xcl [(h, .inr (4, [.int 0, .int 0, .ref m0, .int 0, .int 0, .ref m1, .ref m2, .int 0, .ref m3, .ref m4, .ref m5, .ref m6, .ref m7, .ref m8, .ref m9, .ref m10, .ref m11, .ref m12, .ref m13, .ref m14, .ref m15, .ref m16, .ref m17, .int 0, .ref m18, .ref m19, .ref m20, .ref m21, .ref m22, .ref m23, .ref m24])), (m0, .inl (kA 1, 40, .inl (fun _ => 0)))] H := hP
  have hD : va_D A [(h, .inr (4, [.int 0, .int 0, .ref m0, .int 0, .int 0, .ref m1, .ref m2, .int 0, .ref m3, .ref m4, .ref m5, .ref m6, .ref m7, .ref m8, .ref m9, .ref m10, .ref m11, .ref m12, .ref m13, .ref m14, .ref m15, .ref m16, .ref m17, .int 0, .ref m18, .ref m19, .ref m20, .ref m21, .ref m22, .ref m23, .ref m24])), (m0, .inl (kA 1, 40, .inl (fun _ => 0)))] := hD
  refine lv_iload_n hx hb xd_Mo_write_5 rfl (lv_at hl 1 rfl) ?_
  refine lv_bipush (v := 32) hx hb xd_Mo_write_6 (by decide) ?_
  refine lv_icmp_lt (tgt := 26) hx hb xd_Mo_write_8 (by decide) (fun hc1 => ?_) (fun hc1 => ?_)
  · refine lv_iconst (v := 0) hx hb xd_Mo_write_26 (by decide) ?_
    have hP9 := hP.sub (ws' := [(h, .inr (4, [.int 0, .int 0, .ref m0, .int 0, .int 0, .ref m1, .ref m2, .int 0, .ref m3, .ref m4, .ref m5, .ref m6, .ref m7, .ref m8, .ref m9, .ref m10, .ref m11, .ref m12, .ref m13, .ref m14, .ref m15, .ref m16, .ref m17, .int 0, .ref m18, .ref m19, .ref m20, .ref m21, .ref m22, .ref m23, .ref m24])), (m0, .inl (kA 1, 40, .inl (fun _ => 0)))]) [0, 1] rfl
    have hD9 := hD.sub (ws' := [(h, .inr (4, [.int 0, .int 0, .ref m0, .int 0, .int 0, .ref m1, .ref m2, .int 0, .ref m3, .ref m4, .ref m5, .ref m6, .ref m7, .ref m8, .ref m9, .ref m10, .ref m11, .ref m12, .ref m13, .ref m14, .ref m15, .ref m16, .ref m17, .int 0, .ref m18, .ref m19, .ref m20, .ref m21, .ref m22, .ref m23, .ref m24])), (m0, .inl (kA 1, 40, .inl (fun _ => 0)))]) [0, 1] (by decide) rfl
    refine W.widen (k := 0) (n := 0) (Nat.le_of_ble_eq_true rfl) (Nat.le_of_ble_eq_true rfl) ?_
    exact W.zret (v := 0) hx hb hr rfl (fun t ht hW => ⟨⟨0, (0, (fun _ => 0)), rfl, by simp [hc1], by rw [ht]; exact hP9, hD9⟩, hS.F ht⟩) hS.2.2 xd_Mo_write_27
  · refine lv_iload_n hx hb xd_Mo_write_11 rfl (lv_at hl 1 rfl) ?_
    refine lv_bipush (v := 126) hx hb xd_Mo_write_12 (by decide) ?_
    refine lv_icmp_gt (tgt := 26) hx hb xd_Mo_write_14 (by decide) (fun hc2 => ?_) (fun hc2 => ?_)
    · refine lv_iconst (v := 0) hx hb xd_Mo_write_26 (by decide) ?_
      have hP9 := hP.sub (ws' := [(h, .inr (4, [.int 0, .int 0, .ref m0, .int 0, .int 0, .ref m1, .ref m2, .int 0, .ref m3, .ref m4, .ref m5, .ref m6, .ref m7, .ref m8, .ref m9, .ref m10, .ref m11, .ref m12, .ref m13, .ref m14, .ref m15, .ref m16, .ref m17, .int 0, .ref m18, .ref m19, .ref m20, .ref m21, .ref m22, .ref m23, .ref m24])), (m0, .inl (kA 1, 40, .inl (fun _ => 0)))]) [0, 1] rfl
      have hD9 := hD.sub (ws' := [(h, .inr (4, [.int 0, .int 0, .ref m0, .int 0, .int 0, .ref m1, .ref m2, .int 0, .ref m3, .ref m4, .ref m5, .ref m6, .ref m7, .ref m8, .ref m9, .ref m10, .ref m11, .ref m12, .ref m13, .ref m14, .ref m15, .ref m16, .ref m17, .int 0, .ref m18, .ref m19, .ref m20, .ref m21, .ref m22, .ref m23, .ref m24])), (m0, .inl (kA 1, 40, .inl (fun _ => 0)))]) [0, 1] (by decide) rfl
      refine W.widen (k := 0) (n := 0) (Nat.le_of_ble_eq_true rfl) (Nat.le_of_ble_eq_true rfl) ?_
      exact W.zret (v := 0) hx hb hr rfl (fun t ht hW => ⟨⟨0, (0, (fun _ => 0)), rfl, by simp [hc1, hc2], by rw [ht]; exact hP9, hD9⟩, hS.F ht⟩) hS.2.2 xd_Mo_write_27
    · refine lv_aload_n hx hb xd_Mo_write_17 rfl (lv_at hl 0 rfl) ?_
      refine va_get (D := D) (ci := 4) (v := .int 0) (C := xR_Mo) (T := xT_Mo) (N := 31) hx hb hT xi_Mo hown hK.1 hP 0 rfl rfl 3 (by decide) (hT _ xk_116) (fun _ h9 => h9) rfl xd_Mo_write_18 ?_
      refine lv_bipush (v := 40) hx hb xd_Mo_write_21 (by decide) ?_
      refine lv_icmp_lt (tgt := 28) hx hb xd_Mo_write_23 (by decide) (fun _ => ?_) (fun hc => absurd (by decide) hc)
      refine lv_aload_n hx hb xd_Mo_write_28 rfl (lv_at hl 0 rfl) ?_
      refine va_get (D := D) (ci := 4) (v := .ref m0) (C := xR_Mo) (T := xT_Mo) (N := 31) hx hb hT xi_Mo hown hK.1 hP 0 rfl rfl 2 (by decide) (hT _ xk_46) (fun _ h9 => h9) rfl xd_Mo_write_29 ?_
      refine lv_aload_n hx hb xd_Mo_write_32 rfl (lv_at hl 0 rfl) ?_
      refine va_get (D := D) (ci := 4) (v := .int 0) (C := xR_Mo) (T := xT_Mo) (N := 31) hx hb hT xi_Mo hown hK.1 hP 0 rfl rfl 3 (by decide) (hT _ xk_116) (fun _ h9 => h9) rfl xd_Mo_write_33 ?_
      refine lv_iload_n hx hb xd_Mo_write_36 rfl (lv_at hl 1 rfl) ?_
      refine va_cast hx hb hK.1 hP hD hS 1 1 rfl rfl (show ¬ _ by decide) xd_Mo_write_37 (fun H locs hP hD hS => ?_)
      have hP : va_P D xcl [(h, .inr (4, [.int 0, .int 0, .ref m0, .int 0, .int 0, .ref m1, .ref m2, .int 0, .ref m3, .ref m4, .ref m5, .ref m6, .ref m7, .ref m8, .ref m9, .ref m10, .ref m11, .ref m12, .ref m13, .ref m14, .ref m15, .ref m16, .ref m17, .int 0, .ref m18, .ref m19, .ref m20, .ref m21, .ref m22, .ref m23, .ref m24])), (m0, .inl (kA 1, 40, .inl (upd (fun _ => 0) (0 : Int32).toNatClampNeg (vp_nar .char cc9))))] H := hP
      have hD : va_D A [(h, .inr (4, [.int 0, .int 0, .ref m0, .int 0, .int 0, .ref m1, .ref m2, .int 0, .ref m3, .ref m4, .ref m5, .ref m6, .ref m7, .ref m8, .ref m9, .ref m10, .ref m11, .ref m12, .ref m13, .ref m14, .ref m15, .ref m16, .ref m17, .int 0, .ref m18, .ref m19, .ref m20, .ref m21, .ref m22, .ref m23, .ref m24])), (m0, .inl (kA 1, 40, .inl (upd (fun _ => 0) (0 : Int32).toNatClampNeg (vp_nar .char cc9))))] := hD
      refine lv_aload_n hx hb xd_Mo_write_38 rfl (lv_at hl 0 rfl) ?_
      refine lv_dup hx hb xd_Mo_write_39 rfl ?_
      refine va_get (D := D) (ci := 4) (v := .int 0) (C := xR_Mo) (T := xT_Mo) (N := 31) hx hb hT xi_Mo hown hK.1 hP 0 rfl rfl 3 (by decide) (hT _ xk_116) (fun _ h9 => h9) rfl xd_Mo_write_40 ?_
      refine lv_iconst (v := 1) hx hb xd_Mo_write_43 (by decide) ?_
      refine lv_iadd hx hb xd_Mo_write_44 ?_
      refine va_put (D := D) (ci := 4) (v := .int (0 + 1)) (ty := .int) (C := xR_Mo) (T := xT_Mo) (N := 31) hx hb hT xi_Mo xt_Mo xt_Mo_ok xn_Mo hown hK.1 hP hD hS 0 rfl rfl 3 (by decide) (hT _ xk_116) (fun _ h9 => h9) rfl (by decide +kernel) rfl rfl (Nat.le_of_ble_eq_true rfl) xd_Mo_write_45 (fun H locs hP hD hS => ?_)
      have hP : va_P D xcl [(h, .inr (4, [.int 0, .int 0, .ref m0, .int (0 + 1), .int 0, .ref m1, .ref m2, .int 0, .ref m3, .ref m4, .ref m5, .ref m6, .ref m7, .ref m8, .ref m9, .ref m10, .ref m11, .ref m12, .ref m13, .ref m14, .ref m15, .ref m16, .ref m17, .int 0, .ref m18, .ref m19, .ref m20, .ref m21, .ref m22, .ref m23, .ref m24])), (m0, .inl (kA 1, 40, .inl (upd (fun _ => 0) (0 : Int32).toNatClampNeg (vp_nar .char cc9))))] H := hP
      have hD : va_D A [(h, .inr (4, [.int 0, .int 0, .ref m0, .int (0 + 1), .int 0, .ref m1, .ref m2, .int 0, .ref m3, .ref m4, .ref m5, .ref m6, .ref m7, .ref m8, .ref m9, .ref m10, .ref m11, .ref m12, .ref m13, .ref m14, .ref m15, .ref m16, .ref m17, .int 0, .ref m18, .ref m19, .ref m20, .ref m21, .ref m22, .ref m23, .ref m24])), (m0, .inl (kA 1, 40, .inl (upd (fun _ => 0) (0 : Int32).toNatClampNeg (vp_nar .char cc9))))] := hD
      refine lv_iconst (v := 1) hx hb xd_Mo_write_48 (by decide) ?_
      have hP9 := hP.sub (ws' := [(h, .inr (4, [.int 0, .int 0, .ref m0, .int (0 + 1), .int 0, .ref m1, .ref m2, .int 0, .ref m3, .ref m4, .ref m5, .ref m6, .ref m7, .ref m8, .ref m9, .ref m10, .ref m11, .ref m12, .ref m13, .ref m14, .ref m15, .ref m16, .ref m17, .int 0, .ref m18, .ref m19, .ref m20, .ref m21, .ref m22, .ref m23, .ref m24])), (m0, .inl (kA 1, 40, .inl (upd (fun _ => 0) (0 : Int32).toNatClampNeg (vp_nar .char cc9))))]) [0, 1] rfl
      have hD9 := hD.sub (ws' := [(h, .inr (4, [.int 0, .int 0, .ref m0, .int (0 + 1), .int 0, .ref m1, .ref m2, .int 0, .ref m3, .ref m4, .ref m5, .ref m6, .ref m7, .ref m8, .ref m9, .ref m10, .ref m11, .ref m12, .ref m13, .ref m14, .ref m15, .ref m16, .ref m17, .int 0, .ref m18, .ref m19, .ref m20, .ref m21, .ref m22, .ref m23, .ref m24])), (m0, .inl (kA 1, 40, .inl (upd (fun _ => 0) (0 : Int32).toNatClampNeg (vp_nar .char cc9))))]) [0, 1] (by decide) rfl
      refine W.widen (k := 0) (n := 0) (Nat.le_of_ble_eq_true rfl) (Nat.le_of_ble_eq_true rfl) ?_
      exact W.zret (v := 1) hx hb hr rfl (fun t ht hW => ⟨⟨1, ((0 + 1), (upd (fun _ => 0) (0 : Int32).toNatClampNeg (vp_nar .char cc9))), rfl, by simp [hc1, hc2], by rw [ht]; exact hP9, hD9⟩, hS.F ht⟩) hS.2.2 xd_Mo_write_49
set_option maxHeartbeats 4000000 in
set_option maxRecDepth 100000 in
theorem xc_Mo_split (l : Launch) (D : va_G) (kA : Nat → ClassId) (sz : Nat) (h : Nat) (m0 : Nat) (m1 : Nat) (m2 : Nat) (m3 : Nat) (m4 : Nat) (m5 : Nat) (m6 : Nat) (m7 : Nat) (m8 : Nat) (m9 : Nat) (m10 : Nat) (m11 : Nat) (m12 : Nat) (m13 : Nat) (m14 : Nat) (m15 : Nat) (m16 : Nat) (m17 : Nat) (m18 : Nat) (m19 : Nat) (m20 : Nat) (m21 : Nat) (m22 : Nat) (m23 : Nat) (m24 : Nat) (F : Int32) : Met l xy_Mo_split (.code xy_Mo_split xb_Mo_split 2 none :: wT) { frames := 0, cells := 0, slots := 0, locals := 0 } (va_Pc [.ref h] (xPre D kA sz [(h, .inr (4, [.int F, .int 0, .ref m0, .int 0, .int 0, .ref m1, .ref m2, .int 0, .ref m3, .ref m4, .ref m5, .ref m6, .ref m7, .ref m8, .ref m9, .ref m10, .ref m11, .ref m12, .ref m13, .ref m14, .ref m15, .ref m16, .ref m17, .int 0, .ref m18, .ref m19, .ref m20, .ref m21, .ref m22, .ref m23, .ref m24]))])) (va_Qv (fun (u : Unit) => True) (fun (u : Unit) t => va_P D xcl [(h, .inr (4, [.int F, .int 0, .ref m0, .int 0, .int 0, .ref m1, .ref m2, .int 0, .ref m3, .ref m4, .ref m5, .ref m6, .ref m7, .ref m8, .ref m9, .ref m10, .ref m11, .ref m12, .ref m13, .ref m14, .ref m15, .ref m16, .ref m17, .int 0, .ref m18, .ref m19, .ref m20, .ref m21, .ref m22, .ref m23, .ref m24]))] t.heap ∧ va_D (va_A [(h, .inr (4, [.int F, .int 0, .ref m0, .int 0, .int 0, .ref m1, .ref m2, .int 0, .ref m3, .ref m4, .ref m5, .ref m6, .ref m7, .ref m8, .ref m9, .ref m10, .ref m11, .ref m12, .ref m13, .ref m14, .ref m15, .ref m16, .ref m17, .int 0, .ref m18, .ref m19, .ref m20, .ref m21, .ref m22, .ref m23, .ref m24]))] sz) [(h, .inr (4, [.int F, .int 0, .ref m0, .int 0, .int 0, .ref m1, .ref m2, .int 0, .ref m3, .ref m4, .ref m5, .ref m6, .ref m7, .ref m8, .ref m9, .ref m10, .ref m11, .ref m12, .ref m13, .ref m14, .ref m15, .ref m16, .ref m17, .int 0, .ref m18, .ref m19, .ref m20, .ref m21, .ref m22, .ref m23, .ref m24]))]) (va_A [(h, .inr (4, [.int F, .int 0, .ref m0, .int 0, .int 0, .ref m1, .ref m2, .int 0, .ref m3, .ref m4, .ref m5, .ref m6, .ref m7, .ref m8, .ref m9, .ref m10, .ref m11, .ref m12, .ref m13, .ref m14, .ref m15, .ref m16, .ref m17, .int 0, .ref m18, .ref m19, .ref m20, .ref m21, .ref m22, .ref m23, .ref m24]))] sz)) 0 0 (va_A [(h, .inr (4, [.int F, .int 0, .ref m0, .int 0, .int 0, .ref m1, .ref m2, .int 0, .ref m3, .ref m4, .ref m5, .ref m6, .ref m7, .ref m8, .ref m9, .ref m10, .ref m11, .ref m12, .ref m13, .ref m14, .ref m15, .ref m16, .ref m17, .int 0, .ref m18, .ref m19, .ref m20, .ref m21, .ref m22, .ref m23, .ref m24]))] sz) := by
  refine Met.ofW (cc := xb_Mo_split) (maxL := 2) (ret := none) (by decide) rfl ?_
  intro p e s m args below meth c s₁ B hml hv
  obtain ⟨rfl, hsz, hP, hK, hD0⟩ := hv
  have hx := B.exec
  have hb := B.bytes
  have hr := B.returns
  have hT := x_hT B.pre
  have hown : s.vm.findClass xR_Mo = some m.cls := findClass_of_methodNamed B.named
  have hlocks := B.notSynchronized
  subst hsz
  have hD := hD0.self (sz := s.heap.size)
  generalize hAe : va_A [(h, .inr (4, [.int F, .int 0, .ref m0, .int 0, .int 0, .ref m1, .ref m2, .int 0, .ref m3, .ref m4, .ref m5, .ref m6, .ref m7, .ref m8, .ref m9, .ref m10, .ref m11, .ref m12, .ref m13, .ref m14, .ref m15, .ref m16, .ref m17, .int 0, .ref m18, .ref m19, .ref m20, .ref m21, .ref m22, .ref m23, .ref m24]))] s.heap.size = A at hD ⊢
  have hA : ∀ q : Nat, s.heap.size ≤ q → A q := fun q h => by rw [← hAe]; exact Or.inr h
  have hS : va_S A s.heap s.heap [] := va_S.rf
  have hP : va_P D xcl [(h, .inr (4, [.int F, .int 0, .ref m0, .int 0, .int 0, .ref m1, .ref m2, .int 0, .ref m3, .ref m4, .ref m5, .ref m6, .ref m7, .ref m8, .ref m9, .ref m10, .ref m11, .ref m12, .ref m13, .ref m14, .ref m15, .ref m16, .ref m17, .int 0, .ref m18, .ref m19, .ref m20, .ref m21, .ref m22, .ref m23, .ref m24]))] s.heap := hP
  have hl := lv_entry ([.ref h]) (n := 2) (Nat.le_of_ble_eq_true rfl)
  rw [lg_entry_eq]
  generalize (lg_sl ([.ref h]) ++ List.replicate (2 - (lg_sl ([.ref h])).length) Slot.unset).toArray = ls at hl ⊢
  have hl : lv_has ls 2 [(0, .ref h)] := hl
  refine lv_aload_n hx hb xd_Mo_split_0 rfl (lv_at hl 0 rfl) ?_
  refine lv_iconst (v := 0) hx hb xd_Mo_split_1 (by decide) ?_
  refine va_put (D := D) (ci := 4) (v := .int 0) (ty := .int) (C := xR_Mo) (T := xT_Mo) (N := 31) hx hb hT xi_Mo xt_Mo xt_Mo_ok xn_Mo hown hK.1 hP hD hS 0 rfl rfl 4 (by decide) (hT _ xk_117) (fun _ h9 => h9) rfl (by decide +kernel) rfl rfl (Nat.le_of_ble_eq_true rfl) xd_Mo_split_2 (fun H locs hP hD hS => ?_)
  have hP : va_P D xcl [(h, .inr (4, [.int F, .int 0, .ref m0, .int 0, .int 0, .ref m1, .ref m2, .int 0, .ref m3, .ref m4, .ref m5, .ref m6, .ref m7, .ref m8, .ref m9, .ref m10, .ref m11, .ref m12, .ref m13, .ref m14, .ref m15, .ref m16, .ref m17, .int 0, .ref m18, .ref m19, .ref m20, .ref m21, .ref m22, .ref m23, .ref m24]))] H := hP
  have hD : va_D A [(h, .inr (4, [.int F, .int 0, .ref m0, .int 0, .int 0, .ref m1, .ref m2, .int 0, .ref m3, .ref m4, .ref m5, .ref m6, .ref m7, .ref m8, .ref m9, .ref m10, .ref m11, .ref m12, .ref m13, .ref m14, .ref m15, .ref m16, .ref m17, .int 0, .ref m18, .ref m19, .ref m20, .ref m21, .ref m22, .ref m23, .ref m24]))] := hD
  refine lv_iconst (v := 0) hx hb xd_Mo_split_5 (by decide) ?_
  refine lv_istore_n hx hb xd_Mo_split_6 rfl hl (Nat.le_of_ble_eq_true rfl) rfl (fun ls hl => ?_)
  have hl : lv_has ls 2 [(1, .int 0), (0, .ref h)] := hl
  refine lv_iload_n hx hb xd_Mo_split_7 rfl (lv_at hl 0 rfl) ?_
  refine lv_aload_n hx hb xd_Mo_split_8 rfl (lv_at hl 1 rfl) ?_
  refine va_get (D := D) (ci := 4) (v := .int 0) (C := xR_Mo) (T := xT_Mo) (N := 31) hx hb hT xi_Mo hown hK.1 hP 0 rfl rfl 3 (by decide) (hT _ xk_116) (fun _ h9 => h9) rfl xd_Mo_split_9 ?_
  refine lv_icmp_ge (tgt := 106) hx hb xd_Mo_split_12 (by decide) (fun _ => ?_) (fun hc => absurd (by decide) hc)
  refine lv_aload_n hx hb xd_Mo_split_106 rfl (lv_at hl 1 rfl) ?_
  refine lv_iconst (v := 0) hx hb xd_Mo_split_107 (by decide) ?_
  refine va_put (D := D) (ci := 4) (v := .int 0) (ty := .int) (C := xR_Mo) (T := xT_Mo) (N := 31) hx hb hT xi_Mo xt_Mo xt_Mo_ok xn_Mo hown hK.1 hP hD hS 0 rfl rfl 3 (by decide) (hT _ xk_116) (fun _ h9 => h9) rfl (by decide +kernel) rfl rfl (Nat.le_of_ble_eq_true rfl) xd_Mo_split_108 (fun H locs hP hD hS => ?_)
  have hP : va_P D xcl [(h, .inr (4, [.int F, .int 0, .ref m0, .int 0, .int 0, .ref m1, .ref m2, .int 0, .ref m3, .ref m4, .ref m5, .ref m6, .ref m7, .ref m8, .ref m9, .ref m10, .ref m11, .ref m12, .ref m13, .ref m14, .ref m15, .ref m16, .ref m17, .int 0, .ref m18, .ref m19, .ref m20, .ref m21, .ref m22, .ref m23, .ref m24]))] H := hP
  have hD : va_D A [(h, .inr (4, [.int F, .int 0, .ref m0, .int 0, .int 0, .ref m1, .ref m2, .int 0, .ref m3, .ref m4, .ref m5, .ref m6, .ref m7, .ref m8, .ref m9, .ref m10, .ref m11, .ref m12, .ref m13, .ref m14, .ref m15, .ref m16, .ref m17, .int 0, .ref m18, .ref m19, .ref m20, .ref m21, .ref m22, .ref m23, .ref m24]))] := hD
  have hP9 := hP.sub (ws' := [(h, .inr (4, [.int F, .int 0, .ref m0, .int 0, .int 0, .ref m1, .ref m2, .int 0, .ref m3, .ref m4, .ref m5, .ref m6, .ref m7, .ref m8, .ref m9, .ref m10, .ref m11, .ref m12, .ref m13, .ref m14, .ref m15, .ref m16, .ref m17, .int 0, .ref m18, .ref m19, .ref m20, .ref m21, .ref m22, .ref m23, .ref m24]))]) [0] rfl
  have hD9 := hD.sub (ws' := [(h, .inr (4, [.int F, .int 0, .ref m0, .int 0, .int 0, .ref m1, .ref m2, .int 0, .ref m3, .ref m4, .ref m5, .ref m6, .ref m7, .ref m8, .ref m9, .ref m10, .ref m11, .ref m12, .ref m13, .ref m14, .ref m15, .ref m16, .ref m17, .int 0, .ref m18, .ref m19, .ref m20, .ref m21, .ref m22, .ref m23, .ref m24]))]) [0] (by decide) rfl
  refine W.widen (k := 0) (n := 0) (Nat.le_of_ble_eq_true rfl) (Nat.le_of_ble_eq_true rfl) ?_
  exact W.vret hx hb hr (fun t ht hW => ⟨⟨(), rfl, trivial, by rw [ht]; exact hP9, hD9⟩, hS.F ht⟩) hS.2.2 xd_Mo_split_111
set_option maxHeartbeats 4000000 in
set_option maxRecDepth 100000 in
theorem xc_Mo_line (l : Launch) (D : va_G) (kA : Nat → ClassId) (sz : Nat) (h : Nat) (m0 : Nat) (m1 : Nat) (m2 : Nat) (m3 : Nat) (m4 : Nat) (m5 : Nat) (m6 : Nat) (m7 : Nat) (m8 : Nat) (m9 : Nat) (m10 : Nat) (m11 : Nat) (m12 : Nat) (m13 : Nat) (m14 : Nat) (m15 : Nat) (m16 : Nat) (m17 : Nat) (m18 : Nat) (m19 : Nat) (m20 : Nat) (m21 : Nat) (m22 : Nat) (m23 : Nat) (m24 : Nat) (F : Int32) : Met l xy_Mo_line (.code xy_Mo_line xb_Mo_line 2 (some .int) :: wT) { frames := 1, cells := 0, slots := 0, locals := 21 } (va_Pc [.ref h] (xPre D kA sz [(h, .inr (4, [.int F, .int 0, .ref m0, .int 0, .int 0, .ref m1, .ref m2, .int 0, .ref m3, .ref m4, .ref m5, .ref m6, .ref m7, .ref m8, .ref m9, .ref m10, .ref m11, .ref m12, .ref m13, .ref m14, .ref m15, .ref m16, .ref m17, .int 0, .ref m18, .ref m19, .ref m20, .ref m21, .ref m22, .ref m23, .ref m24]))])) (va_Qi (fun (r : Int32) (u : Unit) => r = 0) (fun (u : Unit) t => va_P D xcl [(h, .inr (4, [.int 0, .int 0, .ref m0, .int 0, .int 0, .ref m1, .ref m2, .int 0, .ref m3, .ref m4, .ref m5, .ref m6, .ref m7, .ref m8, .ref m9, .ref m10, .ref m11, .ref m12, .ref m13, .ref m14, .ref m15, .ref m16, .ref m17, .int 0, .ref m18, .ref m19, .ref m20, .ref m21, .ref m22, .ref m23, .ref m24]))] t.heap ∧ va_D (va_A [(h, .inr (4, [.int F, .int 0, .ref m0, .int 0, .int 0, .ref m1, .ref m2, .int 0, .ref m3, .ref m4, .ref m5, .ref m6, .ref m7, .ref m8, .ref m9, .ref m10, .ref m11, .ref m12, .ref m13, .ref m14, .ref m15, .ref m16, .ref m17, .int 0, .ref m18, .ref m19, .ref m20, .ref m21, .ref m22, .ref m23, .ref m24]))] sz) [(h, .inr (4, [.int 0, .int 0, .ref m0, .int 0, .int 0, .ref m1, .ref m2, .int 0, .ref m3, .ref m4, .ref m5, .ref m6, .ref m7, .ref m8, .ref m9, .ref m10, .ref m11, .ref m12, .ref m13, .ref m14, .ref m15, .ref m16, .ref m17, .int 0, .ref m18, .ref m19, .ref m20, .ref m21, .ref m22, .ref m23, .ref m24]))]) (va_A [(h, .inr (4, [.int F, .int 0, .ref m0, .int 0, .int 0, .ref m1, .ref m2, .int 0, .ref m3, .ref m4, .ref m5, .ref m6, .ref m7, .ref m8, .ref m9, .ref m10, .ref m11, .ref m12, .ref m13, .ref m14, .ref m15, .ref m16, .ref m17, .int 0, .ref m18, .ref m19, .ref m20, .ref m21, .ref m22, .ref m23, .ref m24]))] sz)) 0 0 (va_A [(h, .inr (4, [.int F, .int 0, .ref m0, .int 0, .int 0, .ref m1, .ref m2, .int 0, .ref m3, .ref m4, .ref m5, .ref m6, .ref m7, .ref m8, .ref m9, .ref m10, .ref m11, .ref m12, .ref m13, .ref m14, .ref m15, .ref m16, .ref m17, .int 0, .ref m18, .ref m19, .ref m20, .ref m21, .ref m22, .ref m23, .ref m24]))] sz) := by
  refine Met.ofW (cc := xb_Mo_line) (maxL := 2) (ret := (some .int)) (by decide) rfl ?_
  intro p e s m args below meth c s₁ B hml hv
  obtain ⟨rfl, hsz, hP, hK, hD0⟩ := hv
  have hx := B.exec
  have hb := B.bytes
  have hr := B.returns
  have hT := x_hT B.pre
  have hown : s.vm.findClass xR_Mo = some m.cls := findClass_of_methodNamed B.named
  have hlocks := B.notSynchronized
  subst hsz
  have hD := hD0.self (sz := s.heap.size)
  generalize hAe : va_A [(h, .inr (4, [.int F, .int 0, .ref m0, .int 0, .int 0, .ref m1, .ref m2, .int 0, .ref m3, .ref m4, .ref m5, .ref m6, .ref m7, .ref m8, .ref m9, .ref m10, .ref m11, .ref m12, .ref m13, .ref m14, .ref m15, .ref m16, .ref m17, .int 0, .ref m18, .ref m19, .ref m20, .ref m21, .ref m22, .ref m23, .ref m24]))] s.heap.size = A at hD ⊢
  have hA : ∀ q : Nat, s.heap.size ≤ q → A q := fun q h => by rw [← hAe]; exact Or.inr h
  have hS : va_S A s.heap s.heap [] := va_S.rf
  have hP : va_P D xcl [(h, .inr (4, [.int F, .int 0, .ref m0, .int 0, .int 0, .ref m1, .ref m2, .int 0, .ref m3, .ref m4, .ref m5, .ref m6, .ref m7, .ref m8, .ref m9, .ref m10, .ref m11, .ref m12, .ref m13, .ref m14, .ref m15, .ref m16, .ref m17, .int 0, .ref m18, .ref m19, .ref m20, .ref m21, .ref m22, .ref m23, .ref m24]))] s.heap := hP
  have hl := lv_entry ([.ref h]) (n := 2) (Nat.le_of_ble_eq_true rfl)
  rw [lg_entry_eq]
  generalize (lg_sl ([.ref h]) ++ List.replicate (2 - (lg_sl ([.ref h])).length) Slot.unset).toArray = ls at hl ⊢
  have hl : lv_has ls 2 [(0, .ref h)] := hl
  refine lv_aload_n hx hb xd_Mo_line_0 rfl (lv_at hl 0 rfl) ?_
  refine lv_iconst (v := 0) hx hb xd_Mo_line_1 (by decide) ?_
  refine va_put (D := D) (ci := 4) (v := .int 0) (ty := .int) (C := xR_Mo) (T := xT_Mo) (N := 31) hx hb hT xi_Mo xt_Mo xt_Mo_ok xn_Mo hown hK.1 hP hD hS 0 rfl rfl 0 (by decide) (hT _ xk_115) (fun _ h9 => h9) rfl (by decide +kernel) rfl rfl (Nat.le_of_ble_eq_true rfl) xd_Mo_line_2 (fun H locs hP hD hS => ?_)
  have hP : va_P D xcl [(h, .inr (4, [.int 0, .int 0, .ref m0, .int 0, .int 0, .ref m1, .ref m2, .int 0, .ref m3, .ref m4, .ref m5, .ref m6, .ref m7, .ref m8, .ref m9, .ref m10, .ref m11, .ref m12, .ref m13, .ref m14, .ref m15, .ref m16, .ref m17, .int 0, .ref m18, .ref m19, .ref m20, .ref m21, .ref m22, .ref m23, .ref m24]))] H := hP
  have hD : va_D A [(h, .inr (4, [.int 0, .int 0, .ref m0, .int 0, .int 0, .ref m1, .ref m2, .int 0, .ref m3, .ref m4, .ref m5, .ref m6, .ref m7, .ref m8, .ref m9, .ref m10, .ref m11, .ref m12, .ref m13, .ref m14, .ref m15, .ref m16, .ref m17, .int 0, .ref m18, .ref m19, .ref m20, .ref m21, .ref m22, .ref m23, .ref m24]))] := hD
  refine lv_aload_n hx hb xd_Mo_line_5 rfl (lv_at hl 0 rfl) ?_
  have hPc := hP.sub (ws' := [(h, .inr (4, [.int 0, .int 0, .ref m0, .int 0, .int 0, .ref m1, .ref m2, .int 0, .ref m3, .ref m4, .ref m5, .ref m6, .ref m7, .ref m8, .ref m9, .ref m10, .ref m11, .ref m12, .ref m13, .ref m14, .ref m15, .ref m16, .ref m17, .int 0, .ref m18, .ref m19, .ref m20, .ref m21, .ref m22, .ref m23, .ref m24]))]) [0] rfl
  have hDc := hD.sub (ws' := [(h, .inr (4, [.int 0, .int 0, .ref m0, .int 0, .int 0, .ref m1, .ref m2, .int 0, .ref m3, .ref m4, .ref m5, .ref m6, .ref m7, .ref m8, .ref m9, .ref m10, .ref m11, .ref m12, .ref m13, .ref m14, .ref m15, .ref m16, .ref m17, .int 0, .ref m18, .ref m19, .ref m20, .ref m21, .ref m22, .ref m23, .ref m24]))]) [0] (by decide) rfl
  have hFc := va_free (wc := [(h, .inr (4, [.int 0, .int 0, .ref m0, .int 0, .int 0, .ref m1, .ref m2, .int 0, .ref m3, .ref m4, .ref m5, .ref m6, .ref m7, .ref m8, .ref m9, .ref m10, .ref m11, .ref m12, .ref m13, .ref m14, .ref m15, .ref m16, .ref m17, .int 0, .ref m18, .ref m19, .ref m20, .ref m21, .ref m22, .ref m23, .ref m24]))]) hD hS hA [0] rfl
  have hkc : 0 + 0 ≤ 0 := Nat.le_of_ble_eq_true rfl
  have hks : 0 + 0 ≤ 0 := Nat.le_of_ble_eq_true rfl
  refine va_callv (va_runV (As := []) (rest := []) ⟨hx, hb, hml, hown, hT⟩ (xc_Mo_split l D kA H.size h m0 m1 m2 m3 m4 m5 m6 m7 m8 m9 m10 m11 m12 m13 m14 m15 m16 m17 m18 m19 m20 m21 m22 m23 m24 0) (cwV 0 hT (wT_V xk_119 xk_120 xk_121 xk_122 xk_118) rfl rfl rfl (by decide +kernel) ⟨Nat.le_of_ble_eq_true rfl, Nat.le_of_ble_eq_true rfl⟩) (x_preV hK hPc hDc 0 rfl rfl) rfl rfl hl.1 rfl (lv_room (Nat.le_of_ble_eq_true rfl)) xd_Mo_line_6 ⟨hkc, hks⟩) hS (fun q _ h => hFc q h) hFc (fun u t H1 locs ht hvm hpost hB hz1 hk1 hS => ?_)
  obtain ⟨hP1, hD1⟩ := hB
  rw [ht] at hP1
  obtain ⟨hP, hD⟩ := va_join (wr := []) (w1 := [(h, .inr (4, [.int 0, .int 0, .ref m0, .int 0, .int 0, .ref m1, .ref m2, .int 0, .ref m3, .ref m4, .ref m5, .ref m6, .ref m7, .ref m8, .ref m9, .ref m10, .ref m11, .ref m12, .ref m13, .ref m14, .ref m15, .ref m16, .ref m17, .int 0, .ref m18, .ref m19, .ref m20, .ref m21, .ref m22, .ref m23, .ref m24]))]) hP hD [0] [] rfl rfl (by decide) (by decide) hk1 hFc hP1 hD1
  generalize H1 = H at hP hS ⊢
  have hP : va_P D xcl [(h, .inr (4, [.int 0, .int 0, .ref m0, .int 0, .int 0, .ref m1, .ref m2, .int 0, .ref m3, .ref m4, .ref m5, .ref m6, .ref m7, .ref m8, .ref m9, .ref m10, .ref m11, .ref m12, .ref m13, .ref m14, .ref m15, .ref m16, .ref m17, .int 0, .ref m18, .ref m19, .ref m20, .ref m21, .ref m22, .ref m23, .ref m24]))] H := hP
  have hD : va_D A [(h, .inr (4, [.int 0, .int 0, .ref m0, .int 0, .int 0, .ref m1, .ref m2, .int 0, .ref m3, .ref m4, .ref m5, .ref m6, .ref m7, .ref m8, .ref m9, .ref m10, .ref m11, .ref m12, .ref m13, .ref m14, .ref m15, .ref m16, .ref m17, .int 0, .ref m18, .ref m19, .ref m20, .ref m21, .ref m22, .ref m23, .ref m24]))] := hD
  refine lv_aload_n hx hb xd_Mo_line_9 rfl (lv_at hl 0 rfl) ?_
  refine va_get (D := D) (ci := 4) (v := .int 0) (C := xR_Mo) (T := xT_Mo) (N := 31) hx hb hT xi_Mo hown hK.1 hP 0 rfl rfl 4 (by decide) (hT _ xk_117) (fun _ h9 => h9) rfl xd_Mo_line_10 ?_
  refine lv_if_ne (tgt := 18) hx hb xd_Mo_line_13 (by decide) (fun hc => absurd (by decide) hc) (fun _ => ?_)
  refine lv_iconst (v := 0) hx hb xd_Mo_line_16 (by decide) ?_
  have hP9 := hP.sub (ws' := [(h, .inr (4, [.int 0, .int 0, .ref m0, .int 0, .int 0, .ref m1, .ref m2, .int 0, .ref m3, .ref m4, .ref m5, .ref m6, .ref m7, .ref m8, .ref m9, .ref m10, .ref m11, .ref m12, .ref m13, .ref m14, .ref m15, .ref m16, .ref m17, .int 0, .ref m18, .ref m19, .ref m20, .ref m21, .ref m22, .ref m23, .ref m24]))]) [0] rfl
  have hD9 := hD.sub (ws' := [(h, .inr (4, [.int 0, .int 0, .ref m0, .int 0, .int 0, .ref m1, .ref m2, .int 0, .ref m3, .ref m4, .ref m5, .ref m6, .ref m7, .ref m8, .ref m9, .ref m10, .ref m11, .ref m12, .ref m13, .ref m14, .ref m15, .ref m16, .ref m17, .int 0, .ref m18, .ref m19, .ref m20, .ref m21, .ref m22, .ref m23, .ref m24]))]) [0] (by decide) rfl
  refine W.widen (k := 0) (n := 0) (Nat.le_of_ble_eq_true rfl) (Nat.le_of_ble_eq_true rfl) ?_
  exact W.iret (v := 0) hx hb hr (fun t ht hW => ⟨⟨0, (), rfl, rfl, by rw [ht]; exact hP9, hD9⟩, hS.F ht⟩) hS.2.2 xd_Mo_line_17
set_option maxHeartbeats 4000000 in
set_option maxRecDepth 100000 in
theorem xc_Mo_isOpen (l : Launch) (D : va_G) (kA : Nat → ClassId) (sz : Nat) (h : Nat) (m0 : Nat) (m1 : Nat) (m2 : Nat) (m3 : Nat) (m4 : Nat) (m5 : Nat) (m6 : Nat) (m7 : Nat) (m8 : Nat) (m9 : Nat) (m10 : Nat) (m11 : Nat) (m12 : Nat) (m13 : Nat) (m14 : Nat) (m15 : Nat) (m16 : Nat) (m17 : Nat) (m18 : Nat) (m19 : Nat) (m20 : Nat) (m21 : Nat) (m22 : Nat) (m23 : Nat) (m24 : Nat) (F : Int32) (n : Int32) : Met l xy_Mo_isOpen (.code xy_Mo_isOpen xb_Mo_isOpen 2 (some .boolean) :: wT) { frames := 0, cells := 0, slots := 0, locals := 0 } (va_Pc [.ref h, .int n] (xPre D kA sz [(h, .inr (4, [.int F, .int 0, .ref m0, .int 0, .int 0, .ref m1, .ref m2, .int 0, .ref m3, .ref m4, .ref m5, .ref m6, .ref m7, .ref m8, .ref m9, .ref m10, .ref m11, .ref m12, .ref m13, .ref m14, .ref m15, .ref m16, .ref m17, .int 0, .ref m18, .ref m19, .ref m20, .ref m21, .ref m22, .ref m23, .ref m24]))])) (va_Qi (fun (r : Int32) (u : Unit) => r = 0) (fun (u : Unit) t => va_P D xcl [(h, .inr (4, [.int F, .int 0, .ref m0, .int 0, .int 0, .ref m1, .ref m2, .int 0, .ref m3, .ref m4, .ref m5, .ref m6, .ref m7, .ref m8, .ref m9, .ref m10, .ref m11, .ref m12, .ref m13, .ref m14, .ref m15, .ref m16, .ref m17, .int 0, .ref m18, .ref m19, .ref m20, .ref m21, .ref m22, .ref m23, .ref m24]))] t.heap ∧ va_D (va_A [(h, .inr (4, [.int F, .int 0, .ref m0, .int 0, .int 0, .ref m1, .ref m2, .int 0, .ref m3, .ref m4, .ref m5, .ref m6, .ref m7, .ref m8, .ref m9, .ref m10, .ref m11, .ref m12, .ref m13, .ref m14, .ref m15, .ref m16, .ref m17, .int 0, .ref m18, .ref m19, .ref m20, .ref m21, .ref m22, .ref m23, .ref m24]))] sz) [(h, .inr (4, [.int F, .int 0, .ref m0, .int 0, .int 0, .ref m1, .ref m2, .int 0, .ref m3, .ref m4, .ref m5, .ref m6, .ref m7, .ref m8, .ref m9, .ref m10, .ref m11, .ref m12, .ref m13, .ref m14, .ref m15, .ref m16, .ref m17, .int 0, .ref m18, .ref m19, .ref m20, .ref m21, .ref m22, .ref m23, .ref m24]))]) (va_A [(h, .inr (4, [.int F, .int 0, .ref m0, .int 0, .int 0, .ref m1, .ref m2, .int 0, .ref m3, .ref m4, .ref m5, .ref m6, .ref m7, .ref m8, .ref m9, .ref m10, .ref m11, .ref m12, .ref m13, .ref m14, .ref m15, .ref m16, .ref m17, .int 0, .ref m18, .ref m19, .ref m20, .ref m21, .ref m22, .ref m23, .ref m24]))] sz)) 0 0 (va_A [(h, .inr (4, [.int F, .int 0, .ref m0, .int 0, .int 0, .ref m1, .ref m2, .int 0, .ref m3, .ref m4, .ref m5, .ref m6, .ref m7, .ref m8, .ref m9, .ref m10, .ref m11, .ref m12, .ref m13, .ref m14, .ref m15, .ref m16, .ref m17, .int 0, .ref m18, .ref m19, .ref m20, .ref m21, .ref m22, .ref m23, .ref m24]))] sz) := by
  refine Met.ofW (cc := xb_Mo_isOpen) (maxL := 2) (ret := (some .boolean)) (by decide) rfl ?_
  intro p e s m args below meth c s₁ B hml hv
  obtain ⟨rfl, hsz, hP, hK, hD0⟩ := hv
  have hx := B.exec
  have hb := B.bytes
  have hr := B.returns
  have hT := x_hT B.pre
  have hown : s.vm.findClass xR_Mo = some m.cls := findClass_of_methodNamed B.named
  have hlocks := B.notSynchronized
  subst hsz
  have hD := hD0.self (sz := s.heap.size)
  generalize hAe : va_A [(h, .inr (4, [.int F, .int 0, .ref m0, .int 0, .int 0, .ref m1, .ref m2, .int 0, .ref m3, .ref m4, .ref m5, .ref m6, .ref m7, .ref m8, .ref m9, .ref m10, .ref m11, .ref m12, .ref m13, .ref m14, .ref m15, .ref m16, .ref m17, .int 0, .ref m18, .ref m19, .ref m20, .ref m21, .ref m22, .ref m23, .ref m24]))] s.heap.size = A at hD ⊢
  have hA : ∀ q : Nat, s.heap.size ≤ q → A q := fun q h => by rw [← hAe]; exact Or.inr h
  have hS : va_S A s.heap s.heap [] := va_S.rf
  have hP : va_P D xcl [(h, .inr (4, [.int F, .int 0, .ref m0, .int 0, .int 0, .ref m1, .ref m2, .int 0, .ref m3, .ref m4, .ref m5, .ref m6, .ref m7, .ref m8, .ref m9, .ref m10, .ref m11, .ref m12, .ref m13, .ref m14, .ref m15, .ref m16, .ref m17, .int 0, .ref m18, .ref m19, .ref m20, .ref m21, .ref m22, .ref m23, .ref m24]))] s.heap := hP
  have hl := lv_entry ([.ref h, .int n]) (n := 2) (Nat.le_of_ble_eq_true rfl)
  rw [lg_entry_eq]
  generalize (lg_sl ([.ref h, .int n]) ++ List.replicate (2 - (lg_sl ([.ref h, .int n])).length) Slot.unset).toArray = ls at hl ⊢
  have hl : lv_has ls 2 [(0, .ref h), (1, .int n)] := hl
  refine lv_iload_n hx hb xd_Mo_isOpen_0 rfl (lv_at hl 1 rfl) ?_
  refine lv_if_lt (tgt := 25) hx hb xd_Mo_isOpen_1 (by decide) (fun hc1 => ?_) (fun hc1 => ?_)
  · refine lv_iconst (v := 0) hx hb xd_Mo_isOpen_25 (by decide) ?_
    have hP9 := hP.sub (ws' := [(h, .inr (4, [.int F, .int 0, .ref m0, .int 0, .int 0, .ref m1, .ref m2, .int 0, .ref m3, .ref m4, .ref m5, .ref m6, .ref m7, .ref m8, .ref m9, .ref m10, .ref m11, .ref m12, .ref m13, .ref m14, .ref m15, .ref m16, .ref m17, .int 0, .ref m18, .ref m19, .ref m20, .ref m21, .ref m22, .ref m23, .ref m24]))]) [0] rfl
    have hD9 := hD.sub (ws' := [(h, .inr (4, [.int F, .int 0, .ref m0, .int 0, .int 0, .ref m1, .ref m2, .int 0, .ref m3, .ref m4, .ref m5, .ref m6, .ref m7, .ref m8, .ref m9, .ref m10, .ref m11, .ref m12, .ref m13, .ref m14, .ref m15, .ref m16, .ref m17, .int 0, .ref m18, .ref m19, .ref m20, .ref m21, .ref m22, .ref m23, .ref m24]))]) [0] (by decide) rfl
    refine W.widen (k := 0) (n := 0) (Nat.le_of_ble_eq_true rfl) (Nat.le_of_ble_eq_true rfl) ?_
    exact W.zret (v := 0) hx hb hr rfl (fun t ht hW => ⟨⟨0, (), rfl, rfl, by rw [ht]; exact hP9, hD9⟩, hS.F ht⟩) hS.2.2 xd_Mo_isOpen_26
  · refine lv_iload_n hx hb xd_Mo_isOpen_4 rfl (lv_at hl 1 rfl) ?_
    refine lv_aload_n hx hb xd_Mo_isOpen_5 rfl (lv_at hl 0 rfl) ?_
    refine va_get (D := D) (ci := 4) (v := .int 0) (C := xR_Mo) (T := xT_Mo) (N := 31) hx hb hT xi_Mo hown hK.1 hP 0 rfl rfl 23 (by decide) (hT _ xk_123) (fun _ h9 => h9) rfl xd_Mo_isOpen_6 ?_
    refine lv_icmp_ge (tgt := 25) hx hb xd_Mo_isOpen_9 (by decide) (fun _ => ?_) (fun hc => absurd (Int32.not_lt.mp hc1) hc)
    refine lv_iconst (v := 0) hx hb xd_Mo_isOpen_25 (by decide) ?_
    have hP9 := hP.sub (ws' := [(h, .inr (4, [.int F, .int 0, .ref m0, .int 0, .int 0, .ref m1, .ref m2, .int 0, .ref m3, .ref m4, .ref m5, .ref m6, .ref m7, .ref m8, .ref m9, .ref m10, .ref m11, .ref m12, .ref m13, .ref m14, .ref m15, .ref m16, .ref m17, .int 0, .ref m18, .ref m19, .ref m20, .ref m21, .ref m22, .ref m23, .ref m24]))]) [0] rfl
    have hD9 := hD.sub (ws' := [(h, .inr (4, [.int F, .int 0, .ref m0, .int 0, .int 0, .ref m1, .ref m2, .int 0, .ref m3, .ref m4, .ref m5, .ref m6, .ref m7, .ref m8, .ref m9, .ref m10, .ref m11, .ref m12, .ref m13, .ref m14, .ref m15, .ref m16, .ref m17, .int 0, .ref m18, .ref m19, .ref m20, .ref m21, .ref m22, .ref m23, .ref m24]))]) [0] (by decide) rfl
    refine W.widen (k := 0) (n := 0) (Nat.le_of_ble_eq_true rfl) (Nat.le_of_ble_eq_true rfl) ?_
    exact W.zret (v := 0) hx hb hr rfl (fun t ht hW => ⟨⟨0, (), rfl, rfl, by rw [ht]; exact hP9, hD9⟩, hS.F ht⟩) hS.2.2 xd_Mo_isOpen_26
set_option maxHeartbeats 4000000 in
set_option maxRecDepth 100000 in
theorem xc_Mo_layer (l : Launch) (D : va_G) (kA : Nat → ClassId) (sz : Nat) (h : Nat) (m0 : Nat) (m1 : Nat) (m2 : Nat) (m3 : Nat) (m4 : Nat) (m5 : Nat) (m6 : Nat) (m7 : Nat) (m8 : Nat) (m9 : Nat) (m10 : Nat) (m11 : Nat) (m12 : Nat) (m13 : Nat) (m14 : Nat) (m15 : Nat) (m16 : Nat) (m17 : Nat) (m18 : Nat) (m19 : Nat) (m20 : Nat) (m21 : Nat) (m22 : Nat) (m23 : Nat) (m24 : Nat) (F : Int32) (n : Int32) (k : Int32) (z : Int32) : Met l xy_Mo_layer (.code xy_Mo_layer xb_Mo_layer 7 (some .int) :: wT) { frames := 1, cells := 0, slots := 0, locals := 21 } (va_Pc [.ref h, .int n, .int k, .int z] (xPre D kA sz [(h, .inr (4, [.int F, .int 0, .ref m0, .int 0, .int 0, .ref m1, .ref m2, .int 0, .ref m3, .ref m4, .ref m5, .ref m6, .ref m7, .ref m8, .ref m9, .ref m10, .ref m11, .ref m12, .ref m13, .ref m14, .ref m15, .ref m16, .ref m17, .int 0, .ref m18, .ref m19, .ref m20, .ref m21, .ref m22, .ref m23, .ref m24]))])) (va_Qi (fun (r : Int32) (u : Unit) => r = 0) (fun (u : Unit) t => va_P D xcl [(h, .inr (4, [.int 1, .int 0, .ref m0, .int 0, .int 0, .ref m1, .ref m2, .int 0, .ref m3, .ref m4, .ref m5, .ref m6, .ref m7, .ref m8, .ref m9, .ref m10, .ref m11, .ref m12, .ref m13, .ref m14, .ref m15, .ref m16, .ref m17, .int 0, .ref m18, .ref m19, .ref m20, .ref m21, .ref m22, .ref m23, .ref m24]))] t.heap ∧ va_D (va_A [(h, .inr (4, [.int F, .int 0, .ref m0, .int 0, .int 0, .ref m1, .ref m2, .int 0, .ref m3, .ref m4, .ref m5, .ref m6, .ref m7, .ref m8, .ref m9, .ref m10, .ref m11, .ref m12, .ref m13, .ref m14, .ref m15, .ref m16, .ref m17, .int 0, .ref m18, .ref m19, .ref m20, .ref m21, .ref m22, .ref m23, .ref m24]))] sz) [(h, .inr (4, [.int 1, .int 0, .ref m0, .int 0, .int 0, .ref m1, .ref m2, .int 0, .ref m3, .ref m4, .ref m5, .ref m6, .ref m7, .ref m8, .ref m9, .ref m10, .ref m11, .ref m12, .ref m13, .ref m14, .ref m15, .ref m16, .ref m17, .int 0, .ref m18, .ref m19, .ref m20, .ref m21, .ref m22, .ref m23, .ref m24]))]) (va_A [(h, .inr (4, [.int F, .int 0, .ref m0, .int 0, .int 0, .ref m1, .ref m2, .int 0, .ref m3, .ref m4, .ref m5, .ref m6, .ref m7, .ref m8, .ref m9, .ref m10, .ref m11, .ref m12, .ref m13, .ref m14, .ref m15, .ref m16, .ref m17, .int 0, .ref m18, .ref m19, .ref m20, .ref m21, .ref m22, .ref m23, .ref m24]))] sz)) 0 0 (va_A [(h, .inr (4, [.int F, .int 0, .ref m0, .int 0, .int 0, .ref m1, .ref m2, .int 0, .ref m3, .ref m4, .ref m5, .ref m6, .ref m7, .ref m8, .ref m9, .ref m10, .ref m11, .ref m12, .ref m13, .ref m14, .ref m15, .ref m16, .ref m17, .int 0, .ref m18, .ref m19, .ref m20, .ref m21, .ref m22, .ref m23, .ref m24]))] sz) := by
  refine Met.ofW (cc := xb_Mo_layer) (maxL := 7) (ret := (some .int)) (by decide) rfl ?_
  intro p e s m args below meth c s₁ B hml hv
  obtain ⟨rfl, hsz, hP, hK, hD0⟩ := hv
  have hx := B.exec
  have hb := B.bytes
  have hr := B.returns
  have hT := x_hT B.pre
  have hown : s.vm.findClass xR_Mo = some m.cls := findClass_of_methodNamed B.named
  have hlocks := B.notSynchronized
  subst hsz
  have hD := hD0.self (sz := s.heap.size)
  generalize hAe : va_A [(h, .inr (4, [.int F, .int 0, .ref m0, .int 0, .int 0, .ref m1, .ref m2, .int 0, .ref m3, .ref m4, .ref m5, .ref m6, .ref m7, .ref m8, .ref m9, .ref m10, .ref m11, .ref m12, .ref m13, .ref m14, .ref m15, .ref m16, .ref m17, .int 0, .ref m18, .ref m19, .ref m20, .ref m21, .ref m22, .ref m23, .ref m24]))] s.heap.size = A at hD ⊢
  have hA : ∀ q : Nat, s.heap.size ≤ q → A q := fun q h => by rw [← hAe]; exact Or.inr h
  have hS : va_S A s.heap s.heap [] := va_S.rf
  have hP : va_P D xcl [(h, .inr (4, [.int F, .int 0, .ref m0, .int 0, .int 0, .ref m1, .ref m2, .int 0, .ref m3, .ref m4, .ref m5, .ref m6, .ref m7, .ref m8, .ref m9, .ref m10, .ref m11, .ref m12, .ref m13, .ref m14, .ref m15, .ref m16, .ref m17, .int 0, .ref m18, .ref m19, .ref m20, .ref m21, .ref m22, .ref m23, .ref m24]))] s.heap := hP
  have hl := lv_entry ([.ref h, .int n, .int k, .int z]) (n := 7) (Nat.le_of_ble_eq_true rfl)
  rw [lg_entry_eq]
  generalize (lg_sl ([.ref h, .int n, .int k, .int z]) ++ List.replicate (7 - (lg_sl ([.ref h, .int n, .int k, .int z])).length) Slot.unset).toArray = ls at hl ⊢
  have hl : lv_has ls 7 [(0, .ref h), (1, .int n), (2, .int k), (3, .int z)] := hl
  refine lv_aload_n hx hb xd_Mo_layer_0 rfl (lv_at hl 0 rfl) ?_
  refine lv_iconst (v := 0) hx hb xd_Mo_layer_1 (by decide) ?_
  refine va_put (D := D) (ci := 4) (v := .int 0) (ty := .int) (C := xR_Mo) (T := xT_Mo) (N := 31) hx hb hT xi_Mo xt_Mo xt_Mo_ok xn_Mo hown hK.1 hP hD hS 0 rfl rfl 0 (by decide) (hT _ xk_115) (fun _ h9 => h9) rfl (by decide +kernel) rfl rfl (Nat.le_of_ble_eq_true rfl) xd_Mo_layer_2 (fun H locs hP hD hS => ?_)
  have hP : va_P D xcl [(h, .inr (4, [.int 0, .int 0, .ref m0, .int 0, .int 0, .ref m1, .ref m2, .int 0, .ref m3, .ref m4, .ref m5, .ref m6, .ref m7, .ref m8, .ref m9, .ref m10, .ref m11, .ref m12, .ref m13, .ref m14, .ref m15, .ref m16, .ref m17, .int 0, .ref m18, .ref m19, .ref m20, .ref m21, .ref m22, .ref m23, .ref m24]))] H := hP
  have hD : va_D A [(h, .inr (4, [.int 0, .int 0, .ref m0, .int 0, .int 0, .ref m1, .ref m2, .int 0, .ref m3, .ref m4, .ref m5, .ref m6, .ref m7, .ref m8, .ref m9, .ref m10, .ref m11, .ref m12, .ref m13, .ref m14, .ref m15, .ref m16, .ref m17, .int 0, .ref m18, .ref m19, .ref m20, .ref m21, .ref m22, .ref m23, .ref m24]))] := hD
  refine lv_aload_n hx hb xd_Mo_layer_5 rfl (lv_at hl 0 rfl) ?_
  refine lv_iconst (v := 0) hx hb xd_Mo_layer_6 (by decide) ?_
  refine va_put (D := D) (ci := 4) (v := .int 0) (ty := .int) (C := xR_Mo) (T := xT_Mo) (N := 31) hx hb hT xi_Mo xt_Mo xt_Mo_ok xn_Mo hown hK.1 hP hD hS 0 rfl rfl 1 (by decide) (hT _ xk_124) (fun _ h9 => h9) rfl (by decide +kernel) rfl rfl (Nat.le_of_ble_eq_true rfl) xd_Mo_layer_7 (fun H locs hP hD hS => ?_)
  have hP : va_P D xcl [(h, .inr (4, [.int 0, .int 0, .ref m0, .int 0, .int 0, .ref m1, .ref m2, .int 0, .ref m3, .ref m4, .ref m5, .ref m6, .ref m7, .ref m8, .ref m9, .ref m10, .ref m11, .ref m12, .ref m13, .ref m14, .ref m15, .ref m16, .ref m17, .int 0, .ref m18, .ref m19, .ref m20, .ref m21, .ref m22, .ref m23, .ref m24]))] H := hP
  have hD : va_D A [(h, .inr (4, [.int 0, .int 0, .ref m0, .int 0, .int 0, .ref m1, .ref m2, .int 0, .ref m3, .ref m4, .ref m5, .ref m6, .ref m7, .ref m8, .ref m9, .ref m10, .ref m11, .ref m12, .ref m13, .ref m14, .ref m15, .ref m16, .ref m17, .int 0, .ref m18, .ref m19, .ref m20, .ref m21, .ref m22, .ref m23, .ref m24]))] := hD
  refine lv_aload_n hx hb xd_Mo_layer_10 rfl (lv_at hl 0 rfl) ?_
  have hPc := hP.sub (ws' := [(h, .inr (4, [.int 0, .int 0, .ref m0, .int 0, .int 0, .ref m1, .ref m2, .int 0, .ref m3, .ref m4, .ref m5, .ref m6, .ref m7, .ref m8, .ref m9, .ref m10, .ref m11, .ref m12, .ref m13, .ref m14, .ref m15, .ref m16, .ref m17, .int 0, .ref m18, .ref m19, .ref m20, .ref m21, .ref m22, .ref m23, .ref m24]))]) [0] rfl
  have hDc := hD.sub (ws' := [(h, .inr (4, [.int 0, .int 0, .ref m0, .int 0, .int 0, .ref m1, .ref m2, .int 0, .ref m3, .ref m4, .ref m5, .ref m6, .ref m7, .ref m8, .ref m9, .ref m10, .ref m11, .ref m12, .ref m13, .ref m14, .ref m15, .ref m16, .ref m17, .int 0, .ref m18, .ref m19, .ref m20, .ref m21, .ref m22, .ref m23, .ref m24]))]) [0] (by decide) rfl
  have hFc := va_free (wc := [(h, .inr (4, [.int 0, .int 0, .ref m0, .int 0, .int 0, .ref m1, .ref m2, .int 0, .ref m3, .ref m4, .ref m5, .ref m6, .ref m7, .ref m8, .ref m9, .ref m10, .ref m11, .ref m12, .ref m13, .ref m14, .ref m15, .ref m16, .ref m17, .int 0, .ref m18, .ref m19, .ref m20, .ref m21, .ref m22, .ref m23, .ref m24]))]) hD hS hA [0] rfl
  have hkc : 0 + 0 ≤ 0 := Nat.le_of_ble_eq_true rfl
  have hks : 0 + 0 ≤ 0 := Nat.le_of_ble_eq_true rfl
  refine va_callv (va_runV (As := []) (rest := []) ⟨hx, hb, hml, hown, hT⟩ (xc_Mo_split l D kA H.size h m0 m1 m2 m3 m4 m5 m6 m7 m8 m9 m10 m11 m12 m13 m14 m15 m16 m17 m18 m19 m20 m21 m22 m23 m24 0) (cwV 0 hT (wT_V xk_119 xk_120 xk_121 xk_122 xk_118) rfl rfl rfl (by decide +kernel) ⟨Nat.le_of_ble_eq_true rfl, Nat.le_of_ble_eq_true rfl⟩) (x_preV hK hPc hDc 0 rfl rfl) rfl rfl hl.1 rfl (lv_room (Nat.le_of_ble_eq_true rfl)) xd_Mo_layer_11 ⟨hkc, hks⟩) hS (fun q _ h => hFc q h) hFc (fun u t H1 locs ht hvm hpost hB hz1 hk1 hS => ?_)
  obtain ⟨hP1, hD1⟩ := hB
  rw [ht] at hP1
  obtain ⟨hP, hD⟩ := va_join (wr := []) (w1 := [(h, .inr (4, [.int 0, .int 0, .ref m0, .int 0, .int 0, .ref m1, .ref m2, .int 0, .ref m3, .ref m4, .ref m5, .ref m6, .ref m7, .ref m8, .ref m9, .ref m10, .ref m11, .ref m12, .ref m13, .ref m14, .ref m15, .ref m16, .ref m17, .int 0, .ref m18, .ref m19, .ref m20, .ref m21, .ref m22, .ref m23, .ref m24]))]) hP hD [0] [] rfl rfl (by decide) (by decide) hk1 hFc hP1 hD1
  generalize H1 = H at hP hS ⊢
  have hP : va_P D xcl [(h, .inr (4, [.int 0, .int 0, .ref m0, .int 0, .int 0, .ref m1, .ref m2, .int 0, .ref m3, .ref m4, .ref m5, .ref m6, .ref m7, .ref m8, .ref m9, .ref m10, .ref m11, .ref m12, .ref m13, .ref m14, .ref m15, .ref m16, .ref m17, .int 0, .ref m18, .ref m19, .ref m20, .ref m21, .ref m22, .ref m23, .ref m24]))] H := hP
  have hD : va_D A [(h, .inr (4, [.int 0, .int 0, .ref m0, .int 0, .int 0, .ref m1, .ref m2, .int 0, .ref m3, .ref m4, .ref m5, .ref m6, .ref m7, .ref m8, .ref m9, .ref m10, .ref m11, .ref m12, .ref m13, .ref m14, .ref m15, .ref m16, .ref m17, .int 0, .ref m18, .ref m19, .ref m20, .ref m21, .ref m22, .ref m23, .ref m24]))] := hD
  refine lv_aload_n hx hb xd_Mo_layer_14 rfl (lv_at hl 0 rfl) ?_
  refine va_get (D := D) (ci := 4) (v := .int 0) (C := xR_Mo) (T := xT_Mo) (N := 31) hx hb hT xi_Mo hown hK.1 hP 0 rfl rfl 4 (by decide) (hT _ xk_117) (fun _ h9 => h9) rfl xd_Mo_layer_15 ?_
  refine lv_iconst (v := 1) hx hb xd_Mo_layer_18 (by decide) ?_
  refine lv_icmp_lt (tgt := 34) hx hb xd_Mo_layer_19 (by decide) (fun _ => ?_) (fun hc => absurd (by decide) hc)
  refine lv_iconst (v := 0) hx hb xd_Mo_layer_34 (by decide) ?_
  refine lv_istore hx hb xd_Mo_layer_35 hl (Nat.le_of_ble_eq_true rfl) rfl (fun ls hl => ?_)
  have hl : lv_has ls 7 [(4, .int 0), (0, .ref h), (1, .int n), (2, .int k), (3, .int z)] := hl
  refine lv_iconst (v := 0) hx hb xd_Mo_layer_37 (by decide) ?_
  refine lv_istore hx hb xd_Mo_layer_38 hl (Nat.le_of_ble_eq_true rfl) rfl (fun ls hl => ?_)
  have hl : lv_has ls 7 [(5, .int 0), (4, .int 0), (0, .ref h), (1, .int n), (2, .int k), (3, .int z)] := hl
  refine lv_iload hx hb xd_Mo_layer_40 (lv_at hl 0 rfl) ?_
  refine lv_aload_n hx hb xd_Mo_layer_42 rfl (lv_at hl 2 rfl) ?_
  refine va_get (D := D) (ci := 4) (v := .int 0) (C := xR_Mo) (T := xT_Mo) (N := 31) hx hb hT xi_Mo hown hK.1 hP 0 rfl rfl 4 (by decide) (hT _ xk_117) (fun _ h9 => h9) rfl xd_Mo_layer_43 ?_
  refine lv_icmp_ge (tgt := 76) hx hb xd_Mo_layer_46 (by decide) (fun _ => ?_) (fun hc => absurd (by decide) hc)
  refine lv_iload hx hb xd_Mo_layer_76 (lv_at hl 1 rfl) ?_
  refine lv_if_eq (tgt := 103) hx hb xd_Mo_layer_78 (by decide) (fun _ => ?_) (fun hc => absurd (by decide) hc)
  refine lv_aload_n hx hb xd_Mo_layer_103 rfl (lv_at hl 2 rfl) ?_
  refine lv_iconst (v := 1) hx hb xd_Mo_layer_104 (by decide) ?_
  have hPc := hP.sub (ws' := [(h, .inr (4, [.int 0, .int 0, .ref m0, .int 0, .int 0, .ref m1, .ref m2, .int 0, .ref m3, .ref m4, .ref m5, .ref m6, .ref m7, .ref m8, .ref m9, .ref m10, .ref m11, .ref m12, .ref m13, .ref m14, .ref m15, .ref m16, .ref m17, .int 0, .ref m18, .ref m19, .ref m20, .ref m21, .ref m22, .ref m23, .ref m24]))]) [0] rfl
  have hDc := hD.sub (ws' := [(h, .inr (4, [.int 0, .int 0, .ref m0, .int 0, .int 0, .ref m1, .ref m2, .int 0, .ref m3, .ref m4, .ref m5, .ref m6, .ref m7, .ref m8, .ref m9, .ref m10, .ref m11, .ref m12, .ref m13, .ref m14, .ref m15, .ref m16, .ref m17, .int 0, .ref m18, .ref m19, .ref m20, .ref m21, .ref m22, .ref m23, .ref m24]))]) [0] (by decide) rfl
  have hFc := va_free (wc := [(h, .inr (4, [.int 0, .int 0, .ref m0, .int 0, .int 0, .ref m1, .ref m2, .int 0, .ref m3, .ref m4, .ref m5, .ref m6, .ref m7, .ref m8, .ref m9, .ref m10, .ref m11, .ref m12, .ref m13, .ref m14, .ref m15, .ref m16, .ref m17, .int 0, .ref m18, .ref m19, .ref m20, .ref m21, .ref m22, .ref m23, .ref m24]))]) hD hS hA [0] rfl
  have hkc : 0 + 0 ≤ 0 := Nat.le_of_ble_eq_true rfl
  have hks : 0 + 0 ≤ 0 := Nat.le_of_ble_eq_true rfl
  refine va_calli (va_runV (As := [.int 1]) (rest := []) ⟨hx, hb, hml, hown, hT⟩ (xc_Mo_fails l D kA H.size h m0 m1 m2 m3 m4 m5 m6 m7 m8 m9 m10 m11 m12 m13 m14 m15 m16 m17 m18 m19 m20 m21 m22 m23 m24 0 1) (cwV 1 hT (wT_V xk_126 xk_127 xk_128 xk_122 xk_125) rfl rfl rfl (by decide +kernel) ⟨Nat.le_of_ble_eq_true rfl, Nat.le_of_ble_eq_true rfl⟩) (x_preV hK hPc hDc 0 rfl rfl) rfl rfl hl.1 rfl (lv_room (Nat.le_of_ble_eq_true rfl)) xd_Mo_layer_105 ⟨hkc, hks⟩) hS (fun q _ h => hFc q h) hFc (fun r u t H1 locs ht hvm hpost hB hz1 hk1 hS => ?_)
  have hpost : r = 0 := hpost
  subst hpost
  obtain ⟨hP1, hD1⟩ := hB
  rw [ht] at hP1
  obtain ⟨hP, hD⟩ := va_join (wr := []) (w1 := [(h, .inr (4, [.int 1, .int 0, .ref m0, .int 0, .int 0, .ref m1, .ref m2, .int 0, .ref m3, .ref m4, .ref m5, .ref m6, .ref m7, .ref m8, .ref m9, .ref m10, .ref m11, .ref m12, .ref m13, .ref m14, .ref m15, .ref m16, .ref m17, .int 0, .ref m18, .ref m19, .ref m20, .ref m21, .ref m22, .ref m23, .ref m24]))]) hP hD [0] [] rfl rfl (by decide) (by decide) hk1 hFc hP1 hD1
  generalize H1 = H at hP hS ⊢
  have hP : va_P D xcl [(h, .inr (4, [.int 1, .int 0, .ref m0, .int 0, .int 0, .ref m1, .ref m2, .int 0, .ref m3, .ref m4, .ref m5, .ref m6, .ref m7, .ref m8, .ref m9, .ref m10, .ref m11, .ref m12, .ref m13, .ref m14, .ref m15, .ref m16, .ref m17, .int 0, .ref m18, .ref m19, .ref m20, .ref m21, .ref m22, .ref m23, .ref m24]))] H := hP
  have hD : va_D A [(h, .inr (4, [.int 1, .int 0, .ref m0, .int 0, .int 0, .ref m1, .ref m2, .int 0, .ref m3, .ref m4, .ref m5, .ref m6, .ref m7, .ref m8, .ref m9, .ref m10, .ref m11, .ref m12, .ref m13, .ref m14, .ref m15, .ref m16, .ref m17, .int 0, .ref m18, .ref m19, .ref m20, .ref m21, .ref m22, .ref m23, .ref m24]))] := hD
  have hP9 := hP.sub (ws' := [(h, .inr (4, [.int 1, .int 0, .ref m0, .int 0, .int 0, .ref m1, .ref m2, .int 0, .ref m3, .ref m4, .ref m5, .ref m6, .ref m7, .ref m8, .ref m9, .ref m10, .ref m11, .ref m12, .ref m13, .ref m14, .ref m15, .ref m16, .ref m17, .int 0, .ref m18, .ref m19, .ref m20, .ref m21, .ref m22, .ref m23, .ref m24]))]) [0] rfl
  have hD9 := hD.sub (ws' := [(h, .inr (4, [.int 1, .int 0, .ref m0, .int 0, .int 0, .ref m1, .ref m2, .int 0, .ref m3, .ref m4, .ref m5, .ref m6, .ref m7, .ref m8, .ref m9, .ref m10, .ref m11, .ref m12, .ref m13, .ref m14, .ref m15, .ref m16, .ref m17, .int 0, .ref m18, .ref m19, .ref m20, .ref m21, .ref m22, .ref m23, .ref m24]))]) [0] (by decide) rfl
  refine W.widen (k := 0) (n := 0) (Nat.le_of_ble_eq_true rfl) (Nat.le_of_ble_eq_true rfl) ?_
  exact W.iret (v := 0) hx hb hr (fun t ht hW => ⟨⟨0, (), rfl, rfl, by rw [ht]; exact hP9, hD9⟩, hS.F ht⟩) hS.2.2 xd_Mo_layer_108
set_option maxHeartbeats 4000000 in
set_option maxRecDepth 100000 in
theorem xc_Mo_fault (l : Launch) (D : va_G) (kA : Nat → ClassId) (sz : Nat) (h : Nat) (m0 : Nat) (m1 : Nat) (m2 : Nat) (m3 : Nat) (m4 : Nat) (m5 : Nat) (m6 : Nat) (m7 : Nat) (m8 : Nat) (m9 : Nat) (m10 : Nat) (m11 : Nat) (m12 : Nat) (m13 : Nat) (m14 : Nat) (m15 : Nat) (m16 : Nat) (m17 : Nat) (m18 : Nat) (m19 : Nat) (m20 : Nat) (m21 : Nat) (m22 : Nat) (m23 : Nat) (m24 : Nat) (F : Int32) : Met l xy_Mo_fault (.code xy_Mo_fault xb_Mo_fault 1 (some .int) :: wT) { frames := 0, cells := 0, slots := 0, locals := 0 } (va_Pc [.ref h] (xPre D kA sz [(h, .inr (4, [.int F, .int 0, .ref m0, .int 0, .int 0, .ref m1, .ref m2, .int 0, .ref m3, .ref m4, .ref m5, .ref m6, .ref m7, .ref m8, .ref m9, .ref m10, .ref m11, .ref m12, .ref m13, .ref m14, .ref m15, .ref m16, .ref m17, .int 0, .ref m18, .ref m19, .ref m20, .ref m21, .ref m22, .ref m23, .ref m24]))])) (va_Qi (fun (r : Int32) (u : Unit) => r = 0) (fun (u : Unit) t => va_P D xcl [(h, .inr (4, [.int 0, .int 0, .ref m0, .int 0, .int 0, .ref m1, .ref m2, .int 0, .ref m3, .ref m4, .ref m5, .ref m6, .ref m7, .ref m8, .ref m9, .ref m10, .ref m11, .ref m12, .ref m13, .ref m14, .ref m15, .ref m16, .ref m17, .int 0, .ref m18, .ref m19, .ref m20, .ref m21, .ref m22, .ref m23, .ref m24]))] t.heap ∧ va_D (va_A [(h, .inr (4, [.int F, .int 0, .ref m0, .int 0, .int 0, .ref m1, .ref m2, .int 0, .ref m3, .ref m4, .ref m5, .ref m6, .ref m7, .ref m8, .ref m9, .ref m10, .ref m11, .ref m12, .ref m13, .ref m14, .ref m15, .ref m16, .ref m17, .int 0, .ref m18, .ref m19, .ref m20, .ref m21, .ref m22, .ref m23, .ref m24]))] sz) [(h, .inr (4, [.int 0, .int 0, .ref m0, .int 0, .int 0, .ref m1, .ref m2, .int 0, .ref m3, .ref m4, .ref m5, .ref m6, .ref m7, .ref m8, .ref m9, .ref m10, .ref m11, .ref m12, .ref m13, .ref m14, .ref m15, .ref m16, .ref m17, .int 0, .ref m18, .ref m19, .ref m20, .ref m21, .ref m22, .ref m23, .ref m24]))]) (va_A [(h, .inr (4, [.int F, .int 0, .ref m0, .int 0, .int 0, .ref m1, .ref m2, .int 0, .ref m3, .ref m4, .ref m5, .ref m6, .ref m7, .ref m8, .ref m9, .ref m10, .ref m11, .ref m12, .ref m13, .ref m14, .ref m15, .ref m16, .ref m17, .int 0, .ref m18, .ref m19, .ref m20, .ref m21, .ref m22, .ref m23, .ref m24]))] sz)) 0 0 (va_A [(h, .inr (4, [.int F, .int 0, .ref m0, .int 0, .int 0, .ref m1, .ref m2, .int 0, .ref m3, .ref m4, .ref m5, .ref m6, .ref m7, .ref m8, .ref m9, .ref m10, .ref m11, .ref m12, .ref m13, .ref m14, .ref m15, .ref m16, .ref m17, .int 0, .ref m18, .ref m19, .ref m20, .ref m21, .ref m22, .ref m23, .ref m24]))] sz) := by
  refine Met.ofW (cc := xb_Mo_fault) (maxL := 1) (ret := (some .int)) (by decide) rfl ?_
  intro p e s m args below meth c s₁ B hml hv
  obtain ⟨rfl, hsz, hP, hK, hD0⟩ := hv
  have hx := B.exec
  have hb := B.bytes
  have hr := B.returns
  have hT := x_hT B.pre
  have hown : s.vm.findClass xR_Mo = some m.cls := findClass_of_methodNamed B.named
  have hlocks := B.notSynchronized
  subst hsz
  have hD := hD0.self (sz := s.heap.size)
  generalize hAe : va_A [(h, .inr (4, [.int F, .int 0, .ref m0, .int 0, .int 0, .ref m1, .ref m2, .int 0, .ref m3, .ref m4, .ref m5, .ref m6, .ref m7, .ref m8, .ref m9, .ref m10, .ref m11, .ref m12, .ref m13, .ref m14, .ref m15, .ref m16, .ref m17, .int 0, .ref m18, .ref m19, .ref m20, .ref m21, .ref m22, .ref m23, .ref m24]))] s.heap.size = A at hD ⊢
  have hA : ∀ q : Nat, s.heap.size ≤ q → A q := fun q h => by rw [← hAe]; exact Or.inr h
  have hS : va_S A s.heap s.heap [] := va_S.rf
  have hP : va_P D xcl [(h, .inr (4, [.int F, .int 0, .ref m0, .int 0, .int 0, .ref m1, .ref m2, .int 0, .ref m3, .ref m4, .ref m5, .ref m6, .ref m7, .ref m8, .ref m9, .ref m10, .ref m11, .ref m12, .ref m13, .ref m14, .ref m15, .ref m16, .ref m17, .int 0, .ref m18, .ref m19, .ref m20, .ref m21, .ref m22, .ref m23, .ref m24]))] s.heap := hP
  have hl := lv_entry ([.ref h]) (n := 1) (Nat.le_of_ble_eq_true rfl)
  rw [lg_entry_eq]
  generalize (lg_sl ([.ref h]) ++ List.replicate (1 - (lg_sl ([.ref h])).length) Slot.unset).toArray = ls at hl ⊢
  have hl : lv_has ls 1 [(0, .ref h)] := hl
  refine lv_aload_n hx hb xd_Mo_fault_0 rfl (lv_at hl 0 rfl) ?_
  refine lv_iconst (v := 0) hx hb xd_Mo_fault_1 (by decide) ?_
  refine va_put (D := D) (ci := 4) (v := .int 0) (ty := .int) (C := xR_Mo) (T := xT_Mo) (N := 31) hx hb hT xi_Mo xt_Mo xt_Mo_ok xn_Mo hown hK.1 hP hD hS 0 rfl rfl 0 (by decide) (hT _ xk_115) (fun _ h9 => h9) rfl (by decide +kernel) rfl rfl (Nat.le_of_ble_eq_true rfl) xd_Mo_fault_2 (fun H locs hP hD hS => ?_)
  have hP : va_P D xcl [(h, .inr (4, [.int 0, .int 0, .ref m0, .int 0, .int 0, .ref m1, .ref m2, .int 0, .ref m3, .ref m4, .ref m5, .ref m6, .ref m7, .ref m8, .ref m9, .ref m10, .ref m11, .ref m12, .ref m13, .ref m14, .ref m15, .ref m16, .ref m17, .int 0, .ref m18, .ref m19, .ref m20, .ref m21, .ref m22, .ref m23, .ref m24]))] H := hP
  have hD : va_D A [(h, .inr (4, [.int 0, .int 0, .ref m0, .int 0, .int 0, .ref m1, .ref m2, .int 0, .ref m3, .ref m4, .ref m5, .ref m6, .ref m7, .ref m8, .ref m9, .ref m10, .ref m11, .ref m12, .ref m13, .ref m14, .ref m15, .ref m16, .ref m17, .int 0, .ref m18, .ref m19, .ref m20, .ref m21, .ref m22, .ref m23, .ref m24]))] := hD
  refine lv_aload_n hx hb xd_Mo_fault_5 rfl (lv_at hl 0 rfl) ?_
  refine va_get (D := D) (ci := 4) (v := .int 0) (C := xR_Mo) (T := xT_Mo) (N := 31) hx hb hT xi_Mo hown hK.1 hP 0 rfl rfl 1 (by decide) (hT _ xk_124) (fun _ h9 => h9) rfl xd_Mo_fault_6 ?_
  have hP9 := hP.sub (ws' := [(h, .inr (4, [.int 0, .int 0, .ref m0, .int 0, .int 0, .ref m1, .ref m2, .int 0, .ref m3, .ref m4, .ref m5, .ref m6, .ref m7, .ref m8, .ref m9, .ref m10, .ref m11, .ref m12, .ref m13, .ref m14, .ref m15, .ref m16, .ref m17, .int 0, .ref m18, .ref m19, .ref m20, .ref m21, .ref m22, .ref m23, .ref m24]))]) [0] rfl
  have hD9 := hD.sub (ws' := [(h, .inr (4, [.int 0, .int 0, .ref m0, .int 0, .int 0, .ref m1, .ref m2, .int 0, .ref m3, .ref m4, .ref m5, .ref m6, .ref m7, .ref m8, .ref m9, .ref m10, .ref m11, .ref m12, .ref m13, .ref m14, .ref m15, .ref m16, .ref m17, .int 0, .ref m18, .ref m19, .ref m20, .ref m21, .ref m22, .ref m23, .ref m24]))]) [0] (by decide) rfl
  refine W.widen (k := 0) (n := 0) (Nat.le_of_ble_eq_true rfl) (Nat.le_of_ble_eq_true rfl) ?_
  exact W.iret (v := 0) hx hb hr (fun t ht hW => ⟨⟨0, (), rfl, rfl, by rw [ht]; exact hP9, hD9⟩, hS.F ht⟩) hS.2.2 xd_Mo_fault_9
set_option maxHeartbeats 4000000 in
set_option maxRecDepth 100000 in
theorem xc_Mo_close (l : Launch) (D : va_G) (kA : Nat → ClassId) (sz : Nat) (h : Nat) (m0 : Nat) (m1 : Nat) (m2 : Nat) (m3 : Nat) (m4 : Nat) (m5 : Nat) (m6 : Nat) (m7 : Nat) (m8 : Nat) (m9 : Nat) (m10 : Nat) (m11 : Nat) (m12 : Nat) (m13 : Nat) (m14 : Nat) (m15 : Nat) (m16 : Nat) (m17 : Nat) (m18 : Nat) (m19 : Nat) (m20 : Nat) (m21 : Nat) (m22 : Nat) (m23 : Nat) (m24 : Nat) (F : Int32) (n : Int32) : Met l xy_Mo_close (.code xy_Mo_close xb_Mo_close 3 (some .boolean) :: wT) { frames := 1, cells := 0, slots := 0, locals := 21 } (va_Pc [.ref h, .int n] (xPre D kA sz [(h, .inr (4, [.int F, .int 0, .ref m0, .int 0, .int 0, .ref m1, .ref m2, .int 0, .ref m3, .ref m4, .ref m5, .ref m6, .ref m7, .ref m8, .ref m9, .ref m10, .ref m11, .ref m12, .ref m13, .ref m14, .ref m15, .ref m16, .ref m17, .int 0, .ref m18, .ref m19, .ref m20, .ref m21, .ref m22, .ref m23, .ref m24]))])) (va_Qi (fun (r : Int32) (u : Unit) => r = 0) (fun (u : Unit) t => va_P D xcl [(h, .inr (4, [.int 0, .int 0, .ref m0, .int 0, .int 0, .ref m1, .ref m2, .int 0, .ref m3, .ref m4, .ref m5, .ref m6, .ref m7, .ref m8, .ref m9, .ref m10, .ref m11, .ref m12, .ref m13, .ref m14, .ref m15, .ref m16, .ref m17, .int 0, .ref m18, .ref m19, .ref m20, .ref m21, .ref m22, .ref m23, .ref m24]))] t.heap ∧ va_D (va_A [(h, .inr (4, [.int F, .int 0, .ref m0, .int 0, .int 0, .ref m1, .ref m2, .int 0, .ref m3, .ref m4, .ref m5, .ref m6, .ref m7, .ref m8, .ref m9, .ref m10, .ref m11, .ref m12, .ref m13, .ref m14, .ref m15, .ref m16, .ref m17, .int 0, .ref m18, .ref m19, .ref m20, .ref m21, .ref m22, .ref m23, .ref m24]))] sz) [(h, .inr (4, [.int 0, .int 0, .ref m0, .int 0, .int 0, .ref m1, .ref m2, .int 0, .ref m3, .ref m4, .ref m5, .ref m6, .ref m7, .ref m8, .ref m9, .ref m10, .ref m11, .ref m12, .ref m13, .ref m14, .ref m15, .ref m16, .ref m17, .int 0, .ref m18, .ref m19, .ref m20, .ref m21, .ref m22, .ref m23, .ref m24]))]) (va_A [(h, .inr (4, [.int F, .int 0, .ref m0, .int 0, .int 0, .ref m1, .ref m2, .int 0, .ref m3, .ref m4, .ref m5, .ref m6, .ref m7, .ref m8, .ref m9, .ref m10, .ref m11, .ref m12, .ref m13, .ref m14, .ref m15, .ref m16, .ref m17, .int 0, .ref m18, .ref m19, .ref m20, .ref m21, .ref m22, .ref m23, .ref m24]))] sz)) 0 0 (va_A [(h, .inr (4, [.int F, .int 0, .ref m0, .int 0, .int 0, .ref m1, .ref m2, .int 0, .ref m3, .ref m4, .ref m5, .ref m6, .ref m7, .ref m8, .ref m9, .ref m10, .ref m11, .ref m12, .ref m13, .ref m14, .ref m15, .ref m16, .ref m17, .int 0, .ref m18, .ref m19, .ref m20, .ref m21, .ref m22, .ref m23, .ref m24]))] sz) := by
  refine Met.ofW (cc := xb_Mo_close) (maxL := 3) (ret := (some .boolean)) (by decide) rfl ?_
  intro p e s m args below meth c s₁ B hml hv
  obtain ⟨rfl, hsz, hP, hK, hD0⟩ := hv
  have hx := B.exec
  have hb := B.bytes
  have hr := B.returns
  have hT := x_hT B.pre
  have hown : s.vm.findClass xR_Mo = some m.cls := findClass_of_methodNamed B.named
  have hlocks := B.notSynchronized
  subst hsz
  have hD := hD0.self (sz := s.heap.size)
  generalize hAe : va_A [(h, .inr (4, [.int F, .int 0, .ref m0, .int 0, .int 0, .ref m1, .ref m2, .int 0, .ref m3, .ref m4, .ref m5, .ref m6, .ref m7, .ref m8, .ref m9, .ref m10, .ref m11, .ref m12, .ref m13, .ref m14, .ref m15, .ref m16, .ref m17, .int 0, .ref m18, .ref m19, .ref m20, .ref m21, .ref m22, .ref m23, .ref m24]))] s.heap.size = A at hD ⊢
  have hA : ∀ q : Nat, s.heap.size ≤ q → A q := fun q h => by rw [← hAe]; exact Or.inr h
  have hS : va_S A s.heap s.heap [] := va_S.rf
  have hP : va_P D xcl [(h, .inr (4, [.int F, .int 0, .ref m0, .int 0, .int 0, .ref m1, .ref m2, .int 0, .ref m3, .ref m4, .ref m5, .ref m6, .ref m7, .ref m8, .ref m9, .ref m10, .ref m11, .ref m12, .ref m13, .ref m14, .ref m15, .ref m16, .ref m17, .int 0, .ref m18, .ref m19, .ref m20, .ref m21, .ref m22, .ref m23, .ref m24]))] s.heap := hP
  have hl := lv_entry ([.ref h, .int n]) (n := 3) (Nat.le_of_ble_eq_true rfl)
  rw [lg_entry_eq]
  generalize (lg_sl ([.ref h, .int n]) ++ List.replicate (3 - (lg_sl ([.ref h, .int n])).length) Slot.unset).toArray = ls at hl ⊢
  have hl : lv_has ls 3 [(0, .ref h), (1, .int n)] := hl
  refine lv_aload_n hx hb xd_Mo_close_0 rfl (lv_at hl 0 rfl) ?_
  refine lv_iconst (v := 0) hx hb xd_Mo_close_1 (by decide) ?_
  refine va_put (D := D) (ci := 4) (v := .int 0) (ty := .int) (C := xR_Mo) (T := xT_Mo) (N := 31) hx hb hT xi_Mo xt_Mo xt_Mo_ok xn_Mo hown hK.1 hP hD hS 0 rfl rfl 0 (by decide) (hT _ xk_115) (fun _ h9 => h9) rfl (by decide +kernel) rfl rfl (Nat.le_of_ble_eq_true rfl) xd_Mo_close_2 (fun H locs hP hD hS => ?_)
  have hP : va_P D xcl [(h, .inr (4, [.int 0, .int 0, .ref m0, .int 0, .int 0, .ref m1, .ref m2, .int 0, .ref m3, .ref m4, .ref m5, .ref m6, .ref m7, .ref m8, .ref m9, .ref m10, .ref m11, .ref m12, .ref m13, .ref m14, .ref m15, .ref m16, .ref m17, .int 0, .ref m18, .ref m19, .ref m20, .ref m21, .ref m22, .ref m23, .ref m24]))] H := hP
  have hD : va_D A [(h, .inr (4, [.int 0, .int 0, .ref m0, .int 0, .int 0, .ref m1, .ref m2, .int 0, .ref m3, .ref m4, .ref m5, .ref m6, .ref m7, .ref m8, .ref m9, .ref m10, .ref m11, .ref m12, .ref m13, .ref m14, .ref m15, .ref m16, .ref m17, .int 0, .ref m18, .ref m19, .ref m20, .ref m21, .ref m22, .ref m23, .ref m24]))] := hD
  refine lv_aload_n hx hb xd_Mo_close_5 rfl (lv_at hl 0 rfl) ?_
  refine lv_iload_n hx hb xd_Mo_close_6 rfl (lv_at hl 1 rfl) ?_
  have hPc := hP.sub (ws' := [(h, .inr (4, [.int 0, .int 0, .ref m0, .int 0, .int 0, .ref m1, .ref m2, .int 0, .ref m3, .ref m4, .ref m5, .ref m6, .ref m7, .ref m8, .ref m9, .ref m10, .ref m11, .ref m12, .ref m13, .ref m14, .ref m15, .ref m16, .ref m17, .int 0, .ref m18, .ref m19, .ref m20, .ref m21, .ref m22, .ref m23, .ref m24]))]) [0] rfl
  have hDc := hD.sub (ws' := [(h, .inr (4, [.int 0, .int 0, .ref m0, .int 0, .int 0, .ref m1, .ref m2, .int 0, .ref m3, .ref m4, .ref m5, .ref m6, .ref m7, .ref m8, .ref m9, .ref m10, .ref m11, .ref m12, .ref m13, .ref m14, .ref m15, .ref m16, .ref m17, .int 0, .ref m18, .ref m19, .ref m20, .ref m21, .ref m22, .ref m23, .ref m24]))]) [0] (by decide) rfl
  have hFc := va_free (wc := [(h, .inr (4, [.int 0, .int 0, .ref m0, .int 0, .int 0, .ref m1, .ref m2, .int 0, .ref m3, .ref m4, .ref m5, .ref m6, .ref m7, .ref m8, .ref m9, .ref m10, .ref m11, .ref m12, .ref m13, .ref m14, .ref m15, .ref m16, .ref m17, .int 0, .ref m18, .ref m19, .ref m20, .ref m21, .ref m22, .ref m23, .ref m24]))]) hD hS hA [0] rfl
  have hkc : 0 + 0 ≤ 0 := Nat.le_of_ble_eq_true rfl
  have hks : 0 + 0 ≤ 0 := Nat.le_of_ble_eq_true rfl
  refine va_calli (va_runV (As := [.int n]) (rest := []) ⟨hx, hb, hml, hown, hT⟩ (xc_Mo_isOpen l D kA H.size h m0 m1 m2 m3 m4 m5 m6 m7 m8 m9 m10 m11 m12 m13 m14 m15 m16 m17 m18 m19 m20 m21 m22 m23 m24 0 n) (cwV 1 hT (wT_V xk_130 xk_131 xk_132 xk_122 xk_129) rfl rfl rfl (by decide +kernel) ⟨Nat.le_of_ble_eq_true rfl, Nat.le_of_ble_eq_true rfl⟩) (x_preV hK hPc hDc 0 rfl rfl) rfl rfl hl.1 rfl (lv_room (Nat.le_of_ble_eq_true rfl)) xd_Mo_close_7 ⟨hkc, hks⟩) hS (fun q _ h => hFc q h) hFc (fun r u t H1 locs ht hvm hpost hB hz1 hk1 hS => ?_)
  have hpost : r = 0 := hpost
  subst hpost
  obtain ⟨hP1, hD1⟩ := hB
  rw [ht] at hP1
  obtain ⟨hP, hD⟩ := va_join (wr := []) (w1 := [(h, .inr (4, [.int 0, .int 0, .ref m0, .int 0, .int 0, .ref m1, .ref m2, .int 0, .ref m3, .ref m4, .ref m5, .ref m6, .ref m7, .ref m8, .ref m9, .ref m10, .ref m11, .ref m12, .ref m13, .ref m14, .ref m15, .ref m16, .ref m17, .int 0, .ref m18, .ref m19, .ref m20, .ref m21, .ref m22, .ref m23, .ref m24]))]) hP hD [0] [] rfl rfl (by decide) (by decide) hk1 hFc hP1 hD1
  generalize H1 = H at hP hS ⊢
  have hP : va_P D xcl [(h, .inr (4, [.int 0, .int 0, .ref m0, .int 0, .int 0, .ref m1, .ref m2, .int 0, .ref m3, .ref m4, .ref m5, .ref m6, .ref m7, .ref m8, .ref m9, .ref m10, .ref m11, .ref m12, .ref m13, .ref m14, .ref m15, .ref m16, .ref m17, .int 0, .ref m18, .ref m19, .ref m20, .ref m21, .ref m22, .ref m23, .ref m24]))] H := hP
  have hD : va_D A [(h, .inr (4, [.int 0, .int 0, .ref m0, .int 0, .int 0, .ref m1, .ref m2, .int 0, .ref m3, .ref m4, .ref m5, .ref m6, .ref m7, .ref m8, .ref m9, .ref m10, .ref m11, .ref m12, .ref m13, .ref m14, .ref m15, .ref m16, .ref m17, .int 0, .ref m18, .ref m19, .ref m20, .ref m21, .ref m22, .ref m23, .ref m24]))] := hD
  refine lv_if_ne (tgt := 15) hx hb xd_Mo_close_10 (by decide) (fun hc => absurd (by decide) hc) (fun _ => ?_)
  refine lv_iconst (v := 0) hx hb xd_Mo_close_13 (by decide) ?_
  have hP9 := hP.sub (ws' := [(h, .inr (4, [.int 0, .int 0, .ref m0, .int 0, .int 0, .ref m1, .ref m2, .int 0, .ref m3, .ref m4, .ref m5, .ref m6, .ref m7, .ref m8, .ref m9, .ref m10, .ref m11, .ref m12, .ref m13, .ref m14, .ref m15, .ref m16, .ref m17, .int 0, .ref m18, .ref m19, .ref m20, .ref m21, .ref m22, .ref m23, .ref m24]))]) [0] rfl
  have hD9 := hD.sub (ws' := [(h, .inr (4, [.int 0, .int 0, .ref m0, .int 0, .int 0, .ref m1, .ref m2, .int 0, .ref m3, .ref m4, .ref m5, .ref m6, .ref m7, .ref m8, .ref m9, .ref m10, .ref m11, .ref m12, .ref m13, .ref m14, .ref m15, .ref m16, .ref m17, .int 0, .ref m18, .ref m19, .ref m20, .ref m21, .ref m22, .ref m23, .ref m24]))]) [0] (by decide) rfl
  refine W.widen (k := 0) (n := 0) (Nat.le_of_ble_eq_true rfl) (Nat.le_of_ble_eq_true rfl) ?_
  exact W.zret (v := 0) hx hb hr rfl (fun t ht hW => ⟨⟨0, (), rfl, rfl, by rw [ht]; exact hP9, hD9⟩, hS.F ht⟩) hS.2.2 xd_Mo_close_14
set_option maxHeartbeats 4000000 in
set_option maxRecDepth 100000 in
theorem xc_Mo_count (l : Launch) (D : va_G) (kA : Nat → ClassId) (sz : Nat) (h : Nat) (m0 : Nat) (m1 : Nat) (m2 : Nat) (m3 : Nat) (m4 : Nat) (m5 : Nat) (m6 : Nat) (m7 : Nat) (m8 : Nat) (m9 : Nat) (m10 : Nat) (m11 : Nat) (m12 : Nat) (m13 : Nat) (m14 : Nat) (m15 : Nat) (m16 : Nat) (m17 : Nat) (m18 : Nat) (m19 : Nat) (m20 : Nat) (m21 : Nat) (m22 : Nat) (m23 : Nat) (m24 : Nat) (F : Int32) (n : Int32) : Met l xy_Mo_count (.code xy_Mo_count xb_Mo_count 4 (some .int) :: wT) { frames := 0, cells := 0, slots := 0, locals := 0 } (va_Pc [.ref h, .int n] (xPre D kA sz [(h, .inr (4, [.int F, .int 0, .ref m0, .int 0, .int 0, .ref m1, .ref m2, .int 0, .ref m3, .ref m4, .ref m5, .ref m6, .ref m7, .ref m8, .ref m9, .ref m10, .ref m11, .ref m12, .ref m13, .ref m14, .ref m15, .ref m16, .ref m17, .int 0, .ref m18, .ref m19, .ref m20, .ref m21, .ref m22, .ref m23, .ref m24]))])) (va_Qi (fun (r : Int32) (u : Unit) => r = (if n = 0 then 0 else if n = 1 then 0 else if n = 2 then 0 else -1)) (fun (u : Unit) t => va_P D xcl [(h, .inr (4, [.int 0, .int 0, .ref m0, .int 0, .int 0, .ref m1, .ref m2, .int 0, .ref m3, .ref m4, .ref m5, .ref m6, .ref m7, .ref m8, .ref m9, .ref m10, .ref m11, .ref m12, .ref m13, .ref m14, .ref m15, .ref m16, .ref m17, .int 0, .ref m18, .ref m19, .ref m20, .ref m21, .ref m22, .ref m23, .ref m24]))] t.heap ∧ va_D (va_A [(h, .inr (4, [.int F, .int 0, .ref m0, .int 0, .int 0, .ref m1, .ref m2, .int 0, .ref m3, .ref m4, .ref m5, .ref m6, .ref m7, .ref m8, .ref m9, .ref m10, .ref m11, .ref m12, .ref m13, .ref m14, .ref m15, .ref m16, .ref m17, .int 0, .ref m18, .ref m19, .ref m20, .ref m21, .ref m22, .ref m23, .ref m24]))] sz) [(h, .inr (4, [.int 0, .int 0, .ref m0, .int 0, .int 0, .ref m1, .ref m2, .int 0, .ref m3, .ref m4, .ref m5, .ref m6, .ref m7, .ref m8, .ref m9, .ref m10, .ref m11, .ref m12, .ref m13, .ref m14, .ref m15, .ref m16, .ref m17, .int 0, .ref m18, .ref m19, .ref m20, .ref m21, .ref m22, .ref m23, .ref m24]))]) (va_A [(h, .inr (4, [.int F, .int 0, .ref m0, .int 0, .int 0, .ref m1, .ref m2, .int 0, .ref m3, .ref m4, .ref m5, .ref m6, .ref m7, .ref m8, .ref m9, .ref m10, .ref m11, .ref m12, .ref m13, .ref m14, .ref m15, .ref m16, .ref m17, .int 0, .ref m18, .ref m19, .ref m20, .ref m21, .ref m22, .ref m23, .ref m24]))] sz)) 0 0 (va_A [(h, .inr (4, [.int F, .int 0, .ref m0, .int 0, .int 0, .ref m1, .ref m2, .int 0, .ref m3, .ref m4, .ref m5, .ref m6, .ref m7, .ref m8, .ref m9, .ref m10, .ref m11, .ref m12, .ref m13, .ref m14, .ref m15, .ref m16, .ref m17, .int 0, .ref m18, .ref m19, .ref m20, .ref m21, .ref m22, .ref m23, .ref m24]))] sz) := by
  refine Met.ofW (cc := xb_Mo_count) (maxL := 4) (ret := (some .int)) (by decide) rfl ?_
  intro p e s m args below meth c s₁ B hml hv
  obtain ⟨rfl, hsz, hP, hK, hD0⟩ := hv
  have hx := B.exec
  have hb := B.bytes
  have hr := B.returns
  have hT := x_hT B.pre
  have hown : s.vm.findClass xR_Mo = some m.cls := findClass_of_methodNamed B.named
  have hlocks := B.notSynchronized
  subst hsz
  have hD := hD0.self (sz := s.heap.size)
  generalize hAe : va_A [(h, .inr (4, [.int F, .int 0, .ref m0, .int 0, .int 0, .ref m1, .ref m2, .int 0, .ref m3, .ref m4, .ref m5, .ref m6, .ref m7, .ref m8, .ref m9, .ref m10, .ref m11, .ref m12, .ref m13, .ref m14, .ref m15, .ref m16, .ref m17, .int 0, .ref m18, .ref m19, .ref m20, .ref m21, .ref m22, .ref m23, .ref m24]))] s.heap.size = A at hD ⊢
  have hA : ∀ q : Nat, s.heap.size ≤ q → A q := fun q h => by rw [← hAe]; exact Or.inr h
  have hS : va_S A s.heap s.heap [] := va_S.rf
  have hP : va_P D xcl [(h, .inr (4, [.int F, .int 0, .ref m0, .int 0, .int 0, .ref m1, .ref m2, .int 0, .ref m3, .ref m4, .ref m5, .ref m6, .ref m7, .ref m8, .ref m9, .ref m10, .ref m11, .ref m12, .ref m13, .ref m14, .ref m15, .ref m16, .ref m17, .int 0, .ref m18, .ref m19, .ref m20, .ref m21, .ref m22, .ref m23, .ref m24]))] s.heap := hP
  have hl := lv_entry ([.ref h, .int n]) (n := 4) (Nat.le_of_ble_eq_true rfl)
  rw [lg_entry_eq]
  generalize (lg_sl ([.ref h, .int n]) ++ List.replicate (4 - (lg_sl ([.ref h, .int n])).length) Slot.unset).toArray = ls at hl ⊢
  have hl : lv_has ls 4 [(0, .ref h), (1, .int n)] := hl
  refine lv_aload_n hx hb xd_Mo_count_0 rfl (lv_at hl 0 rfl) ?_
  refine lv_iconst (v := 0) hx hb xd_Mo_count_1 (by decide) ?_
  refine va_put (D := D) (ci := 4) (v := .int 0) (ty := .int) (C := xR_Mo) (T := xT_Mo) (N := 31) hx hb hT xi_Mo xt_Mo xt_Mo_ok xn_Mo hown hK.1 hP hD hS 0 rfl rfl 0 (by decide) (hT _ xk_115) (fun _ h9 => h9) rfl (by decide +kernel) rfl rfl (Nat.le_of_ble_eq_true rfl) xd_Mo_count_2 (fun H locs hP hD hS => ?_)
  have hP : va_P D xcl [(h, .inr (4, [.int 0, .int 0, .ref m0, .int 0, .int 0, .ref m1, .ref m2, .int 0, .ref m3, .ref m4, .ref m5, .ref m6, .ref m7, .ref m8, .ref m9, .ref m10, .ref m11, .ref m12, .ref m13, .ref m14, .ref m15, .ref m16, .ref m17, .int 0, .ref m18, .ref m19, .ref m20, .ref m21, .ref m22, .ref m23, .ref m24]))] H := hP
  have hD : va_D A [(h, .inr (4, [.int 0, .int 0, .ref m0, .int 0, .int 0, .ref m1, .ref m2, .int 0, .ref m3, .ref m4, .ref m5, .ref m6, .ref m7, .ref m8, .ref m9, .ref m10, .ref m11, .ref m12, .ref m13, .ref m14, .ref m15, .ref m16, .ref m17, .int 0, .ref m18, .ref m19, .ref m20, .ref m21, .ref m22, .ref m23, .ref m24]))] := hD
  refine lv_iconst (v := 0) hx hb xd_Mo_count_5 (by decide) ?_
  refine lv_istore_n hx hb xd_Mo_count_6 rfl hl (Nat.le_of_ble_eq_true rfl) rfl (fun ls hl => ?_)
  have hl : lv_has ls 4 [(2, .int 0), (0, .ref h), (1, .int n)] := hl
  refine lv_iconst (v := 0) hx hb xd_Mo_count_7 (by decide) ?_
  refine lv_istore_n hx hb xd_Mo_count_8 rfl hl (Nat.le_of_ble_eq_true rfl) rfl (fun ls hl => ?_)
  have hl : lv_has ls 4 [(3, .int 0), (2, .int 0), (0, .ref h), (1, .int n)] := hl
  refine lv_iload_n hx hb xd_Mo_count_9 rfl (lv_at hl 0 rfl) ?_
  refine lv_aload_n hx hb xd_Mo_count_10 rfl (lv_at hl 2 rfl) ?_
  refine va_get (D := D) (ci := 4) (v := .int 0) (C := xR_Mo) (T := xT_Mo) (N := 31) hx hb hT xi_Mo hown hK.1 hP 0 rfl rfl 23 (by decide) (hT _ xk_123) (fun _ h9 => h9) rfl xd_Mo_count_11 ?_
  refine lv_icmp_ge (tgt := 40) hx hb xd_Mo_count_14 (by decide) (fun _ => ?_) (fun hc => absurd (by decide) hc)
  refine lv_iload_n hx hb xd_Mo_count_40 rfl (lv_at hl 3 rfl) ?_
  refine lv_if_ne (tgt := 51) hx hb xd_Mo_count_41 (by decide) (fun hc1 => ?_) (fun hc1 => ?_)
  · refine lv_iload_n hx hb xd_Mo_count_51 rfl (lv_at hl 3 rfl) ?_
    refine lv_iconst (v := 1) hx hb xd_Mo_count_52 (by decide) ?_
    refine lv_icmp_ne (tgt := 63) hx hb xd_Mo_count_53 (by decide) (fun hc2 => ?_) (fun hc2 => ?_)
    · refine lv_iload_n hx hb xd_Mo_count_63 rfl (lv_at hl 3 rfl) ?_
      refine lv_iconst (v := 2) hx hb xd_Mo_count_64 (by decide) ?_
      refine lv_icmp_ne (tgt := 72) hx hb xd_Mo_count_65 (by decide) (fun hc3 => ?_) (fun hc3 => ?_)
      · refine lv_iconst (v := (-1)) hx hb xd_Mo_count_72 (by decide) ?_
        have hP9 := hP.sub (ws' := [(h, .inr (4, [.int 0, .int 0, .ref m0, .int 0, .int 0, .ref m1, .ref m2, .int 0, .ref m3, .ref m4, .ref m5, .ref m6, .ref m7, .ref m8, .ref m9, .ref m10, .ref m11, .ref m12, .ref m13, .ref m14, .ref m15, .ref m16, .ref m17, .int 0, .ref m18, .ref m19, .ref m20, .ref m21, .ref m22, .ref m23, .ref m24]))]) [0] rfl
        have hD9 := hD.sub (ws' := [(h, .inr (4, [.int 0, .int 0, .ref m0, .int 0, .int 0, .ref m1, .ref m2, .int 0, .ref m3, .ref m4, .ref m5, .ref m6, .ref m7, .ref m8, .ref m9, .ref m10, .ref m11, .ref m12, .ref m13, .ref m14, .ref m15, .ref m16, .ref m17, .int 0, .ref m18, .ref m19, .ref m20, .ref m21, .ref m22, .ref m23, .ref m24]))]) [0] (by decide) rfl
        refine W.widen (k := 0) (n := 0) (Nat.le_of_ble_eq_true rfl) (Nat.le_of_ble_eq_true rfl) ?_
        exact W.iret (v := (-1)) hx hb hr (fun t ht hW => ⟨⟨(-1), (), rfl, by simp [hc1, hc2, hc3], by rw [ht]; exact hP9, hD9⟩, hS.F ht⟩) hS.2.2 xd_Mo_count_73
      · refine lv_iload_n hx hb xd_Mo_count_68 rfl (lv_at hl 1 rfl) ?_
        refine lv_goto (tgt := 73) hx hb xd_Mo_count_69 (by decide) ?_
        have hP9 := hP.sub (ws' := [(h, .inr (4, [.int 0, .int 0, .ref m0, .int 0, .int 0, .ref m1, .ref m2, .int 0, .ref m3, .ref m4, .ref m5, .ref m6, .ref m7, .ref m8, .ref m9, .ref m10, .ref m11, .ref m12, .ref m13, .ref m14, .ref m15, .ref m16, .ref m17, .int 0, .ref m18, .ref m19, .ref m20, .ref m21, .ref m22, .ref m23, .ref m24]))]) [0] rfl
        have hD9 := hD.sub (ws' := [(h, .inr (4, [.int 0, .int 0, .ref m0, .int 0, .int 0, .ref m1, .ref m2, .int 0, .ref m3, .ref m4, .ref m5, .ref m6, .ref m7, .ref m8, .ref m9, .ref m10, .ref m11, .ref m12, .ref m13, .ref m14, .ref m15, .ref m16, .ref m17, .int 0, .ref m18, .ref m19, .ref m20, .ref m21, .ref m22, .ref m23, .ref m24]))]) [0] (by decide) rfl
        refine W.widen (k := 0) (n := 0) (Nat.le_of_ble_eq_true rfl) (Nat.le_of_ble_eq_true rfl) ?_
        exact W.iret (v := 0) hx hb hr (fun t ht hW => ⟨⟨0, (), rfl, by simp [hc1, hc2, hc3], by rw [ht]; exact hP9, hD9⟩, hS.F ht⟩) hS.2.2 xd_Mo_count_73
    · refine lv_aload_n hx hb xd_Mo_count_56 rfl (lv_at hl 2 rfl) ?_
      refine va_get (D := D) (ci := 4) (v := .int 0) (C := xR_Mo) (T := xT_Mo) (N := 31) hx hb hT xi_Mo hown hK.1 hP 0 rfl rfl 23 (by decide) (hT _ xk_123) (fun _ h9 => h9) rfl xd_Mo_count_57 ?_
      refine lv_goto (tgt := 73) hx hb xd_Mo_count_60 (by decide) ?_
      have hP9 := hP.sub (ws' := [(h, .inr (4, [.int 0, .int 0, .ref m0, .int 0, .int 0, .ref m1, .ref m2, .int 0, .ref m3, .ref m4, .ref m5, .ref m6, .ref m7, .ref m8, .ref m9, .ref m10, .ref m11, .ref m12, .ref m13, .ref m14, .ref m15, .ref m16, .ref m17, .int 0, .ref m18, .ref m19, .ref m20, .ref m21, .ref m22, .ref m23, .ref m24]))]) [0] rfl
      have hD9 := hD.sub (ws' := [(h, .inr (4, [.int 0, .int 0, .ref m0, .int 0, .int 0, .ref m1, .ref m2, .int 0, .ref m3, .ref m4, .ref m5, .ref m6, .ref m7, .ref m8, .ref m9, .ref m10, .ref m11, .ref m12, .ref m13, .ref m14, .ref m15, .ref m16, .ref m17, .int 0, .ref m18, .ref m19, .ref m20, .ref m21, .ref m22, .ref m23, .ref m24]))]) [0] (by decide) rfl
      refine W.widen (k := 0) (n := 0) (Nat.le_of_ble_eq_true rfl) (Nat.le_of_ble_eq_true rfl) ?_
      exact W.iret (v := 0) hx hb hr (fun t ht hW => ⟨⟨0, (), rfl, by simp [hc1, hc2], by rw [ht]; exact hP9, hD9⟩, hS.F ht⟩) hS.2.2 xd_Mo_count_73
  · refine lv_aload_n hx hb xd_Mo_count_44 rfl (lv_at hl 2 rfl) ?_
    refine va_get (D := D) (ci := 4) (v := .int 0) (C := xR_Mo) (T := xT_Mo) (N := 31) hx hb hT xi_Mo hown hK.1 hP 0 rfl rfl 7 (by decide) (hT _ xk_133) (fun _ h9 => h9) rfl xd_Mo_count_45 ?_
    refine lv_goto (tgt := 73) hx hb xd_Mo_count_48 (by decide) ?_
    have hP9 := hP.sub (ws' := [(h, .inr (4, [.int 0, .int 0, .ref m0, .int 0, .int 0, .ref m1, .ref m2, .int 0, .ref m3, .ref m4, .ref m5, .ref m6, .ref m7, .ref m8, .ref m9, .ref m10, .ref m11, .ref m12, .ref m13, .ref m14, .ref m15, .ref m16, .ref m17, .int 0, .ref m18, .ref m19, .ref m20, .ref m21, .ref m22, .ref m23, .ref m24]))]) [0] rfl
    have hD9 := hD.sub (ws' := [(h, .inr (4, [.int 0, .int 0, .ref m0, .int 0, .int 0, .ref m1, .ref m2, .int 0, .ref m3, .ref m4, .ref m5, .ref m6, .ref m7, .ref m8, .ref m9, .ref m10, .ref m11, .ref m12, .ref m13, .ref m14, .ref m15, .ref m16, .ref m17, .int 0, .ref m18, .ref m19, .ref m20, .ref m21, .ref m22, .ref m23, .ref m24]))]) [0] (by decide) rfl
    refine W.widen (k := 0) (n := 0) (Nat.le_of_ble_eq_true rfl) (Nat.le_of_ble_eq_true rfl) ?_
    exact W.iret (v := 0) hx hb hr (fun t ht hW => ⟨⟨0, (), rfl, by simp [hc1], by rw [ht]; exact hP9, hD9⟩, hS.F ht⟩) hS.2.2 xd_Mo_count_73
set_option maxHeartbeats 4000000 in
set_option maxRecDepth 100000 in
theorem xc_Mo_modules (l : Launch) (D : va_G) (kA : Nat → ClassId) (sz : Nat) (h : Nat) (m0 : Nat) (m1 : Nat) (m2 : Nat) (m3 : Nat) (m4 : Nat) (m5 : Nat) (m6 : Nat) (m7 : Nat) (m8 : Nat) (m9 : Nat) (m10 : Nat) (m11 : Nat) (m12 : Nat) (m13 : Nat) (m14 : Nat) (m15 : Nat) (m16 : Nat) (m17 : Nat) (m18 : Nat) (m19 : Nat) (m20 : Nat) (m21 : Nat) (m22 : Nat) (m23 : Nat) (m24 : Nat) (F : Int32) (n : Int32) : Met l xy_Mo_modules (.code xy_Mo_modules xb_Mo_modules 2 (some .int) :: wT) { frames := 1, cells := 0, slots := 0, locals := 21 } (va_Pc [.ref h, .int n] (xPre D kA sz [(h, .inr (4, [.int F, .int 0, .ref m0, .int 0, .int 0, .ref m1, .ref m2, .int 0, .ref m3, .ref m4, .ref m5, .ref m6, .ref m7, .ref m8, .ref m9, .ref m10, .ref m11, .ref m12, .ref m13, .ref m14, .ref m15, .ref m16, .ref m17, .int 0, .ref m18, .ref m19, .ref m20, .ref m21, .ref m22, .ref m23, .ref m24]))])) (va_Qi (fun (r : Int32) (u : Unit) => r = (-1)) (fun (u : Unit) t => va_P D xcl [(h, .inr (4, [.int 0, .int 0, .ref m0, .int 0, .int 0, .ref m1, .ref m2, .int 0, .ref m3, .ref m4, .ref m5, .ref m6, .ref m7, .ref m8, .ref m9, .ref m10, .ref m11, .ref m12, .ref m13, .ref m14, .ref m15, .ref m16, .ref m17, .int 0, .ref m18, .ref m19, .ref m20, .ref m21, .ref m22, .ref m23, .ref m24]))] t.heap ∧ va_D (va_A [(h, .inr (4, [.int F, .int 0, .ref m0, .int 0, .int 0, .ref m1, .ref m2, .int 0, .ref m3, .ref m4, .ref m5, .ref m6, .ref m7, .ref m8, .ref m9, .ref m10, .ref m11, .ref m12, .ref m13, .ref m14, .ref m15, .ref m16, .ref m17, .int 0, .ref m18, .ref m19, .ref m20, .ref m21, .ref m22, .ref m23, .ref m24]))] sz) [(h, .inr (4, [.int 0, .int 0, .ref m0, .int 0, .int 0, .ref m1, .ref m2, .int 0, .ref m3, .ref m4, .ref m5, .ref m6, .ref m7, .ref m8, .ref m9, .ref m10, .ref m11, .ref m12, .ref m13, .ref m14, .ref m15, .ref m16, .ref m17, .int 0, .ref m18, .ref m19, .ref m20, .ref m21, .ref m22, .ref m23, .ref m24]))]) (va_A [(h, .inr (4, [.int F, .int 0, .ref m0, .int 0, .int 0, .ref m1, .ref m2, .int 0, .ref m3, .ref m4, .ref m5, .ref m6, .ref m7, .ref m8, .ref m9, .ref m10, .ref m11, .ref m12, .ref m13, .ref m14, .ref m15, .ref m16, .ref m17, .int 0, .ref m18, .ref m19, .ref m20, .ref m21, .ref m22, .ref m23, .ref m24]))] sz)) 0 0 (va_A [(h, .inr (4, [.int F, .int 0, .ref m0, .int 0, .int 0, .ref m1, .ref m2, .int 0, .ref m3, .ref m4, .ref m5, .ref m6, .ref m7, .ref m8, .ref m9, .ref m10, .ref m11, .ref m12, .ref m13, .ref m14, .ref m15, .ref m16, .ref m17, .int 0, .ref m18, .ref m19, .ref m20, .ref m21, .ref m22, .ref m23, .ref m24]))] sz) := by
  refine Met.ofW (cc := xb_Mo_modules) (maxL := 2) (ret := (some .int)) (by decide) rfl ?_
  intro p e s m args below meth c s₁ B hml hv
  obtain ⟨rfl, hsz, hP, hK, hD0⟩ := hv
  have hx := B.exec
  have hb := B.bytes
  have hr := B.returns
  have hT := x_hT B.pre
  have hown : s.vm.findClass xR_Mo = some m.cls := findClass_of_methodNamed B.named
  have hlocks := B.notSynchronized
  subst hsz
  have hD := hD0.self (sz := s.heap.size)
  generalize hAe : va_A [(h, .inr (4, [.int F, .int 0, .ref m0, .int 0, .int 0, .ref m1, .ref m2, .int 0, .ref m3, .ref m4, .ref m5, .ref m6, .ref m7, .ref m8, .ref m9, .ref m10, .ref m11, .ref m12, .ref m13, .ref m14, .ref m15, .ref m16, .ref m17, .int 0, .ref m18, .ref m19, .ref m20, .ref m21, .ref m22, .ref m23, .ref m24]))] s.heap.size = A at hD ⊢
  have hA : ∀ q : Nat, s.heap.size ≤ q → A q := fun q h => by rw [← hAe]; exact Or.inr h
  have hS : va_S A s.heap s.heap [] := va_S.rf
  have hP : va_P D xcl [(h, .inr (4, [.int F, .int 0, .ref m0, .int 0, .int 0, .ref m1, .ref m2, .int 0, .ref m3, .ref m4, .ref m5, .ref m6, .ref m7, .ref m8, .ref m9, .ref m10, .ref m11, .ref m12, .ref m13, .ref m14, .ref m15, .ref m16, .ref m17, .int 0, .ref m18, .ref m19, .ref m20, .ref m21, .ref m22, .ref m23, .ref m24]))] s.heap := hP
  have hl := lv_entry ([.ref h, .int n]) (n := 2) (Nat.le_of_ble_eq_true rfl)
  rw [lg_entry_eq]
  generalize (lg_sl ([.ref h, .int n]) ++ List.replicate (2 - (lg_sl ([.ref h, .int n])).length) Slot.unset).toArray = ls at hl ⊢
  have hl : lv_has ls 2 [(0, .ref h), (1, .int n)] := hl
  refine lv_aload_n hx hb xd_Mo_modules_0 rfl (lv_at hl 0 rfl) ?_
  refine lv_iconst (v := 0) hx hb xd_Mo_modules_1 (by decide) ?_
  refine va_put (D := D) (ci := 4) (v := .int 0) (ty := .int) (C := xR_Mo) (T := xT_Mo) (N := 31) hx hb hT xi_Mo xt_Mo xt_Mo_ok xn_Mo hown hK.1 hP hD hS 0 rfl rfl 0 (by decide) (hT _ xk_115) (fun _ h9 => h9) rfl (by decide +kernel) rfl rfl (Nat.le_of_ble_eq_true rfl) xd_Mo_modules_2 (fun H locs hP hD hS => ?_)
  have hP : va_P D xcl [(h, .inr (4, [.int 0, .int 0, .ref m0, .int 0, .int 0, .ref m1, .ref m2, .int 0, .ref m3, .ref m4, .ref m5, .ref m6, .ref m7, .ref m8, .ref m9, .ref m10, .ref m11, .ref m12, .ref m13, .ref m14, .ref m15, .ref m16, .ref m17, .int 0, .ref m18, .ref m19, .ref m20, .ref m21, .ref m22, .ref m23, .ref m24]))] H := hP
  have hD : va_D A [(h, .inr (4, [.int 0, .int 0, .ref m0, .int 0, .int 0, .ref m1, .ref m2, .int 0, .ref m3, .ref m4, .ref m5, .ref m6, .ref m7, .ref m8, .ref m9, .ref m10, .ref m11, .ref m12, .ref m13, .ref m14, .ref m15, .ref m16, .ref m17, .int 0, .ref m18, .ref m19, .ref m20, .ref m21, .ref m22, .ref m23, .ref m24]))] := hD
  refine lv_aload_n hx hb xd_Mo_modules_5 rfl (lv_at hl 0 rfl) ?_
  refine lv_iload_n hx hb xd_Mo_modules_6 rfl (lv_at hl 1 rfl) ?_
  have hPc := hP.sub (ws' := [(h, .inr (4, [.int 0, .int 0, .ref m0, .int 0, .int 0, .ref m1, .ref m2, .int 0, .ref m3, .ref m4, .ref m5, .ref m6, .ref m7, .ref m8, .ref m9, .ref m10, .ref m11, .ref m12, .ref m13, .ref m14, .ref m15, .ref m16, .ref m17, .int 0, .ref m18, .ref m19, .ref m20, .ref m21, .ref m22, .ref m23, .ref m24]))]) [0] rfl
  have hDc := hD.sub (ws' := [(h, .inr (4, [.int 0, .int 0, .ref m0, .int 0, .int 0, .ref m1, .ref m2, .int 0, .ref m3, .ref m4, .ref m5, .ref m6, .ref m7, .ref m8, .ref m9, .ref m10, .ref m11, .ref m12, .ref m13, .ref m14, .ref m15, .ref m16, .ref m17, .int 0, .ref m18, .ref m19, .ref m20, .ref m21, .ref m22, .ref m23, .ref m24]))]) [0] (by decide) rfl
  have hFc := va_free (wc := [(h, .inr (4, [.int 0, .int 0, .ref m0, .int 0, .int 0, .ref m1, .ref m2, .int 0, .ref m3, .ref m4, .ref m5, .ref m6, .ref m7, .ref m8, .ref m9, .ref m10, .ref m11, .ref m12, .ref m13, .ref m14, .ref m15, .ref m16, .ref m17, .int 0, .ref m18, .ref m19, .ref m20, .ref m21, .ref m22, .ref m23, .ref m24]))]) hD hS hA [0] rfl
  have hkc : 0 + 0 ≤ 0 := Nat.le_of_ble_eq_true rfl
  have hks : 0 + 0 ≤ 0 := Nat.le_of_ble_eq_true rfl
  refine va_calli (va_runV (As := [.int n]) (rest := []) ⟨hx, hb, hml, hown, hT⟩ (xc_Mo_isOpen l D kA H.size h m0 m1 m2 m3 m4 m5 m6 m7 m8 m9 m10 m11 m12 m13 m14 m15 m16 m17 m18 m19 m20 m21 m22 m23 m24 0 n) (cwV 1 hT (wT_V xk_130 xk_131 xk_132 xk_122 xk_129) rfl rfl rfl (by decide +kernel) ⟨Nat.le_of_ble_eq_true rfl, Nat.le_of_ble_eq_true rfl⟩) (x_preV hK hPc hDc 0 rfl rfl) rfl rfl hl.1 rfl (lv_room (Nat.le_of_ble_eq_true rfl)) xd_Mo_modules_7 ⟨hkc, hks⟩) hS (fun q _ h => hFc q h) hFc (fun r u t H1 locs ht hvm hpost hB hz1 hk1 hS => ?_)
  have hpost : r = 0 := hpost
  subst hpost
  obtain ⟨hP1, hD1⟩ := hB
  rw [ht] at hP1
  obtain ⟨hP, hD⟩ := va_join (wr := []) (w1 := [(h, .inr (4, [.int 0, .int 0, .ref m0, .int 0, .int 0, .ref m1, .ref m2, .int 0, .ref m3, .ref m4, .ref m5, .ref m6, .ref m7, .ref m8, .ref m9, .ref m10, .ref m11, .ref m12, .ref m13, .ref m14, .ref m15, .ref m16, .ref m17, .int 0, .ref m18, .ref m19, .ref m20, .ref m21, .ref m22, .ref m23, .ref m24]))]) hP hD [0] [] rfl rfl (by decide) (by decide) hk1 hFc hP1 hD1
  generalize H1 = H at hP hS ⊢
  have hP : va_P D xcl [(h, .inr (4, [.int 0, .int 0, .ref m0, .int 0, .int 0, .ref m1, .ref m2, .int 0, .ref m3, .ref m4, .ref m5, .ref m6, .ref m7, .ref m8, .ref m9, .ref m10, .ref m11, .ref m12, .ref m13, .ref m14, .ref m15, .ref m16, .ref m17, .int 0, .ref m18, .ref m19, .ref m20, .ref m21, .ref m22, .ref m23, .ref m24]))] H := hP
  have hD : va_D A [(h, .inr (4, [.int 0, .int 0, .ref m0, .int 0, .int 0, .ref m1, .ref m2, .int 0, .ref m3, .ref m4, .ref m5, .ref m6, .ref m7, .ref m8, .ref m9, .ref m10, .ref m11, .ref m12, .ref m13, .ref m14, .ref m15, .ref m16, .ref m17, .int 0, .ref m18, .ref m19, .ref m20, .ref m21, .ref m22, .ref m23, .ref m24]))] := hD
  refine lv_if_eq (tgt := 22) hx hb xd_Mo_modules_10 (by decide) (fun _ => ?_) (fun hc => absurd (by decide) hc)
  refine lv_iconst (v := (-1)) hx hb xd_Mo_modules_22 (by decide) ?_
  have hP9 := hP.sub (ws' := [(h, .inr (4, [.int 0, .int 0, .ref m0, .int 0, .int 0, .ref m1, .ref m2, .int 0, .ref m3, .ref m4, .ref m5, .ref m6, .ref m7, .ref m8, .ref m9, .ref m10, .ref m11, .ref m12, .ref m13, .ref m14, .ref m15, .ref m16, .ref m17, .int 0, .ref m18, .ref m19, .ref m20, .ref m21, .ref m22, .ref m23, .ref m24]))]) [0] rfl
  have hD9 := hD.sub (ws' := [(h, .inr (4, [.int 0, .int 0, .ref m0, .int 0, .int 0, .ref m1, .ref m2, .int 0, .ref m3, .ref m4, .ref m5, .ref m6, .ref m7, .ref m8, .ref m9, .ref m10, .ref m11, .ref m12, .ref m13, .ref m14, .ref m15, .ref m16, .ref m17, .int 0, .ref m18, .ref m19, .ref m20, .ref m21, .ref m22, .ref m23, .ref m24]))]) [0] (by decide) rfl
  refine W.widen (k := 0) (n := 0) (Nat.le_of_ble_eq_true rfl) (Nat.le_of_ble_eq_true rfl) ?_
  exact W.iret (v := (-1)) hx hb hr (fun t ht hW => ⟨⟨(-1), (), rfl, rfl, by rw [ht]; exact hP9, hD9⟩, hS.F ht⟩) hS.2.2 xd_Mo_modules_23
set_option maxHeartbeats 4000000 in
set_option maxRecDepth 100000 in
theorem xc_Mo_moduleOf (l : Launch) (D : va_G) (kA : Nat → ClassId) (sz : Nat) (h : Nat) (m0 : Nat) (m1 : Nat) (m2 : Nat) (m3 : Nat) (m4 : Nat) (m5 : Nat) (m6 : Nat) (m7 : Nat) (m8 : Nat) (m9 : Nat) (m10 : Nat) (m11 : Nat) (m12 : Nat) (m13 : Nat) (m14 : Nat) (m15 : Nat) (m16 : Nat) (m17 : Nat) (m18 : Nat) (m19 : Nat) (m20 : Nat) (m21 : Nat) (m22 : Nat) (m23 : Nat) (m24 : Nat) (F : Int32) (n : Int32) (k : Int32) : Met l xy_Mo_moduleOf (.code xy_Mo_moduleOf xb_Mo_moduleOf 3 (some .int) :: wT) { frames := 1, cells := 0, slots := 0, locals := 21 } (va_Pc [.ref h, .int n, .int k] (xPre D kA sz [(h, .inr (4, [.int F, .int 0, .ref m0, .int 0, .int 0, .ref m1, .ref m2, .int 0, .ref m3, .ref m4, .ref m5, .ref m6, .ref m7, .ref m8, .ref m9, .ref m10, .ref m11, .ref m12, .ref m13, .ref m14, .ref m15, .ref m16, .ref m17, .int 0, .ref m18, .ref m19, .ref m20, .ref m21, .ref m22, .ref m23, .ref m24]))])) (va_Qi (fun (r : Int32) (u : Unit) => r = (-1)) (fun (u : Unit) t => va_P D xcl [(h, .inr (4, [.int F, .int 0, .ref m0, .int 0, .int 0, .ref m1, .ref m2, .int 0, .ref m3, .ref m4, .ref m5, .ref m6, .ref m7, .ref m8, .ref m9, .ref m10, .ref m11, .ref m12, .ref m13, .ref m14, .ref m15, .ref m16, .ref m17, .int 0, .ref m18, .ref m19, .ref m20, .ref m21, .ref m22, .ref m23, .ref m24]))] t.heap ∧ va_D (va_A [(h, .inr (4, [.int F, .int 0, .ref m0, .int 0, .int 0, .ref m1, .ref m2, .int 0, .ref m3, .ref m4, .ref m5, .ref m6, .ref m7, .ref m8, .ref m9, .ref m10, .ref m11, .ref m12, .ref m13, .ref m14, .ref m15, .ref m16, .ref m17, .int 0, .ref m18, .ref m19, .ref m20, .ref m21, .ref m22, .ref m23, .ref m24]))] sz) [(h, .inr (4, [.int F, .int 0, .ref m0, .int 0, .int 0, .ref m1, .ref m2, .int 0, .ref m3, .ref m4, .ref m5, .ref m6, .ref m7, .ref m8, .ref m9, .ref m10, .ref m11, .ref m12, .ref m13, .ref m14, .ref m15, .ref m16, .ref m17, .int 0, .ref m18, .ref m19, .ref m20, .ref m21, .ref m22, .ref m23, .ref m24]))]) (va_A [(h, .inr (4, [.int F, .int 0, .ref m0, .int 0, .int 0, .ref m1, .ref m2, .int 0, .ref m3, .ref m4, .ref m5, .ref m6, .ref m7, .ref m8, .ref m9, .ref m10, .ref m11, .ref m12, .ref m13, .ref m14, .ref m15, .ref m16, .ref m17, .int 0, .ref m18, .ref m19, .ref m20, .ref m21, .ref m22, .ref m23, .ref m24]))] sz)) 0 0 (va_A [(h, .inr (4, [.int F, .int 0, .ref m0, .int 0, .int 0, .ref m1, .ref m2, .int 0, .ref m3, .ref m4, .ref m5, .ref m6, .ref m7, .ref m8, .ref m9, .ref m10, .ref m11, .ref m12, .ref m13, .ref m14, .ref m15, .ref m16, .ref m17, .int 0, .ref m18, .ref m19, .ref m20, .ref m21, .ref m22, .ref m23, .ref m24]))] sz) := by
  refine Met.ofW (cc := xb_Mo_moduleOf) (maxL := 3) (ret := (some .int)) (by decide) rfl ?_
  intro p e s m args below meth c s₁ B hml hv
  obtain ⟨rfl, hsz, hP, hK, hD0⟩ := hv
  have hx := B.exec
  have hb := B.bytes
  have hr := B.returns
  have hT := x_hT B.pre
  have hown : s.vm.findClass xR_Mo = some m.cls := findClass_of_methodNamed B.named
  have hlocks := B.notSynchronized
  subst hsz
  have hD := hD0.self (sz := s.heap.size)
  generalize hAe : va_A [(h, .inr (4, [.int F, .int 0, .ref m0, .int 0, .int 0, .ref m1, .ref m2, .int 0, .ref m3, .ref m4, .ref m5, .ref m6, .ref m7, .ref m8, .ref m9, .ref m10, .ref m11, .ref m12, .ref m13, .ref m14, .ref m15, .ref m16, .ref m17, .int 0, .ref m18, .ref m19, .ref m20, .ref m21, .ref m22, .ref m23, .ref m24]))] s.heap.size = A at hD ⊢
  have hA : ∀ q : Nat, s.heap.size ≤ q → A q := fun q h => by rw [← hAe]; exact Or.inr h
  have hS : va_S A s.heap s.heap [] := va_S.rf
  have hP : va_P D xcl [(h, .inr (4, [.int F, .int 0, .ref m0, .int 0, .int 0, .ref m1, .ref m2, .int 0, .ref m3, .ref m4, .ref m5, .ref m6, .ref m7, .ref m8, .ref m9, .ref m10, .ref m11, .ref m12, .ref m13, .ref m14, .ref m15, .ref m16, .ref m17, .int 0, .ref m18, .ref m19, .ref m20, .ref m21, .ref m22, .ref m23, .ref m24]))] s.heap := hP
  have hl := lv_entry ([.ref h, .int n, .int k]) (n := 3) (Nat.le_of_ble_eq_true rfl)
  rw [lg_entry_eq]
  generalize (lg_sl ([.ref h, .int n, .int k]) ++ List.replicate (3 - (lg_sl ([.ref h, .int n, .int k])).length) Slot.unset).toArray = ls at hl ⊢
  have hl : lv_has ls 3 [(0, .ref h), (1, .int n), (2, .int k)] := hl
  refine lv_aload_n hx hb xd_Mo_moduleOf_0 rfl (lv_at hl 0 rfl) ?_
  refine lv_iload_n hx hb xd_Mo_moduleOf_1 rfl (lv_at hl 1 rfl) ?_
  have hPc := hP.sub (ws' := [(h, .inr (4, [.int F, .int 0, .ref m0, .int 0, .int 0, .ref m1, .ref m2, .int 0, .ref m3, .ref m4, .ref m5, .ref m6, .ref m7, .ref m8, .ref m9, .ref m10, .ref m11, .ref m12, .ref m13, .ref m14, .ref m15, .ref m16, .ref m17, .int 0, .ref m18, .ref m19, .ref m20, .ref m21, .ref m22, .ref m23, .ref m24]))]) [0] rfl
  have hDc := hD.sub (ws' := [(h, .inr (4, [.int F, .int 0, .ref m0, .int 0, .int 0, .ref m1, .ref m2, .int 0, .ref m3, .ref m4, .ref m5, .ref m6, .ref m7, .ref m8, .ref m9, .ref m10, .ref m11, .ref m12, .ref m13, .ref m14, .ref m15, .ref m16, .ref m17, .int 0, .ref m18, .ref m19, .ref m20, .ref m21, .ref m22, .ref m23, .ref m24]))]) [0] (by decide) rfl
  have hFc := va_free (wc := [(h, .inr (4, [.int F, .int 0, .ref m0, .int 0, .int 0, .ref m1, .ref m2, .int 0, .ref m3, .ref m4, .ref m5, .ref m6, .ref m7, .ref m8, .ref m9, .ref m10, .ref m11, .ref m12, .ref m13, .ref m14, .ref m15, .ref m16, .ref m17, .int 0, .ref m18, .ref m19, .ref m20, .ref m21, .ref m22, .ref m23, .ref m24]))]) hD hS hA [0] rfl
  have hkc : 0 + 0 ≤ 0 := Nat.le_of_ble_eq_true rfl
  have hks : 0 + 0 ≤ 0 := Nat.le_of_ble_eq_true rfl
  refine va_calli (va_runV (As := [.int n]) (rest := []) ⟨hx, hb, hml, hown, hT⟩ (xc_Mo_isOpen l D kA s.heap.size h m0 m1 m2 m3 m4 m5 m6 m7 m8 m9 m10 m11 m12 m13 m14 m15 m16 m17 m18 m19 m20 m21 m22 m23 m24 F n) (cwV 1 hT (wT_V xk_130 xk_131 xk_132 xk_122 xk_129) rfl rfl rfl (by decide +kernel) ⟨Nat.le_of_ble_eq_true rfl, Nat.le_of_ble_eq_true rfl⟩) (x_preV hK hPc hDc 0 rfl rfl) rfl rfl hl.1 rfl (lv_room (Nat.le_of_ble_eq_true rfl)) xd_Mo_moduleOf_2 ⟨hkc, hks⟩) hS (fun q _ h => hFc q h) hFc (fun r u t H1 locs ht hvm hpost hB hz1 hk1 hS => ?_)
  have hpost : r = 0 := hpost
  subst hpost
  obtain ⟨hP1, hD1⟩ := hB
  rw [ht] at hP1
  obtain ⟨hP, hD⟩ := va_join (wr := []) (w1 := [(h, .inr (4, [.int F, .int 0, .ref m0, .int 0, .int 0, .ref m1, .ref m2, .int 0, .ref m3, .ref m4, .ref m5, .ref m6, .ref m7, .ref m8, .ref m9, .ref m10, .ref m11, .ref m12, .ref m13, .ref m14, .ref m15, .ref m16, .ref m17, .int 0, .ref m18, .ref m19, .ref m20, .ref m21, .ref m22, .ref m23, .ref m24]))]) hP hD [0] [] rfl rfl (by decide) (by decide) hk1 hFc hP1 hD1
  generalize H1 = H at hP hS ⊢
  have hP : va_P D xcl [(h, .inr (4, [.int F, .int 0, .ref m0, .int 0, .int 0, .ref m1, .ref m2, .int 0, .ref m3, .ref m4, .ref m5, .ref m6, .ref m7, .ref m8, .ref m9, .ref m10, .ref m11, .ref m12, .ref m13, .ref m14, .ref m15, .ref m16, .ref m17, .int 0, .ref m18, .ref m19, .ref m20, .ref m21, .ref m22, .ref m23, .ref m24]))] H := hP
  have hD : va_D A [(h, .inr (4, [.int F, .int 0, .ref m0, .int 0, .int 0, .ref m1, .ref m2, .int 0, .ref m3, .ref m4, .ref m5, .ref m6, .ref m7, .ref m8, .ref m9, .ref m10, .ref m11, .ref m12, .ref m13, .ref m14, .ref m15, .ref m16, .ref m17, .int 0, .ref m18, .ref m19, .ref m20, .ref m21, .ref m22, .ref m23, .ref m24]))] := hD
  refine lv_if_eq (tgt := 36) hx hb xd_Mo_moduleOf_5 (by decide) (fun _ => ?_) (fun hc => absurd (by decide) hc)
  refine lv_iconst (v := (-1)) hx hb xd_Mo_moduleOf_36 (by decide) ?_
  have hP9 := hP.sub (ws' := [(h, .inr (4, [.int F, .int 0, .ref m0, .int 0, .int 0, .ref m1, .ref m2, .int 0, .ref m3, .ref m4, .ref m5, .ref m6, .ref m7, .ref m8, .ref m9, .ref m10, .ref m11, .ref m12, .ref m13, .ref m14, .ref m15, .ref m16, .ref m17, .int 0, .ref m18, .ref m19, .ref m20, .ref m21, .ref m22, .ref m23, .ref m24]))]) [0] rfl
  have hD9 := hD.sub (ws' := [(h, .inr (4, [.int F, .int 0, .ref m0, .int 0, .int 0, .ref m1, .ref m2, .int 0, .ref m3, .ref m4, .ref m5, .ref m6, .ref m7, .ref m8, .ref m9, .ref m10, .ref m11, .ref m12, .ref m13, .ref m14, .ref m15, .ref m16, .ref m17, .int 0, .ref m18, .ref m19, .ref m20, .ref m21, .ref m22, .ref m23, .ref m24]))]) [0] (by decide) rfl
  refine W.widen (k := 0) (n := 0) (Nat.le_of_ble_eq_true rfl) (Nat.le_of_ble_eq_true rfl) ?_
  exact W.iret (v := (-1)) hx hb hr (fun t ht hW => ⟨⟨(-1), (), rfl, rfl, by rw [ht]; exact hP9, hD9⟩, hS.F ht⟩) hS.2.2 xd_Mo_moduleOf_37
set_option maxHeartbeats 4000000 in
set_option maxRecDepth 100000 in
theorem xc_Mo_module (l : Launch) (D : va_G) (kA : Nat → ClassId) (sz : Nat) (h : Nat) (m0 : Nat) (m1 : Nat) (m2 : Nat) (m3 : Nat) (m4 : Nat) (m5 : Nat) (m6 : Nat) (m7 : Nat) (m8 : Nat) (m9 : Nat) (m10 : Nat) (m11 : Nat) (m12 : Nat) (m13 : Nat) (m14 : Nat) (m15 : Nat) (m16 : Nat) (m17 : Nat) (m18 : Nat) (m19 : Nat) (m20 : Nat) (m21 : Nat) (m22 : Nat) (m23 : Nat) (m24 : Nat) (F : Int32) (n : Int32) (k : Int32) : Met l xy_Mo_module (.code xy_Mo_module xb_Mo_module 3 (some .int) :: wT) { frames := 2, cells := 0, slots := 0, locals := 43 } (va_Pc [.ref h, .int n, .int k] (xPre D kA sz [(h, .inr (4, [.int F, .int 0, .ref m0, .int 0, .int 0, .ref m1, .ref m2, .int 0, .ref m3, .ref m4, .ref m5, .ref m6, .ref m7, .ref m8, .ref m9, .ref m10, .ref m11, .ref m12, .ref m13, .ref m14, .ref m15, .ref m16, .ref m17, .int 0, .ref m18, .ref m19, .ref m20, .ref m21, .ref m22, .ref m23, .ref m24]))])) (va_Qi (fun (r : Int32) (u : Unit) => r = (-1)) (fun (u : Unit) t => va_P D xcl [(h, .inr (4, [.int 0, .int 0, .ref m0, .int 0, .int 0, .ref m1, .ref m2, .int 0, .ref m3, .ref m4, .ref m5, .ref m6, .ref m7, .ref m8, .ref m9, .ref m10, .ref m11, .ref m12, .ref m13, .ref m14, .ref m15, .ref m16, .ref m17, .int 0, .ref m18, .ref m19, .ref m20, .ref m21, .ref m22, .ref m23, .ref m24]))] t.heap ∧ va_D (va_A [(h, .inr (4, [.int F, .int 0, .ref m0, .int 0, .int 0, .ref m1, .ref m2, .int 0, .ref m3, .ref m4, .ref m5, .ref m6, .ref m7, .ref m8, .ref m9, .ref m10, .ref m11, .ref m12, .ref m13, .ref m14, .ref m15, .ref m16, .ref m17, .int 0, .ref m18, .ref m19, .ref m20, .ref m21, .ref m22, .ref m23, .ref m24]))] sz) [(h, .inr (4, [.int 0, .int 0, .ref m0, .int 0, .int 0, .ref m1, .ref m2, .int 0, .ref m3, .ref m4, .ref m5, .ref m6, .ref m7, .ref m8, .ref m9, .ref m10, .ref m11, .ref m12, .ref m13, .ref m14, .ref m15, .ref m16, .ref m17, .int 0, .ref m18, .ref m19, .ref m20, .ref m21, .ref m22, .ref m23, .ref m24]))]) (va_A [(h, .inr (4, [.int F, .int 0, .ref m0, .int 0, .int 0, .ref m1, .ref m2, .int 0, .ref m3, .ref m4, .ref m5, .ref m6, .ref m7, .ref m8, .ref m9, .ref m10, .ref m11, .ref m12, .ref m13, .ref m14, .ref m15, .ref m16, .ref m17, .int 0, .ref m18, .ref m19, .ref m20, .ref m21, .ref m22, .ref m23, .ref m24]))] sz)) 0 0 (va_A [(h, .inr (4, [.int F, .int 0, .ref m0, .int 0, .int 0, .ref m1, .ref m2, .int 0, .ref m3, .ref m4, .ref m5, .ref m6, .ref m7, .ref m8, .ref m9, .ref m10, .ref m11, .ref m12, .ref m13, .ref m14, .ref m15, .ref m16, .ref m17, .int 0, .ref m18, .ref m19, .ref m20, .ref m21, .ref m22, .ref m23, .ref m24]))] sz) := by
  refine Met.ofW (cc := xb_Mo_module) (maxL := 3) (ret := (some .int)) (by decide) rfl ?_
  intro p e s m args below meth c s₁ B hml hv
  obtain ⟨rfl, hsz, hP, hK, hD0⟩ := hv
  have hx := B.exec
  have hb := B.bytes
  have hr := B.returns
  have hT := x_hT B.pre
  have hown : s.vm.findClass xR_Mo = some m.cls := findClass_of_methodNamed B.named
  have hlocks := B.notSynchronized
  subst hsz
  have hD := hD0.self (sz := s.heap.size)
  generalize hAe : va_A [(h, .inr (4, [.int F, .int 0, .ref m0, .int 0, .int 0, .ref m1, .ref m2, .int 0, .ref m3, .ref m4, .ref m5, .ref m6, .ref m7, .ref m8, .ref m9, .ref m10, .ref m11, .ref m12, .ref m13, .ref m14, .ref m15, .ref m16, .ref m17, .int 0, .ref m18, .ref m19, .ref m20, .ref m21, .ref m22, .ref m23, .ref m24]))] s.heap.size = A at hD ⊢
  have hA : ∀ q : Nat, s.heap.size ≤ q → A q := fun q h => by rw [← hAe]; exact Or.inr h
  have hS : va_S A s.heap s.heap [] := va_S.rf
  have hP : va_P D xcl [(h, .inr (4, [.int F, .int 0, .ref m0, .int 0, .int 0, .ref m1, .ref m2, .int 0, .ref m3, .ref m4, .ref m5, .ref m6, .ref m7, .ref m8, .ref m9, .ref m10, .ref m11, .ref m12, .ref m13, .ref m14, .ref m15, .ref m16, .ref m17, .int 0, .ref m18, .ref m19, .ref m20, .ref m21, .ref m22, .ref m23, .ref m24]))] s.heap := hP
  have hl := lv_entry ([.ref h, .int n, .int k]) (n := 3) (Nat.le_of_ble_eq_true rfl)
  rw [lg_entry_eq]
  generalize (lg_sl ([.ref h, .int n, .int k]) ++ List.replicate (3 - (lg_sl ([.ref h, .int n, .int k])).length) Slot.unset).toArray = ls at hl ⊢
  have hl : lv_has ls 3 [(0, .ref h), (1, .int n), (2, .int k)] := hl
  refine lv_aload_n hx hb xd_Mo_module_0 rfl (lv_at hl 0 rfl) ?_
  refine lv_iconst (v := 0) hx hb xd_Mo_module_1 (by decide) ?_
  refine va_put (D := D) (ci := 4) (v := .int 0) (ty := .int) (C := xR_Mo) (T := xT_Mo) (N := 31) hx hb hT xi_Mo xt_Mo xt_Mo_ok xn_Mo hown hK.1 hP hD hS 0 rfl rfl 0 (by decide) (hT _ xk_115) (fun _ h9 => h9) rfl (by decide +kernel) rfl rfl (Nat.le_of_ble_eq_true rfl) xd_Mo_module_2 (fun H locs hP hD hS => ?_)
  have hP : va_P D xcl [(h, .inr (4, [.int 0, .int 0, .ref m0, .int 0, .int 0, .ref m1, .ref m2, .int 0, .ref m3, .ref m4, .ref m5, .ref m6, .ref m7, .ref m8, .ref m9, .ref m10, .ref m11, .ref m12, .ref m13, .ref m14, .ref m15, .ref m16, .ref m17, .int 0, .ref m18, .ref m19, .ref m20, .ref m21, .ref m22, .ref m23, .ref m24]))] H := hP
  have hD : va_D A [(h, .inr (4, [.int 0, .int 0, .ref m0, .int 0, .int 0, .ref m1, .ref m2, .int 0, .ref m3, .ref m4, .ref m5, .ref m6, .ref m7, .ref m8, .ref m9, .ref m10, .ref m11, .ref m12, .ref m13, .ref m14, .ref m15, .ref m16, .ref m17, .int 0, .ref m18, .ref m19, .ref m20, .ref m21, .ref m22, .ref m23, .ref m24]))] := hD
  refine lv_aload_n hx hb xd_Mo_module_5 rfl (lv_at hl 0 rfl) ?_
  refine lv_iload_n hx hb xd_Mo_module_6 rfl (lv_at hl 1 rfl) ?_
  refine lv_iload_n hx hb xd_Mo_module_7 rfl (lv_at hl 2 rfl) ?_
  have hPc := hP.sub (ws' := [(h, .inr (4, [.int 0, .int 0, .ref m0, .int 0, .int 0, .ref m1, .ref m2, .int 0, .ref m3, .ref m4, .ref m5, .ref m6, .ref m7, .ref m8, .ref m9, .ref m10, .ref m11, .ref m12, .ref m13, .ref m14, .ref m15, .ref m16, .ref m17, .int 0, .ref m18, .ref m19, .ref m20, .ref m21, .ref m22, .ref m23, .ref m24]))]) [0] rfl
  have hDc := hD.sub (ws' := [(h, .inr (4, [.int 0, .int 0, .ref m0, .int 0, .int 0, .ref m1, .ref m2, .int 0, .ref m3, .ref m4, .ref m5, .ref m6, .ref m7, .ref m8, .ref m9, .ref m10, .ref m11, .ref m12, .ref m13, .ref m14, .ref m15, .ref m16, .ref m17, .int 0, .ref m18, .ref m19, .ref m20, .ref m21, .ref m22, .ref m23, .ref m24]))]) [0] (by decide) rfl
  have hFc := va_free (wc := [(h, .inr (4, [.int 0, .int 0, .ref m0, .int 0, .int 0, .ref m1, .ref m2, .int 0, .ref m3, .ref m4, .ref m5, .ref m6, .ref m7, .ref m8, .ref m9, .ref m10, .ref m11, .ref m12, .ref m13, .ref m14, .ref m15, .ref m16, .ref m17, .int 0, .ref m18, .ref m19, .ref m20, .ref m21, .ref m22, .ref m23, .ref m24]))]) hD hS hA [0] rfl
  have hkc : 0 + 0 ≤ 0 := Nat.le_of_ble_eq_true rfl
  have hks : 0 + 0 ≤ 0 := Nat.le_of_ble_eq_true rfl
  refine va_calli (va_runV (As := [.int n, .int k]) (rest := []) ⟨hx, hb, hml, hown, hT⟩ (xc_Mo_moduleOf l D kA H.size h m0 m1 m2 m3 m4 m5 m6 m7 m8 m9 m10 m11 m12 m13 m14 m15 m16 m17 m18 m19 m20 m21 m22 m23 m24 0 n k) (cwV 2 hT (wT_V xk_135 xk_136 xk_137 xk_122 xk_134) rfl rfl rfl (by decide +kernel) ⟨Nat.le_of_ble_eq_true rfl, Nat.le_of_ble_eq_true rfl⟩) (x_preV hK hPc hDc 0 rfl rfl) rfl rfl hl.1 rfl (lv_room (Nat.le_of_ble_eq_true rfl)) xd_Mo_module_8 ⟨hkc, hks⟩) hS (fun q _ h => hFc q h) hFc (fun r u t H1 locs ht hvm hpost hB hz1 hk1 hS => ?_)
  have hpost : r = (-1) := hpost
  subst hpost
  obtain ⟨hP1, hD1⟩ := hB
  rw [ht] at hP1
  obtain ⟨hP, hD⟩ := va_join (wr := []) (w1 := [(h, .inr (4, [.int 0, .int 0, .ref m0, .int 0, .int 0, .ref m1, .ref m2, .int 0, .ref m3, .ref m4, .ref m5, .ref m6, .ref m7, .ref m8, .ref m9, .ref m10, .ref m11, .ref m12, .ref m13, .ref m14, .ref m15, .ref m16, .ref m17, .int 0, .ref m18, .ref m19, .ref m20, .ref m21, .ref m22, .ref m23, .ref m24]))]) hP hD [0] [] rfl rfl (by decide) (by decide) hk1 hFc hP1 hD1
  generalize H1 = H at hP hS ⊢
  have hP : va_P D xcl [(h, .inr (4, [.int 0, .int 0, .ref m0, .int 0, .int 0, .ref m1, .ref m2, .int 0, .ref m3, .ref m4, .ref m5, .ref m6, .ref m7, .ref m8, .ref m9, .ref m10, .ref m11, .ref m12, .ref m13, .ref m14, .ref m15, .ref m16, .ref m17, .int 0, .ref m18, .ref m19, .ref m20, .ref m21, .ref m22, .ref m23, .ref m24]))] H := hP
  have hD : va_D A [(h, .inr (4, [.int 0, .int 0, .ref m0, .int 0, .int 0, .ref m1, .ref m2, .int 0, .ref m3, .ref m4, .ref m5, .ref m6, .ref m7, .ref m8, .ref m9, .ref m10, .ref m11, .ref m12, .ref m13, .ref m14, .ref m15, .ref m16, .ref m17, .int 0, .ref m18, .ref m19, .ref m20, .ref m21, .ref m22, .ref m23, .ref m24]))] := hD
  have hP9 := hP.sub (ws' := [(h, .inr (4, [.int 0, .int 0, .ref m0, .int 0, .int 0, .ref m1, .ref m2, .int 0, .ref m3, .ref m4, .ref m5, .ref m6, .ref m7, .ref m8, .ref m9, .ref m10, .ref m11, .ref m12, .ref m13, .ref m14, .ref m15, .ref m16, .ref m17, .int 0, .ref m18, .ref m19, .ref m20, .ref m21, .ref m22, .ref m23, .ref m24]))]) [0] rfl
  have hD9 := hD.sub (ws' := [(h, .inr (4, [.int 0, .int 0, .ref m0, .int 0, .int 0, .ref m1, .ref m2, .int 0, .ref m3, .ref m4, .ref m5, .ref m6, .ref m7, .ref m8, .ref m9, .ref m10, .ref m11, .ref m12, .ref m13, .ref m14, .ref m15, .ref m16, .ref m17, .int 0, .ref m18, .ref m19, .ref m20, .ref m21, .ref m22, .ref m23, .ref m24]))]) [0] (by decide) rfl
  refine W.widen (k := 0) (n := 0) (Nat.le_of_ble_eq_true rfl) (Nat.le_of_ble_eq_true rfl) ?_
  exact W.iret (v := (-1)) hx hb hr (fun t ht hW => ⟨⟨(-1), (), rfl, rfl, by rw [ht]; exact hP9, hD9⟩, hS.F ht⟩) hS.2.2 xd_Mo_module_11
set_option maxHeartbeats 4000000 in
set_option maxRecDepth 100000 in
theorem xc_Mo_reads (l : Launch) (D : va_G) (kA : Nat → ClassId) (sz : Nat) (h : Nat) (m0 : Nat) (m1 : Nat) (m2 : Nat) (m3 : Nat) (m4 : Nat) (m5 : Nat) (m6 : Nat) (m7 : Nat) (m8 : Nat) (m9 : Nat) (m10 : Nat) (m11 : Nat) (m12 : Nat) (m13 : Nat) (m14 : Nat) (m15 : Nat) (m16 : Nat) (m17 : Nat) (m18 : Nat) (m19 : Nat) (m20 : Nat) (m21 : Nat) (m22 : Nat) (m23 : Nat) (m24 : Nat) (F : Int32) (n : Int32) (k : Int32) (n2 : Int32) (k2 : Int32) : Met l xy_Mo_reads (.code xy_Mo_reads xb_Mo_reads 6 (some .boolean) :: wT) { frames := 2, cells := 0, slots := 0, locals := 43 } (va_Pc [.ref h, .int n, .int k, .int n2, .int k2] (xPre D kA sz [(h, .inr (4, [.int F, .int 0, .ref m0, .int 0, .int 0, .ref m1, .ref m2, .int 0, .ref m3, .ref m4, .ref m5, .ref m6, .ref m7, .ref m8, .ref m9, .ref m10, .ref m11, .ref m12, .ref m13, .ref m14, .ref m15, .ref m16, .ref m17, .int 0, .ref m18, .ref m19, .ref m20, .ref m21, .ref m22, .ref m23, .ref m24]))])) (va_Qi (fun (r : Int32) (u : Unit) => r = 0) (fun (u : Unit) t => va_P D xcl [(h, .inr (4, [.int 0, .int 0, .ref m0, .int 0, .int 0, .ref m1, .ref m2, .int 0, .ref m3, .ref m4, .ref m5, .ref m6, .ref m7, .ref m8, .ref m9, .ref m10, .ref m11, .ref m12, .ref m13, .ref m14, .ref m15, .ref m16, .ref m17, .int 0, .ref m18, .ref m19, .ref m20, .ref m21, .ref m22, .ref m23, .ref m24]))] t.heap ∧ va_D (va_A [(h, .inr (4, [.int F, .int 0, .ref m0, .int 0, .int 0, .ref m1, .ref m2, .int 0, .ref m3, .ref m4, .ref m5, .ref m6, .ref m7, .ref m8, .ref m9, .ref m10, .ref m11, .ref m12, .ref m13, .ref m14, .ref m15, .ref m16, .ref m17, .int 0, .ref m18, .ref m19, .ref m20, .ref m21, .ref m22, .ref m23, .ref m24]))] sz) [(h, .inr (4, [.int 0, .int 0, .ref m0, .int 0, .int 0, .ref m1, .ref m2, .int 0, .ref m3, .ref m4, .ref m5, .ref m6, .ref m7, .ref m8, .ref m9, .ref m10, .ref m11, .ref m12, .ref m13, .ref m14, .ref m15, .ref m16, .ref m17, .int 0, .ref m18, .ref m19, .ref m20, .ref m21, .ref m22, .ref m23, .ref m24]))]) (va_A [(h, .inr (4, [.int F, .int 0, .ref m0, .int 0, .int 0, .ref m1, .ref m2, .int 0, .ref m3, .ref m4, .ref m5, .ref m6, .ref m7, .ref m8, .ref m9, .ref m10, .ref m11, .ref m12, .ref m13, .ref m14, .ref m15, .ref m16, .ref m17, .int 0, .ref m18, .ref m19, .ref m20, .ref m21, .ref m22, .ref m23, .ref m24]))] sz)) 0 0 (va_A [(h, .inr (4, [.int F, .int 0, .ref m0, .int 0, .int 0, .ref m1, .ref m2, .int 0, .ref m3, .ref m4, .ref m5, .ref m6, .ref m7, .ref m8, .ref m9, .ref m10, .ref m11, .ref m12, .ref m13, .ref m14, .ref m15, .ref m16, .ref m17, .int 0, .ref m18, .ref m19, .ref m20, .ref m21, .ref m22, .ref m23, .ref m24]))] sz) := by
  refine Met.ofW (cc := xb_Mo_reads) (maxL := 6) (ret := (some .boolean)) (by decide) rfl ?_
  intro p e s m args below meth c s₁ B hml hv
  obtain ⟨rfl, hsz, hP, hK, hD0⟩ := hv
  have hx := B.exec
  have hb := B.bytes
  have hr := B.returns
  have hT := x_hT B.pre
  have hown : s.vm.findClass xR_Mo = some m.cls := findClass_of_methodNamed B.named
  have hlocks := B.notSynchronized
  subst hsz
  have hD := hD0.self (sz := s.heap.size)
  generalize hAe : va_A [(h, .inr (4, [.int F, .int 0, .ref m0, .int 0, .int 0, .ref m1, .ref m2, .int 0, .ref m3, .ref m4, .ref m5, .ref m6, .ref m7, .ref m8, .ref m9, .ref m10, .ref m11, .ref m12, .ref m13, .ref m14, .ref m15, .ref m16, .ref m17, .int 0, .ref m18, .ref m19, .ref m20, .ref m21, .ref m22, .ref m23, .ref m24]))] s.heap.size = A at hD ⊢
  have hA : ∀ q : Nat, s.heap.size ≤ q → A q := fun q h => by rw [← hAe]; exact Or.inr h
  have hS : va_S A s.heap s.heap [] := va_S.rf
  have hP : va_P D xcl [(h, .inr (4, [.int F, .int 0, .ref m0, .int 0, .int 0, .ref m1, .ref m2, .int 0, .ref m3, .ref m4, .ref m5, .ref m6, .ref m7, .ref m8, .ref m9, .ref m10, .ref m11, .ref m12, .ref m13, .ref m14, .ref m15, .ref m16, .ref m17, .int 0, .ref m18, .ref m19, .ref m20, .ref m21, .ref m22, .ref m23, .ref m24]))] s.heap := hP
  have hl := lv_entry ([.ref h, .int n, .int k, .int n2, .int k2]) (n := 6) (Nat.le_of_ble_eq_true rfl)
  rw [lg_entry_eq]
  generalize (lg_sl ([.ref h, .int n, .int k, .int n2, .int k2]) ++ List.replicate (6 - (lg_sl ([.ref h, .int n, .int k, .int n2, .int k2])).length) Slot.unset).toArray = ls at hl ⊢
  have hl : lv_has ls 6 [(0, .ref h), (1, .int n), (2, .int k), (3, .int n2), (4, .int k2)] := hl
  refine lv_aload_n hx hb xd_Mo_reads_0 rfl (lv_at hl 0 rfl) ?_
  refine lv_iconst (v := 0) hx hb xd_Mo_reads_1 (by decide) ?_
  refine va_put (D := D) (ci := 4) (v := .int 0) (ty := .int) (C := xR_Mo) (T := xT_Mo) (N := 31) hx hb hT xi_Mo xt_Mo xt_Mo_ok xn_Mo hown hK.1 hP hD hS 0 rfl rfl 0 (by decide) (hT _ xk_115) (fun _ h9 => h9) rfl (by decide +kernel) rfl rfl (Nat.le_of_ble_eq_true rfl) xd_Mo_reads_2 (fun H locs hP hD hS => ?_)
  have hP : va_P D xcl [(h, .inr (4, [.int 0, .int 0, .ref m0, .int 0, .int 0, .ref m1, .ref m2, .int 0, .ref m3, .ref m4, .ref m5, .ref m6, .ref m7, .ref m8, .ref m9, .ref m10, .ref m11, .ref m12, .ref m13, .ref m14, .ref m15, .ref m16, .ref m17, .int 0, .ref m18, .ref m19, .ref m20, .ref m21, .ref m22, .ref m23, .ref m24]))] H := hP
  have hD : va_D A [(h, .inr (4, [.int 0, .int 0, .ref m0, .int 0, .int 0, .ref m1, .ref m2, .int 0, .ref m3, .ref m4, .ref m5, .ref m6, .ref m7, .ref m8, .ref m9, .ref m10, .ref m11, .ref m12, .ref m13, .ref m14, .ref m15, .ref m16, .ref m17, .int 0, .ref m18, .ref m19, .ref m20, .ref m21, .ref m22, .ref m23, .ref m24]))] := hD
  refine lv_aload_n hx hb xd_Mo_reads_5 rfl (lv_at hl 0 rfl) ?_
  refine lv_iload_n hx hb xd_Mo_reads_6 rfl (lv_at hl 1 rfl) ?_
  refine lv_iload_n hx hb xd_Mo_reads_7 rfl (lv_at hl 2 rfl) ?_
  have hPc := hP.sub (ws' := [(h, .inr (4, [.int 0, .int 0, .ref m0, .int 0, .int 0, .ref m1, .ref m2, .int 0, .ref m3, .ref m4, .ref m5, .ref m6, .ref m7, .ref m8, .ref m9, .ref m10, .ref m11, .ref m12, .ref m13, .ref m14, .ref m15, .ref m16, .ref m17, .int 0, .ref m18, .ref m19, .ref m20, .ref m21, .ref m22, .ref m23, .ref m24]))]) [0] rfl
  have hDc := hD.sub (ws' := [(h, .inr (4, [.int 0, .int 0, .ref m0, .int 0, .int 0, .ref m1, .ref m2, .int 0, .ref m3, .ref m4, .ref m5, .ref m6, .ref m7, .ref m8, .ref m9, .ref m10, .ref m11, .ref m12, .ref m13, .ref m14, .ref m15, .ref m16, .ref m17, .int 0, .ref m18, .ref m19, .ref m20, .ref m21, .ref m22, .ref m23, .ref m24]))]) [0] (by decide) rfl
  have hFc := va_free (wc := [(h, .inr (4, [.int 0, .int 0, .ref m0, .int 0, .int 0, .ref m1, .ref m2, .int 0, .ref m3, .ref m4, .ref m5, .ref m6, .ref m7, .ref m8, .ref m9, .ref m10, .ref m11, .ref m12, .ref m13, .ref m14, .ref m15, .ref m16, .ref m17, .int 0, .ref m18, .ref m19, .ref m20, .ref m21, .ref m22, .ref m23, .ref m24]))]) hD hS hA [0] rfl
  have hkc : 0 + 0 ≤ 0 := Nat.le_of_ble_eq_true rfl
  have hks : 0 + 0 ≤ 0 := Nat.le_of_ble_eq_true rfl
  refine va_calli (va_runV (As := [.int n, .int k]) (rest := []) ⟨hx, hb, hml, hown, hT⟩ (xc_Mo_moduleOf l D kA H.size h m0 m1 m2 m3 m4 m5 m6 m7 m8 m9 m10 m11 m12 m13 m14 m15 m16 m17 m18 m19 m20 m21 m22 m23 m24 0 n k) (cwV 2 hT (wT_V xk_135 xk_136 xk_137 xk_122 xk_134) rfl rfl rfl (by decide +kernel) ⟨Nat.le_of_ble_eq_true rfl, Nat.le_of_ble_eq_true rfl⟩) (x_preV hK hPc hDc 0 rfl rfl) rfl rfl hl.1 rfl (lv_room (Nat.le_of_ble_eq_true rfl)) xd_Mo_reads_8 ⟨hkc, hks⟩) hS (fun q _ h => hFc q h) hFc (fun r u t H1 locs ht hvm hpost hB hz1 hk1 hS => ?_)
  have hpost : r = (-1) := hpost
  subst hpost
  obtain ⟨hP1, hD1⟩ := hB
  rw [ht] at hP1
  obtain ⟨hP, hD⟩ := va_join (wr := []) (w1 := [(h, .inr (4, [.int 0, .int 0, .ref m0, .int 0, .int 0, .ref m1, .ref m2, .int 0, .ref m3, .ref m4, .ref m5, .ref m6, .ref m7, .ref m8, .ref m9, .ref m10, .ref m11, .ref m12, .ref m13, .ref m14, .ref m15, .ref m16, .ref m17, .int 0, .ref m18, .ref m19, .ref m20, .ref m21, .ref m22, .ref m23, .ref m24]))]) hP hD [0] [] rfl rfl (by decide) (by decide) hk1 hFc hP1 hD1
  generalize H1 = H at hP hS ⊢
  have hP : va_P D xcl [(h, .inr (4, [.int 0, .int 0, .ref m0, .int 0, .int 0, .ref m1, .ref m2, .int 0, .ref m3, .ref m4, .ref m5, .ref m6, .ref m7, .ref m8, .ref m9, .ref m10, .ref m11, .ref m12, .ref m13, .ref m14, .ref m15, .ref m16, .ref m17, .int 0, .ref m18, .ref m19, .ref m20, .ref m21, .ref m22, .ref m23, .ref m24]))] H := hP
  have hD : va_D A [(h, .inr (4, [.int 0, .int 0, .ref m0, .int 0, .int 0, .ref m1, .ref m2, .int 0, .ref m3, .ref m4, .ref m5, .ref m6, .ref m7, .ref m8, .ref m9, .ref m10, .ref m11, .ref m12, .ref m13, .ref m14, .ref m15, .ref m16, .ref m17, .int 0, .ref m18, .ref m19, .ref m20, .ref m21, .ref m22, .ref m23, .ref m24]))] := hD
  refine lv_istore hx hb xd_Mo_reads_11 hl (Nat.le_of_ble_eq_true rfl) rfl (fun ls hl => ?_)
  have hl : lv_has ls 6 [(5, .int (-1)), (0, .ref h), (1, .int n), (2, .int k), (3, .int n2), (4, .int k2)] := hl
  refine lv_iload hx hb xd_Mo_reads_13 (lv_at hl 0 rfl) ?_
  refine lv_if_lt (tgt := 28) hx hb xd_Mo_reads_15 (by decide) (fun _ => ?_) (fun hc => absurd (by decide) hc)
  refine lv_iconst (v := 0) hx hb xd_Mo_reads_28 (by decide) ?_
  have hP9 := hP.sub (ws' := [(h, .inr (4, [.int 0, .int 0, .ref m0, .int 0, .int 0, .ref m1, .ref m2, .int 0, .ref m3, .ref m4, .ref m5, .ref m6, .ref m7, .ref m8, .ref m9, .ref m10, .ref m11, .ref m12, .ref m13, .ref m14, .ref m15, .ref m16, .ref m17, .int 0, .ref m18, .ref m19, .ref m20, .ref m21, .ref m22, .ref m23, .ref m24]))]) [0] rfl
  have hD9 := hD.sub (ws' := [(h, .inr (4, [.int 0, .int 0, .ref m0, .int 0, .int 0, .ref m1, .ref m2, .int 0, .ref m3, .ref m4, .ref m5, .ref m6, .ref m7, .ref m8, .ref m9, .ref m10, .ref m11, .ref m12, .ref m13, .ref m14, .ref m15, .ref m16, .ref m17, .int 0, .ref m18, .ref m19, .ref m20, .ref m21, .ref m22, .ref m23, .ref m24]))]) [0] (by decide) rfl
  refine W.widen (k := 0) (n := 0) (Nat.le_of_ble_eq_true rfl) (Nat.le_of_ble_eq_true rfl) ?_
  exact W.zret (v := 0) hx hb hr rfl (fun t ht hW => ⟨⟨0, (), rfl, rfl, by rw [ht]; exact hP9, hD9⟩, hS.F ht⟩) hS.2.2 xd_Mo_reads_29
set_option maxHeartbeats 4000000 in
set_option maxRecDepth 100000 in
theorem xc_Mo_oneName (l : Launch) (D : va_G) (kA : Nat → ClassId) (sz : Nat) (h : Nat) (m0 : Nat) (m1 : Nat) (m2 : Nat) (m3 : Nat) (m4 : Nat) (m5 : Nat) (m6 : Nat) (m7 : Nat) (m8 : Nat) (m9 : Nat) (m10 : Nat) (m11 : Nat) (m12 : Nat) (m13 : Nat) (m14 : Nat) (m15 : Nat) (m16 : Nat) (m17 : Nat) (m18 : Nat) (m19 : Nat) (m20 : Nat) (m21 : Nat) (m22 : Nat) (m23 : Nat) (m24 : Nat) (F : Int32) : Met l xy_Mo_oneName (.code xy_Mo_oneName xb_Mo_oneName 1 (some .int) :: wT) { frames := 1, cells := 0, slots := 0, locals := 21 } (va_Pc [.ref h] (xPre D kA sz [(h, .inr (4, [.int F, .int 0, .ref m0, .int 0, .int 0, .ref m1, .ref m2, .int 0, .ref m3, .ref m4, .ref m5, .ref m6, .ref m7, .ref m8, .ref m9, .ref m10, .ref m11, .ref m12, .ref m13, .ref m14, .ref m15, .ref m16, .ref m17, .int 0, .ref m18, .ref m19, .ref m20, .ref m21, .ref m22, .ref m23, .ref m24]))])) (va_Qi (fun (r : Int32) (u : Unit) => r = 0) (fun (u : Unit) t => va_P D xcl [(h, .inr (4, [.int F, .int 0, .ref m0, .int 0, .int 0, .ref m1, .ref m2, .int 0, .ref m3, .ref m4, .ref m5, .ref m6, .ref m7, .ref m8, .ref m9, .ref m10, .ref m11, .ref m12, .ref m13, .ref m14, .ref m15, .ref m16, .ref m17, .int 0, .ref m18, .ref m19, .ref m20, .ref m21, .ref m22, .ref m23, .ref m24]))] t.heap ∧ va_D (va_A [(h, .inr (4, [.int F, .int 0, .ref m0, .int 0, .int 0, .ref m1, .ref m2, .int 0, .ref m3, .ref m4, .ref m5, .ref m6, .ref m7, .ref m8, .ref m9, .ref m10, .ref m11, .ref m12, .ref m13, .ref m14, .ref m15, .ref m16, .ref m17, .int 0, .ref m18, .ref m19, .ref m20, .ref m21, .ref m22, .ref m23, .ref m24]))] sz) [(h, .inr (4, [.int F, .int 0, .ref m0, .int 0, .int 0, .ref m1, .ref m2, .int 0, .ref m3, .ref m4, .ref m5, .ref m6, .ref m7, .ref m8, .ref m9, .ref m10, .ref m11, .ref m12, .ref m13, .ref m14, .ref m15, .ref m16, .ref m17, .int 0, .ref m18, .ref m19, .ref m20, .ref m21, .ref m22, .ref m23, .ref m24]))]) (va_A [(h, .inr (4, [.int F, .int 0, .ref m0, .int 0, .int 0, .ref m1, .ref m2, .int 0, .ref m3, .ref m4, .ref m5, .ref m6, .ref m7, .ref m8, .ref m9, .ref m10, .ref m11, .ref m12, .ref m13, .ref m14, .ref m15, .ref m16, .ref m17, .int 0, .ref m18, .ref m19, .ref m20, .ref m21, .ref m22, .ref m23, .ref m24]))] sz)) 0 0 (va_A [(h, .inr (4, [.int F, .int 0, .ref m0, .int 0, .int 0, .ref m1, .ref m2, .int 0, .ref m3, .ref m4, .ref m5, .ref m6, .ref m7, .ref m8, .ref m9, .ref m10, .ref m11, .ref m12, .ref m13, .ref m14, .ref m15, .ref m16, .ref m17, .int 0, .ref m18, .ref m19, .ref m20, .ref m21, .ref m22, .ref m23, .ref m24]))] sz) := by
  refine Met.ofW (cc := xb_Mo_oneName) (maxL := 1) (ret := (some .int)) (by decide) rfl ?_
  intro p e s m args below meth c s₁ B hml hv
  obtain ⟨rfl, hsz, hP, hK, hD0⟩ := hv
  have hx := B.exec
  have hb := B.bytes
  have hr := B.returns
  have hT := x_hT B.pre
  have hown : s.vm.findClass xR_Mo = some m.cls := findClass_of_methodNamed B.named
  have hlocks := B.notSynchronized
  subst hsz
  have hD := hD0.self (sz := s.heap.size)
  generalize hAe : va_A [(h, .inr (4, [.int F, .int 0, .ref m0, .int 0, .int 0, .ref m1, .ref m2, .int 0, .ref m3, .ref m4, .ref m5, .ref m6, .ref m7, .ref m8, .ref m9, .ref m10, .ref m11, .ref m12, .ref m13, .ref m14, .ref m15, .ref m16, .ref m17, .int 0, .ref m18, .ref m19, .ref m20, .ref m21, .ref m22, .ref m23, .ref m24]))] s.heap.size = A at hD ⊢
  have hA : ∀ q : Nat, s.heap.size ≤ q → A q := fun q h => by rw [← hAe]; exact Or.inr h
  have hS : va_S A s.heap s.heap [] := va_S.rf
  have hP : va_P D xcl [(h, .inr (4, [.int F, .int 0, .ref m0, .int 0, .int 0, .ref m1, .ref m2, .int 0, .ref m3, .ref m4, .ref m5, .ref m6, .ref m7, .ref m8, .ref m9, .ref m10, .ref m11, .ref m12, .ref m13, .ref m14, .ref m15, .ref m16, .ref m17, .int 0, .ref m18, .ref m19, .ref m20, .ref m21, .ref m22, .ref m23, .ref m24]))] s.heap := hP
  have hl := lv_entry ([.ref h]) (n := 1) (Nat.le_of_ble_eq_true rfl)
  rw [lg_entry_eq]
  generalize (lg_sl ([.ref h]) ++ List.replicate (1 - (lg_sl ([.ref h])).length) Slot.unset).toArray = ls at hl ⊢
  have hl : lv_has ls 1 [(0, .ref h)] := hl
  refine lv_aload_n hx hb xd_Mo_oneName_0 rfl (lv_at hl 0 rfl) ?_
  have hPc := hP.sub (ws' := [(h, .inr (4, [.int F, .int 0, .ref m0, .int 0, .int 0, .ref m1, .ref m2, .int 0, .ref m3, .ref m4, .ref m5, .ref m6, .ref m7, .ref m8, .ref m9, .ref m10, .ref m11, .ref m12, .ref m13, .ref m14, .ref m15, .ref m16, .ref m17, .int 0, .ref m18, .ref m19, .ref m20, .ref m21, .ref m22, .ref m23, .ref m24]))]) [0] rfl
  have hDc := hD.sub (ws' := [(h, .inr (4, [.int F, .int 0, .ref m0, .int 0, .int 0, .ref m1, .ref m2, .int 0, .ref m3, .ref m4, .ref m5, .ref m6, .ref m7, .ref m8, .ref m9, .ref m10, .ref m11, .ref m12, .ref m13, .ref m14, .ref m15, .ref m16, .ref m17, .int 0, .ref m18, .ref m19, .ref m20, .ref m21, .ref m22, .ref m23, .ref m24]))]) [0] (by decide) rfl
  have hFc := va_free (wc := [(h, .inr (4, [.int F, .int 0, .ref m0, .int 0, .int 0, .ref m1, .ref m2, .int 0, .ref m3, .ref m4, .ref m5, .ref m6, .ref m7, .ref m8, .ref m9, .ref m10, .ref m11, .ref m12, .ref m13, .ref m14, .ref m15, .ref m16, .ref m17, .int 0, .ref m18, .ref m19, .ref m20, .ref m21, .ref m22, .ref m23, .ref m24]))]) hD hS hA [0] rfl
  have hkc : 0 + 0 ≤ 0 := Nat.le_of_ble_eq_true rfl
  have hks : 0 + 0 ≤ 0 := Nat.le_of_ble_eq_true rfl
  refine va_callv (va_runV (As := []) (rest := []) ⟨hx, hb, hml, hown, hT⟩ (xc_Mo_split l D kA s.heap.size h m0 m1 m2 m3 m4 m5 m6 m7 m8 m9 m10 m11 m12 m13 m14 m15 m16 m17 m18 m19 m20 m21 m22 m23 m24 F) (cwV 0 hT (wT_V xk_119 xk_120 xk_121 xk_122 xk_118) rfl rfl rfl (by decide +kernel) ⟨Nat.le_of_ble_eq_true rfl, Nat.le_of_ble_eq_true rfl⟩) (x_preV hK hPc hDc 0 rfl rfl) rfl rfl hl.1 rfl (lv_room (Nat.le_of_ble_eq_true rfl)) xd_Mo_oneName_1 ⟨hkc, hks⟩) hS (fun q _ h => hFc q h) hFc (fun u t H1 locs ht hvm hpost hB hz1 hk1 hS => ?_)
  obtain ⟨hP1, hD1⟩ := hB
  rw [ht] at hP1
  obtain ⟨hP, hD⟩ := va_join (wr := []) (w1 := [(h, .inr (4, [.int F, .int 0, .ref m0, .int 0, .int 0, .ref m1, .ref m2, .int 0, .ref m3, .ref m4, .ref m5, .ref m6, .ref m7, .ref m8, .ref m9, .ref m10, .ref m11, .ref m12, .ref m13, .ref m14, .ref m15, .ref m16, .ref m17, .int 0, .ref m18, .ref m19, .ref m20, .ref m21, .ref m22, .ref m23, .ref m24]))]) hP hD [0] [] rfl rfl (by decide) (by decide) hk1 hFc hP1 hD1
  generalize H1 = H at hP hS ⊢
  have hP : va_P D xcl [(h, .inr (4, [.int F, .int 0, .ref m0, .int 0, .int 0, .ref m1, .ref m2, .int 0, .ref m3, .ref m4, .ref m5, .ref m6, .ref m7, .ref m8, .ref m9, .ref m10, .ref m11, .ref m12, .ref m13, .ref m14, .ref m15, .ref m16, .ref m17, .int 0, .ref m18, .ref m19, .ref m20, .ref m21, .ref m22, .ref m23, .ref m24]))] H := hP
  have hD : va_D A [(h, .inr (4, [.int F, .int 0, .ref m0, .int 0, .int 0, .ref m1, .ref m2, .int 0, .ref m3, .ref m4, .ref m5, .ref m6, .ref m7, .ref m8, .ref m9, .ref m10, .ref m11, .ref m12, .ref m13, .ref m14, .ref m15, .ref m16, .ref m17, .int 0, .ref m18, .ref m19, .ref m20, .ref m21, .ref m22, .ref m23, .ref m24]))] := hD
  refine lv_aload_n hx hb xd_Mo_oneName_4 rfl (lv_at hl 0 rfl) ?_
  refine va_get (D := D) (ci := 4) (v := .int 0) (C := xR_Mo) (T := xT_Mo) (N := 31) hx hb hT xi_Mo hown hK.1 hP 0 rfl rfl 4 (by decide) (hT _ xk_117) (fun _ h9 => h9) rfl xd_Mo_oneName_5 ?_
  refine lv_iconst (v := 1) hx hb xd_Mo_oneName_8 (by decide) ?_
  refine lv_icmp_ne (tgt := 20) hx hb xd_Mo_oneName_9 (by decide) (fun _ => ?_) (fun hc => absurd hc (by decide))
  refine lv_iconst (v := 0) hx hb xd_Mo_oneName_20 (by decide) ?_
  have hP9 := hP.sub (ws' := [(h, .inr (4, [.int F, .int 0, .ref m0, .int 0, .int 0, .ref m1, .ref m2, .int 0, .ref m3, .ref m4, .ref m5, .ref m6, .ref m7, .ref m8, .ref m9, .ref m10, .ref m11, .ref m12, .ref m13, .ref m14, .ref m15, .ref m16, .ref m17, .int 0, .ref m18, .ref m19, .ref m20, .ref m21, .ref m22, .ref m23, .ref m24]))]) [0] rfl
  have hD9 := hD.sub (ws' := [(h, .inr (4, [.int F, .int 0, .ref m0, .int 0, .int 0, .ref m1, .ref m2, .int 0, .ref m3, .ref m4, .ref m5, .ref m6, .ref m7, .ref m8, .ref m9, .ref m10, .ref m11, .ref m12, .ref m13, .ref m14, .ref m15, .ref m16, .ref m17, .int 0, .ref m18, .ref m19, .ref m20, .ref m21, .ref m22, .ref m23, .ref m24]))]) [0] (by decide) rfl
  refine W.widen (k := 0) (n := 0) (Nat.le_of_ble_eq_true rfl) (Nat.le_of_ble_eq_true rfl) ?_
  exact W.iret (v := 0) hx hb hr (fun t ht hW => ⟨⟨0, (), rfl, rfl, by rw [ht]; exact hP9, hD9⟩, hS.F ht⟩) hS.2.2 xd_Mo_oneName_21
set_option maxHeartbeats 4000000 in
set_option maxRecDepth 100000 in
theorem xc_Mo_load (l : Launch) (D : va_G) (kA : Nat → ClassId) (sz : Nat) (h : Nat) (m0 : Nat) (m1 : Nat) (m2 : Nat) (m3 : Nat) (m4 : Nat) (m5 : Nat) (m6 : Nat) (m7 : Nat) (m8 : Nat) (m9 : Nat) (m10 : Nat) (m11 : Nat) (m12 : Nat) (m13 : Nat) (m14 : Nat) (m15 : Nat) (m16 : Nat) (m17 : Nat) (m18 : Nat) (m19 : Nat) (m20 : Nat) (m21 : Nat) (m22 : Nat) (m23 : Nat) (m24 : Nat) (F : Int32) (n : Int32) (k : Int32) : Met l xy_Mo_load (.code xy_Mo_load xb_Mo_load 7 (some .int) :: wT) { frames := 2, cells := 0, slots := 0, locals := 43 } (va_Pc [.ref h, .int n, .int k] (xPre D kA sz [(h, .inr (4, [.int F, .int 0, .ref m0, .int 0, .int 0, .ref m1, .ref m2, .int 0, .ref m3, .ref m4, .ref m5, .ref m6, .ref m7, .ref m8, .ref m9, .ref m10, .ref m11, .ref m12, .ref m13, .ref m14, .ref m15, .ref m16, .ref m17, .int 0, .ref m18, .ref m19, .ref m20, .ref m21, .ref m22, .ref m23, .ref m24]))])) (va_Qi (fun (r : Int32) (u : Unit) => r = 0) (fun (u : Unit) t => va_P D xcl [(h, .inr (4, [.int 1, .int 0, .ref m0, .int 0, .int 0, .ref m1, .ref m2, .int 0, .ref m3, .ref m4, .ref m5, .ref m6, .ref m7, .ref m8, .ref m9, .ref m10, .ref m11, .ref m12, .ref m13, .ref m14, .ref m15, .ref m16, .ref m17, .int 0, .ref m18, .ref m19, .ref m20, .ref m21, .ref m22, .ref m23, .ref m24]))] t.heap ∧ va_D (va_A [(h, .inr (4, [.int F, .int 0, .ref m0, .int 0, .int 0, .ref m1, .ref m2, .int 0, .ref m3, .ref m4, .ref m5, .ref m6, .ref m7, .ref m8, .ref m9, .ref m10, .ref m11, .ref m12, .ref m13, .ref m14, .ref m15, .ref m16, .ref m17, .int 0, .ref m18, .ref m19, .ref m20, .ref m21, .ref m22, .ref m23, .ref m24]))] sz) [(h, .inr (4, [.int 1, .int 0, .ref m0, .int 0, .int 0, .ref m1, .ref m2, .int 0, .ref m3, .ref m4, .ref m5, .ref m6, .ref m7, .ref m8, .ref m9, .ref m10, .ref m11, .ref m12, .ref m13, .ref m14, .ref m15, .ref m16, .ref m17, .int 0, .ref m18, .ref m19, .ref m20, .ref m21, .ref m22, .ref m23, .ref m24]))]) (va_A [(h, .inr (4, [.int F, .int 0, .ref m0, .int 0, .int 0, .ref m1, .ref m2, .int 0, .ref m3, .ref m4, .ref m5, .ref m6, .ref m7, .ref m8, .ref m9, .ref m10, .ref m11, .ref m12, .ref m13, .ref m14, .ref m15, .ref m16, .ref m17, .int 0, .ref m18, .ref m19, .ref m20, .ref m21, .ref m22, .ref m23, .ref m24]))] sz)) 0 0 (va_A [(h, .inr (4, [.int F, .int 0, .ref m0, .int 0, .int 0, .ref m1, .ref m2, .int 0, .ref m3, .ref m4, .ref m5, .ref m6, .ref m7, .ref m8, .ref m9, .ref m10, .ref m11, .ref m12, .ref m13, .ref m14, .ref m15, .ref m16, .ref m17, .int 0, .ref m18, .ref m19, .ref m20, .ref m21, .ref m22, .ref m23, .ref m24]))] sz) := by
  refine Met.ofW (cc := xb_Mo_load) (maxL := 7) (ret := (some .int)) (by decide) rfl ?_
  intro p e s m args below meth c s₁ B hml hv
  obtain ⟨rfl, hsz, hP, hK, hD0⟩ := hv
  have hx := B.exec
  have hb := B.bytes
  have hr := B.returns
  have hT := x_hT B.pre
  have hown : s.vm.findClass xR_Mo = some m.cls := findClass_of_methodNamed B.named
  have hlocks := B.notSynchronized
  subst hsz
  have hD := hD0.self (sz := s.heap.size)
  generalize hAe : va_A [(h, .inr (4, [.int F, .int 0, .ref m0, .int 0, .int 0, .ref m1, .ref m2, .int 0, .ref m3, .ref m4, .ref m5, .ref m6, .ref m7, .ref m8, .ref m9, .ref m10, .ref m11, .ref m12, .ref m13, .ref m14, .ref m15, .ref m16, .ref m17, .int 0, .ref m18, .ref m19, .ref m20, .ref m21, .ref m22, .ref m23, .ref m24]))] s.heap.size = A at hD ⊢
  have hA : ∀ q : Nat, s.heap.size ≤ q → A q := fun q h => by rw [← hAe]; exact Or.inr h
  have hS : va_S A s.heap s.heap [] := va_S.rf
  have hP : va_P D xcl [(h, .inr (4, [.int F, .int 0, .ref m0, .int 0, .int 0, .ref m1, .ref m2, .int 0, .ref m3, .ref m4, .ref m5, .ref m6, .ref m7, .ref m8, .ref m9, .ref m10, .ref m11, .ref m12, .ref m13, .ref m14, .ref m15, .ref m16, .ref m17, .int 0, .ref m18, .ref m19, .ref m20, .ref m21, .ref m22, .ref m23, .ref m24]))] s.heap := hP
  have hl := lv_entry ([.ref h, .int n, .int k]) (n := 7) (Nat.le_of_ble_eq_true rfl)
  rw [lg_entry_eq]
  generalize (lg_sl ([.ref h, .int n, .int k]) ++ List.replicate (7 - (lg_sl ([.ref h, .int n, .int k])).length) Slot.unset).toArray = ls at hl ⊢
  have hl : lv_has ls 7 [(0, .ref h), (1, .int n), (2, .int k)] := hl
  refine lv_aload_n hx hb xd_Mo_load_0 rfl (lv_at hl 0 rfl) ?_
  refine lv_iconst (v := 0) hx hb xd_Mo_load_1 (by decide) ?_
  refine va_put (D := D) (ci := 4) (v := .int 0) (ty := .int) (C := xR_Mo) (T := xT_Mo) (N := 31) hx hb hT xi_Mo xt_Mo xt_Mo_ok xn_Mo hown hK.1 hP hD hS 0 rfl rfl 0 (by decide) (hT _ xk_115) (fun _ h9 => h9) rfl (by decide +kernel) rfl rfl (Nat.le_of_ble_eq_true rfl) xd_Mo_load_2 (fun H locs hP hD hS => ?_)
  have hP : va_P D xcl [(h, .inr (4, [.int 0, .int 0, .ref m0, .int 0, .int 0, .ref m1, .ref m2, .int 0, .ref m3, .ref m4, .ref m5, .ref m6, .ref m7, .ref m8, .ref m9, .ref m10, .ref m11, .ref m12, .ref m13, .ref m14, .ref m15, .ref m16, .ref m17, .int 0, .ref m18, .ref m19, .ref m20, .ref m21, .ref m22, .ref m23, .ref m24]))] H := hP
  have hD : va_D A [(h, .inr (4, [.int 0, .int 0, .ref m0, .int 0, .int 0, .ref m1, .ref m2, .int 0, .ref m3, .ref m4, .ref m5, .ref m6, .ref m7, .ref m8, .ref m9, .ref m10, .ref m11, .ref m12, .ref m13, .ref m14, .ref m15, .ref m16, .ref m17, .int 0, .ref m18, .ref m19, .ref m20, .ref m21, .ref m22, .ref m23, .ref m24]))] := hD
  refine lv_aload_n hx hb xd_Mo_load_5 rfl (lv_at hl 0 rfl) ?_
  have hPc := hP.sub (ws' := [(h, .inr (4, [.int 0, .int 0, .ref m0, .int 0, .int 0, .ref m1, .ref m2, .int 0, .ref m3, .ref m4, .ref m5, .ref m6, .ref m7, .ref m8, .ref m9, .ref m10, .ref m11, .ref m12, .ref m13, .ref m14, .ref m15, .ref m16, .ref m17, .int 0, .ref m18, .ref m19, .ref m20, .ref m21, .ref m22, .ref m23, .ref m24]))]) [0] rfl
  have hDc := hD.sub (ws' := [(h, .inr (4, [.int 0, .int 0, .ref m0, .int 0, .int 0, .ref m1, .ref m2, .int 0, .ref m3, .ref m4, .ref m5, .ref m6, .ref m7, .ref m8, .ref m9, .ref m10, .ref m11, .ref m12, .ref m13, .ref m14, .ref m15, .ref m16, .ref m17, .int 0, .ref m18, .ref m19, .ref m20, .ref m21, .ref m22, .ref m23, .ref m24]))]) [0] (by decide) rfl
  have hFc := va_free (wc := [(h, .inr (4, [.int 0, .int 0, .ref m0, .int 0, .int 0, .ref m1, .ref m2, .int 0, .ref m3, .ref m4, .ref m5, .ref m6, .ref m7, .ref m8, .ref m9, .ref m10, .ref m11, .ref m12, .ref m13, .ref m14, .ref m15, .ref m16, .ref m17, .int 0, .ref m18, .ref m19, .ref m20, .ref m21, .ref m22, .ref m23, .ref m24]))]) hD hS hA [0] rfl
  have hkc : 0 + 0 ≤ 0 := Nat.le_of_ble_eq_true rfl
  have hks : 0 + 0 ≤ 0 := Nat.le_of_ble_eq_true rfl
  refine va_calli (va_runV (As := []) (rest := []) ⟨hx, hb, hml, hown, hT⟩ (xc_Mo_oneName l D kA H.size h m0 m1 m2 m3 m4 m5 m6 m7 m8 m9 m10 m11 m12 m13 m14 m15 m16 m17 m18 m19 m20 m21 m22 m23 m24 0) (cwV 0 hT (wT_V xk_139 xk_140 xk_141 xk_122 xk_138) rfl rfl rfl (by decide +kernel) ⟨Nat.le_of_ble_eq_true rfl, Nat.le_of_ble_eq_true rfl⟩) (x_preV hK hPc hDc 0 rfl rfl) rfl rfl hl.1 rfl (lv_room (Nat.le_of_ble_eq_true rfl)) xd_Mo_load_6 ⟨hkc, hks⟩) hS (fun q _ h => hFc q h) hFc (fun r u t H1 locs ht hvm hpost hB hz1 hk1 hS => ?_)
  have hpost : r = 0 := hpost
  subst hpost
  obtain ⟨hP1, hD1⟩ := hB
  rw [ht] at hP1
  obtain ⟨hP, hD⟩ := va_join (wr := []) (w1 := [(h, .inr (4, [.int 0, .int 0, .ref m0, .int 0, .int 0, .ref m1, .ref m2, .int 0, .ref m3, .ref m4, .ref m5, .ref m6, .ref m7, .ref m8, .ref m9, .ref m10, .ref m11, .ref m12, .ref m13, .ref m14, .ref m15, .ref m16, .ref m17, .int 0, .ref m18, .ref m19, .ref m20, .ref m21, .ref m22, .ref m23, .ref m24]))]) hP hD [0] [] rfl rfl (by decide) (by decide) hk1 hFc hP1 hD1
  generalize H1 = H at hP hS ⊢
  have hP : va_P D xcl [(h, .inr (4, [.int 0, .int 0, .ref m0, .int 0, .int 0, .ref m1, .ref m2, .int 0, .ref m3, .ref m4, .ref m5, .ref m6, .ref m7, .ref m8, .ref m9, .ref m10, .ref m11, .ref m12, .ref m13, .ref m14, .ref m15, .ref m16, .ref m17, .int 0, .ref m18, .ref m19, .ref m20, .ref m21, .ref m22, .ref m23, .ref m24]))] H := hP
  have hD : va_D A [(h, .inr (4, [.int 0, .int 0, .ref m0, .int 0, .int 0, .ref m1, .ref m2, .int 0, .ref m3, .ref m4, .ref m5, .ref m6, .ref m7, .ref m8, .ref m9, .ref m10, .ref m11, .ref m12, .ref m13, .ref m14, .ref m15, .ref m16, .ref m17, .int 0, .ref m18, .ref m19, .ref m20, .ref m21, .ref m22, .ref m23, .ref m24]))] := hD
  refine lv_istore_n hx hb xd_Mo_load_9 rfl hl (Nat.le_of_ble_eq_true rfl) rfl (fun ls hl => ?_)
  have hl : lv_has ls 7 [(3, .int 0), (0, .ref h), (1, .int n), (2, .int k)] := hl
  refine lv_aload_n hx hb xd_Mo_load_10 rfl (lv_at hl 1 rfl) ?_
  refine lv_iload_n hx hb xd_Mo_load_11 rfl (lv_at hl 2 rfl) ?_
  refine lv_iload_n hx hb xd_Mo_load_12 rfl (lv_at hl 3 rfl) ?_
  have hPc := hP.sub (ws' := [(h, .inr (4, [.int 0, .int 0, .ref m0, .int 0, .int 0, .ref m1, .ref m2, .int 0, .ref m3, .ref m4, .ref m5, .ref m6, .ref m7, .ref m8, .ref m9, .ref m10, .ref m11, .ref m12, .ref m13, .ref m14, .ref m15, .ref m16, .ref m17, .int 0, .ref m18, .ref m19, .ref m20, .ref m21, .ref m22, .ref m23, .ref m24]))]) [0] rfl
  have hDc := hD.sub (ws' := [(h, .inr (4, [.int 0, .int 0, .ref m0, .int 0, .int 0, .ref m1, .ref m2, .int 0, .ref m3, .ref m4, .ref m5, .ref m6, .ref m7, .ref m8, .ref m9, .ref m10, .ref m11, .ref m12, .ref m13, .ref m14, .ref m15, .ref m16, .ref m17, .int 0, .ref m18, .ref m19, .ref m20, .ref m21, .ref m22, .ref m23, .ref m24]))]) [0] (by decide) rfl
  have hFc := va_free (wc := [(h, .inr (4, [.int 0, .int 0, .ref m0, .int 0, .int 0, .ref m1, .ref m2, .int 0, .ref m3, .ref m4, .ref m5, .ref m6, .ref m7, .ref m8, .ref m9, .ref m10, .ref m11, .ref m12, .ref m13, .ref m14, .ref m15, .ref m16, .ref m17, .int 0, .ref m18, .ref m19, .ref m20, .ref m21, .ref m22, .ref m23, .ref m24]))]) hD hS hA [0] rfl
  have hkc : 0 + 0 ≤ 0 := Nat.le_of_ble_eq_true rfl
  have hks : 0 + 0 ≤ 0 := Nat.le_of_ble_eq_true rfl
  refine va_calli (va_runV (As := [.int n, .int k]) (rest := []) ⟨hx, hb, hml, hown, hT⟩ (xc_Mo_moduleOf l D kA H.size h m0 m1 m2 m3 m4 m5 m6 m7 m8 m9 m10 m11 m12 m13 m14 m15 m16 m17 m18 m19 m20 m21 m22 m23 m24 0 n k) (cwV 2 hT (wT_V xk_135 xk_136 xk_137 xk_122 xk_134) rfl rfl rfl (by decide +kernel) ⟨Nat.le_of_ble_eq_true rfl, Nat.le_of_ble_eq_true rfl⟩) (x_preV hK hPc hDc 0 rfl rfl) rfl rfl hl.1 rfl (lv_room (Nat.le_of_ble_eq_true rfl)) xd_Mo_load_13 ⟨hkc, hks⟩) hS (fun q _ h => hFc q h) hFc (fun r u t H1 locs ht hvm hpost hB hz1 hk1 hS => ?_)
  have hpost : r = (-1) := hpost
  subst hpost
  obtain ⟨hP1, hD1⟩ := hB
  rw [ht] at hP1
  obtain ⟨hP, hD⟩ := va_join (wr := []) (w1 := [(h, .inr (4, [.int 0, .int 0, .ref m0, .int 0, .int 0, .ref m1, .ref m2, .int 0, .ref m3, .ref m4, .ref m5, .ref m6, .ref m7, .ref m8, .ref m9, .ref m10, .ref m11, .ref m12, .ref m13, .ref m14, .ref m15, .ref m16, .ref m17, .int 0, .ref m18, .ref m19, .ref m20, .ref m21, .ref m22, .ref m23, .ref m24]))]) hP hD [0] [] rfl rfl (by decide) (by decide) hk1 hFc hP1 hD1
  generalize H1 = H at hP hS ⊢
  have hP : va_P D xcl [(h, .inr (4, [.int 0, .int 0, .ref m0, .int 0, .int 0, .ref m1, .ref m2, .int 0, .ref m3, .ref m4, .ref m5, .ref m6, .ref m7, .ref m8, .ref m9, .ref m10, .ref m11, .ref m12, .ref m13, .ref m14, .ref m15, .ref m16, .ref m17, .int 0, .ref m18, .ref m19, .ref m20, .ref m21, .ref m22, .ref m23, .ref m24]))] H := hP
  have hD : va_D A [(h, .inr (4, [.int 0, .int 0, .ref m0, .int 0, .int 0, .ref m1, .ref m2, .int 0, .ref m3, .ref m4, .ref m5, .ref m6, .ref m7, .ref m8, .ref m9, .ref m10, .ref m11, .ref m12, .ref m13, .ref m14, .ref m15, .ref m16, .ref m17, .int 0, .ref m18, .ref m19, .ref m20, .ref m21, .ref m22, .ref m23, .ref m24]))] := hD
  refine lv_istore hx hb xd_Mo_load_16 hl (Nat.le_of_ble_eq_true rfl) rfl (fun ls hl => ?_)
  have hl : lv_has ls 7 [(4, .int (-1)), (3, .int 0), (0, .ref h), (1, .int n), (2, .int k)] := hl
  refine lv_iload_n hx hb xd_Mo_load_18 rfl (lv_at hl 1 rfl) ?_
  refine lv_if_eq (tgt := 27) hx hb xd_Mo_load_19 (by decide) (fun _ => ?_) (fun hc => absurd (by decide) hc)
  refine lv_aload_n hx hb xd_Mo_load_27 rfl (lv_at hl 2 rfl) ?_
  refine lv_iconst (v := 1) hx hb xd_Mo_load_28 (by decide) ?_
  have hPc := hP.sub (ws' := [(h, .inr (4, [.int 0, .int 0, .ref m0, .int 0, .int 0, .ref m1, .ref m2, .int 0, .ref m3, .ref m4, .ref m5, .ref m6, .ref m7, .ref m8, .ref m9, .ref m10, .ref m11, .ref m12, .ref m13, .ref m14, .ref m15, .ref m16, .ref m17, .int 0, .ref m18, .ref m19, .ref m20, .ref m21, .ref m22, .ref m23, .ref m24]))]) [0] rfl
  have hDc := hD.sub (ws' := [(h, .inr (4, [.int 0, .int 0, .ref m0, .int 0, .int 0, .ref m1, .ref m2, .int 0, .ref m3, .ref m4, .ref m5, .ref m6, .ref m7, .ref m8, .ref m9, .ref m10, .ref m11, .ref m12, .ref m13, .ref m14, .ref m15, .ref m16, .ref m17, .int 0, .ref m18, .ref m19, .ref m20, .ref m21, .ref m22, .ref m23, .ref m24]))]) [0] (by decide) rfl
  have hFc := va_free (wc := [(h, .inr (4, [.int 0, .int 0, .ref m0, .int 0, .int 0, .ref m1, .ref m2, .int 0, .ref m3, .ref m4, .ref m5, .ref m6, .ref m7, .ref m8, .ref m9, .ref m10, .ref m11, .ref m12, .ref m13, .ref m14, .ref m15, .ref m16, .ref m17, .int 0, .ref m18, .ref m19, .ref m20, .ref m21, .ref m22, .ref m23, .ref m24]))]) hD hS hA [0] rfl
  have hkc : 0 + 0 ≤ 0 := Nat.le_of_ble_eq_true rfl
  have hks : 0 + 0 ≤ 0 := Nat.le_of_ble_eq_true rfl
  refine va_calli (va_runV (As := [.int 1]) (rest := []) ⟨hx, hb, hml, hown, hT⟩ (xc_Mo_fails l D kA H.size h m0 m1 m2 m3 m4 m5 m6 m7 m8 m9 m10 m11 m12 m13 m14 m15 m16 m17 m18 m19 m20 m21 m22 m23 m24 0 1) (cwV 1 hT (wT_V xk_126 xk_127 xk_128 xk_122 xk_125) rfl rfl rfl (by decide +kernel) ⟨Nat.le_of_ble_eq_true rfl, Nat.le_of_ble_eq_true rfl⟩) (x_preV hK hPc hDc 0 rfl rfl) rfl rfl hl.1 rfl (lv_room (Nat.le_of_ble_eq_true rfl)) xd_Mo_load_29 ⟨hkc, hks⟩) hS (fun q _ h => hFc q h) hFc (fun r u t H1 locs ht hvm hpost hB hz1 hk1 hS => ?_)
  have hpost : r = 0 := hpost
  subst hpost
  obtain ⟨hP1, hD1⟩ := hB
  rw [ht] at hP1
  obtain ⟨hP, hD⟩ := va_join (wr := []) (w1 := [(h, .inr (4, [.int 1, .int 0, .ref m0, .int 0, .int 0, .ref m1, .ref m2, .int 0, .ref m3, .ref m4, .ref m5, .ref m6, .ref m7, .ref m8, .ref m9, .ref m10, .ref m11, .ref m12, .ref m13, .ref m14, .ref m15, .ref m16, .ref m17, .int 0, .ref m18, .ref m19, .ref m20, .ref m21, .ref m22, .ref m23, .ref m24]))]) hP hD [0] [] rfl rfl (by decide) (by decide) hk1 hFc hP1 hD1
  generalize H1 = H at hP hS ⊢
  have hP : va_P D xcl [(h, .inr (4, [.int 1, .int 0, .ref m0, .int 0, .int 0, .ref m1, .ref m2, .int 0, .ref m3, .ref m4, .ref m5, .ref m6, .ref m7, .ref m8, .ref m9, .ref m10, .ref m11, .ref m12, .ref m13, .ref m14, .ref m15, .ref m16, .ref m17, .int 0, .ref m18, .ref m19, .ref m20, .ref m21, .ref m22, .ref m23, .ref m24]))] H := hP
  have hD : va_D A [(h, .inr (4, [.int 1, .int 0, .ref m0, .int 0, .int 0, .ref m1, .ref m2, .int 0, .ref m3, .ref m4, .ref m5, .ref m6, .ref m7, .ref m8, .ref m9, .ref m10, .ref m11, .ref m12, .ref m13, .ref m14, .ref m15, .ref m16, .ref m17, .int 0, .ref m18, .ref m19, .ref m20, .ref m21, .ref m22, .ref m23, .ref m24]))] := hD
  have hP9 := hP.sub (ws' := [(h, .inr (4, [.int 1, .int 0, .ref m0, .int 0, .int 0, .ref m1, .ref m2, .int 0, .ref m3, .ref m4, .ref m5, .ref m6, .ref m7, .ref m8, .ref m9, .ref m10, .ref m11, .ref m12, .ref m13, .ref m14, .ref m15, .ref m16, .ref m17, .int 0, .ref m18, .ref m19, .ref m20, .ref m21, .ref m22, .ref m23, .ref m24]))]) [0] rfl
  have hD9 := hD.sub (ws' := [(h, .inr (4, [.int 1, .int 0, .ref m0, .int 0, .int 0, .ref m1, .ref m2, .int 0, .ref m3, .ref m4, .ref m5, .ref m6, .ref m7, .ref m8, .ref m9, .ref m10, .ref m11, .ref m12, .ref m13, .ref m14, .ref m15, .ref m16, .ref m17, .int 0, .ref m18, .ref m19, .ref m20, .ref m21, .ref m22, .ref m23, .ref m24]))]) [0] (by decide) rfl
  refine W.widen (k := 0) (n := 0) (Nat.le_of_ble_eq_true rfl) (Nat.le_of_ble_eq_true rfl) ?_
  exact W.iret (v := 0) hx hb hr (fun t ht hW => ⟨⟨0, (), rfl, rfl, by rw [ht]; exact hP9, hD9⟩, hS.F ht⟩) hS.2.2 xd_Mo_load_32
set_option maxHeartbeats 4000000 in
set_option maxRecDepth 100000 in
theorem xc_Mo_peek (l : Launch) (D : va_G) (kA : Nat → ClassId) (sz : Nat) (h : Nat) (m0 : Nat) (m1 : Nat) (m2 : Nat) (m3 : Nat) (m4 : Nat) (m5 : Nat) (m6 : Nat) (m7 : Nat) (m8 : Nat) (m9 : Nat) (m10 : Nat) (m11 : Nat) (m12 : Nat) (m13 : Nat) (m14 : Nat) (m15 : Nat) (m16 : Nat) (m17 : Nat) (m18 : Nat) (m19 : Nat) (m20 : Nat) (m21 : Nat) (m22 : Nat) (m23 : Nat) (m24 : Nat) (F : Int32) (n : Int32) (k : Int32) (n2 : Int32) (k2 : Int32) : Met l xy_Mo_peek (.code xy_Mo_peek xb_Mo_peek 8 (some .boolean) :: wT) { frames := 2, cells := 0, slots := 0, locals := 43 } (va_Pc [.ref h, .int n, .int k, .int n2, .int k2] (xPre D kA sz [(h, .inr (4, [.int F, .int 0, .ref m0, .int 0, .int 0, .ref m1, .ref m2, .int 0, .ref m3, .ref m4, .ref m5, .ref m6, .ref m7, .ref m8, .ref m9, .ref m10, .ref m11, .ref m12, .ref m13, .ref m14, .ref m15, .ref m16, .ref m17, .int 0, .ref m18, .ref m19, .ref m20, .ref m21, .ref m22, .ref m23, .ref m24]))])) (va_Qi (fun (r : Int32) (u : Unit) => r = 0) (fun (u : Unit) t => va_P D xcl [(h, .inr (4, [.int 1, .int 0, .ref m0, .int 0, .int 0, .ref m1, .ref m2, .int 0, .ref m3, .ref m4, .ref m5, .ref m6, .ref m7, .ref m8, .ref m9, .ref m10, .ref m11, .ref m12, .ref m13, .ref m14, .ref m15, .ref m16, .ref m17, .int 0, .ref m18, .ref m19, .ref m20, .ref m21, .ref m22, .ref m23, .ref m24]))] t.heap ∧ va_D (va_A [(h, .inr (4, [.int F, .int 0, .ref m0, .int 0, .int 0, .ref m1, .ref m2, .int 0, .ref m3, .ref m4, .ref m5, .ref m6, .ref m7, .ref m8, .ref m9, .ref m10, .ref m11, .ref m12, .ref m13, .ref m14, .ref m15, .ref m16, .ref m17, .int 0, .ref m18, .ref m19, .ref m20, .ref m21, .ref m22, .ref m23, .ref m24]))] sz) [(h, .inr (4, [.int 1, .int 0, .ref m0, .int 0, .int 0, .ref m1, .ref m2, .int 0, .ref m3, .ref m4, .ref m5, .ref m6, .ref m7, .ref m8, .ref m9, .ref m10, .ref m11, .ref m12, .ref m13, .ref m14, .ref m15, .ref m16, .ref m17, .int 0, .ref m18, .ref m19, .ref m20, .ref m21, .ref m22, .ref m23, .ref m24]))]) (va_A [(h, .inr (4, [.int F, .int 0, .ref m0, .int 0, .int 0, .ref m1, .ref m2, .int 0, .ref m3, .ref m4, .ref m5, .ref m6, .ref m7, .ref m8, .ref m9, .ref m10, .ref m11, .ref m12, .ref m13, .ref m14, .ref m15, .ref m16, .ref m17, .int 0, .ref m18, .ref m19, .ref m20, .ref m21, .ref m22, .ref m23, .ref m24]))] sz)) 0 0 (va_A [(h, .inr (4, [.int F, .int 0, .ref m0, .int 0, .int 0, .ref m1, .ref m2, .int 0, .ref m3, .ref m4, .ref m5, .ref m6, .ref m7, .ref m8, .ref m9, .ref m10, .ref m11, .ref m12, .ref m13, .ref m14, .ref m15, .ref m16, .ref m17, .int 0, .ref m18, .ref m19, .ref m20, .ref m21, .ref m22, .ref m23, .ref m24]))] sz) := by
  refine Met.ofW (cc := xb_Mo_peek) (maxL := 8) (ret := (some .boolean)) (by decide) rfl ?_
  intro p e s m args below meth c s₁ B hml hv
  obtain ⟨rfl, hsz, hP, hK, hD0⟩ := hv
  have hx := B.exec
  have hb := B.bytes
  have hr := B.returns
  have hT := x_hT B.pre
  have hown : s.vm.findClass xR_Mo = some m.cls := findClass_of_methodNamed B.named
  have hlocks := B.notSynchronized
  subst hsz
  have hD := hD0.self (sz := s.heap.size)
  generalize hAe : va_A [(h, .inr (4, [.int F, .int 0, .ref m0, .int 0, .int 0, .ref m1, .ref m2, .int 0, .ref m3, .ref m4, .ref m5, .ref m6, .ref m7, .ref m8, .ref m9, .ref m10, .ref m11, .ref m12, .ref m13, .ref m14, .ref m15, .ref m16, .ref m17, .int 0, .ref m18, .ref m19, .ref m20, .ref m21, .ref m22, .ref m23, .ref m24]))] s.heap.size = A at hD ⊢
  have hA : ∀ q : Nat, s.heap.size ≤ q → A q := fun q h => by rw [← hAe]; exact Or.inr h
  have hS : va_S A s.heap s.heap [] := va_S.rf
  have hP : va_P D xcl [(h, .inr (4, [.int F, .int 0, .ref m0, .int 0, .int 0, .ref m1, .ref m2, .int 0, .ref m3, .ref m4, .ref m5, .ref m6, .ref m7, .ref m8, .ref m9, .ref m10, .ref m11, .ref m12, .ref m13, .ref m14, .ref m15, .ref m16, .ref m17, .int 0, .ref m18, .ref m19, .ref m20, .ref m21, .ref m22, .ref m23, .ref m24]))] s.heap := hP
  have hl := lv_entry ([.ref h, .int n, .int k, .int n2, .int k2]) (n := 8) (Nat.le_of_ble_eq_true rfl)
  rw [lg_entry_eq]
  generalize (lg_sl ([.ref h, .int n, .int k, .int n2, .int k2]) ++ List.replicate (8 - (lg_sl ([.ref h, .int n, .int k, .int n2, .int k2])).length) Slot.unset).toArray = ls at hl ⊢
  have hl : lv_has ls 8 [(0, .ref h), (1, .int n), (2, .int k), (3, .int n2), (4, .int k2)] := hl
  refine lv_aload_n hx hb xd_Mo_peek_0 rfl (lv_at hl 0 rfl) ?_
  refine lv_iconst (v := 0) hx hb xd_Mo_peek_1 (by decide) ?_
  refine va_put (D := D) (ci := 4) (v := .int 0) (ty := .int) (C := xR_Mo) (T := xT_Mo) (N := 31) hx hb hT xi_Mo xt_Mo xt_Mo_ok xn_Mo hown hK.1 hP hD hS 0 rfl rfl 0 (by decide) (hT _ xk_115) (fun _ h9 => h9) rfl (by decide +kernel) rfl rfl (Nat.le_of_ble_eq_true rfl) xd_Mo_peek_2 (fun H locs hP hD hS => ?_)
  have hP : va_P D xcl [(h, .inr (4, [.int 0, .int 0, .ref m0, .int 0, .int 0, .ref m1, .ref m2, .int 0, .ref m3, .ref m4, .ref m5, .ref m6, .ref m7, .ref m8, .ref m9, .ref m10, .ref m11, .ref m12, .ref m13, .ref m14, .ref m15, .ref m16, .ref m17, .int 0, .ref m18, .ref m19, .ref m20, .ref m21, .ref m22, .ref m23, .ref m24]))] H := hP
  have hD : va_D A [(h, .inr (4, [.int 0, .int 0, .ref m0, .int 0, .int 0, .ref m1, .ref m2, .int 0, .ref m3, .ref m4, .ref m5, .ref m6, .ref m7, .ref m8, .ref m9, .ref m10, .ref m11, .ref m12, .ref m13, .ref m14, .ref m15, .ref m16, .ref m17, .int 0, .ref m18, .ref m19, .ref m20, .ref m21, .ref m22, .ref m23, .ref m24]))] := hD
  refine lv_aload_n hx hb xd_Mo_peek_5 rfl (lv_at hl 0 rfl) ?_
  have hPc := hP.sub (ws' := [(h, .inr (4, [.int 0, .int 0, .ref m0, .int 0, .int 0, .ref m1, .ref m2, .int 0, .ref m3, .ref m4, .ref m5, .ref m6, .ref m7, .ref m8, .ref m9, .ref m10, .ref m11, .ref m12, .ref m13, .ref m14, .ref m15, .ref m16, .ref m17, .int 0, .ref m18, .ref m19, .ref m20, .ref m21, .ref m22, .ref m23, .ref m24]))]) [0] rfl
  have hDc := hD.sub (ws' := [(h, .inr (4, [.int 0, .int 0, .ref m0, .int 0, .int 0, .ref m1, .ref m2, .int 0, .ref m3, .ref m4, .ref m5, .ref m6, .ref m7, .ref m8, .ref m9, .ref m10, .ref m11, .ref m12, .ref m13, .ref m14, .ref m15, .ref m16, .ref m17, .int 0, .ref m18, .ref m19, .ref m20, .ref m21, .ref m22, .ref m23, .ref m24]))]) [0] (by decide) rfl
  have hFc := va_free (wc := [(h, .inr (4, [.int 0, .int 0, .ref m0, .int 0, .int 0, .ref m1, .ref m2, .int 0, .ref m3, .ref m4, .ref m5, .ref m6, .ref m7, .ref m8, .ref m9, .ref m10, .ref m11, .ref m12, .ref m13, .ref m14, .ref m15, .ref m16, .ref m17, .int 0, .ref m18, .ref m19, .ref m20, .ref m21, .ref m22, .ref m23, .ref m24]))]) hD hS hA [0] rfl
  have hkc : 0 + 0 ≤ 0 := Nat.le_of_ble_eq_true rfl
  have hks : 0 + 0 ≤ 0 := Nat.le_of_ble_eq_true rfl
  refine va_calli (va_runV (As := []) (rest := []) ⟨hx, hb, hml, hown, hT⟩ (xc_Mo_oneName l D kA H.size h m0 m1 m2 m3 m4 m5 m6 m7 m8 m9 m10 m11 m12 m13 m14 m15 m16 m17 m18 m19 m20 m21 m22 m23 m24 0) (cwV 0 hT (wT_V xk_139 xk_140 xk_141 xk_122 xk_138) rfl rfl rfl (by decide +kernel) ⟨Nat.le_of_ble_eq_true rfl, Nat.le_of_ble_eq_true rfl⟩) (x_preV hK hPc hDc 0 rfl rfl) rfl rfl hl.1 rfl (lv_room (Nat.le_of_ble_eq_true rfl)) xd_Mo_peek_6 ⟨hkc, hks⟩) hS (fun q _ h => hFc q h) hFc (fun r u t H1 locs ht hvm hpost hB hz1 hk1 hS => ?_)
  have hpost : r = 0 := hpost
  subst hpost
  obtain ⟨hP1, hD1⟩ := hB
  rw [ht] at hP1
  obtain ⟨hP, hD⟩ := va_join (wr := []) (w1 := [(h, .inr (4, [.int 0, .int 0, .ref m0, .int 0, .int 0, .ref m1, .ref m2, .int 0, .ref m3, .ref m4, .ref m5, .ref m6, .ref m7, .ref m8, .ref m9, .ref m10, .ref m11, .ref m12, .ref m13, .ref m14, .ref m15, .ref m16, .ref m17, .int 0, .ref m18, .ref m19, .ref m20, .ref m21, .ref m22, .ref m23, .ref m24]))]) hP hD [0] [] rfl rfl (by decide) (by decide) hk1 hFc hP1 hD1
  generalize H1 = H at hP hS ⊢
  have hP : va_P D xcl [(h, .inr (4, [.int 0, .int 0, .ref m0, .int 0, .int 0, .ref m1, .ref m2, .int 0, .ref m3, .ref m4, .ref m5, .ref m6, .ref m7, .ref m8, .ref m9, .ref m10, .ref m11, .ref m12, .ref m13, .ref m14, .ref m15, .ref m16, .ref m17, .int 0, .ref m18, .ref m19, .ref m20, .ref m21, .ref m22, .ref m23, .ref m24]))] H := hP
  have hD : va_D A [(h, .inr (4, [.int 0, .int 0, .ref m0, .int 0, .int 0, .ref m1, .ref m2, .int 0, .ref m3, .ref m4, .ref m5, .ref m6, .ref m7, .ref m8, .ref m9, .ref m10, .ref m11, .ref m12, .ref m13, .ref m14, .ref m15, .ref m16, .ref m17, .int 0, .ref m18, .ref m19, .ref m20, .ref m21, .ref m22, .ref m23, .ref m24]))] := hD
  refine lv_istore hx hb xd_Mo_peek_9 hl (Nat.le_of_ble_eq_true rfl) rfl (fun ls hl => ?_)
  have hl : lv_has ls 8 [(5, .int 0), (0, .ref h), (1, .int n), (2, .int k), (3, .int n2), (4, .int k2)] := hl
  refine lv_aload_n hx hb xd_Mo_peek_11 rfl (lv_at hl 1 rfl) ?_
  refine lv_iload_n hx hb xd_Mo_peek_12 rfl (lv_at hl 2 rfl) ?_
  refine lv_iload_n hx hb xd_Mo_peek_13 rfl (lv_at hl 3 rfl) ?_
  have hPc := hP.sub (ws' := [(h, .inr (4, [.int 0, .int 0, .ref m0, .int 0, .int 0, .ref m1, .ref m2, .int 0, .ref m3, .ref m4, .ref m5, .ref m6, .ref m7, .ref m8, .ref m9, .ref m10, .ref m11, .ref m12, .ref m13, .ref m14, .ref m15, .ref m16, .ref m17, .int 0, .ref m18, .ref m19, .ref m20, .ref m21, .ref m22, .ref m23, .ref m24]))]) [0] rfl
  have hDc := hD.sub (ws' := [(h, .inr (4, [.int 0, .int 0, .ref m0, .int 0, .int 0, .ref m1, .ref m2, .int 0, .ref m3, .ref m4, .ref m5, .ref m6, .ref m7, .ref m8, .ref m9, .ref m10, .ref m11, .ref m12, .ref m13, .ref m14, .ref m15, .ref m16, .ref m17, .int 0, .ref m18, .ref m19, .ref m20, .ref m21, .ref m22, .ref m23, .ref m24]))]) [0] (by decide) rfl
  have hFc := va_free (wc := [(h, .inr (4, [.int 0, .int 0, .ref m0, .int 0, .int 0, .ref m1, .ref m2, .int 0, .ref m3, .ref m4, .ref m5, .ref m6, .ref m7, .ref m8, .ref m9, .ref m10, .ref m11, .ref m12, .ref m13, .ref m14, .ref m15, .ref m16, .ref m17, .int 0, .ref m18, .ref m19, .ref m20, .ref m21, .ref m22, .ref m23, .ref m24]))]) hD hS hA [0] rfl
  have hkc : 0 + 0 ≤ 0 := Nat.le_of_ble_eq_true rfl
  have hks : 0 + 0 ≤ 0 := Nat.le_of_ble_eq_true rfl
  refine va_calli (va_runV (As := [.int n, .int k]) (rest := []) ⟨hx, hb, hml, hown, hT⟩ (xc_Mo_moduleOf l D kA H.size h m0 m1 m2 m3 m4 m5 m6 m7 m8 m9 m10 m11 m12 m13 m14 m15 m16 m17 m18 m19 m20 m21 m22 m23 m24 0 n k) (cwV 2 hT (wT_V xk_135 xk_136 xk_137 xk_122 xk_134) rfl rfl rfl (by decide +kernel) ⟨Nat.le_of_ble_eq_true rfl, Nat.le_of_ble_eq_true rfl⟩) (x_preV hK hPc hDc 0 rfl rfl) rfl rfl hl.1 rfl (lv_room (Nat.le_of_ble_eq_true rfl)) xd_Mo_peek_14 ⟨hkc, hks⟩) hS (fun q _ h => hFc q h) hFc (fun r u t H1 locs ht hvm hpost hB hz1 hk1 hS => ?_)
  have hpost : r = (-1) := hpost
  subst hpost
  obtain ⟨hP1, hD1⟩ := hB
  rw [ht] at hP1
  obtain ⟨hP, hD⟩ := va_join (wr := []) (w1 := [(h, .inr (4, [.int 0, .int 0, .ref m0, .int 0, .int 0, .ref m1, .ref m2, .int 0, .ref m3, .ref m4, .ref m5, .ref m6, .ref m7, .ref m8, .ref m9, .ref m10, .ref m11, .ref m12, .ref m13, .ref m14, .ref m15, .ref m16, .ref m17, .int 0, .ref m18, .ref m19, .ref m20, .ref m21, .ref m22, .ref m23, .ref m24]))]) hP hD [0] [] rfl rfl (by decide) (by decide) hk1 hFc hP1 hD1
  generalize H1 = H at hP hS ⊢
  have hP : va_P D xcl [(h, .inr (4, [.int 0, .int 0, .ref m0, .int 0, .int 0, .ref m1, .ref m2, .int 0, .ref m3, .ref m4, .ref m5, .ref m6, .ref m7, .ref m8, .ref m9, .ref m10, .ref m11, .ref m12, .ref m13, .ref m14, .ref m15, .ref m16, .ref m17, .int 0, .ref m18, .ref m19, .ref m20, .ref m21, .ref m22, .ref m23, .ref m24]))] H := hP
  have hD : va_D A [(h, .inr (4, [.int 0, .int 0, .ref m0, .int 0, .int 0, .ref m1, .ref m2, .int 0, .ref m3, .ref m4, .ref m5, .ref m6, .ref m7, .ref m8, .ref m9, .ref m10, .ref m11, .ref m12, .ref m13, .ref m14, .ref m15, .ref m16, .ref m17, .int 0, .ref m18, .ref m19, .ref m20, .ref m21, .ref m22, .ref m23, .ref m24]))] := hD
  refine lv_istore hx hb xd_Mo_peek_17 hl (Nat.le_of_ble_eq_true rfl) rfl (fun ls hl => ?_)
  have hl : lv_has ls 8 [(6, .int (-1)), (5, .int 0), (0, .ref h), (1, .int n), (2, .int k), (3, .int n2), (4, .int k2)] := hl
  refine lv_iload hx hb xd_Mo_peek_19 (lv_at hl 1 rfl) ?_
  refine lv_if_eq (tgt := 39) hx hb xd_Mo_peek_21 (by decide) (fun _ => ?_) (fun hc => absurd (by decide) hc)
  refine lv_aload_n hx hb xd_Mo_peek_39 rfl (lv_at hl 2 rfl) ?_
  refine lv_iconst (v := 1) hx hb xd_Mo_peek_40 (by decide) ?_
  refine va_put (D := D) (ci := 4) (v := .int 1) (ty := .int) (C := xR_Mo) (T := xT_Mo) (N := 31) hx hb hT xi_Mo xt_Mo xt_Mo_ok xn_Mo hown hK.1 hP hD hS 0 rfl rfl 0 (by decide) (hT _ xk_115) (fun _ h9 => h9) rfl (by decide +kernel) rfl rfl (Nat.le_of_ble_eq_true rfl) xd_Mo_peek_41 (fun H locs hP hD hS => ?_)
  have hP : va_P D xcl [(h, .inr (4, [.int 1, .int 0, .ref m0, .int 0, .int 0, .ref m1, .ref m2, .int 0, .ref m3, .ref m4, .ref m5, .ref m6, .ref m7, .ref m8, .ref m9, .ref m10, .ref m11, .ref m12, .ref m13, .ref m14, .ref m15, .ref m16, .ref m17, .int 0, .ref m18, .ref m19, .ref m20, .ref m21, .ref m22, .ref m23, .ref m24]))] H := hP
  have hD : va_D A [(h, .inr (4, [.int 1, .int 0, .ref m0, .int 0, .int 0, .ref m1, .ref m2, .int 0, .ref m3, .ref m4, .ref m5, .ref m6, .ref m7, .ref m8, .ref m9, .ref m10, .ref m11, .ref m12, .ref m13, .ref m14, .ref m15, .ref m16, .ref m17, .int 0, .ref m18, .ref m19, .ref m20, .ref m21, .ref m22, .ref m23, .ref m24]))] := hD
  refine lv_iconst (v := 0) hx hb xd_Mo_peek_44 (by decide) ?_
  have hP9 := hP.sub (ws' := [(h, .inr (4, [.int 1, .int 0, .ref m0, .int 0, .int 0, .ref m1, .ref m2, .int 0, .ref m3, .ref m4, .ref m5, .ref m6, .ref m7, .ref m8, .ref m9, .ref m10, .ref m11, .ref m12, .ref m13, .ref m14, .ref m15, .ref m16, .ref m17, .int 0, .ref m18, .ref m19, .ref m20, .ref m21, .ref m22, .ref m23, .ref m24]))]) [0] rfl
  have hD9 := hD.sub (ws' := [(h, .inr (4, [.int 1, .int 0, .ref m0, .int 0, .int 0, .ref m1, .ref m2, .int 0, .ref m3, .ref m4, .ref m5, .ref m6, .ref m7, .ref m8, .ref m9, .ref m10, .ref m11, .ref m12, .ref m13, .ref m14, .ref m15, .ref m16, .ref m17, .int 0, .ref m18, .ref m19, .ref m20, .ref m21, .ref m22, .ref m23, .ref m24]))]) [0] (by decide) rfl
  refine W.widen (k := 0) (n := 0) (Nat.le_of_ble_eq_true rfl) (Nat.le_of_ble_eq_true rfl) ?_
  exact W.zret (v := 0) hx hb hr rfl (fun t ht hW => ⟨⟨0, (), rfl, rfl, by rw [ht]; exact hP9, hD9⟩, hS.F ht⟩) hS.2.2 xd_Mo_peek_45
set_option maxHeartbeats 4000000 in
set_option maxRecDepth 100000 in
theorem xc_Mo_provider (l : Launch) (D : va_G) (kA : Nat → ClassId) (sz : Nat) (h : Nat) (m0 : Nat) (m1 : Nat) (m2 : Nat) (m3 : Nat) (m4 : Nat) (m5 : Nat) (m6 : Nat) (m7 : Nat) (m8 : Nat) (m9 : Nat) (m10 : Nat) (m11 : Nat) (m12 : Nat) (m13 : Nat) (m14 : Nat) (m15 : Nat) (m16 : Nat) (m17 : Nat) (m18 : Nat) (m19 : Nat) (m20 : Nat) (m21 : Nat) (m22 : Nat) (m23 : Nat) (m24 : Nat) (F : Int32) (n : Int32) (k : Int32) : Met l xy_Mo_provider (.code xy_Mo_provider xb_Mo_provider 9 (some .int) :: wT) { frames := 2, cells := 0, slots := 0, locals := 41 } (va_Pc [.ref h, .int n, .int k] (xPre D kA sz [(h, .inr (4, [.int F, .int 0, .ref m0, .int 0, .int 0, .ref m1, .ref m2, .int 0, .ref m3, .ref m4, .ref m5, .ref m6, .ref m7, .ref m8, .ref m9, .ref m10, .ref m11, .ref m12, .ref m13, .ref m14, .ref m15, .ref m16, .ref m17, .int 0, .ref m18, .ref m19, .ref m20, .ref m21, .ref m22, .ref m23, .ref m24]))])) (va_Qi (fun (r : Int32) (u : Unit) => r = 0) (fun (u : Unit) t => va_P D xcl [(h, .inr (4, [.int 1, .int 0, .ref m0, .int 0, .int 0, .ref m1, .ref m2, .int 0, .ref m3, .ref m4, .ref m5, .ref m6, .ref m7, .ref m8, .ref m9, .ref m10, .ref m11, .ref m12, .ref m13, .ref m14, .ref m15, .ref m16, .ref m17, .int 0, .ref m18, .ref m19, .ref m20, .ref m21, .ref m22, .ref m23, .ref m24]))] t.heap ∧ va_D (va_A [(h, .inr (4, [.int F, .int 0, .ref m0, .int 0, .int 0, .ref m1, .ref m2, .int 0, .ref m3, .ref m4, .ref m5, .ref m6, .ref m7, .ref m8, .ref m9, .ref m10, .ref m11, .ref m12, .ref m13, .ref m14, .ref m15, .ref m16, .ref m17, .int 0, .ref m18, .ref m19, .ref m20, .ref m21, .ref m22, .ref m23, .ref m24]))] sz) [(h, .inr (4, [.int 1, .int 0, .ref m0, .int 0, .int 0, .ref m1, .ref m2, .int 0, .ref m3, .ref m4, .ref m5, .ref m6, .ref m7, .ref m8, .ref m9, .ref m10, .ref m11, .ref m12, .ref m13, .ref m14, .ref m15, .ref m16, .ref m17, .int 0, .ref m18, .ref m19, .ref m20, .ref m21, .ref m22, .ref m23, .ref m24]))]) (va_A [(h, .inr (4, [.int F, .int 0, .ref m0, .int 0, .int 0, .ref m1, .ref m2, .int 0, .ref m3, .ref m4, .ref m5, .ref m6, .ref m7, .ref m8, .ref m9, .ref m10, .ref m11, .ref m12, .ref m13, .ref m14, .ref m15, .ref m16, .ref m17, .int 0, .ref m18, .ref m19, .ref m20, .ref m21, .ref m22, .ref m23, .ref m24]))] sz)) 0 0 (va_A [(h, .inr (4, [.int F, .int 0, .ref m0, .int 0, .int 0, .ref m1, .ref m2, .int 0, .ref m3, .ref m4, .ref m5, .ref m6, .ref m7, .ref m8, .ref m9, .ref m10, .ref m11, .ref m12, .ref m13, .ref m14, .ref m15, .ref m16, .ref m17, .int 0, .ref m18, .ref m19, .ref m20, .ref m21, .ref m22, .ref m23, .ref m24]))] sz) := by
  refine Met.ofW (cc := xb_Mo_provider) (maxL := 9) (ret := (some .int)) (by decide) rfl ?_
  intro p e s m args below meth c s₁ B hml hv
  obtain ⟨rfl, hsz, hP, hK, hD0⟩ := hv
  have hx := B.exec
  have hb := B.bytes
  have hr := B.returns
  have hT := x_hT B.pre
  have hown : s.vm.findClass xR_Mo = some m.cls := findClass_of_methodNamed B.named
  have hlocks := B.notSynchronized
  subst hsz
  have hD := hD0.self (sz := s.heap.size)
  generalize hAe : va_A [(h, .inr (4, [.int F, .int 0, .ref m0, .int 0, .int 0, .ref m1, .ref m2, .int 0, .ref m3, .ref m4, .ref m5, .ref m6, .ref m7, .ref m8, .ref m9, .ref m10, .ref m11, .ref m12, .ref m13, .ref m14, .ref m15, .ref m16, .ref m17, .int 0, .ref m18, .ref m19, .ref m20, .ref m21, .ref m22, .ref m23, .ref m24]))] s.heap.size = A at hD ⊢
  have hA : ∀ q : Nat, s.heap.size ≤ q → A q := fun q h => by rw [← hAe]; exact Or.inr h
  have hS : va_S A s.heap s.heap [] := va_S.rf
  have hP : va_P D xcl [(h, .inr (4, [.int F, .int 0, .ref m0, .int 0, .int 0, .ref m1, .ref m2, .int 0, .ref m3, .ref m4, .ref m5, .ref m6, .ref m7, .ref m8, .ref m9, .ref m10, .ref m11, .ref m12, .ref m13, .ref m14, .ref m15, .ref m16, .ref m17, .int 0, .ref m18, .ref m19, .ref m20, .ref m21, .ref m22, .ref m23, .ref m24]))] s.heap := hP
  have hl := lv_entry ([.ref h, .int n, .int k]) (n := 9) (Nat.le_of_ble_eq_true rfl)
  rw [lg_entry_eq]
  generalize (lg_sl ([.ref h, .int n, .int k]) ++ List.replicate (9 - (lg_sl ([.ref h, .int n, .int k])).length) Slot.unset).toArray = ls at hl ⊢
  have hl : lv_has ls 9 [(0, .ref h), (1, .int n), (2, .int k)] := hl
  refine lv_aload_n hx hb xd_Mo_provider_0 rfl (lv_at hl 0 rfl) ?_
  refine lv_iconst (v := 0) hx hb xd_Mo_provider_1 (by decide) ?_
  refine va_put (D := D) (ci := 4) (v := .int 0) (ty := .int) (C := xR_Mo) (T := xT_Mo) (N := 31) hx hb hT xi_Mo xt_Mo xt_Mo_ok xn_Mo hown hK.1 hP hD hS 0 rfl rfl 0 (by decide) (hT _ xk_115) (fun _ h9 => h9) rfl (by decide +kernel) rfl rfl (Nat.le_of_ble_eq_true rfl) xd_Mo_provider_2 (fun H locs hP hD hS => ?_)
  have hP : va_P D xcl [(h, .inr (4, [.int 0, .int 0, .ref m0, .int 0, .int 0, .ref m1, .ref m2, .int 0, .ref m3, .ref m4, .ref m5, .ref m6, .ref m7, .ref m8, .ref m9, .ref m10, .ref m11, .ref m12, .ref m13, .ref m14, .ref m15, .ref m16, .ref m17, .int 0, .ref m18, .ref m19, .ref m20, .ref m21, .ref m22, .ref m23, .ref m24]))] H := hP
  have hD : va_D A [(h, .inr (4, [.int 0, .int 0, .ref m0, .int 0, .int 0, .ref m1, .ref m2, .int 0, .ref m3, .ref m4, .ref m5, .ref m6, .ref m7, .ref m8, .ref m9, .ref m10, .ref m11, .ref m12, .ref m13, .ref m14, .ref m15, .ref m16, .ref m17, .int 0, .ref m18, .ref m19, .ref m20, .ref m21, .ref m22, .ref m23, .ref m24]))] := hD
  refine lv_aload_n hx hb xd_Mo_provider_5 rfl (lv_at hl 0 rfl) ?_
  have hPc := hP.sub (ws' := [(h, .inr (4, [.int 0, .int 0, .ref m0, .int 0, .int 0, .ref m1, .ref m2, .int 0, .ref m3, .ref m4, .ref m5, .ref m6, .ref m7, .ref m8, .ref m9, .ref m10, .ref m11, .ref m12, .ref m13, .ref m14, .ref m15, .ref m16, .ref m17, .int 0, .ref m18, .ref m19, .ref m20, .ref m21, .ref m22, .ref m23, .ref m24]))]) [0] rfl
  have hDc := hD.sub (ws' := [(h, .inr (4, [.int 0, .int 0, .ref m0, .int 0, .int 0, .ref m1, .ref m2, .int 0, .ref m3, .ref m4, .ref m5, .ref m6, .ref m7, .ref m8, .ref m9, .ref m10, .ref m11, .ref m12, .ref m13, .ref m14, .ref m15, .ref m16, .ref m17, .int 0, .ref m18, .ref m19, .ref m20, .ref m21, .ref m22, .ref m23, .ref m24]))]) [0] (by decide) rfl
  have hFc := va_free (wc := [(h, .inr (4, [.int 0, .int 0, .ref m0, .int 0, .int 0, .ref m1, .ref m2, .int 0, .ref m3, .ref m4, .ref m5, .ref m6, .ref m7, .ref m8, .ref m9, .ref m10, .ref m11, .ref m12, .ref m13, .ref m14, .ref m15, .ref m16, .ref m17, .int 0, .ref m18, .ref m19, .ref m20, .ref m21, .ref m22, .ref m23, .ref m24]))]) hD hS hA [0] rfl
  have hkc : 0 + 0 ≤ 0 := Nat.le_of_ble_eq_true rfl
  have hks : 0 + 0 ≤ 0 := Nat.le_of_ble_eq_true rfl
  refine va_calli (va_runV (As := []) (rest := []) ⟨hx, hb, hml, hown, hT⟩ (xc_Mo_oneName l D kA H.size h m0 m1 m2 m3 m4 m5 m6 m7 m8 m9 m10 m11 m12 m13 m14 m15 m16 m17 m18 m19 m20 m21 m22 m23 m24 0) (cwV 0 hT (wT_V xk_139 xk_140 xk_141 xk_122 xk_138) rfl rfl rfl (by decide +kernel) ⟨Nat.le_of_ble_eq_true rfl, Nat.le_of_ble_eq_true rfl⟩) (x_preV hK hPc hDc 0 rfl rfl) rfl rfl hl.1 rfl (lv_room (Nat.le_of_ble_eq_true rfl)) xd_Mo_provider_6 ⟨hkc, hks⟩) hS (fun q _ h => hFc q h) hFc (fun r u t H1 locs ht hvm hpost hB hz1 hk1 hS => ?_)
  have hpost : r = 0 := hpost
  subst hpost
  obtain ⟨hP1, hD1⟩ := hB
  rw [ht] at hP1
  obtain ⟨hP, hD⟩ := va_join (wr := []) (w1 := [(h, .inr (4, [.int 0, .int 0, .ref m0, .int 0, .int 0, .ref m1, .ref m2, .int 0, .ref m3, .ref m4, .ref m5, .ref m6, .ref m7, .ref m8, .ref m9, .ref m10, .ref m11, .ref m12, .ref m13, .ref m14, .ref m15, .ref m16, .ref m17, .int 0, .ref m18, .ref m19, .ref m20, .ref m21, .ref m22, .ref m23, .ref m24]))]) hP hD [0] [] rfl rfl (by decide) (by decide) hk1 hFc hP1 hD1
  generalize H1 = H at hP hS ⊢
  have hP : va_P D xcl [(h, .inr (4, [.int 0, .int 0, .ref m0, .int 0, .int 0, .ref m1, .ref m2, .int 0, .ref m3, .ref m4, .ref m5, .ref m6, .ref m7, .ref m8, .ref m9, .ref m10, .ref m11, .ref m12, .ref m13, .ref m14, .ref m15, .ref m16, .ref m17, .int 0, .ref m18, .ref m19, .ref m20, .ref m21, .ref m22, .ref m23, .ref m24]))] H := hP
  have hD : va_D A [(h, .inr (4, [.int 0, .int 0, .ref m0, .int 0, .int 0, .ref m1, .ref m2, .int 0, .ref m3, .ref m4, .ref m5, .ref m6, .ref m7, .ref m8, .ref m9, .ref m10, .ref m11, .ref m12, .ref m13, .ref m14, .ref m15, .ref m16, .ref m17, .int 0, .ref m18, .ref m19, .ref m20, .ref m21, .ref m22, .ref m23, .ref m24]))] := hD
  refine lv_istore_n hx hb xd_Mo_provider_9 rfl hl (Nat.le_of_ble_eq_true rfl) rfl (fun ls hl => ?_)
  have hl : lv_has ls 9 [(3, .int 0), (0, .ref h), (1, .int n), (2, .int k)] := hl
  refine lv_iload_n hx hb xd_Mo_provider_10 rfl (lv_at hl 0 rfl) ?_
  refine lv_if_eq (tgt := 22) hx hb xd_Mo_provider_11 (by decide) (fun _ => ?_) (fun hc => absurd (by decide) hc)
  refine lv_aload_n hx hb xd_Mo_provider_22 rfl (lv_at hl 1 rfl) ?_
  refine lv_iconst (v := 1) hx hb xd_Mo_provider_23 (by decide) ?_
  have hPc := hP.sub (ws' := [(h, .inr (4, [.int 0, .int 0, .ref m0, .int 0, .int 0, .ref m1, .ref m2, .int 0, .ref m3, .ref m4, .ref m5, .ref m6, .ref m7, .ref m8, .ref m9, .ref m10, .ref m11, .ref m12, .ref m13, .ref m14, .ref m15, .ref m16, .ref m17, .int 0, .ref m18, .ref m19, .ref m20, .ref m21, .ref m22, .ref m23, .ref m24]))]) [0] rfl
  have hDc := hD.sub (ws' := [(h, .inr (4, [.int 0, .int 0, .ref m0, .int 0, .int 0, .ref m1, .ref m2, .int 0, .ref m3, .ref m4, .ref m5, .ref m6, .ref m7, .ref m8, .ref m9, .ref m10, .ref m11, .ref m12, .ref m13, .ref m14, .ref m15, .ref m16, .ref m17, .int 0, .ref m18, .ref m19, .ref m20, .ref m21, .ref m22, .ref m23, .ref m24]))]) [0] (by decide) rfl
  have hFc := va_free (wc := [(h, .inr (4, [.int 0, .int 0, .ref m0, .int 0, .int 0, .ref m1, .ref m2, .int 0, .ref m3, .ref m4, .ref m5, .ref m6, .ref m7, .ref m8, .ref m9, .ref m10, .ref m11, .ref m12, .ref m13, .ref m14, .ref m15, .ref m16, .ref m17, .int 0, .ref m18, .ref m19, .ref m20, .ref m21, .ref m22, .ref m23, .ref m24]))]) hD hS hA [0] rfl
  have hkc : 0 + 0 ≤ 0 := Nat.le_of_ble_eq_true rfl
  have hks : 0 + 0 ≤ 0 := Nat.le_of_ble_eq_true rfl
  refine va_calli (va_runV (As := [.int 1]) (rest := []) ⟨hx, hb, hml, hown, hT⟩ (xc_Mo_fails l D kA H.size h m0 m1 m2 m3 m4 m5 m6 m7 m8 m9 m10 m11 m12 m13 m14 m15 m16 m17 m18 m19 m20 m21 m22 m23 m24 0 1) (cwV 1 hT (wT_V xk_126 xk_127 xk_128 xk_122 xk_125) rfl rfl rfl (by decide +kernel) ⟨Nat.le_of_ble_eq_true rfl, Nat.le_of_ble_eq_true rfl⟩) (x_preV hK hPc hDc 0 rfl rfl) rfl rfl hl.1 rfl (lv_room (Nat.le_of_ble_eq_true rfl)) xd_Mo_provider_24 ⟨hkc, hks⟩) hS (fun q _ h => hFc q h) hFc (fun r u t H1 locs ht hvm hpost hB hz1 hk1 hS => ?_)
  have hpost : r = 0 := hpost
  subst hpost
  obtain ⟨hP1, hD1⟩ := hB
  rw [ht] at hP1
  obtain ⟨hP, hD⟩ := va_join (wr := []) (w1 := [(h, .inr (4, [.int 1, .int 0, .ref m0, .int 0, .int 0, .ref m1, .ref m2, .int 0, .ref m3, .ref m4, .ref m5, .ref m6, .ref m7, .ref m8, .ref m9, .ref m10, .ref m11, .ref m12, .ref m13, .ref m14, .ref m15, .ref m16, .ref m17, .int 0, .ref m18, .ref m19, .ref m20, .ref m21, .ref m22, .ref m23, .ref m24]))]) hP hD [0] [] rfl rfl (by decide) (by decide) hk1 hFc hP1 hD1
  generalize H1 = H at hP hS ⊢
  have hP : va_P D xcl [(h, .inr (4, [.int 1, .int 0, .ref m0, .int 0, .int 0, .ref m1, .ref m2, .int 0, .ref m3, .ref m4, .ref m5, .ref m6, .ref m7, .ref m8, .ref m9, .ref m10, .ref m11, .ref m12, .ref m13, .ref m14, .ref m15, .ref m16, .ref m17, .int 0, .ref m18, .ref m19, .ref m20, .ref m21, .ref m22, .ref m23, .ref m24]))] H := hP
  have hD : va_D A [(h, .inr (4, [.int 1, .int 0, .ref m0, .int 0, .int 0, .ref m1, .ref m2, .int 0, .ref m3, .ref m4, .ref m5, .ref m6, .ref m7, .ref m8, .ref m9, .ref m10, .ref m11, .ref m12, .ref m13, .ref m14, .ref m15, .ref m16, .ref m17, .int 0, .ref m18, .ref m19, .ref m20, .ref m21, .ref m22, .ref m23, .ref m24]))] := hD
  have hP9 := hP.sub (ws' := [(h, .inr (4, [.int 1, .int 0, .ref m0, .int 0, .int 0, .ref m1, .ref m2, .int 0, .ref m3, .ref m4, .ref m5, .ref m6, .ref m7, .ref m8, .ref m9, .ref m10, .ref m11, .ref m12, .ref m13, .ref m14, .ref m15, .ref m16, .ref m17, .int 0, .ref m18, .ref m19, .ref m20, .ref m21, .ref m22, .ref m23, .ref m24]))]) [0] rfl
  have hD9 := hD.sub (ws' := [(h, .inr (4, [.int 1, .int 0, .ref m0, .int 0, .int 0, .ref m1, .ref m2, .int 0, .ref m3, .ref m4, .ref m5, .ref m6, .ref m7, .ref m8, .ref m9, .ref m10, .ref m11, .ref m12, .ref m13, .ref m14, .ref m15, .ref m16, .ref m17, .int 0, .ref m18, .ref m19, .ref m20, .ref m21, .ref m22, .ref m23, .ref m24]))]) [0] (by decide) rfl
  refine W.widen (k := 0) (n := 0) (Nat.le_of_ble_eq_true rfl) (Nat.le_of_ble_eq_true rfl) ?_
  exact W.iret (v := 0) hx hb hr (fun t ht hW => ⟨⟨0, (), rfl, rfl, by rw [ht]; exact hP9, hD9⟩, hS.F ht⟩) hS.2.2 xd_Mo_provider_27
