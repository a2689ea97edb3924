set_option maxHeartbeats 4000000 in
set_option maxRecDepth 100000 in
theorem xc_Li_append (l : Launch) (D : va_G) (kA : Nat → ClassId) (sz : Nat) (L : Nat) (tx : Nat) (b1 : Nat) (b2 : Nat) (cc9 : Int32) : Met l xy_Li_append (.code xy_Li_append xb_Li_append 2 (some .boolean) :: wT) { frames := 0, cells := 0, slots := 0, locals := 0 } (va_Pc [.ref L, .int cc9] (xPre D kA sz [(L, .inr (1, [.ref tx, .ref b1, .ref b2, .int 0, .int 0])), (tx, .inl (kA 1, 40, .inl (fun _ => 0)))])) (va_Qi (fun (r : Int32) (u : Int32 × (Nat → Int32)) => r = (if cc9 < 32 then 0 else if cc9 ≤ 126 then 1 else 0)) (fun (u : Int32 × (Nat → Int32)) t => va_P D xcl [(L, .inr (1, [.ref tx, .ref b1, .ref b2, .int u.1, .int 0])), (tx, .inl (kA 1, 40, .inl u.2))] t.heap ∧ va_D (va_A [(L, .inr (1, [.ref tx, .ref b1, .ref b2, .int 0, .int 0])), (tx, .inl (kA 1, 40, .inl (fun _ => 0)))] sz) [(L, .inr (1, [.ref tx, .ref b1, .ref b2, .int u.1, .int 0])), (tx, .inl (kA 1, 40, .inl u.2))]) (va_A [(L, .inr (1, [.ref tx, .ref b1, .ref b2, .int 0, .int 0])), (tx, .inl (kA 1, 40, .inl (fun _ => 0)))] sz)) 0 0 (va_A [(L, .inr (1, [.ref tx, .ref b1, .ref b2, .int 0, .int 0])), (tx, .inl (kA 1, 40, .inl (fun _ => 0)))] sz) := by
  refine Met.ofW (cc := xb_Li_append) (maxL := 2) (ret := (some .boolean)) (by decide) rfl ?_
  intro p e s m args below meth c s₁ B hml hv
  obtain ⟨rfl, hsz, hP, hK, hD0⟩ := hv
  have hx := B.exec
  have hb := B.bytes
  have hr := B.returns
  have hT := x_hT B.pre
  have hown : s.vm.findClass xR_Li = some m.cls := findClass_of_methodNamed B.named
  have hlocks := B.notSynchronized
  subst hsz
  have hD := hD0.self (sz := s.heap.size)
  generalize hAe : va_A [(L, .inr (1, [.ref tx, .ref b1, .ref b2, .int 0, .int 0])), (tx, .inl (kA 1, 40, .inl (fun _ => 0)))] s.heap.size = A at hD ⊢
  have hA : ∀ q : Nat, s.heap.size ≤ q → A q := fun q h => by rw [← hAe]; exact Or.inr h
  have hS : va_S A s.heap s.heap [] := va_S.rf
  have hP : va_P D xcl [(L, .inr (1, [.ref tx, .ref b1, .ref b2, .int 0, .int 0])), (tx, .inl (kA 1, 40, .inl (fun _ => 0)))] s.heap := hP
  have hl := lv_entry ([.ref L, .int cc9]) (n := 2) (Nat.le_of_ble_eq_true rfl)
  rw [lg_entry_eq]
  generalize (lg_sl ([.ref L, .int cc9]) ++ List.replicate (2 - (lg_sl ([.ref L, .int cc9])).length) Slot.unset).toArray = ls at hl ⊢
  have hl : lv_has ls 2 [(0, .ref L), (1, .int cc9)] := hl
  refine lv_aload_n hx hb xd_Li_append_0 rfl (lv_at hl 0 rfl) ?_
  refine va_get (D := D) (ci := 1) (v := .int 0) (C := xR_Li) (T := xT_Li) (N := 5) hx hb hT xi_Li hown hK.1 hP 0 rfl rfl 3 (by decide) (hT _ xk_8) (fun _ h9 => h9) rfl xd_Li_append_1 ?_
  refine lv_bipush (v := 40) hx hb xd_Li_append_4 (by decide) ?_
  refine lv_icmp_ge (tgt := 21) hx hb xd_Li_append_6 (by decide) (fun hc => absurd hc (by decide)) (fun _ => ?_)
  refine lv_iload_n hx hb xd_Li_append_9 rfl (lv_at hl 1 rfl) ?_
  refine lv_bipush (v := 32) hx hb xd_Li_append_10 (by decide) ?_
  refine lv_icmp_lt (tgt := 21) hx hb xd_Li_append_12 (by decide) (fun hc1 => ?_) (fun hc1 => ?_)
  · refine lv_iconst (v := 0) hx hb xd_Li_append_21 (by decide) ?_
    have hP9 := hP.sub (ws' := [(L, .inr (1, [.ref tx, .ref b1, .ref b2, .int 0, .int 0])), (tx, .inl (kA 1, 40, .inl (fun _ => 0)))]) [0, 1] rfl
    have hD9 := hD.sub (ws' := [(L, .inr (1, [.ref tx, .ref b1, .ref b2, .int 0, .int 0])), (tx, .inl (kA 1, 40, .inl (fun _ => 0)))]) [0, 1] (by decide) rfl
    refine W.widen (k := 0) (n := 0) (Nat.le_of_ble_eq_true rfl) (Nat.le_of_ble_eq_true rfl) ?_
    exact W.zret (v := 0) hx hb hr rfl (fun t ht hW => ⟨⟨0, (0, (fun _ => 0)), rfl, by simp [hc1], by rw [ht]; exact hP9, hD9⟩, hS.F ht⟩) hS.2.2 xd_Li_append_22
  · refine lv_iload_n hx hb xd_Li_append_15 rfl (lv_at hl 1 rfl) ?_
    refine lv_bipush (v := 126) hx hb xd_Li_append_16 (by decide) ?_
    refine lv_icmp_le (tgt := 23) hx hb xd_Li_append_18 (by decide) (fun hc2 => ?_) (fun hc2 => ?_)
    · refine lv_aload_n hx hb xd_Li_append_23 rfl (lv_at hl 0 rfl) ?_
      refine va_get (D := D) (ci := 1) (v := .ref tx) (C := xR_Li) (T := xT_Li) (N := 5) hx hb hT xi_Li hown hK.1 hP 0 rfl rfl 0 (by decide) (hT _ xk_4) (fun _ h9 => h9) rfl xd_Li_append_24 ?_
      refine lv_aload_n hx hb xd_Li_append_27 rfl (lv_at hl 0 rfl) ?_
      refine va_get (D := D) (ci := 1) (v := .int 0) (C := xR_Li) (T := xT_Li) (N := 5) hx hb hT xi_Li hown hK.1 hP 0 rfl rfl 3 (by decide) (hT _ xk_8) (fun _ h9 => h9) rfl xd_Li_append_28 ?_
      refine lv_iload_n hx hb xd_Li_append_31 rfl (lv_at hl 1 rfl) ?_
      refine va_cast hx hb hK.1 hP hD hS 1 1 rfl rfl (show ¬ _ by decide) xd_Li_append_32 (fun H locs hP hD hS => ?_)
      have hP : va_P D xcl [(L, .inr (1, [.ref tx, .ref b1, .ref b2, .int 0, .int 0])), (tx, .inl (kA 1, 40, .inl (upd (fun _ => 0) (0 : Int32).toNatClampNeg (vp_nar .char cc9))))] H := hP
      have hD : va_D A [(L, .inr (1, [.ref tx, .ref b1, .ref b2, .int 0, .int 0])), (tx, .inl (kA 1, 40, .inl (upd (fun _ => 0) (0 : Int32).toNatClampNeg (vp_nar .char cc9))))] := hD
      refine lv_aload_n hx hb xd_Li_append_33 rfl (lv_at hl 0 rfl) ?_
      refine lv_dup hx hb xd_Li_append_34 rfl ?_
      refine va_get (D := D) (ci := 1) (v := .int 0) (C := xR_Li) (T := xT_Li) (N := 5) hx hb hT xi_Li hown hK.1 hP 0 rfl rfl 3 (by decide) (hT _ xk_8) (fun _ h9 => h9) rfl xd_Li_append_35 ?_
      refine lv_iconst (v := 1) hx hb xd_Li_append_38 (by decide) ?_
      refine lv_iadd hx hb xd_Li_append_39 ?_
      refine va_put (D := D) (ci := 1) (v := .int (0 + 1)) (ty := .int) (C := xR_Li) (T := xT_Li) (N := 5) hx hb hT xi_Li xt_Li xt_Li_ok xn_Li hown hK.1 hP hD hS 0 rfl rfl 3 (by decide) (hT _ xk_8) (fun _ h9 => h9) rfl (by decide +kernel) rfl rfl (Nat.le_of_ble_eq_true rfl) xd_Li_append_40 (fun H locs hP hD hS => ?_)
      have hP : va_P D xcl [(L, .inr (1, [.ref tx, .ref b1, .ref b2, .int (0 + 1), .int 0])), (tx, .inl (kA 1, 40, .inl (upd (fun _ => 0) (0 : Int32).toNatClampNeg (vp_nar .char cc9))))] H := hP
      have hD : va_D A [(L, .inr (1, [.ref tx, .ref b1, .ref b2, .int (0 + 1), .int 0])), (tx, .inl (kA 1, 40, .inl (upd (fun _ => 0) (0 : Int32).toNatClampNeg (vp_nar .char cc9))))] := hD
      refine lv_iconst (v := 1) hx hb xd_Li_append_43 (by decide) ?_
      have hP9 := hP.sub (ws' := [(L, .inr (1, [.ref tx, .ref b1, .ref b2, .int (0 + 1), .int 0])), (tx, .inl (kA 1, 40, .inl (upd (fun _ => 0) (0 : Int32).toNatClampNeg (vp_nar .char cc9))))]) [0, 1] rfl
      have hD9 := hD.sub (ws' := [(L, .inr (1, [.ref tx, .ref b1, .ref b2, .int (0 + 1), .int 0])), (tx, .inl (kA 1, 40, .inl (upd (fun _ => 0) (0 : Int32).toNatClampNeg (vp_nar .char cc9))))]) [0, 1] (by decide) rfl
      refine W.widen (k := 0) (n := 0) (Nat.le_of_ble_eq_true rfl) (Nat.le_of_ble_eq_true rfl) ?_
      exact W.zret (v := 1) hx hb hr rfl (fun t ht hW => ⟨⟨1, ((0 + 1), (upd (fun _ => 0) (0 : Int32).toNatClampNeg (vp_nar .char cc9))), rfl, by simp [hc1, hc2], by rw [ht]; exact hP9, hD9⟩, hS.F ht⟩) hS.2.2 xd_Li_append_44
    · refine lv_iconst (v := 0) hx hb xd_Li_append_21 (by decide) ?_
      have hP9 := hP.sub (ws' := [(L, .inr (1, [.ref tx, .ref b1, .ref b2, .int 0, .int 0])), (tx, .inl (kA 1, 40, .inl (fun _ => 0)))]) [0, 1] rfl
      have hD9 := hD.sub (ws' := [(L, .inr (1, [.ref tx, .ref b1, .ref b2, .int 0, .int 0])), (tx, .inl (kA 1, 40, .inl (fun _ => 0)))]) [0, 1] (by decide) rfl
      refine W.widen (k := 0) (n := 0) (Nat.le_of_ble_eq_true rfl) (Nat.le_of_ble_eq_true rfl) ?_
      exact W.zret (v := 0) hx hb hr rfl (fun t ht hW => ⟨⟨0, (0, (fun _ => 0)), rfl, by simp [hc1, hc2], by rw [ht]; exact hP9, hD9⟩, hS.F ht⟩) hS.2.2 xd_Li_append_22
set_option maxHeartbeats 4000000 in
set_option maxRecDepth 100000 in
theorem xc_De_write (l : Launch) (D : va_G) (kA : Nat → ClassId) (sz : Nat) (x : Nat) (L : Nat) (S : Nat) (C : Nat) (P : Nat) (tx : Nat) (b1 : Nat) (b2 : Nat) (cc9 : Int32) : Met l xy_De_write (.code xy_De_write xb_De_write 2 (some .boolean) :: wT) { frames := 1, cells := 0, slots := 0, locals := 21 } (va_Pc [.ref x, .int cc9] (xPre D kA sz [(x, .inr (0, [.ref L, .ref S, .ref C, .ref P, .int 0, .int 0])), (L, .inr (1, [.ref tx, .ref b1, .ref b2, .int 0, .int 0])), (tx, .inl (kA 1, 40, .inl (fun _ => 0)))])) (va_Qi (fun (r : Int32) (u : Int32 × (Nat → Int32)) => r = (if cc9 < 32 then 0 else if cc9 ≤ 126 then 1 else 0)) (fun (u : Int32 × (Nat → Int32)) t => va_P D xcl [(x, .inr (0, [.ref L, .ref S, .ref C, .ref P, .int 0, .int 0])), (L, .inr (1, [.ref tx, .ref b1, .ref b2, .int u.1, .int 0])), (tx, .inl (kA 1, 40, .inl u.2))] t.heap ∧ va_D (va_A [(x, .inr (0, [.ref L, .ref S, .ref C, .ref P, .int 0, .int 0])), (L, .inr (1, [.ref tx, .ref b1, .ref b2, .int 0, .int 0])), (tx, .inl (kA 1, 40, .inl (fun _ => 0)))] sz) [(x, .inr (0, [.ref L, .ref S, .ref C, .ref P, .int 0, .int 0])), (L, .inr (1, [.ref tx, .ref b1, .ref b2, .int u.1, .int 0])), (tx, .inl (kA 1, 40, .inl u.2))]) (va_A [(x, .inr (0, [.ref L, .ref S, .ref C, .ref P, .int 0, .int 0])), (L, .inr (1, [.ref tx, .ref b1, .ref b2, .int 0, .int 0])), (tx, .inl (kA 1, 40, .inl (fun _ => 0)))] sz)) 0 0 (va_A [(x, .inr (0, [.ref L, .ref S, .ref C, .ref P, .int 0, .int 0])), (L, .inr (1, [.ref tx, .ref b1, .ref b2, .int 0, .int 0])), (tx, .inl (kA 1, 40, .inl (fun _ => 0)))] sz) := by
  refine Met.ofW (cc := xb_De_write) (maxL := 2) (ret := (some .boolean)) (by decide) rfl ?_
  intro p e s m args below meth c s₁ B hml hv
  obtain ⟨rfl, hsz, hP, hK, hD0⟩ := hv
  have hx := B.exec
  have hb := B.bytes
  have hr := B.returns
  have hT := x_hT B.pre
  have hown : s.vm.findClass xR_De = some m.cls := findClass_of_methodNamed B.named
  have hlocks := B.notSynchronized
  subst hsz
  have hD := hD0.self (sz := s.heap.size)
  generalize hAe : va_A [(x, .inr (0, [.ref L, .ref S, .ref C, .ref P, .int 0, .int 0])), (L, .inr (1, [.ref tx, .ref b1, .ref b2, .int 0, .int 0])), (tx, .inl (kA 1, 40, .inl (fun _ => 0)))] s.heap.size = A at hD ⊢
  have hA : ∀ q : Nat, s.heap.size ≤ q → A q := fun q h => by rw [← hAe]; exact Or.inr h
  have hS : va_S A s.heap s.heap [] := va_S.rf
  have hP : va_P D xcl [(x, .inr (0, [.ref L, .ref S, .ref C, .ref P, .int 0, .int 0])), (L, .inr (1, [.ref tx, .ref b1, .ref b2, .int 0, .int 0])), (tx, .inl (kA 1, 40, .inl (fun _ => 0)))] s.heap := hP
  have hl := lv_entry ([.ref x, .int cc9]) (n := 2) (Nat.le_of_ble_eq_true rfl)
  rw [lg_entry_eq]
  generalize (lg_sl ([.ref x, .int cc9]) ++ List.replicate (2 - (lg_sl ([.ref x, .int cc9])).length) Slot.unset).toArray = ls at hl ⊢
  have hl : lv_has ls 2 [(0, .ref x), (1, .int cc9)] := hl
  refine lv_aload_n hx hb xd_De_write_0 rfl (lv_at hl 0 rfl) ?_
  refine va_get (D := D) (ci := 0) (v := .ref L) (C := xR_De) (T := xT_De) (N := 6) hx hb hT xi_De hown hK.1 hP 0 rfl rfl 0 (by decide) (hT _ xk_27) (fun _ h9 => h9) rfl xd_De_write_1 ?_
  refine lv_iload_n hx hb xd_De_write_4 rfl (lv_at hl 1 rfl) ?_
  have hPc := hP.sub (ws' := [(L, .inr (1, [.ref tx, .ref b1, .ref b2, .int 0, .int 0])), (tx, .inl (kA 1, 40, .inl (fun _ => 0)))]) [1, 2] rfl
  have hDc := hD.sub (ws' := [(L, .inr (1, [.ref tx, .ref b1, .ref b2, .int 0, .int 0])), (tx, .inl (kA 1, 40, .inl (fun _ => 0)))]) [1, 2] (by decide) rfl
  have hFc := va_free (wc := [(L, .inr (1, [.ref tx, .ref b1, .ref b2, .int 0, .int 0])), (tx, .inl (kA 1, 40, .inl (fun _ => 0)))]) hD hS hA [1, 2] rfl
  have hkc : 0 + 0 ≤ 0 := Nat.le_of_ble_eq_true rfl
  have hks : 0 + 0 ≤ 0 := Nat.le_of_ble_eq_true rfl
  refine va_calli (va_runV (As := [.int cc9]) (rest := []) ⟨hx, hb, hml, hown, hT⟩ (xc_Li_append l D kA s.heap.size L tx b1 b2 cc9) (cwV 1 hT (wT_V xk_73 xk_74 xk_75 xk_24 xk_72) rfl rfl rfl (by decide +kernel) ⟨Nat.le_of_ble_eq_true rfl, Nat.le_of_ble_eq_true rfl⟩) (x_preV hK hPc hDc 0 rfl rfl) rfl rfl hl.1 rfl (lv_room (Nat.le_of_ble_eq_true rfl)) xd_De_write_5 ⟨hkc, hks⟩) hS (fun q _ h => hFc q h) hFc (fun r u t H1 locs ht hvm hpost hB hz1 hk1 hS => ?_)
  obtain ⟨u1, u2⟩ := u
  have hpost : r = (if cc9 < 32 then 0 else if cc9 ≤ 126 then 1 else 0) := hpost
  subst hpost
  obtain ⟨hP1, hD1⟩ := hB
  rw [ht] at hP1
  obtain ⟨hP, hD⟩ := va_join (wr := [(x, .inr (0, [.ref L, .ref S, .ref C, .ref P, .int 0, .int 0]))]) (w1 := [(L, .inr (1, [.ref tx, .ref b1, .ref b2, .int u1, .int 0])), (tx, .inl (kA 1, 40, .inl u2))]) hP hD [1, 2] [0] rfl rfl (by decide) (by decide) hk1 hFc hP1 hD1
  generalize H1 = H at hP hS ⊢
  have hP : va_P D xcl [(x, .inr (0, [.ref L, .ref S, .ref C, .ref P, .int 0, .int 0])), (L, .inr (1, [.ref tx, .ref b1, .ref b2, .int u1, .int 0])), (tx, .inl (kA 1, 40, .inl u2))] H := hP
  have hD : va_D A [(x, .inr (0, [.ref L, .ref S, .ref C, .ref P, .int 0, .int 0])), (L, .inr (1, [.ref tx, .ref b1, .ref b2, .int u1, .int 0])), (tx, .inl (kA 1, 40, .inl u2))] := hD
  have hP9 := hP.sub (ws' := [(x, .inr (0, [.ref L, .ref S, .ref C, .ref P, .int 0, .int 0])), (L, .inr (1, [.ref tx, .ref b1, .ref b2, .int u1, .int 0])), (tx, .inl (kA 1, 40, .inl u2))]) [0, 1, 2] rfl
  have hD9 := hD.sub (ws' := [(x, .inr (0, [.ref L, .ref S, .ref C, .ref P, .int 0, .int 0])), (L, .inr (1, [.ref tx, .ref b1, .ref b2, .int u1, .int 0])), (tx, .inl (kA 1, 40, .inl u2))]) [0, 1, 2] (by decide) rfl
  refine W.widen (k := 0) (n := 0) (Nat.le_of_ble_eq_true rfl) (Nat.le_of_ble_eq_true rfl) ?_
  exact W.zret (v := (if cc9 < 32 then 0 else if cc9 ≤ 126 then 1 else 0)) hx hb hr (by (repeat' split) <;> rfl) (fun t ht hW => ⟨⟨(if cc9 < 32 then 0 else if cc9 ≤ 126 then 1 else 0), (u1, u2), rfl, rfl, by rw [ht]; exact hP9, hD9⟩, hS.F ht⟩) hS.2.2 xd_De_write_8
set_option maxHeartbeats 4000000 in
set_option maxRecDepth 100000 in
theorem xc_Li_take (l : Launch) (D : va_G) (kA : Nat → ClassId) (sz : Nat) (L : Nat) (tx : Nat) (b1 : Nat) (b2 : Nat) : Met l xy_Li_take (.code xy_Li_take xb_Li_take 3 none :: wT) { frames := 0, cells := 0, slots := 0, locals := 0 } (va_Pc [.ref L] (xPre D kA sz [(L, .inr (1, [.ref tx, .ref b1, .ref b2, .int 0, .int 0]))])) (va_Qv (fun (u : Unit) => True) (fun (u : Unit) t => va_P D xcl [(L, .inr (1, [.ref tx, .ref b1, .ref b2, .int 0, .int 0]))] t.heap ∧ va_D (va_A [(L, .inr (1, [.ref tx, .ref b1, .ref b2, .int 0, .int 0]))] sz) [(L, .inr (1, [.ref tx, .ref b1, .ref b2, .int 0, .int 0]))]) (va_A [(L, .inr (1, [.ref tx, .ref b1, .ref b2, .int 0, .int 0]))] sz)) 0 0 (va_A [(L, .inr (1, [.ref tx, .ref b1, .ref b2, .int 0, .int 0]))] sz) := by
  refine Met.ofW (cc := xb_Li_take) (maxL := 3) (ret := none) (by decide) rfl ?_
  intro p e s m args below meth c s₁ B hml hv
  obtain ⟨rfl, hsz, hP, hK, hD0⟩ := hv
  have hx := B.exec
  have hb := B.bytes
  have hr := B.returns
  have hT := x_hT B.pre
  have hown : s.vm.findClass xR_Li = some m.cls := findClass_of_methodNamed B.named
  have hlocks := B.notSynchronized
  subst hsz
  have hD := hD0.self (sz := s.heap.size)
  generalize hAe : va_A [(L, .inr (1, [.ref tx, .ref b1, .ref b2, .int 0, .int 0]))] s.heap.size = A at hD ⊢
  have hA : ∀ q : Nat, s.heap.size ≤ q → A q := fun q h => by rw [← hAe]; exact Or.inr h
  have hS : va_S A s.heap s.heap [] := va_S.rf
  have hP : va_P D xcl [(L, .inr (1, [.ref tx, .ref b1, .ref b2, .int 0, .int 0]))] s.heap := hP
  have hl := lv_entry ([.ref L]) (n := 3) (Nat.le_of_ble_eq_true rfl)
  rw [lg_entry_eq]
  generalize (lg_sl ([.ref L]) ++ List.replicate (3 - (lg_sl ([.ref L])).length) Slot.unset).toArray = ls at hl ⊢
  have hl : lv_has ls 3 [(0, .ref L)] := hl
  refine lv_aload_n hx hb xd_Li_take_0 rfl (lv_at hl 0 rfl) ?_
  refine lv_iconst (v := 0) hx hb xd_Li_take_1 (by decide) ?_
  refine va_put (D := D) (ci := 1) (v := .int 0) (ty := .int) (C := xR_Li) (T := xT_Li) (N := 5) hx hb hT xi_Li xt_Li xt_Li_ok xn_Li hown hK.1 hP hD hS 0 rfl rfl 4 (by decide) (hT _ xk_9) (fun _ h9 => h9) rfl (by decide +kernel) rfl rfl (Nat.le_of_ble_eq_true rfl) xd_Li_take_2 (fun H locs hP hD hS => ?_)
  have hP : va_P D xcl [(L, .inr (1, [.ref tx, .ref b1, .ref b2, .int 0, .int 0]))] H := hP
  have hD : va_D A [(L, .inr (1, [.ref tx, .ref b1, .ref b2, .int 0, .int 0]))] := hD
  refine lv_iconst (v := 0) hx hb xd_Li_take_5 (by decide) ?_
  refine lv_istore_n hx hb xd_Li_take_6 rfl hl (Nat.le_of_ble_eq_true rfl) rfl (fun ls hl => ?_)
  have hl : lv_has ls 3 [(1, .int 0), (0, .ref L)] := hl
  refine lv_iconst (v := 0) hx hb xd_Li_take_7 (by decide) ?_
  refine lv_istore_n hx hb xd_Li_take_8 rfl hl (Nat.le_of_ble_eq_true rfl) rfl (fun ls hl => ?_)
  have hl : lv_has ls 3 [(2, .int 0), (1, .int 0), (0, .ref L)] := hl
  refine lv_iload_n hx hb xd_Li_take_9 rfl (lv_at hl 0 rfl) ?_
  refine lv_aload_n hx hb xd_Li_take_10 rfl (lv_at hl 2 rfl) ?_
  refine va_get (D := D) (ci := 1) (v := .int 0) (C := xR_Li) (T := xT_Li) (N := 5) hx hb hT xi_Li hown hK.1 hP 0 rfl rfl 3 (by decide) (hT _ xk_8) (fun _ h9 => h9) rfl xd_Li_take_11 ?_
  refine lv_icmp_gt (tgt := 90) hx hb xd_Li_take_14 (by decide) (fun hc => absurd hc (by decide)) (fun _ => ?_)
  refine lv_iload_n hx hb xd_Li_take_17 rfl (lv_at hl 0 rfl) ?_
  refine lv_aload_n hx hb xd_Li_take_18 rfl (lv_at hl 2 rfl) ?_
  refine va_get (D := D) (ci := 1) (v := .int 0) (C := xR_Li) (T := xT_Li) (N := 5) hx hb hT xi_Li hown hK.1 hP 0 rfl rfl 3 (by decide) (hT _ xk_8) (fun _ h9 => h9) rfl xd_Li_take_19 ?_
  refine lv_icmp_eq (tgt := 36) hx hb xd_Li_take_22 (by decide) (fun _ => ?_) (fun hc => absurd (by decide) hc)
  refine lv_iload_n hx hb xd_Li_take_36 rfl (lv_at hl 0 rfl) ?_
  refine lv_iload_n hx hb xd_Li_take_37 rfl (lv_at hl 1 rfl) ?_
  refine lv_icmp_le (tgt := 80) hx hb xd_Li_take_38 (by decide) (fun _ => ?_) (fun hc => absurd (by decide) hc)
  refine lv_iload_n hx hb xd_Li_take_80 rfl (lv_at hl 0 rfl) ?_
  refine lv_iconst (v := 1) hx hb xd_Li_take_81 (by decide) ?_
  refine lv_iadd hx hb xd_Li_take_82 ?_
  refine lv_istore_n hx hb xd_Li_take_83 rfl hl (Nat.le_of_ble_eq_true rfl) rfl (fun ls hl => ?_)
  have hl : lv_has ls 3 [(1, .int (0 + 1)), (2, .int 0), (0, .ref L)] := hl
  refine lv_iinc (k := 1) (v := (0 + Int32.ofInt 1)) hx hb xd_Li_take_84 hl rfl rfl (Nat.le_of_ble_eq_true rfl) rfl (fun ls hl => ?_)
  have hl : lv_has ls 3 [(2, .int (0 + Int32.ofInt 1)), (1, .int (0 + 1)), (0, .ref L)] := hl
  refine lv_goto (tgt := 9) hx hb xd_Li_take_87 (by decide) ?_
  refine lv_iload_n hx hb xd_Li_take_9 rfl (lv_at hl 0 rfl) ?_
  refine lv_aload_n hx hb xd_Li_take_10 rfl (lv_at hl 2 rfl) ?_
  refine va_get (D := D) (ci := 1) (v := .int 0) (C := xR_Li) (T := xT_Li) (N := 5) hx hb hT xi_Li hown hK.1 hP 0 rfl rfl 3 (by decide) (hT _ xk_8) (fun _ h9 => h9) rfl xd_Li_take_11 ?_
  refine lv_icmp_gt (tgt := 90) hx hb xd_Li_take_14 (by decide) (fun _ => ?_) (fun hc => absurd (by decide) hc)
  refine lv_aload_n hx hb xd_Li_take_90 rfl (lv_at hl 2 rfl) ?_
  refine lv_iconst (v := 0) hx hb xd_Li_take_91 (by decide) ?_
  refine va_put (D := D) (ci := 1) (v := .int 0) (ty := .int) (C := xR_Li) (T := xT_Li) (N := 5) hx hb hT xi_Li xt_Li xt_Li_ok xn_Li hown hK.1 hP hD hS 0 rfl rfl 3 (by decide) (hT _ xk_8) (fun _ h9 => h9) rfl (by decide +kernel) rfl rfl (Nat.le_of_ble_eq_true rfl) xd_Li_take_92 (fun H locs hP hD hS => ?_)
  have hP : va_P D xcl [(L, .inr (1, [.ref tx, .ref b1, .ref b2, .int 0, .int 0]))] H := hP
  have hD : va_D A [(L, .inr (1, [.ref tx, .ref b1, .ref b2, .int 0, .int 0]))] := hD
  have hP9 := hP.sub (ws' := [(L, .inr (1, [.ref tx, .ref b1, .ref b2, .int 0, .int 0]))]) [0] rfl
  have hD9 := hD.sub (ws' := [(L, .inr (1, [.ref tx, .ref b1, .ref b2, .int 0, .int 0]))]) [0] (by decide) rfl
  refine W.widen (k := 0) (n := 0) (Nat.le_of_ble_eq_true rfl) (Nat.le_of_ble_eq_true rfl) ?_
  exact W.vret hx hb hr (fun t ht hW => ⟨⟨(), rfl, trivial, by rw [ht]; exact hP9, hD9⟩, hS.F ht⟩) hS.2.2 xd_Li_take_95
set_option maxHeartbeats 4000000 in
set_option maxRecDepth 100000 in
theorem xc_Li_takeName (l : Launch) (D : va_G) (kA : Nat → ClassId) (sz : Nat) (L : Nat) (tx : Nat) (b1 : Nat) (b2 : Nat) : Met l xy_Li_takeName (.code xy_Li_takeName xb_Li_takeName 1 (some .int) :: wT) { frames := 1, cells := 0, slots := 0, locals := 22 } (va_Pc [.ref L] (xPre D kA sz [(L, .inr (1, [.ref tx, .ref b1, .ref b2, .int 0, .int 0]))])) (va_Qi (fun (r : Int32) (u : Unit) => r = 0) (fun (u : Unit) t => va_P D xcl [(L, .inr (1, [.ref tx, .ref b1, .ref b2, .int 0, .int 0]))] t.heap ∧ va_D (va_A [(L, .inr (1, [.ref tx, .ref b1, .ref b2, .int 0, .int 0]))] sz) [(L, .inr (1, [.ref tx, .ref b1, .ref b2, .int 0, .int 0]))]) (va_A [(L, .inr (1, [.ref tx, .ref b1, .ref b2, .int 0, .int 0]))] sz)) 0 0 (va_A [(L, .inr (1, [.ref tx, .ref b1, .ref b2, .int 0, .int 0]))] sz) := by
  refine Met.ofW (cc := xb_Li_takeName) (maxL := 1) (ret := (some .int)) (by decide) rfl ?_
  intro p e s m args below meth c s₁ B hml hv
  obtain ⟨rfl, hsz, hP, hK, hD0⟩ := hv
  have hx := B.exec
  have hb := B.bytes
  have hr := B.returns
  have hT := x_hT B.pre
  have hown : s.vm.findClass xR_Li = some m.cls := findClass_of_methodNamed B.named
  have hlocks := B.notSynchronized
  subst hsz
  have hD := hD0.self (sz := s.heap.size)
  generalize hAe : va_A [(L, .inr (1, [.ref tx, .ref b1, .ref b2, .int 0, .int 0]))] s.heap.size = A at hD ⊢
  have hA : ∀ q : Nat, s.heap.size ≤ q → A q := fun q h => by rw [← hAe]; exact Or.inr h
  have hS : va_S A s.heap s.heap [] := va_S.rf
  have hP : va_P D xcl [(L, .inr (1, [.ref tx, .ref b1, .ref b2, .int 0, .int 0]))] s.heap := hP
  have hl := lv_entry ([.ref L]) (n := 1) (Nat.le_of_ble_eq_true rfl)
  rw [lg_entry_eq]
  generalize (lg_sl ([.ref L]) ++ List.replicate (1 - (lg_sl ([.ref L])).length) Slot.unset).toArray = ls at hl ⊢
  have hl : lv_has ls 1 [(0, .ref L)] := hl
  refine lv_aload_n hx hb xd_Li_takeName_0 rfl (lv_at hl 0 rfl) ?_
  have hPc := hP.sub (ws' := [(L, .inr (1, [.ref tx, .ref b1, .ref b2, .int 0, .int 0]))]) [0] rfl
  have hDc := hD.sub (ws' := [(L, .inr (1, [.ref tx, .ref b1, .ref b2, .int 0, .int 0]))]) [0] (by decide) rfl
  have hFc := va_free (wc := [(L, .inr (1, [.ref tx, .ref b1, .ref b2, .int 0, .int 0]))]) hD hS hA [0] rfl
  have hkc : 0 + 0 ≤ 0 := Nat.le_of_ble_eq_true rfl
  have hks : 0 + 0 ≤ 0 := Nat.le_of_ble_eq_true rfl
  refine va_callv (va_runV (As := []) (rest := []) ⟨hx, hb, hml, hown, hT⟩ (xc_Li_take l D kA s.heap.size L tx b1 b2) (cwV 0 hT (wT_V xk_77 xk_78 xk_79 xk_24 xk_76) rfl rfl rfl (by decide +kernel) ⟨Nat.le_of_ble_eq_true rfl, Nat.le_of_ble_eq_true rfl⟩) (x_preV hK hPc hDc 0 rfl rfl) rfl rfl hl.1 rfl (lv_room (Nat.le_of_ble_eq_true rfl)) xd_Li_takeName_1 ⟨hkc, hks⟩) hS (fun q _ h => hFc q h) hFc (fun u t H1 locs ht hvm hpost hB hz1 hk1 hS => ?_)
  obtain ⟨hP1, hD1⟩ := hB
  rw [ht] at hP1
  obtain ⟨hP, hD⟩ := va_join (wr := []) (w1 := [(L, .inr (1, [.ref tx, .ref b1, .ref b2, .int 0, .int 0]))]) hP hD [0] [] rfl rfl (by decide) (by decide) hk1 hFc hP1 hD1
  generalize H1 = H at hP hS ⊢
  have hP : va_P D xcl [(L, .inr (1, [.ref tx, .ref b1, .ref b2, .int 0, .int 0]))] H := hP
  have hD : va_D A [(L, .inr (1, [.ref tx, .ref b1, .ref b2, .int 0, .int 0]))] := hD
  refine lv_aload_n hx hb xd_Li_takeName_4 rfl (lv_at hl 0 rfl) ?_
  refine va_get (D := D) (ci := 1) (v := .int 0) (C := xR_Li) (T := xT_Li) (N := 5) hx hb hT xi_Li hown hK.1 hP 0 rfl rfl 4 (by decide) (hT _ xk_9) (fun _ h9 => h9) rfl xd_Li_takeName_5 ?_
  refine lv_iconst (v := 1) hx hb xd_Li_takeName_8 (by decide) ?_
  refine lv_icmp_ne (tgt := 20) hx hb xd_Li_takeName_9 (by decide) (fun _ => ?_) (fun hc => absurd hc (by decide))
  refine lv_iconst (v := 0) hx hb xd_Li_takeName_20 (by decide) ?_
  have hP9 := hP.sub (ws' := [(L, .inr (1, [.ref tx, .ref b1, .ref b2, .int 0, .int 0]))]) [0] rfl
  have hD9 := hD.sub (ws' := [(L, .inr (1, [.ref tx, .ref b1, .ref b2, .int 0, .int 0]))]) [0] (by decide) rfl
  refine W.widen (k := 0) (n := 0) (Nat.le_of_ble_eq_true rfl) (Nat.le_of_ble_eq_true rfl) ?_
  exact W.iret (v := 0) hx hb hr (fun t ht hW => ⟨⟨0, (), rfl, rfl, by rw [ht]; exact hP9, hD9⟩, hS.F ht⟩) hS.2.2 xd_Li_takeName_21
set_option maxHeartbeats 4000000 in
set_option maxRecDepth 100000 in
theorem xc_Sh_accept (l : Launch) (D : va_G) (kA : Nat → ClassId) (sz : Nat) (S : Nat) (d1 : Nat) (L : Nat) (tx : Nat) (b1 : Nat) (b2 : Nat) : Met l xy_Sh_accept (.code xy_Sh_accept xb_Sh_accept 2 (some .int) :: wT) { frames := 0, cells := 0, slots := 0, locals := 0 } (va_Pc [.ref S, .ref L] (xPre D kA sz [(S, .inr (2, [.ref d1, .int 0])), (L, .inr (1, [.ref tx, .ref b1, .ref b2, .int 0, .int 0]))])) (va_Qi (fun (r : Int32) (u : Unit) => r = 0) (fun (u : Unit) t => va_P D xcl [(S, .inr (2, [.ref d1, .int 0])), (L, .inr (1, [.ref tx, .ref b1, .ref b2, .int 0, .int 0]))] t.heap ∧ va_D (va_A [(S, .inr (2, [.ref d1, .int 0])), (L, .inr (1, [.ref tx, .ref b1, .ref b2, .int 0, .int 0]))] sz) [(S, .inr (2, [.ref d1, .int 0])), (L, .inr (1, [.ref tx, .ref b1, .ref b2, .int 0, .int 0]))]) (va_A [(S, .inr (2, [.ref d1, .int 0])), (L, .inr (1, [.ref tx, .ref b1, .ref b2, .int 0, .int 0]))] sz)) 0 0 (va_A [(S, .inr (2, [.ref d1, .int 0])), (L, .inr (1, [.ref tx, .ref b1, .ref b2, .int 0, .int 0]))] sz) := by
  refine Met.ofW (cc := xb_Sh_accept) (maxL := 2) (ret := (some .int)) (by decide) rfl ?_
  intro p e s m args below meth c s₁ B hml hv
  obtain ⟨rfl, hsz, hP, hK, hD0⟩ := hv
  have hx := B.exec
  have hb := B.bytes
  have hr := B.returns
  have hT := x_hT B.pre
  have hown : s.vm.findClass xR_Sh = some m.cls := findClass_of_methodNamed B.named
  have hlocks := B.notSynchronized
  subst hsz
  have hD := hD0.self (sz := s.heap.size)
  generalize hAe : va_A [(S, .inr (2, [.ref d1, .int 0])), (L, .inr (1, [.ref tx, .ref b1, .ref b2, .int 0, .int 0]))] s.heap.size = A at hD ⊢
  have hA : ∀ q : Nat, s.heap.size ≤ q → A q := fun q h => by rw [← hAe]; exact Or.inr h
  have hS : va_S A s.heap s.heap [] := va_S.rf
  have hP : va_P D xcl [(S, .inr (2, [.ref d1, .int 0])), (L, .inr (1, [.ref tx, .ref b1, .ref b2, .int 0, .int 0]))] s.heap := hP
  have hl := lv_entry ([.ref S, .ref L]) (n := 2) (Nat.le_of_ble_eq_true rfl)
  rw [lg_entry_eq]
  generalize (lg_sl ([.ref S, .ref L]) ++ List.replicate (2 - (lg_sl ([.ref S, .ref L])).length) Slot.unset).toArray = ls at hl ⊢
  have hl : lv_has ls 2 [(0, .ref S), (1, .ref L)] := hl
  refine lv_aload_n hx hb xd_Sh_accept_0 rfl (lv_at hl 1 rfl) ?_
  refine va_get (D := D) (ci := 1) (v := .int 0) (C := xR_Li) (T := xT_Li) (N := 5) hx hb hT xi_Li hown hK.1 hP 1 rfl rfl 4 (by decide) (hT _ xk_80) (fun _ h9 => h9) rfl xd_Sh_accept_1 ?_
  refine lv_if_ne (tgt := 9) hx hb xd_Sh_accept_4 (by decide) (fun hc => absurd (by decide) hc) (fun _ => ?_)
  refine lv_iconst (v := 0) hx hb xd_Sh_accept_7 (by decide) ?_
  have hP9 := hP.sub (ws' := [(S, .inr (2, [.ref d1, .int 0])), (L, .inr (1, [.ref tx, .ref b1, .ref b2, .int 0, .int 0]))]) [0, 1] rfl
  have hD9 := hD.sub (ws' := [(S, .inr (2, [.ref d1, .int 0])), (L, .inr (1, [.ref tx, .ref b1, .ref b2, .int 0, .int 0]))]) [0, 1] (by decide) rfl
  refine W.widen (k := 0) (n := 0) (Nat.le_of_ble_eq_true rfl) (Nat.le_of_ble_eq_true rfl) ?_
  exact W.iret (v := 0) hx hb hr (fun t ht hW => ⟨⟨0, (), rfl, rfl, by rw [ht]; exact hP9, hD9⟩, hS.F ht⟩) hS.2.2 xd_Sh_accept_8
set_option maxHeartbeats 4000000 in
set_option maxRecDepth 100000 in
theorem xc_De_line (l : Launch) (D : va_G) (kA : Nat → ClassId) (sz : Nat) (x : Nat) (L : Nat) (S : Nat) (C : Nat) (P : Nat) (tx : Nat) (b1 : Nat) (b2 : Nat) (d1 : Nat) : Met l xy_De_line (.code xy_De_line xb_De_line 2 (some .int) :: wT) { frames := 1, cells := 0, slots := 0, locals := 22 } (va_Pc [.ref x] (xPre D kA sz [(x, .inr (0, [.ref L, .ref S, .ref C, .ref P, .int 0, .int 0])), (L, .inr (1, [.ref tx, .ref b1, .ref b2, .int 0, .int 0])), (S, .inr (2, [.ref d1, .int 0]))])) (va_Qi (fun (r : Int32) (u : Unit) => r = 0) (fun (u : Unit) t => va_P D xcl [(x, .inr (0, [.ref L, .ref S, .ref C, .ref P, .int 0, .int 0])), (L, .inr (1, [.ref tx, .ref b1, .ref b2, .int 0, .int 0])), (S, .inr (2, [.ref d1, .int 0]))] t.heap ∧ va_D (va_A [(x, .inr (0, [.ref L, .ref S, .ref C, .ref P, .int 0, .int 0])), (L, .inr (1, [.ref tx, .ref b1, .ref b2, .int 0, .int 0])), (S, .inr (2, [.ref d1, .int 0]))] sz) [(x, .inr (0, [.ref L, .ref S, .ref C, .ref P, .int 0, .int 0])), (L, .inr (1, [.ref tx, .ref b1, .ref b2, .int 0, .int 0])), (S, .inr (2, [.ref d1, .int 0]))]) (va_A [(x, .inr (0, [.ref L, .ref S, .ref C, .ref P, .int 0, .int 0])), (L, .inr (1, [.ref tx, .ref b1, .ref b2, .int 0, .int 0])), (S, .inr (2, [.ref d1, .int 0]))] sz)) 0 0 (va_A [(x, .inr (0, [.ref L, .ref S, .ref C, .ref P, .int 0, .int 0])), (L, .inr (1, [.ref tx, .ref b1, .ref b2, .int 0, .int 0])), (S, .inr (2, [.ref d1, .int 0]))] sz) := by
  refine Met.ofW (cc := xb_De_line) (maxL := 2) (ret := (some .int)) (by decide) rfl ?_
  intro p e s m args below meth c s₁ B hml hv
  obtain ⟨rfl, hsz, hP, hK, hD0⟩ := hv
  have hx := B.exec
  have hb := B.bytes
  have hr := B.returns
  have hT := x_hT B.pre
  have hown : s.vm.findClass xR_De = some m.cls := findClass_of_methodNamed B.named
  have hlocks := B.notSynchronized
  subst hsz
  have hD := hD0.self (sz := s.heap.size)
  generalize hAe : va_A [(x, .inr (0, [.ref L, .ref S, .ref C, .ref P, .int 0, .int 0])), (L, .inr (1, [.ref tx, .ref b1, .ref b2, .int 0, .int 0])), (S, .inr (2, [.ref d1, .int 0]))] s.heap.size = A at hD ⊢
  have hA : ∀ q : Nat, s.heap.size ≤ q → A q := fun q h => by rw [← hAe]; exact Or.inr h
  have hS : va_S A s.heap s.heap [] := va_S.rf
  have hP : va_P D xcl [(x, .inr (0, [.ref L, .ref S, .ref C, .ref P, .int 0, .int 0])), (L, .inr (1, [.ref tx, .ref b1, .ref b2, .int 0, .int 0])), (S, .inr (2, [.ref d1, .int 0]))] s.heap := hP
  have hl := lv_entry ([.ref x]) (n := 2) (Nat.le_of_ble_eq_true rfl)
  rw [lg_entry_eq]
  generalize (lg_sl ([.ref x]) ++ List.replicate (2 - (lg_sl ([.ref x])).length) Slot.unset).toArray = ls at hl ⊢
  have hl : lv_has ls 2 [(0, .ref x)] := hl
  refine lv_aload_n hx hb xd_De_line_0 rfl (lv_at hl 0 rfl) ?_
  refine va_get (D := D) (ci := 0) (v := .ref L) (C := xR_De) (T := xT_De) (N := 6) hx hb hT xi_De hown hK.1 hP 0 rfl rfl 0 (by decide) (hT _ xk_27) (fun _ h9 => h9) rfl xd_De_line_1 ?_
  have hPc := hP.sub (ws' := [(L, .inr (1, [.ref tx, .ref b1, .ref b2, .int 0, .int 0]))]) [1] rfl
  have hDc := hD.sub (ws' := [(L, .inr (1, [.ref tx, .ref b1, .ref b2, .int 0, .int 0]))]) [1] (by decide) rfl
  have hFc := va_free (wc := [(L, .inr (1, [.ref tx, .ref b1, .ref b2, .int 0, .int 0]))]) hD hS hA [1] rfl
  have hkc : 0 + 0 ≤ 0 := Nat.le_of_ble_eq_true rfl
  have hks : 0 + 0 ≤ 0 := Nat.le_of_ble_eq_true rfl
  refine va_callv (va_runV (As := []) (rest := []) ⟨hx, hb, hml, hown, hT⟩ (xc_Li_take l D kA s.heap.size L tx b1 b2) (cwV 0 hT (wT_V xk_81 xk_78 xk_79 xk_24 xk_76) rfl rfl rfl (by decide +kernel) ⟨Nat.le_of_ble_eq_true rfl, Nat.le_of_ble_eq_true rfl⟩) (x_preV hK hPc hDc 0 rfl rfl) rfl rfl hl.1 rfl (lv_room (Nat.le_of_ble_eq_true rfl)) xd_De_line_4 ⟨hkc, hks⟩) hS (fun q _ h => hFc q h) hFc (fun u t H1 locs ht hvm hpost hB hz1 hk1 hS => ?_)
  obtain ⟨hP1, hD1⟩ := hB
  rw [ht] at hP1
  obtain ⟨hP, hD⟩ := va_join (wr := [(x, .inr (0, [.ref L, .ref S, .ref C, .ref P, .int 0, .int 0])), (S, .inr (2, [.ref d1, .int 0]))]) (w1 := [(L, .inr (1, [.ref tx, .ref b1, .ref b2, .int 0, .int 0]))]) hP hD [1] [0, 2] rfl rfl (by decide) (by decide) hk1 hFc hP1 hD1
  generalize H1 = H at hP hS ⊢
  have hP : va_P D xcl [(x, .inr (0, [.ref L, .ref S, .ref C, .ref P, .int 0, .int 0])), (S, .inr (2, [.ref d1, .int 0])), (L, .inr (1, [.ref tx, .ref b1, .ref b2, .int 0, .int 0]))] H := hP
  have hD : va_D A [(x, .inr (0, [.ref L, .ref S, .ref C, .ref P, .int 0, .int 0])), (S, .inr (2, [.ref d1, .int 0])), (L, .inr (1, [.ref tx, .ref b1, .ref b2, .int 0, .int 0]))] := hD
  refine lv_aload_n hx hb xd_De_line_7 rfl (lv_at hl 0 rfl) ?_
  refine va_get (D := D) (ci := 0) (v := .ref S) (C := xR_De) (T := xT_De) (N := 6) hx hb hT xi_De hown hK.1 hP 0 rfl rfl 1 (by decide) (hT _ xk_33) (fun _ h9 => h9) rfl xd_De_line_8 ?_
  refine lv_aload_n hx hb xd_De_line_11 rfl (lv_at hl 0 rfl) ?_
  refine va_get (D := D) (ci := 0) (v := .ref L) (C := xR_De) (T := xT_De) (N := 6) hx hb hT xi_De hown hK.1 hP 0 rfl rfl 0 (by decide) (hT _ xk_27) (fun _ h9 => h9) rfl xd_De_line_12 ?_
  have hPc := hP.sub (ws' := [(S, .inr (2, [.ref d1, .int 0])), (L, .inr (1, [.ref tx, .ref b1, .ref b2, .int 0, .int 0]))]) [1, 2] rfl
  have hDc := hD.sub (ws' := [(S, .inr (2, [.ref d1, .int 0])), (L, .inr (1, [.ref tx, .ref b1, .ref b2, .int 0, .int 0]))]) [1, 2] (by decide) rfl
  have hFc := va_free (wc := [(S, .inr (2, [.ref d1, .int 0])), (L, .inr (1, [.ref tx, .ref b1, .ref b2, .int 0, .int 0]))]) hD hS hA [1, 2] rfl
  have hkc : 0 + 0 ≤ 0 := Nat.le_of_ble_eq_true rfl
  have hks : 0 + 0 ≤ 0 := Nat.le_of_ble_eq_true rfl
  refine va_calli (va_runV (As := [.ref L]) (rest := []) ⟨hx, hb, hml, hown, hT⟩ (xc_Sh_accept l D kA H.size S d1 L tx b1 b2) (cwV 1 hT (wT_V xk_83 xk_84 xk_85 xk_30 xk_82) rfl rfl rfl (by decide +kernel) ⟨Nat.le_of_ble_eq_true rfl, Nat.le_of_ble_eq_true rfl⟩) (x_preV hK hPc hDc 0 rfl rfl) rfl rfl hl.1 rfl (lv_room (Nat.le_of_ble_eq_true rfl)) xd_De_line_15 ⟨hkc, hks⟩) hS (fun q _ h => hFc q h) hFc (fun r u t H1 locs ht hvm hpost hB hz1 hk1 hS => ?_)
  have hpost : r = 0 := hpost
  subst hpost
  obtain ⟨hP1, hD1⟩ := hB
  rw [ht] at hP1
  obtain ⟨hP, hD⟩ := va_join (wr := [(x, .inr (0, [.ref L, .ref S, .ref C, .ref P, .int 0, .int 0]))]) (w1 := [(S, .inr (2, [.ref d1, .int 0])), (L, .inr (1, [.ref tx, .ref b1, .ref b2, .int 0, .int 0]))]) hP hD [1, 2] [0] rfl rfl (by decide) (by decide) hk1 hFc hP1 hD1
  generalize H1 = H at hP hS ⊢
  have hP : va_P D xcl [(x, .inr (0, [.ref L, .ref S, .ref C, .ref P, .int 0, .int 0])), (S, .inr (2, [.ref d1, .int 0])), (L, .inr (1, [.ref tx, .ref b1, .ref b2, .int 0, .int 0]))] H := hP
  have hD : va_D A [(x, .inr (0, [.ref L, .ref S, .ref C, .ref P, .int 0, .int 0])), (S, .inr (2, [.ref d1, .int 0])), (L, .inr (1, [.ref tx, .ref b1, .ref b2, .int 0, .int 0]))] := hD
  refine lv_istore_n hx hb xd_De_line_18 rfl hl (Nat.le_of_ble_eq_true rfl) rfl (fun ls hl => ?_)
  have hl : lv_has ls 2 [(1, .int 0), (0, .ref x)] := hl
  refine lv_iload_n hx hb xd_De_line_19 rfl (lv_at hl 0 rfl) ?_
  refine lv_iconst (v := (-1)) hx hb xd_De_line_20 (by decide) ?_
  refine lv_icmp_ne (tgt := 34) hx hb xd_De_line_21 (by decide) (fun _ => ?_) (fun hc => absurd hc (by decide))
  refine lv_iload_n hx hb xd_De_line_34 rfl (lv_at hl 0 rfl) ?_
  refine lv_bipush (v := (-2)) hx hb xd_De_line_35 (by decide) ?_
  refine lv_icmp_ne (tgt := 50) hx hb xd_De_line_37 (by decide) (fun _ => ?_) (fun hc => absurd hc (by decide))
  refine lv_iload_n hx hb xd_De_line_50 rfl (lv_at hl 0 rfl) ?_
  have hP9 := hP.sub (ws' := [(x, .inr (0, [.ref L, .ref S, .ref C, .ref P, .int 0, .int 0])), (L, .inr (1, [.ref tx, .ref b1, .ref b2, .int 0, .int 0])), (S, .inr (2, [.ref d1, .int 0]))]) [0, 2, 1] rfl
  have hD9 := hD.sub (ws' := [(x, .inr (0, [.ref L, .ref S, .ref C, .ref P, .int 0, .int 0])), (L, .inr (1, [.ref tx, .ref b1, .ref b2, .int 0, .int 0])), (S, .inr (2, [.ref d1, .int 0]))]) [0, 2, 1] (by decide) rfl
  refine W.widen (k := 0) (n := 0) (Nat.le_of_ble_eq_true rfl) (Nat.le_of_ble_eq_true rfl) ?_
  exact W.iret (v := 0) hx hb hr (fun t ht hW => ⟨⟨0, (), rfl, rfl, by rw [ht]; exact hP9, hD9⟩, hS.F ht⟩) hS.2.2 xd_De_line_51
set_option maxHeartbeats 4000000 in
set_option maxRecDepth 100000 in
theorem xc_De_fault (l : Launch) (D : va_G) (kA : Nat → ClassId) (sz : Nat) (x : Nat) (L : Nat) (S : Nat) (C : Nat) (P : Nat) : Met l xy_De_fault (.code xy_De_fault xb_De_fault 1 (some .int) :: wT) { frames := 0, cells := 0, slots := 0, locals := 0 } (va_Pc [.ref x] (xPre D kA sz [(x, .inr (0, [.ref L, .ref S, .ref C, .ref P, .int 0, .int 0]))])) (va_Qi (fun (r : Int32) (u : Unit) => r = 0) (fun (u : Unit) t => va_P D xcl [(x, .inr (0, [.ref L, .ref S, .ref C, .ref P, .int 0, .int 0]))] t.heap ∧ va_D (va_A [(x, .inr (0, [.ref L, .ref S, .ref C, .ref P, .int 0, .int 0]))] sz) [(x, .inr (0, [.ref L, .ref S, .ref C, .ref P, .int 0, .int 0]))]) (va_A [(x, .inr (0, [.ref L, .ref S, .ref C, .ref P, .int 0, .int 0]))] sz)) 0 0 (va_A [(x, .inr (0, [.ref L, .ref S, .ref C, .ref P, .int 0, .int 0]))] sz) := by
  refine Met.ofW (cc := xb_De_fault) (maxL := 1) (ret := (some .int)) (by decide) rfl ?_
  intro p e s m args below meth c s₁ B hml hv
  obtain ⟨rfl, hsz, hP, hK, hD0⟩ := hv
  have hx := B.exec
  have hb := B.bytes
  have hr := B.returns
  have hT := x_hT B.pre
  have hown : s.vm.findClass xR_De = some m.cls := findClass_of_methodNamed B.named
  have hlocks := B.notSynchronized
  subst hsz
  have hD := hD0.self (sz := s.heap.size)
  generalize hAe : va_A [(x, .inr (0, [.ref L, .ref S, .ref C, .ref P, .int 0, .int 0]))] s.heap.size = A at hD ⊢
  have hA : ∀ q : Nat, s.heap.size ≤ q → A q := fun q h => by rw [← hAe]; exact Or.inr h
  have hS : va_S A s.heap s.heap [] := va_S.rf
  have hP : va_P D xcl [(x, .inr (0, [.ref L, .ref S, .ref C, .ref P, .int 0, .int 0]))] s.heap := hP
  have hl := lv_entry ([.ref x]) (n := 1) (Nat.le_of_ble_eq_true rfl)
  rw [lg_entry_eq]
  generalize (lg_sl ([.ref x]) ++ List.replicate (1 - (lg_sl ([.ref x])).length) Slot.unset).toArray = ls at hl ⊢
  have hl : lv_has ls 1 [(0, .ref x)] := hl
  refine lv_aload_n hx hb xd_De_fault_0 rfl (lv_at hl 0 rfl) ?_
  refine va_get (D := D) (ci := 0) (v := .int 0) (C := xR_De) (T := xT_De) (N := 6) hx hb hT xi_De hown hK.1 hP 0 rfl rfl 5 (by decide) (hT _ xk_44) (fun _ h9 => h9) rfl xd_De_fault_1 ?_
  have hP9 := hP.sub (ws' := [(x, .inr (0, [.ref L, .ref S, .ref C, .ref P, .int 0, .int 0]))]) [0] rfl
  have hD9 := hD.sub (ws' := [(x, .inr (0, [.ref L, .ref S, .ref C, .ref P, .int 0, .int 0]))]) [0] (by decide) rfl
  refine W.widen (k := 0) (n := 0) (Nat.le_of_ble_eq_true rfl) (Nat.le_of_ble_eq_true rfl) ?_
  exact W.iret (v := 0) hx hb hr (fun t ht hW => ⟨⟨0, (), rfl, rfl, by rw [ht]; exact hP9, hD9⟩, hS.F ht⟩) hS.2.2 xd_De_fault_4
set_option maxHeartbeats 4000000 in
set_option maxRecDepth 100000 in
theorem xc_De_openLayer (l : Launch) (D : va_G) (kA : Nat → ClassId) (sz : Nat) (x : Nat) (L : Nat) (S : Nat) (C : Nat) (P : Nat) (n : Int32) : Met l xy_De_openLayer (.code xy_De_openLayer xb_De_openLayer 3 (some (.object "LayerDesk$Layer")) :: wT) { frames := 0, cells := 0, slots := 0, locals := 0 } (va_Pc [.ref x, .int n] (xPre D kA sz [(x, .inr (0, [.ref L, .ref S, .ref C, .ref P, .int 0, .int 0]))])) (va_Qq (fun (r : Option Nat) (u : Unit) => r = none) (fun (u : Unit) t => va_P D xcl [(x, .inr (0, [.ref L, .ref S, .ref C, .ref P, .int 0, .int 0]))] t.heap ∧ va_D (va_A [(x, .inr (0, [.ref L, .ref S, .ref C, .ref P, .int 0, .int 0]))] sz) [(x, .inr (0, [.ref L, .ref S, .ref C, .ref P, .int 0, .int 0]))]) (va_A [(x, .inr (0, [.ref L, .ref S, .ref C, .ref P, .int 0, .int 0]))] sz)) 0 0 (va_A [(x, .inr (0, [.ref L, .ref S, .ref C, .ref P, .int 0, .int 0]))] sz) := by
  refine Met.ofW (cc := xb_De_openLayer) (maxL := 3) (ret := (some (.object "LayerDesk$Layer"))) (by decide) rfl ?_
  intro p e s m args below meth c s₁ B hml hv
  obtain ⟨rfl, hsz, hP, hK, hD0⟩ := hv
  have hx := B.exec
  have hb := B.bytes
  have hr := B.returns
  have hT := x_hT B.pre
  have hown : s.vm.findClass xR_De = some m.cls := findClass_of_methodNamed B.named
  have hlocks := B.notSynchronized
  subst hsz
  have hD := hD0.self (sz := s.heap.size)
  generalize hAe : va_A [(x, .inr (0, [.ref L, .ref S, .ref C, .ref P, .int 0, .int 0]))] s.heap.size = A at hD ⊢
  have hA : ∀ q : Nat, s.heap.size ≤ q → A q := fun q h => by rw [← hAe]; exact Or.inr h
  have hS : va_S A s.heap s.heap [] := va_S.rf
  have hP : va_P D xcl [(x, .inr (0, [.ref L, .ref S, .ref C, .ref P, .int 0, .int 0]))] s.heap := hP
  have hl := lv_entry ([.ref x, .int n]) (n := 3) (Nat.le_of_ble_eq_true rfl)
  rw [lg_entry_eq]
  generalize (lg_sl ([.ref x, .int n]) ++ List.replicate (3 - (lg_sl ([.ref x, .int n])).length) Slot.unset).toArray = ls at hl ⊢
  have hl : lv_has ls 3 [(0, .ref x), (1, .int n)] := hl
  refine lv_iload_n hx hb xd_De_openLayer_0 rfl (lv_at hl 1 rfl) ?_
  refine lv_if_lt (tgt := 12) hx hb xd_De_openLayer_1 (by decide) (fun hc1 => ?_) (fun hc1 => ?_)
  · refine lv_null hx hb xd_De_openLayer_12 ?_
    have hP9 := hP.sub (ws' := [(x, .inr (0, [.ref L, .ref S, .ref C, .ref P, .int 0, .int 0]))]) [0] rfl
    have hD9 := hD.sub (ws' := [(x, .inr (0, [.ref L, .ref S, .ref C, .ref P, .int 0, .int 0]))]) [0] (by decide) rfl
    refine W.widen (k := 0) (n := 0) (Nat.le_of_ble_eq_true rfl) (Nat.le_of_ble_eq_true rfl) ?_
    exact W.aret (v := .null) hx hb hr (Or.inl ⟨_, rfl⟩) (Or.inl rfl) (fun t ht hW => ⟨⟨none, (), rfl, rfl, by rw [ht]; exact hP9, hD9⟩, hS.F ht⟩) hS.2.2 xd_De_openLayer_13
  · refine lv_iload_n hx hb xd_De_openLayer_4 rfl (lv_at hl 1 rfl) ?_
    refine lv_aload_n hx hb xd_De_openLayer_5 rfl (lv_at hl 0 rfl) ?_
    refine va_get (D := D) (ci := 0) (v := .int 0) (C := xR_De) (T := xT_De) (N := 6) hx hb hT xi_De hown hK.1 hP 0 rfl rfl 4 (by decide) (hT _ xk_43) (fun _ h9 => h9) rfl xd_De_openLayer_6 ?_
    refine lv_icmp_lt (tgt := 14) hx hb xd_De_openLayer_9 (by decide) (fun hc => absurd hc hc1) (fun _ => ?_)
    refine lv_null hx hb xd_De_openLayer_12 ?_
    have hP9 := hP.sub (ws' := [(x, .inr (0, [.ref L, .ref S, .ref C, .ref P, .int 0, .int 0]))]) [0] rfl
    have hD9 := hD.sub (ws' := [(x, .inr (0, [.ref L, .ref S, .ref C, .ref P, .int 0, .int 0]))]) [0] (by decide) rfl
    refine W.widen (k := 0) (n := 0) (Nat.le_of_ble_eq_true rfl) (Nat.le_of_ble_eq_true rfl) ?_
    exact W.aret (v := .null) hx hb hr (Or.inl ⟨_, rfl⟩) (Or.inl rfl) (fun t ht hW => ⟨⟨none, (), rfl, rfl, by rw [ht]; exact hP9, hD9⟩, hS.F ht⟩) hS.2.2 xd_De_openLayer_13
set_option maxHeartbeats 4000000 in
set_option maxRecDepth 100000 in
theorem xc_De_close (l : Launch) (D : va_G) (kA : Nat → ClassId) (sz : Nat) (x : Nat) (L : Nat) (S : Nat) (C : Nat) (P : Nat) (n : Int32) : Met l xy_De_close (.code xy_De_close xb_De_close 3 (some .boolean) :: wT) { frames := 1, cells := 0, slots := 0, locals := 22 } (va_Pc [.ref x, .int n] (xPre D kA sz [(x, .inr (0, [.ref L, .ref S, .ref C, .ref P, .int 0, .int 0]))])) (va_Qi (fun (r : Int32) (u : Unit) => r = 0) (fun (u : Unit) t => va_P D xcl [(x, .inr (0, [.ref L, .ref S, .ref C, .ref P, .int 0, .int 0]))] t.heap ∧ va_D (va_A [(x, .inr (0, [.ref L, .ref S, .ref C, .ref P, .int 0, .int 0]))] sz) [(x, .inr (0, [.ref L, .ref S, .ref C, .ref P, .int 0, .int 0]))]) (va_A [(x, .inr (0, [.ref L, .ref S, .ref C, .ref P, .int 0, .int 0]))] sz)) 0 0 (va_A [(x, .inr (0, [.ref L, .ref S, .ref C, .ref P, .int 0, .int 0]))] sz) := by
  refine Met.ofW (cc := xb_De_close) (maxL := 3) (ret := (some .boolean)) (by decide) rfl ?_
  intro p e s m args below meth c s₁ B hml hv
  obtain ⟨rfl, hsz, hP, hK, hD0⟩ := hv
  have hx := B.exec
  have hb := B.bytes
  have hr := B.returns
  have hT := x_hT B.pre
  have hown : s.vm.findClass xR_De = some m.cls := findClass_of_methodNamed B.named
  have hlocks := B.notSynchronized
  subst hsz
  have hD := hD0.self (sz := s.heap.size)
  generalize hAe : va_A [(x, .inr (0, [.ref L, .ref S, .ref C, .ref P, .int 0, .int 0]))] s.heap.size = A at hD ⊢
  have hA : ∀ q : Nat, s.heap.size ≤ q → A q := fun q h => by rw [← hAe]; exact Or.inr h
  have hS : va_S A s.heap s.heap [] := va_S.rf
  have hP : va_P D xcl [(x, .inr (0, [.ref L, .ref S, .ref C, .ref P, .int 0, .int 0]))] s.heap := hP
  have hl := lv_entry ([.ref x, .int n]) (n := 3) (Nat.le_of_ble_eq_true rfl)
  rw [lg_entry_eq]
  generalize (lg_sl ([.ref x, .int n]) ++ List.replicate (3 - (lg_sl ([.ref x, .int n])).length) Slot.unset).toArray = ls at hl ⊢
  have hl : lv_has ls 3 [(0, .ref x), (1, .int n)] := hl
  refine lv_aload_n hx hb xd_De_close_0 rfl (lv_at hl 0 rfl) ?_
  refine lv_iload_n hx hb xd_De_close_1 rfl (lv_at hl 1 rfl) ?_
  have hPc := hP.sub (ws' := [(x, .inr (0, [.ref L, .ref S, .ref C, .ref P, .int 0, .int 0]))]) [0] rfl
  have hDc := hD.sub (ws' := [(x, .inr (0, [.ref L, .ref S, .ref C, .ref P, .int 0, .int 0]))]) [0] (by decide) rfl
  have hFc := va_free (wc := [(x, .inr (0, [.ref L, .ref S, .ref C, .ref P, .int 0, .int 0]))]) hD hS hA [0] rfl
  have hkc : 0 + 0 ≤ 0 := Nat.le_of_ble_eq_true rfl
  have hks : 0 + 0 ≤ 0 := Nat.le_of_ble_eq_true rfl
  refine va_callq (va_runV (As := [.int n]) (rest := []) ⟨hx, hb, hml, hown, hT⟩ (xc_De_openLayer l D kA s.heap.size x L S C P n) (cwV 1 hT (wT_V xk_87 xk_88 xk_89 xk_90 xk_86) rfl rfl rfl (by decide +kernel) ⟨Nat.le_of_ble_eq_true rfl, Nat.le_of_ble_eq_true rfl⟩) (x_preV hK hPc hDc 0 rfl rfl) rfl rfl hl.1 rfl (lv_room (Nat.le_of_ble_eq_true rfl)) xd_De_close_2 ⟨hkc, hks⟩) hS (fun q _ h => hFc q h) hFc (fun r u t H1 locs ht hvm hpost hB hz1 hk1 hS => ?_)
  subst hpost
  obtain ⟨hP1, hD1⟩ := hB
  rw [ht] at hP1
  obtain ⟨hP, hD⟩ := va_join (wr := []) (w1 := [(x, .inr (0, [.ref L, .ref S, .ref C, .ref P, .int 0, .int 0]))]) hP hD [0] [] rfl rfl (by decide) (by decide) hk1 hFc hP1 hD1
  generalize H1 = H at hP hS ⊢
  have hP : va_P D xcl [(x, .inr (0, [.ref L, .ref S, .ref C, .ref P, .int 0, .int 0]))] H := hP
  have hD : va_D A [(x, .inr (0, [.ref L, .ref S, .ref C, .ref P, .int 0, .int 0]))] := hD
  refine lv_astore_nN hx hb xd_De_close_5 rfl hl (Nat.le_of_ble_eq_true rfl) rfl (fun ls hl => ?_)
  have hl : lv_has ls 3 [(2, .null), (0, .ref x), (1, .int n)] := hl
  refine lv_aload_nN hx hb xd_De_close_6 rfl (lv_at hl 0 rfl) ?_
  refine lv_ifnullN (tgt := 18) hx hb xd_De_close_7 (by decide) ?_
  refine lv_iconst (v := 0) hx hb xd_De_close_18 (by decide) ?_
  have hP9 := hP.sub (ws' := [(x, .inr (0, [.ref L, .ref S, .ref C, .ref P, .int 0, .int 0]))]) [0] rfl
  have hD9 := hD.sub (ws' := [(x, .inr (0, [.ref L, .ref S, .ref C, .ref P, .int 0, .int 0]))]) [0] (by decide) rfl
  refine W.widen (k := 0) (n := 0) (Nat.le_of_ble_eq_true rfl) (Nat.le_of_ble_eq_true rfl) ?_
  exact W.zret (v := 0) hx hb hr rfl (fun t ht hW => ⟨⟨0, (), rfl, rfl, by rw [ht]; exact hP9, hD9⟩, hS.F ht⟩) hS.2.2 xd_De_close_19
set_option maxHeartbeats 4000000 in
set_option maxRecDepth 100000 in
theorem xc_De_countOpen (l : Launch) (D : va_G) (kA : Nat → ClassId) (sz : Nat) (x : Nat) (L : Nat) (S : Nat) (C : Nat) (P : Nat) : Met l xy_De_countOpen (.code xy_De_countOpen xb_De_countOpen 3 (some .int) :: wT) { frames := 0, cells := 0, slots := 0, locals := 0 } (va_Pc [.ref x] (xPre D kA sz [(x, .inr (0, [.ref L, .ref S, .ref C, .ref P, .int 0, .int 0]))])) (va_Qi (fun (r : Int32) (u : Unit) => r = 0) (fun (u : Unit) t => va_P D xcl [(x, .inr (0, [.ref L, .ref S, .ref C, .ref P, .int 0, .int 0]))] t.heap ∧ va_D (va_A [(x, .inr (0, [.ref L, .ref S, .ref C, .ref P, .int 0, .int 0]))] sz) [(x, .inr (0, [.ref L, .ref S, .ref C, .ref P, .int 0, .int 0]))]) (va_A [(x, .inr (0, [.ref L, .ref S, .ref C, .ref P, .int 0, .int 0]))] sz)) 0 0 (va_A [(x, .inr (0, [.ref L, .ref S, .ref C, .ref P, .int 0, .int 0]))] sz) := by
  refine Met.ofW (cc := xb_De_countOpen) (maxL := 3) (ret := (some .int)) (by decide) rfl ?_
  intro p e s m args below meth c s₁ B hml hv
  obtain ⟨rfl, hsz, hP, hK, hD0⟩ := hv
  have hx := B.exec
  have hb := B.bytes
  have hr := B.returns
  have hT := x_hT B.pre
  have hown : s.vm.findClass xR_De = some m.cls := findClass_of_methodNamed B.named
  have hlocks := B.notSynchronized
  subst hsz
  have hD := hD0.self (sz := s.heap.size)
  generalize hAe : va_A [(x, .inr (0, [.ref L, .ref S, .ref C, .ref P, .int 0, .int 0]))] s.heap.size = A at hD ⊢
  have hA : ∀ q : Nat, s.heap.size ≤ q → A q := fun q h => by rw [← hAe]; exact Or.inr h
  have hS : va_S A s.heap s.heap [] := va_S.rf
  have hP : va_P D xcl [(x, .inr (0, [.ref L, .ref S, .ref C, .ref P, .int 0, .int 0]))] s.heap := hP
  have hl := lv_entry ([.ref x]) (n := 3) (Nat.le_of_ble_eq_true rfl)
  rw [lg_entry_eq]
  generalize (lg_sl ([.ref x]) ++ List.replicate (3 - (lg_sl ([.ref x])).length) Slot.unset).toArray = ls at hl ⊢
  have hl : lv_has ls 3 [(0, .ref x)] := hl
  refine lv_iconst (v := 0) hx hb xd_De_countOpen_0 (by decide) ?_
  refine lv_istore_n hx hb xd_De_countOpen_1 rfl hl (Nat.le_of_ble_eq_true rfl) rfl (fun ls hl => ?_)
  have hl : lv_has ls 3 [(1, .int 0), (0, .ref x)] := hl
  refine lv_iconst (v := 0) hx hb xd_De_countOpen_2 (by decide) ?_
  refine lv_istore_n hx hb xd_De_countOpen_3 rfl hl (Nat.le_of_ble_eq_true rfl) rfl (fun ls hl => ?_)
  have hl : lv_has ls 3 [(2, .int 0), (1, .int 0), (0, .ref x)] := hl
  refine lv_iload_n hx hb xd_De_countOpen_4 rfl (lv_at hl 0 rfl) ?_
  refine lv_aload_n hx hb xd_De_countOpen_5 rfl (lv_at hl 2 rfl) ?_
  refine va_get (D := D) (ci := 0) (v := .int 0) (C := xR_De) (T := xT_De) (N := 6) hx hb hT xi_De hown hK.1 hP 0 rfl rfl 4 (by decide) (hT _ xk_43) (fun _ h9 => h9) rfl xd_De_countOpen_6 ?_
  refine lv_icmp_ge (tgt := 29) hx hb xd_De_countOpen_9 (by decide) (fun _ => ?_) (fun hc => absurd (by decide) hc)
  refine lv_iload_n hx hb xd_De_countOpen_29 rfl (lv_at hl 1 rfl) ?_
  have hP9 := hP.sub (ws' := [(x, .inr (0, [.ref L, .ref S, .ref C, .ref P, .int 0, .int 0]))]) [0] rfl
  have hD9 := hD.sub (ws' := [(x, .inr (0, [.ref L, .ref S, .ref C, .ref P, .int 0, .int 0]))]) [0] (by decide) rfl
  refine W.widen (k := 0) (n := 0) (Nat.le_of_ble_eq_true rfl) (Nat.le_of_ble_eq_true rfl) ?_
  exact W.iret (v := 0) hx hb hr (fun t ht hW => ⟨⟨0, (), rfl, rfl, by rw [ht]; exact hP9, hD9⟩, hS.F ht⟩) hS.2.2 xd_De_countOpen_30
set_option maxHeartbeats 4000000 in
set_option maxRecDepth 100000 in
theorem xc_De_count (l : Launch) (D : va_G) (kA : Nat → ClassId) (sz : Nat) (x : Nat) (L : Nat) (S : Nat) (C : Nat) (P : Nat) (d1 : Nat) (n : Int32) : Met l xy_De_count (.code xy_De_count xb_De_count 2 (some .int) :: wT) { frames := 1, cells := 0, slots := 0, locals := 22 } (va_Pc [.ref x, .int n] (xPre D kA sz [(x, .inr (0, [.ref L, .ref S, .ref C, .ref P, .int 0, .int 0])), (S, .inr (2, [.ref d1, .int 0]))])) (va_Qi (fun (r : Int32) (u : Unit) => r = (if n = 0 then 0 else if n = 1 then 0 else if n = 2 then 0 else -1)) (fun (u : Unit) t => va_P D xcl [(x, .inr (0, [.ref L, .ref S, .ref C, .ref P, .int 0, .int 0])), (S, .inr (2, [.ref d1, .int 0]))] t.heap ∧ va_D (va_A [(x, .inr (0, [.ref L, .ref S, .ref C, .ref P, .int 0, .int 0])), (S, .inr (2, [.ref d1, .int 0]))] sz) [(x, .inr (0, [.ref L, .ref S, .ref C, .ref P, .int 0, .int 0])), (S, .inr (2, [.ref d1, .int 0]))]) (va_A [(x, .inr (0, [.ref L, .ref S, .ref C, .ref P, .int 0, .int 0])), (S, .inr (2, [.ref d1, .int 0]))] sz)) 0 0 (va_A [(x, .inr (0, [.ref L, .ref S, .ref C, .ref P, .int 0, .int 0])), (S, .inr (2, [.ref d1, .int 0]))] sz) := by
  refine Met.ofW (cc := xb_De_count) (maxL := 2) (ret := (some .int)) (by decide) rfl ?_
  intro p e s m args below meth c s₁ B hml hv
  obtain ⟨rfl, hsz, hP, hK, hD0⟩ := hv
  have hx := B.exec
  have hb := B.bytes
  have hr := B.returns
  have hT := x_hT B.pre
  have hown : s.vm.findClass xR_De = some m.cls := findClass_of_methodNamed B.named
  have hlocks := B.notSynchronized
  subst hsz
  have hD := hD0.self (sz := s.heap.size)
  generalize hAe : va_A [(x, .inr (0, [.ref L, .ref S, .ref C, .ref P, .int 0, .int 0])), (S, .inr (2, [.ref d1, .int 0]))] s.heap.size = A at hD ⊢
  have hA : ∀ q : Nat, s.heap.size ≤ q → A q := fun q h => by rw [← hAe]; exact Or.inr h
  have hS : va_S A s.heap s.heap [] := va_S.rf
  have hP : va_P D xcl [(x, .inr (0, [.ref L, .ref S, .ref C, .ref P, .int 0, .int 0])), (S, .inr (2, [.ref d1, .int 0]))] s.heap := hP
  have hl := lv_entry ([.ref x, .int n]) (n := 2) (Nat.le_of_ble_eq_true rfl)
  rw [lg_entry_eq]
  generalize (lg_sl ([.ref x, .int n]) ++ List.replicate (2 - (lg_sl ([.ref x, .int n])).length) Slot.unset).toArray = ls at hl ⊢
  have hl : lv_has ls 2 [(0, .ref x), (1, .int n)] := hl
  refine lv_iload_n hx hb xd_De_count_0 rfl (lv_at hl 1 rfl) ?_
  by_cases hw1 : n = 0
  · refine lv_tableIn (off := 27) (tgt := 28) hx hb xd_De_count_1 (by rw [hw1]; decide) (by rw [hw1]; decide) (by rw [hw1]; rfl) (by decide) ?_
    refine lv_aload_n hx hb xd_De_count_28 rfl (lv_at hl 0 rfl) ?_
    refine va_get (D := D) (ci := 0) (v := .ref S) (C := xR_De) (T := xT_De) (N := 6) hx hb hT xi_De hown hK.1 hP 0 rfl rfl 1 (by decide) (hT _ xk_33) (fun _ h9 => h9) rfl xd_De_count_29 ?_
    refine va_get (D := D) (ci := 2) (v := .int 0) (C := xR_Sh) (T := xT_Sh) (N := 2) hx hb hT xi_Sh hown hK.1 hP 1 rfl rfl 1 (by decide) (hT _ xk_91) (fun _ h9 => h9) rfl xd_De_count_32 ?_
    have hP9 := hP.sub (ws' := [(x, .inr (0, [.ref L, .ref S, .ref C, .ref P, .int 0, .int 0])), (S, .inr (2, [.ref d1, .int 0]))]) [0, 1] rfl
    have hD9 := hD.sub (ws' := [(x, .inr (0, [.ref L, .ref S, .ref C, .ref P, .int 0, .int 0])), (S, .inr (2, [.ref d1, .int 0]))]) [0, 1] (by decide) rfl
    refine W.widen (k := 0) (n := 0) (Nat.le_of_ble_eq_true rfl) (Nat.le_of_ble_eq_true rfl) ?_
    exact W.iret (v := 0) hx hb hr (fun t ht hW => ⟨⟨0, (), rfl, by simp [hw1], by rw [ht]; exact hP9, hD9⟩, hS.F ht⟩) hS.2.2 xd_De_count_35
  by_cases hw2 : n = 1
  · refine lv_tableIn (off := 35) (tgt := 36) hx hb xd_De_count_1 (by rw [hw2]; decide) (by rw [hw2]; decide) (by rw [hw2]; rfl) (by decide) ?_
    refine lv_aload_n hx hb xd_De_count_36 rfl (lv_at hl 0 rfl) ?_
    refine va_get (D := D) (ci := 0) (v := .int 0) (C := xR_De) (T := xT_De) (N := 6) hx hb hT xi_De hown hK.1 hP 0 rfl rfl 4 (by decide) (hT _ xk_43) (fun _ h9 => h9) rfl xd_De_count_37 ?_
    have hP9 := hP.sub (ws' := [(x, .inr (0, [.ref L, .ref S, .ref C, .ref P, .int 0, .int 0])), (S, .inr (2, [.ref d1, .int 0]))]) [0, 1] rfl
    have hD9 := hD.sub (ws' := [(x, .inr (0, [.ref L, .ref S, .ref C, .ref P, .int 0, .int 0])), (S, .inr (2, [.ref d1, .int 0]))]) [0, 1] (by decide) rfl
    refine W.widen (k := 0) (n := 0) (Nat.le_of_ble_eq_true rfl) (Nat.le_of_ble_eq_true rfl) ?_
    exact W.iret (v := 0) hx hb hr (fun t ht hW => ⟨⟨0, (), rfl, by simp [hw1, hw2], by rw [ht]; exact hP9, hD9⟩, hS.F ht⟩) hS.2.2 xd_De_count_40
  by_cases hw3 : n = 2
  · refine lv_tableIn (off := 40) (tgt := 41) hx hb xd_De_count_1 (by rw [hw3]; decide) (by rw [hw3]; decide) (by rw [hw3]; rfl) (by decide) ?_
    refine lv_aload_n hx hb xd_De_count_41 rfl (lv_at hl 0 rfl) ?_
    have hPc := hP.sub (ws' := [(x, .inr (0, [.ref L, .ref S, .ref C, .ref P, .int 0, .int 0]))]) [0] rfl
    have hDc := hD.sub (ws' := [(x, .inr (0, [.ref L, .ref S, .ref C, .ref P, .int 0, .int 0]))]) [0] (by decide) rfl
    have hFc := va_free (wc := [(x, .inr (0, [.ref L, .ref S, .ref C, .ref P, .int 0, .int 0]))]) hD hS hA [0] rfl
    have hkc : 0 + 0 ≤ 0 := Nat.le_of_ble_eq_true rfl
    have hks : 0 + 0 ≤ 0 := Nat.le_of_ble_eq_true rfl
    refine va_calli (va_runV (As := []) (rest := []) ⟨hx, hb, hml, hown, hT⟩ (xc_De_countOpen l D kA s.heap.size x L S C P) (cwV 0 hT (wT_V xk_93 xk_94 xk_95 xk_90 xk_92) rfl rfl rfl (by decide +kernel) ⟨Nat.le_of_ble_eq_true rfl, Nat.le_of_ble_eq_true rfl⟩) (x_preV hK hPc hDc 0 rfl rfl) rfl rfl hl.1 rfl (lv_room (Nat.le_of_ble_eq_true rfl)) xd_De_count_42 ⟨hkc, hks⟩) hS (fun q _ h => hFc q h) hFc (fun r u t H1 locs ht hvm hpost hB hz1 hk1 hS => ?_)
    have hpost : r = 0 := hpost
    subst hpost
    obtain ⟨hP1, hD1⟩ := hB
    rw [ht] at hP1
    obtain ⟨hP, hD⟩ := va_join (wr := [(S, .inr (2, [.ref d1, .int 0]))]) (w1 := [(x, .inr (0, [.ref L, .ref S, .ref C, .ref P, .int 0, .int 0]))]) hP hD [0] [1] rfl rfl (by decide) (by decide) hk1 hFc hP1 hD1
    generalize H1 = H at hP hS ⊢
    have hP : va_P D xcl [(S, .inr (2, [.ref d1, .int 0])), (x, .inr (0, [.ref L, .ref S, .ref C, .ref P, .int 0, .int 0]))] H := hP
    have hD : va_D A [(S, .inr (2, [.ref d1, .int 0])), (x, .inr (0, [.ref L, .ref S, .ref C, .ref P, .int 0, .int 0]))] := hD
    have hP9 := hP.sub (ws' := [(x, .inr (0, [.ref L, .ref S, .ref C, .ref P, .int 0, .int 0])), (S, .inr (2, [.ref d1, .int 0]))]) [1, 0] rfl
    have hD9 := hD.sub (ws' := [(x, .inr (0, [.ref L, .ref S, .ref C, .ref P, .int 0, .int 0])), (S, .inr (2, [.ref d1, .int 0]))]) [1, 0] (by decide) rfl
    refine W.widen (k := 0) (n := 0) (Nat.le_of_ble_eq_true rfl) (Nat.le_of_ble_eq_true rfl) ?_
    exact W.iret (v := 0) hx hb hr (fun t ht hW => ⟨⟨0, (), rfl, by simp [hw1, hw2, hw3], by rw [ht]; exact hP9, hD9⟩, hS.F ht⟩) hS.2.2 xd_De_count_45
  refine lv_tableOut (tgt := 46) hx hb xd_De_count_1 (by have a0 := lv_neT hw1 (show (0 : Int32).toInt = 0 by decide); have a1 := lv_neT hw2 (show (1 : Int32).toInt = 1 by decide); have a2 := lv_neT hw3 (show (2 : Int32).toInt = 2 by decide); omega) (by decide) ?_
  refine lv_iconst (v := (-1)) hx hb xd_De_count_46 (by decide) ?_
  have hP9 := hP.sub (ws' := [(x, .inr (0, [.ref L, .ref S, .ref C, .ref P, .int 0, .int 0])), (S, .inr (2, [.ref d1, .int 0]))]) [0, 1] rfl
  have hD9 := hD.sub (ws' := [(x, .inr (0, [.ref L, .ref S, .ref C, .ref P, .int 0, .int 0])), (S, .inr (2, [.ref d1, .int 0]))]) [0, 1] (by decide) rfl
  refine W.widen (k := 0) (n := 0) (Nat.le_of_ble_eq_true rfl) (Nat.le_of_ble_eq_true rfl) ?_
  exact W.iret (v := (-1)) hx hb hr (fun t ht hW => ⟨⟨(-1), (), rfl, by simp [hw1, hw2, hw3], by rw [ht]; exact hP9, hD9⟩, hS.F ht⟩) hS.2.2 xd_De_count_47
set_option maxHeartbeats 4000000 in
set_option maxRecDepth 100000 in
theorem xc_De_modules (l : Launch) (D : va_G) (kA : Nat → ClassId) (sz : Nat) (x : Nat) (L : Nat) (S : Nat) (C : Nat) (P : Nat) (n : Int32) : Met l xy_De_modules (.code xy_De_modules xb_De_modules 3 (some .int) :: wT) { frames := 1, cells := 0, slots := 0, locals := 22 } (va_Pc [.ref x, .int n] (xPre D kA sz [(x, .inr (0, [.ref L, .ref S, .ref C, .ref P, .int 0, .int 0]))])) (va_Qi (fun (r : Int32) (u : Unit) => r = (-1)) (fun (u : Unit) t => va_P D xcl [(x, .inr (0, [.ref L, .ref S, .ref C, .ref P, .int 0, .int 0]))] t.heap ∧ va_D (va_A [(x, .inr (0, [.ref L, .ref S, .ref C, .ref P, .int 0, .int 0]))] sz) [(x, .inr (0, [.ref L, .ref S, .ref C, .ref P, .int 0, .int 0]))]) (va_A [(x, .inr (0, [.ref L, .ref S, .ref C, .ref P, .int 0, .int 0]))] sz)) 0 0 (va_A [(x, .inr (0, [.ref L, .ref S, .ref C, .ref P, .int 0, .int 0]))] sz) := by
  refine Met.ofW (cc := xb_De_modules) (maxL := 3) (ret := (some .int)) (by decide) rfl ?_
  intro p e s m args below meth c s₁ B hml hv
  obtain ⟨rfl, hsz, hP, hK, hD0⟩ := hv
  have hx := B.exec
  have hb := B.bytes
  have hr := B.returns
  have hT := x_hT B.pre
  have hown : s.vm.findClass xR_De = some m.cls := findClass_of_methodNamed B.named
  have hlocks := B.notSynchronized
  subst hsz
  have hD := hD0.self (sz := s.heap.size)
  generalize hAe : va_A [(x, .inr (0, [.ref L, .ref S, .ref C, .ref P, .int 0, .int 0]))] s.heap.size = A at hD ⊢
  have hA : ∀ q : Nat, s.heap.size ≤ q → A q := fun q h => by rw [← hAe]; exact Or.inr h
  have hS : va_S A s.heap s.heap [] := va_S.rf
  have hP : va_P D xcl [(x, .inr (0, [.ref L, .ref S, .ref C, .ref P, .int 0, .int 0]))] s.heap := hP
  have hl := lv_entry ([.ref x, .int n]) (n := 3) (Nat.le_of_ble_eq_true rfl)
  rw [lg_entry_eq]
  generalize (lg_sl ([.ref x, .int n]) ++ List.replicate (3 - (lg_sl ([.ref x, .int n])).length) Slot.unset).toArray = ls at hl ⊢
  have hl : lv_has ls 3 [(0, .ref x), (1, .int n)] := hl
  refine lv_aload_n hx hb xd_De_modules_0 rfl (lv_at hl 0 rfl) ?_
  refine lv_iload_n hx hb xd_De_modules_1 rfl (lv_at hl 1 rfl) ?_
  have hPc := hP.sub (ws' := [(x, .inr (0, [.ref L, .ref S, .ref C, .ref P, .int 0, .int 0]))]) [0] rfl
  have hDc := hD.sub (ws' := [(x, .inr (0, [.ref L, .ref S, .ref C, .ref P, .int 0, .int 0]))]) [0] (by decide) rfl
  have hFc := va_free (wc := [(x, .inr (0, [.ref L, .ref S, .ref C, .ref P, .int 0, .int 0]))]) hD hS hA [0] rfl
  have hkc : 0 + 0 ≤ 0 := Nat.le_of_ble_eq_true rfl
  have hks : 0 + 0 ≤ 0 := Nat.le_of_ble_eq_true rfl
  refine va_callq (va_runV (As := [.int n]) (rest := []) ⟨hx, hb, hml, hown, hT⟩ (xc_De_openLayer l D kA s.heap.size x L S C P n) (cwV 1 hT (wT_V xk_87 xk_88 xk_89 xk_90 xk_86) rfl rfl rfl (by decide +kernel) ⟨Nat.le_of_ble_eq_true rfl, Nat.le_of_ble_eq_true rfl⟩) (x_preV hK hPc hDc 0 rfl rfl) rfl rfl hl.1 rfl (lv_room (Nat.le_of_ble_eq_true rfl)) xd_De_modules_2 ⟨hkc, hks⟩) hS (fun q _ h => hFc q h) hFc (fun r u t H1 locs ht hvm hpost hB hz1 hk1 hS => ?_)
  subst hpost
  obtain ⟨hP1, hD1⟩ := hB
  rw [ht] at hP1
  obtain ⟨hP, hD⟩ := va_join (wr := []) (w1 := [(x, .inr (0, [.ref L, .ref S, .ref C, .ref P, .int 0, .int 0]))]) hP hD [0] [] rfl rfl (by decide) (by decide) hk1 hFc hP1 hD1
  generalize H1 = H at hP hS ⊢
  have hP : va_P D xcl [(x, .inr (0, [.ref L, .ref S, .ref C, .ref P, .int 0, .int 0]))] H := hP
  have hD : va_D A [(x, .inr (0, [.ref L, .ref S, .ref C, .ref P, .int 0, .int 0]))] := hD
  refine lv_astore_nN hx hb xd_De_modules_5 rfl hl (Nat.le_of_ble_eq_true rfl) rfl (fun ls hl => ?_)
  have hl : lv_has ls 3 [(2, .null), (0, .ref x), (1, .int n)] := hl
  refine lv_aload_nN hx hb xd_De_modules_6 rfl (lv_at hl 0 rfl) ?_
  refine lv_ifnonnullN hx hb xd_De_modules_7 ?_
  refine lv_iconst (v := (-1)) hx hb xd_De_modules_10 (by decide) ?_
  refine lv_goto (tgt := 19) hx hb xd_De_modules_11 (by decide) ?_
  have hP9 := hP.sub (ws' := [(x, .inr (0, [.ref L, .ref S, .ref C, .ref P, .int 0, .int 0]))]) [0] rfl
  have hD9 := hD.sub (ws' := [(x, .inr (0, [.ref L, .ref S, .ref C, .ref P, .int 0, .int 0]))]) [0] (by decide) rfl
  refine W.widen (k := 0) (n := 0) (Nat.le_of_ble_eq_true rfl) (Nat.le_of_ble_eq_true rfl) ?_
  exact W.iret (v := (-1)) hx hb hr (fun t ht hW => ⟨⟨(-1), (), rfl, rfl, by rw [ht]; exact hP9, hD9⟩, hS.F ht⟩) hS.2.2 xd_De_modules_19
set_option maxHeartbeats 4000000 in
set_option maxRecDepth 100000 in
theorem xc_De_memberAt (l : Launch) (D : va_G) (kA : Nat → ClassId) (sz : Nat) (x : Nat) (L : Nat) (S : Nat) (C : Nat) (P : Nat) (n : Int32) (k : Int32) : Met l xy_De_memberAt (.code xy_De_memberAt xb_De_memberAt 4 (some (.object "LayerDesk$Member")) :: wT) { frames := 1, cells := 0, slots := 0, locals := 22 } (va_Pc [.ref x, .int n, .int k] (xPre D kA sz [(x, .inr (0, [.ref L, .ref S, .ref C, .ref P, .int 0, .int 0]))])) (va_Qq (fun (r : Option Nat) (u : Unit) => r = none) (fun (u : Unit) t => va_P D xcl [(x, .inr (0, [.ref L, .ref S, .ref C, .ref P, .int 0, .int 0]))] t.heap ∧ va_D (va_A [(x, .inr (0, [.ref L, .ref S, .ref C, .ref P, .int 0, .int 0]))] sz) [(x, .inr (0, [.ref L, .ref S, .ref C, .ref P, .int 0, .int 0]))]) (va_A [(x, .inr (0, [.ref L, .ref S, .ref C, .ref P, .int 0, .int 0]))] sz)) 0 0 (va_A [(x, .inr (0, [.ref L, .ref S, .ref C, .ref P, .int 0, .int 0]))] sz) := by
  refine Met.ofW (cc := xb_De_memberAt) (maxL := 4) (ret := (some (.object "LayerDesk$Member"))) (by decide) rfl ?_
  intro p e s m args below meth c s₁ B hml hv
  obtain ⟨rfl, hsz, hP, hK, hD0⟩ := hv
  have hx := B.exec
  have hb := B.bytes
  have hr := B.returns
  have hT := x_hT B.pre
  have hown : s.vm.findClass xR_De = some m.cls := findClass_of_methodNamed B.named
  have hlocks := B.notSynchronized
  subst hsz
  have hD := hD0.self (sz := s.heap.size)
  generalize hAe : va_A [(x, .inr (0, [.ref L, .ref S, .ref C, .ref P, .int 0, .int 0]))] s.heap.size = A at hD ⊢
  have hA : ∀ q : Nat, s.heap.size ≤ q → A q := fun q h => by rw [← hAe]; exact Or.inr h
  have hS : va_S A s.heap s.heap [] := va_S.rf
  have hP : va_P D xcl [(x, .inr (0, [.ref L, .ref S, .ref C, .ref P, .int 0, .int 0]))] s.heap := hP
  have hl := lv_entry ([.ref x, .int n, .int k]) (n := 4) (Nat.le_of_ble_eq_true rfl)
  rw [lg_entry_eq]
  generalize (lg_sl ([.ref x, .int n, .int k]) ++ List.replicate (4 - (lg_sl ([.ref x, .int n, .int k])).length) Slot.unset).toArray = ls at hl ⊢
  have hl : lv_has ls 4 [(0, .ref x), (1, .int n), (2, .int k)] := hl
  refine lv_aload_n hx hb xd_De_memberAt_0 rfl (lv_at hl 0 rfl) ?_
  refine lv_iload_n hx hb xd_De_memberAt_1 rfl (lv_at hl 1 rfl) ?_
  have hPc := hP.sub (ws' := [(x, .inr (0, [.ref L, .ref S, .ref C, .ref P, .int 0, .int 0]))]) [0] rfl
  have hDc := hD.sub (ws' := [(x, .inr (0, [.ref L, .ref S, .ref C, .ref P, .int 0, .int 0]))]) [0] (by decide) rfl
  have hFc := va_free (wc := [(x, .inr (0, [.ref L, .ref S, .ref C, .ref P, .int 0, .int 0]))]) hD hS hA [0] rfl
  have hkc : 0 + 0 ≤ 0 := Nat.le_of_ble_eq_true rfl
  have hks : 0 + 0 ≤ 0 := Nat.le_of_ble_eq_true rfl
  refine va_callq (va_runV (As := [.int n]) (rest := []) ⟨hx, hb, hml, hown, hT⟩ (xc_De_openLayer l D kA s.heap.size x L S C P n) (cwV 1 hT (wT_V xk_87 xk_88 xk_89 xk_90 xk_86) rfl rfl rfl (by decide +kernel) ⟨Nat.le_of_ble_eq_true rfl, Nat.le_of_ble_eq_true rfl⟩) (x_preV hK hPc hDc 0 rfl rfl) rfl rfl hl.1 rfl (lv_room (Nat.le_of_ble_eq_true rfl)) xd_De_memberAt_2 ⟨hkc, hks⟩) hS (fun q _ h => hFc q h) hFc (fun r u t H1 locs ht hvm hpost hB hz1 hk1 hS => ?_)
  subst hpost
  obtain ⟨hP1, hD1⟩ := hB
  rw [ht] at hP1
  obtain ⟨hP, hD⟩ := va_join (wr := []) (w1 := [(x, .inr (0, [.ref L, .ref S, .ref C, .ref P, .int 0, .int 0]))]) hP hD [0] [] rfl rfl (by decide) (by decide) hk1 hFc hP1 hD1
  generalize H1 = H at hP hS ⊢
  have hP : va_P D xcl [(x, .inr (0, [.ref L, .ref S, .ref C, .ref P, .int 0, .int 0]))] H := hP
  have hD : va_D A [(x, .inr (0, [.ref L, .ref S, .ref C, .ref P, .int 0, .int 0]))] := hD
  refine lv_astore_nN hx hb xd_De_memberAt_5 rfl hl (Nat.le_of_ble_eq_true rfl) rfl (fun ls hl => ?_)
  have hl : lv_has ls 4 [(3, .null), (0, .ref x), (1, .int n), (2, .int k)] := hl
  refine lv_aload_nN hx hb xd_De_memberAt_6 rfl (lv_at hl 0 rfl) ?_
  refine lv_ifnullN (tgt := 23) hx hb xd_De_memberAt_7 (by decide) ?_
  refine lv_null hx hb xd_De_memberAt_23 ?_
  refine lv_goto (tgt := 33) hx hb xd_De_memberAt_24 (by decide) ?_
  have hP9 := hP.sub (ws' := [(x, .inr (0, [.ref L, .ref S, .ref C, .ref P, .int 0, .int 0]))]) [0] rfl
  have hD9 := hD.sub (ws' := [(x, .inr (0, [.ref L, .ref S, .ref C, .ref P, .int 0, .int 0]))]) [0] (by decide) rfl
  refine W.widen (k := 0) (n := 0) (Nat.le_of_ble_eq_true rfl) (Nat.le_of_ble_eq_true rfl) ?_
  exact W.aret (v := .null) hx hb hr (Or.inl ⟨_, rfl⟩) (Or.inl rfl) (fun t ht hW => ⟨⟨none, (), rfl, rfl, by rw [ht]; exact hP9, hD9⟩, hS.F ht⟩) hS.2.2 xd_De_memberAt_33
set_option maxHeartbeats 4000000 in
set_option maxRecDepth 100000 in
theorem xc_De_memberOf (l : Launch) (D : va_G) (kA : Nat → ClassId) (sz : Nat) (x : Nat) (L : Nat) (S : Nat) (C : Nat) (P : Nat) (n : Int32) (k : Int32) : Met l xy_De_memberOf (.code xy_De_memberOf xb_De_memberOf 4 (some (.object "LayerDesk$Member")) :: wT) { frames := 1, cells := 0, slots := 0, locals := 22 } (va_Pc [.ref x, .int n, .int k] (xPre D kA sz [(x, .inr (0, [.ref L, .ref S, .ref C, .ref P, .int 0, .int 0]))])) (va_Qq (fun (r : Option Nat) (u : Unit) => r = none) (fun (u : Unit) t => va_P D xcl [(x, .inr (0, [.ref L, .ref S, .ref C, .ref P, .int 0, .int 0]))] t.heap ∧ va_D (va_A [(x, .inr (0, [.ref L, .ref S, .ref C, .ref P, .int 0, .int 0]))] sz) [(x, .inr (0, [.ref L, .ref S, .ref C, .ref P, .int 0, .int 0]))]) (va_A [(x, .inr (0, [.ref L, .ref S, .ref C, .ref P, .int 0, .int 0]))] sz)) 0 0 (va_A [(x, .inr (0, [.ref L, .ref S, .ref C, .ref P, .int 0, .int 0]))] sz) := by
  refine Met.ofW (cc := xb_De_memberOf) (maxL := 4) (ret := (some (.object "LayerDesk$Member"))) (by decide) rfl ?_
  intro p e s m args below meth c s₁ B hml hv
  obtain ⟨rfl, hsz, hP, hK, hD0⟩ := hv
  have hx := B.exec
  have hb := B.bytes
  have hr := B.returns
  have hT := x_hT B.pre
  have hown : s.vm.findClass xR_De = some m.cls := findClass_of_methodNamed B.named
  have hlocks := B.notSynchronized
  subst hsz
  have hD := hD0.self (sz := s.heap.size)
  generalize hAe : va_A [(x, .inr (0, [.ref L, .ref S, .ref C, .ref P, .int 0, .int 0]))] s.heap.size = A at hD ⊢
  have hA : ∀ q : Nat, s.heap.size ≤ q → A q := fun q h => by rw [← hAe]; exact Or.inr h
  have hS : va_S A s.heap s.heap [] := va_S.rf
  have hP : va_P D xcl [(x, .inr (0, [.ref L, .ref S, .ref C, .ref P, .int 0, .int 0]))] s.heap := hP
  have hl := lv_entry ([.ref x, .int n, .int k]) (n := 4) (Nat.le_of_ble_eq_true rfl)
  rw [lg_entry_eq]
  generalize (lg_sl ([.ref x, .int n, .int k]) ++ List.replicate (4 - (lg_sl ([.ref x, .int n, .int k])).length) Slot.unset).toArray = ls at hl ⊢
  have hl : lv_has ls 4 [(0, .ref x), (1, .int n), (2, .int k)] := hl
  refine lv_aload_n hx hb xd_De_memberOf_0 rfl (lv_at hl 0 rfl) ?_
  refine lv_iload_n hx hb xd_De_memberOf_1 rfl (lv_at hl 1 rfl) ?_
  have hPc := hP.sub (ws' := [(x, .inr (0, [.ref L, .ref S, .ref C, .ref P, .int 0, .int 0]))]) [0] rfl
  have hDc := hD.sub (ws' := [(x, .inr (0, [.ref L, .ref S, .ref C, .ref P, .int 0, .int 0]))]) [0] (by decide) rfl
  have hFc := va_free (wc := [(x, .inr (0, [.ref L, .ref S, .ref C, .ref P, .int 0, .int 0]))]) hD hS hA [0] rfl
  have hkc : 0 + 0 ≤ 0 := Nat.le_of_ble_eq_true rfl
  have hks : 0 + 0 ≤ 0 := Nat.le_of_ble_eq_true rfl
  refine va_callq (va_runV (As := [.int n]) (rest := []) ⟨hx, hb, hml, hown, hT⟩ (xc_De_openLayer l D kA s.heap.size x L S C P n) (cwV 1 hT (wT_V xk_87 xk_88 xk_89 xk_90 xk_86) rfl rfl rfl (by decide +kernel) ⟨Nat.le_of_ble_eq_true rfl, Nat.le_of_ble_eq_true rfl⟩) (x_preV hK hPc hDc 0 rfl rfl) rfl rfl hl.1 rfl (lv_room (Nat.le_of_ble_eq_true rfl)) xd_De_memberOf_2 ⟨hkc, hks⟩) hS (fun q _ h => hFc q h) hFc (fun r u t H1 locs ht hvm hpost hB hz1 hk1 hS => ?_)
  subst hpost
  obtain ⟨hP1, hD1⟩ := hB
  rw [ht] at hP1
  obtain ⟨hP, hD⟩ := va_join (wr := []) (w1 := [(x, .inr (0, [.ref L, .ref S, .ref C, .ref P, .int 0, .int 0]))]) hP hD [0] [] rfl rfl (by decide) (by decide) hk1 hFc hP1 hD1
  generalize H1 = H at hP hS ⊢
  have hP : va_P D xcl [(x, .inr (0, [.ref L, .ref S, .ref C, .ref P, .int 0, .int 0]))] H := hP
  have hD : va_D A [(x, .inr (0, [.ref L, .ref S, .ref C, .ref P, .int 0, .int 0]))] := hD
  refine lv_astore_nN hx hb xd_De_memberOf_5 rfl hl (Nat.le_of_ble_eq_true rfl) rfl (fun ls hl => ?_)
  have hl : lv_has ls 4 [(3, .null), (0, .ref x), (1, .int n), (2, .int k)] := hl
  refine lv_aload_nN hx hb xd_De_memberOf_6 rfl (lv_at hl 0 rfl) ?_
  refine lv_ifnonnullN hx hb xd_De_memberOf_7 ?_
  refine lv_null hx hb xd_De_memberOf_10 ?_
  refine lv_goto (tgt := 19) hx hb xd_De_memberOf_11 (by decide) ?_
  have hP9 := hP.sub (ws' := [(x, .inr (0, [.ref L, .ref S, .ref C, .ref P, .int 0, .int 0]))]) [0] rfl
  have hD9 := hD.sub (ws' := [(x, .inr (0, [.ref L, .ref S, .ref C, .ref P, .int 0, .int 0]))]) [0] (by decide) rfl
  refine W.widen (k := 0) (n := 0) (Nat.le_of_ble_eq_true rfl) (Nat.le_of_ble_eq_true rfl) ?_
  exact W.aret (v := .null) hx hb hr (Or.inl ⟨_, rfl⟩) (Or.inl rfl) (fun t ht hW => ⟨⟨none, (), rfl, rfl, by rw [ht]; exact hP9, hD9⟩, hS.F ht⟩) hS.2.2 xd_De_memberOf_19
set_option maxHeartbeats 4000000 in
set_option maxRecDepth 100000 in
theorem xc_De_module (l : Launch) (D : va_G) (kA : Nat → ClassId) (sz : Nat) (x : Nat) (L : Nat) (S : Nat) (C : Nat) (P : Nat) (n : Int32) (k : Int32) : Met l xy_De_module (.code xy_De_module xb_De_module 4 (some .int) :: wT) { frames := 2, cells := 0, slots := 0, locals := 45 } (va_Pc [.ref x, .int n, .int k] (xPre D kA sz [(x, .inr (0, [.ref L, .ref S, .ref C, .ref P, .int 0, .int 0]))])) (va_Qi (fun (r : Int32) (u : Unit) => r = (-1)) (fun (u : Unit) t => va_P D xcl [(x, .inr (0, [.ref L, .ref S, .ref C, .ref P, .int 0, .int 0]))] t.heap ∧ va_D (va_A [(x, .inr (0, [.ref L, .ref S, .ref C, .ref P, .int 0, .int 0]))] sz) [(x, .inr (0, [.ref L, .ref S, .ref C, .ref P, .int 0, .int 0]))]) (va_A [(x, .inr (0, [.ref L, .ref S, .ref C, .ref P, .int 0, .int 0]))] sz)) 0 0 (va_A [(x, .inr (0, [.ref L, .ref S, .ref C, .ref P, .int 0, .int 0]))] sz) := by
  refine Met.ofW (cc := xb_De_module) (maxL := 4) (ret := (some .int)) (by decide) rfl ?_
  intro p e s m args below meth c s₁ B hml hv
  obtain ⟨rfl, hsz, hP, hK, hD0⟩ := hv
  have hx := B.exec
  have hb := B.bytes
  have hr := B.returns
  have hT := x_hT B.pre
  have hown : s.vm.findClass xR_De = some m.cls := findClass_of_methodNamed B.named
  have hlocks := B.notSynchronized
  subst hsz
  have hD := hD0.self (sz := s.heap.size)
  generalize hAe : va_A [(x, .inr (0, [.ref L, .ref S, .ref C, .ref P, .int 0, .int 0]))] s.heap.size = A at hD ⊢
  have hA : ∀ q : Nat, s.heap.size ≤ q → A q := fun q h => by rw [← hAe]; exact Or.inr h
  have hS : va_S A s.heap s.heap [] := va_S.rf
  have hP : va_P D xcl [(x, .inr (0, [.ref L, .ref S, .ref C, .ref P, .int 0, .int 0]))] s.heap := hP
  have hl := lv_entry ([.ref x, .int n, .int k]) (n := 4) (Nat.le_of_ble_eq_true rfl)
  rw [lg_entry_eq]
  generalize (lg_sl ([.ref x, .int n, .int k]) ++ List.replicate (4 - (lg_sl ([.ref x, .int n, .int k])).length) Slot.unset).toArray = ls at hl ⊢
  have hl : lv_has ls 4 [(0, .ref x), (1, .int n), (2, .int k)] := hl
  refine lv_aload_n hx hb xd_De_module_0 rfl (lv_at hl 0 rfl) ?_
  refine lv_iload_n hx hb xd_De_module_1 rfl (lv_at hl 1 rfl) ?_
  refine lv_iload_n hx hb xd_De_module_2 rfl (lv_at hl 2 rfl) ?_
  have hPc := hP.sub (ws' := [(x, .inr (0, [.ref L, .ref S, .ref C, .ref P, .int 0, .int 0]))]) [0] rfl
  have hDc := hD.sub (ws' := [(x, .inr (0, [.ref L, .ref S, .ref C, .ref P, .int 0, .int 0]))]) [0] (by decide) rfl
  have hFc := va_free (wc := [(x, .inr (0, [.ref L, .ref S, .ref C, .ref P, .int 0, .int 0]))]) hD hS hA [0] rfl
  have hkc : 0 + 0 ≤ 0 := Nat.le_of_ble_eq_true rfl
  have hks : 0 + 0 ≤ 0 := Nat.le_of_ble_eq_true rfl
  refine va_callq (va_runV (As := [.int n, .int k]) (rest := []) ⟨hx, hb, hml, hown, hT⟩ (xc_De_memberAt l D kA s.heap.size x L S C P n k) (cwV 2 hT (wT_V xk_97 xk_98 xk_99 xk_90 xk_96) rfl rfl rfl (by decide +kernel) ⟨Nat.le_of_ble_eq_true rfl, Nat.le_of_ble_eq_true rfl⟩) (x_preV hK hPc hDc 0 rfl rfl) rfl rfl hl.1 rfl (lv_room (Nat.le_of_ble_eq_true rfl)) xd_De_module_3 ⟨hkc, hks⟩) hS (fun q _ h => hFc q h) hFc (fun r u t H1 locs ht hvm hpost hB hz1 hk1 hS => ?_)
  subst hpost
  obtain ⟨hP1, hD1⟩ := hB
  rw [ht] at hP1
  obtain ⟨hP, hD⟩ := va_join (wr := []) (w1 := [(x, .inr (0, [.ref L, .ref S, .ref C, .ref P, .int 0, .int 0]))]) hP hD [0] [] rfl rfl (by decide) (by decide) hk1 hFc hP1 hD1
  generalize H1 = H at hP hS ⊢
  have hP : va_P D xcl [(x, .inr (0, [.ref L, .ref S, .ref C, .ref P, .int 0, .int 0]))] H := hP
  have hD : va_D A [(x, .inr (0, [.ref L, .ref S, .ref C, .ref P, .int 0, .int 0]))] := hD
  refine lv_astore_nN hx hb xd_De_module_6 rfl hl (Nat.le_of_ble_eq_true rfl) rfl (fun ls hl => ?_)
  have hl : lv_has ls 4 [(3, .null), (0, .ref x), (1, .int n), (2, .int k)] := hl
  refine lv_aload_nN hx hb xd_De_module_7 rfl (lv_at hl 0 rfl) ?_
  refine lv_ifnonnullN hx hb xd_De_module_8 ?_
  refine lv_iconst (v := (-1)) hx hb xd_De_module_11 (by decide) ?_
  refine lv_goto (tgt := 22) hx hb xd_De_module_12 (by decide) ?_
  have hP9 := hP.sub (ws' := [(x, .inr (0, [.ref L, .ref S, .ref C, .ref P, .int 0, .int 0]))]) [0] rfl
  have hD9 := hD.sub (ws' := [(x, .inr (0, [.ref L, .ref S, .ref C, .ref P, .int 0, .int 0]))]) [0] (by decide) rfl
  refine W.widen (k := 0) (n := 0) (Nat.le_of_ble_eq_true rfl) (Nat.le_of_ble_eq_true rfl) ?_
  exact W.iret (v := (-1)) hx hb hr (fun t ht hW => ⟨⟨(-1), (), rfl, rfl, by rw [ht]; exact hP9, hD9⟩, hS.F ht⟩) hS.2.2 xd_De_module_22
set_option maxHeartbeats 4000000 in
set_option maxRecDepth 100000 in
theorem xc_De_reads (l : Launch) (D : va_G) (kA : Nat → ClassId) (sz : Nat) (x : Nat) (L : Nat) (S : Nat) (C : Nat) (P : Nat) (n : Int32) (k : Int32) (n2 : Int32) (k2 : Int32) : Met l xy_De_reads (.code xy_De_reads xb_De_reads 7 (some .boolean) :: wT) { frames := 2, cells := 0, slots := 0, locals := 45 } (va_Pc [.ref x, .int n, .int k, .int n2, .int k2] (xPre D kA sz [(x, .inr (0, [.ref L, .ref S, .ref C, .ref P, .int 0, .int 0]))])) (va_Qi (fun (r : Int32) (u : Unit) => r = 0) (fun (u : Unit) t => va_P D xcl [(x, .inr (0, [.ref L, .ref S, .ref C, .ref P, .int 0, .int 0]))] t.heap ∧ va_D (va_A [(x, .inr (0, [.ref L, .ref S, .ref C, .ref P, .int 0, .int 0]))] sz) [(x, .inr (0, [.ref L, .ref S, .ref C, .ref P, .int 0, .int 0]))]) (va_A [(x, .inr (0, [.ref L, .ref S, .ref C, .ref P, .int 0, .int 0]))] sz)) 0 0 (va_A [(x, .inr (0, [.ref L, .ref S, .ref C, .ref P, .int 0, .int 0]))] sz) := by
  refine Met.ofW (cc := xb_De_reads) (maxL := 7) (ret := (some .boolean)) (by decide) rfl ?_
  intro p e s m args below meth c s₁ B hml hv
  obtain ⟨rfl, hsz, hP, hK, hD0⟩ := hv
  have hx := B.exec
  have hb := B.bytes
  have hr := B.returns
  have hT := x_hT B.pre
  have hown : s.vm.findClass xR_De = some m.cls := findClass_of_methodNamed B.named
  have hlocks := B.notSynchronized
  subst hsz
  have hD := hD0.self (sz := s.heap.size)
  generalize hAe : va_A [(x, .inr (0, [.ref L, .ref S, .ref C, .ref P, .int 0, .int 0]))] s.heap.size = A at hD ⊢
  have hA : ∀ q : Nat, s.heap.size ≤ q → A q := fun q h => by rw [← hAe]; exact Or.inr h
  have hS : va_S A s.heap s.heap [] := va_S.rf
  have hP : va_P D xcl [(x, .inr (0, [.ref L, .ref S, .ref C, .ref P, .int 0, .int 0]))] s.heap := hP
  have hl := lv_entry ([.ref x, .int n, .int k, .int n2, .int k2]) (n := 7) (Nat.le_of_ble_eq_true rfl)
  rw [lg_entry_eq]
  generalize (lg_sl ([.ref x, .int n, .int k, .int n2, .int k2]) ++ List.replicate (7 - (lg_sl ([.ref x, .int n, .int k, .int n2, .int k2])).length) Slot.unset).toArray = ls at hl ⊢
  have hl : lv_has ls 7 [(0, .ref x), (1, .int n), (2, .int k), (3, .int n2), (4, .int k2)] := hl
  refine lv_aload_n hx hb xd_De_reads_0 rfl (lv_at hl 0 rfl) ?_
  refine lv_iload_n hx hb xd_De_reads_1 rfl (lv_at hl 1 rfl) ?_
  refine lv_iload_n hx hb xd_De_reads_2 rfl (lv_at hl 2 rfl) ?_
  have hPc := hP.sub (ws' := [(x, .inr (0, [.ref L, .ref S, .ref C, .ref P, .int 0, .int 0]))]) [0] rfl
  have hDc := hD.sub (ws' := [(x, .inr (0, [.ref L, .ref S, .ref C, .ref P, .int 0, .int 0]))]) [0] (by decide) rfl
  have hFc := va_free (wc := [(x, .inr (0, [.ref L, .ref S, .ref C, .ref P, .int 0, .int 0]))]) hD hS hA [0] rfl
  have hkc : 0 + 0 ≤ 0 := Nat.le_of_ble_eq_true rfl
  have hks : 0 + 0 ≤ 0 := Nat.le_of_ble_eq_true rfl
  refine va_callq (va_runV (As := [.int n, .int k]) (rest := []) ⟨hx, hb, hml, hown, hT⟩ (xc_De_memberAt l D kA s.heap.size x L S C P n k) (cwV 2 hT (wT_V xk_97 xk_98 xk_99 xk_90 xk_96) rfl rfl rfl (by decide +kernel) ⟨Nat.le_of_ble_eq_true rfl, Nat.le_of_ble_eq_true rfl⟩) (x_preV hK hPc hDc 0 rfl rfl) rfl rfl hl.1 rfl (lv_room (Nat.le_of_ble_eq_true rfl)) xd_De_reads_3 ⟨hkc, hks⟩) hS (fun q _ h => hFc q h) hFc (fun r u t H1 locs ht hvm hpost hB hz1 hk1 hS => ?_)
  subst hpost
  obtain ⟨hP1, hD1⟩ := hB
  rw [ht] at hP1
  obtain ⟨hP, hD⟩ := va_join (wr := []) (w1 := [(x, .inr (0, [.ref L, .ref S, .ref C, .ref P, .int 0, .int 0]))]) hP hD [0] [] rfl rfl (by decide) (by decide) hk1 hFc hP1 hD1
  generalize H1 = H at hP hS ⊢
  have hP : va_P D xcl [(x, .inr (0, [.ref L, .ref S, .ref C, .ref P, .int 0, .int 0]))] H := hP
  have hD : va_D A [(x, .inr (0, [.ref L, .ref S, .ref C, .ref P, .int 0, .int 0]))] := hD
  refine lv_astoreN hx hb xd_De_reads_6 hl (Nat.le_of_ble_eq_true rfl) rfl (fun ls hl => ?_)
  have hl : lv_has ls 7 [(5, .null), (0, .ref x), (1, .int n), (2, .int k), (3, .int n2), (4, .int k2)] := hl
  refine lv_aload_n hx hb xd_De_reads_8 rfl (lv_at hl 1 rfl) ?_
  refine lv_iload_n hx hb xd_De_reads_9 rfl (lv_at hl 4 rfl) ?_
  refine lv_iload hx hb xd_De_reads_10 (lv_at hl 5 rfl) ?_
  have hPc := hP.sub (ws' := [(x, .inr (0, [.ref L, .ref S, .ref C, .ref P, .int 0, .int 0]))]) [0] rfl
  have hDc := hD.sub (ws' := [(x, .inr (0, [.ref L, .ref S, .ref C, .ref P, .int 0, .int 0]))]) [0] (by decide) rfl
  have hFc := va_free (wc := [(x, .inr (0, [.ref L, .ref S, .ref C, .ref P, .int 0, .int 0]))]) hD hS hA [0] rfl
  have hkc : 0 + 0 ≤ 0 := Nat.le_of_ble_eq_true rfl
  have hks : 0 + 0 ≤ 0 := Nat.le_of_ble_eq_true rfl
  refine va_callq (va_runV (As := [.int n2, .int k2]) (rest := []) ⟨hx, hb, hml, hown, hT⟩ (xc_De_memberOf l D kA H.size x L S C P n2 k2) (cwV 2 hT (wT_V xk_101 xk_102 xk_103 xk_90 xk_100) rfl rfl rfl (by decide +kernel) ⟨Nat.le_of_ble_eq_true rfl, Nat.le_of_ble_eq_true rfl⟩) (x_preV hK hPc hDc 0 rfl rfl) rfl rfl hl.1 rfl (lv_room (Nat.le_of_ble_eq_true rfl)) xd_De_reads_12 ⟨hkc, hks⟩) hS (fun q _ h => hFc q h) hFc (fun r u t H1 locs ht hvm hpost hB hz1 hk1 hS => ?_)
  subst hpost
  obtain ⟨hP1, hD1⟩ := hB
  rw [ht] at hP1
  obtain ⟨hP, hD⟩ := va_join (wr := []) (w1 := [(x, .inr (0, [.ref L, .ref S, .ref C, .ref P, .int 0, .int 0]))]) hP hD [0] [] rfl rfl (by decide) (by decide) hk1 hFc hP1 hD1
  generalize H1 = H at hP hS ⊢
  have hP : va_P D xcl [(x, .inr (0, [.ref L, .ref S, .ref C, .ref P, .int 0, .int 0]))] H := hP
  have hD : va_D A [(x, .inr (0, [.ref L, .ref S, .ref C, .ref P, .int 0, .int 0]))] := hD
  refine lv_astoreN hx hb xd_De_reads_15 hl (Nat.le_of_ble_eq_true rfl) rfl (fun ls hl => ?_)
  have hl : lv_has ls 7 [(6, .null), (5, .null), (0, .ref x), (1, .int n), (2, .int k), (3, .int n2), (4, .int k2)] := hl
  refine lv_aloadN hx hb xd_De_reads_17 (lv_at hl 1 rfl) ?_
  refine lv_ifnullN (tgt := 44) hx hb xd_De_reads_19 (by decide) ?_
  refine lv_iconst (v := 0) hx hb xd_De_reads_44 (by decide) ?_
  have hP9 := hP.sub (ws' := [(x, .inr (0, [.ref L, .ref S, .ref C, .ref P, .int 0, .int 0]))]) [0] rfl
  have hD9 := hD.sub (ws' := [(x, .inr (0, [.ref L, .ref S, .ref C, .ref P, .int 0, .int 0]))]) [0] (by decide) rfl
  refine W.widen (k := 0) (n := 0) (Nat.le_of_ble_eq_true rfl) (Nat.le_of_ble_eq_true rfl) ?_
  exact W.zret (v := 0) hx hb hr rfl (fun t ht hW => ⟨⟨0, (), rfl, rfl, by rw [ht]; exact hP9, hD9⟩, hS.F ht⟩) hS.2.2 xd_De_reads_45
set_option maxHeartbeats 4000000 in
set_option maxRecDepth 100000 in
theorem xc_De_rootsAreNames (l : Launch) (D : va_G) (kA : Nat → ClassId) (sz : Nat) (x : Nat) (L : Nat) (S : Nat) (C : Nat) (P : Nat) (tx : Nat) (b1 : Nat) (b2 : Nat) : Met l xy_De_rootsAreNames (.code xy_De_rootsAreNames xb_De_rootsAreNames 2 (some .boolean) :: wT) { frames := 0, cells := 0, slots := 0, locals := 0 } (va_Pc [.ref x] (xPre D kA sz [(x, .inr (0, [.ref L, .ref S, .ref C, .ref P, .int 0, .int 0])), (L, .inr (1, [.ref tx, .ref b1, .ref b2, .int 0, .int 0]))])) (va_Qi (fun (r : Int32) (u : Unit) => r = 0) (fun (u : Unit) t => va_P D xcl [(x, .inr (0, [.ref L, .ref S, .ref C, .ref P, .int 0, .int 0])), (L, .inr (1, [.ref tx, .ref b1, .ref b2, .int 0, .int 0]))] t.heap ∧ va_D (va_A [(x, .inr (0, [.ref L, .ref S, .ref C, .ref P, .int 0, .int 0])), (L, .inr (1, [.ref tx, .ref b1, .ref b2, .int 0, .int 0]))] sz) [(x, .inr (0, [.ref L, .ref S, .ref C, .ref P, .int 0, .int 0])), (L, .inr (1, [.ref tx, .ref b1, .ref b2, .int 0, .int 0]))]) (va_A [(x, .inr (0, [.ref L, .ref S, .ref C, .ref P, .int 0, .int 0])), (L, .inr (1, [.ref tx, .ref b1, .ref b2, .int 0, .int 0]))] sz)) 0 0 (va_A [(x, .inr (0, [.ref L, .ref S, .ref C, .ref P, .int 0, .int 0])), (L, .inr (1, [.ref tx, .ref b1, .ref b2, .int 0, .int 0]))] sz) := by
  refine Met.ofW (cc := xb_De_rootsAreNames) (maxL := 2) (ret := (some .boolean)) (by decide) rfl ?_
  intro p e s m args below meth c s₁ B hml hv
  obtain ⟨rfl, hsz, hP, hK, hD0⟩ := hv
  have hx := B.exec
  have hb := B.bytes
  have hr := B.returns
  have hT := x_hT B.pre
  have hown : s.vm.findClass xR_De = some m.cls := findClass_of_methodNamed B.named
  have hlocks := B.notSynchronized
  subst hsz
  have hD := hD0.self (sz := s.heap.size)
  generalize hAe : va_A [(x, .inr (0, [.ref L, .ref S, .ref C, .ref P, .int 0, .int 0])), (L, .inr (1, [.ref tx, .ref b1, .ref b2, .int 0, .int 0]))] s.heap.size = A at hD ⊢
  have hA : ∀ q : Nat, s.heap.size ≤ q → A q := fun q h => by rw [← hAe]; exact Or.inr h
  have hS : va_S A s.heap s.heap [] := va_S.rf
  have hP : va_P D xcl [(x, .inr (0, [.ref L, .ref S, .ref C, .ref P, .int 0, .int 0])), (L, .inr (1, [.ref tx, .ref b1, .ref b2, .int 0, .int 0]))] s.heap := hP
  have hl := lv_entry ([.ref x]) (n := 2) (Nat.le_of_ble_eq_true rfl)
  rw [lg_entry_eq]
  generalize (lg_sl ([.ref x]) ++ List.replicate (2 - (lg_sl ([.ref x])).length) Slot.unset).toArray = ls at hl ⊢
  have hl : lv_has ls 2 [(0, .ref x)] := hl
  refine lv_aload_n hx hb xd_De_rootsAreNames_0 rfl (lv_at hl 0 rfl) ?_
  refine va_get (D := D) (ci := 0) (v := .ref L) (C := xR_De) (T := xT_De) (N := 6) hx hb hT xi_De hown hK.1 hP 0 rfl rfl 0 (by decide) (hT _ xk_27) (fun _ h9 => h9) rfl xd_De_rootsAreNames_1 ?_
  refine va_get (D := D) (ci := 1) (v := .int 0) (C := xR_Li) (T := xT_Li) (N := 5) hx hb hT xi_Li hown hK.1 hP 1 rfl rfl 4 (by decide) (hT _ xk_104) (fun _ h9 => h9) rfl xd_De_rootsAreNames_4 ?_
  refine lv_iconst (v := 1) hx hb xd_De_rootsAreNames_7 (by decide) ?_
  refine lv_icmp_lt (tgt := 22) hx hb xd_De_rootsAreNames_8 (by decide) (fun _ => ?_) (fun hc => absurd (by decide) hc)
  refine lv_iconst (v := 0) hx hb xd_De_rootsAreNames_22 (by decide) ?_
  have hP9 := hP.sub (ws' := [(x, .inr (0, [.ref L, .ref S, .ref C, .ref P, .int 0, .int 0])), (L, .inr (1, [.ref tx, .ref b1, .ref b2, .int 0, .int 0]))]) [0, 1] rfl
  have hD9 := hD.sub (ws' := [(x, .inr (0, [.ref L, .ref S, .ref C, .ref P, .int 0, .int 0])), (L, .inr (1, [.ref tx, .ref b1, .ref b2, .int 0, .int 0]))]) [0, 1] (by decide) rfl
  refine W.widen (k := 0) (n := 0) (Nat.le_of_ble_eq_true rfl) (Nat.le_of_ble_eq_true rfl) ?_
  exact W.zret (v := 0) hx hb hr rfl (fun t ht hW => ⟨⟨0, (), rfl, rfl, by rw [ht]; exact hP9, hD9⟩, hS.F ht⟩) hS.2.2 xd_De_rootsAreNames_23
set_option maxHeartbeats 4000000 in
set_option maxRecDepth 100000 in
theorem xc_De_layer (l : Launch) (hlt : l.stackTraces = false) (D : va_G) (kA : Nat → ClassId) (sz sa : Nat) (x : Nat) (L : Nat) (S : Nat) (C : Nat) (P : Nat) (tx : Nat) (b1 : Nat) (b2 : Nat) (n : Int32) (k : Int32) (z : Int32) : vx_Met l xy_De_layer (.code xy_De_layer xb_De_layer 7 (some .int) :: wT) { frames := 6, cells := 1, slots := 6, locals := 82 } (va_Pc [.ref x, .int n, .int k, .int z] (xPreX D kA sz [(x, .inr (0, [.ref L, .ref S, .ref C, .ref P, .int 0, .int 0])), (L, .inr (1, [.ref tx, .ref b1, .ref b2, .int 0, .int 0]))] "LayerDesk" 80 "no roots, no such finder or no open parent" sa)) (va_Qi (fun (r : Int32) (u : Unit) => False) (fun u t => True) (va_A [(x, .inr (0, [.ref L, .ref S, .ref C, .ref P, .int 0, .int 0])), (L, .inr (1, [.ref tx, .ref b1, .ref b2, .int 0, .int 0]))] sz)) (vx_X (fun _ : Unit => True) (fun E _ t => E = "java/lang/IllegalArgumentException" ∧ va_P D xcl [(x, .inr (0, [.ref L, .ref S, .ref C, .ref P, .int 0, .int 0])), (L, .inr (1, [.ref tx, .ref b1, .ref b2, .int 0, .int 0]))] t.heap ∧ va_D (va_A [(x, .inr (0, [.ref L, .ref S, .ref C, .ref P, .int 0, .int 0])), (L, .inr (1, [.ref tx, .ref b1, .ref b2, .int 0, .int 0]))] sz) [(x, .inr (0, [.ref L, .ref S, .ref C, .ref P, .int 0, .int 0])), (L, .inr (1, [.ref tx, .ref b1, .ref b2, .int 0, .int 0]))]) (va_A [(x, .inr (0, [.ref L, .ref S, .ref C, .ref P, .int 0, .int 0])), (L, .inr (1, [.ref tx, .ref b1, .ref b2, .int 0, .int 0]))] sz)) 1 6 (va_A [(x, .inr (0, [.ref L, .ref S, .ref C, .ref P, .int 0, .int 0])), (L, .inr (1, [.ref tx, .ref b1, .ref b2, .int 0, .int 0]))] sz) := by
  refine vx_ofW (cc := xb_De_layer) (maxL := 7) (ret := (some .int)) (by decide) rfl ?_
  intro p e s m args below meth c s₁ B hml htab hv
  obtain ⟨rfl, ⟨hsz, hP, hK, hD0⟩, hU, hstr⟩ := hv
  have hx := B.exec
  have hb := B.bytes
  have hr := B.returns
  have hT := x_hT B.pre
  have hown : s.vm.findClass xR_De = some m.cls := findClass_of_methodNamed B.named
  have hlocks := B.notSynchronized
  subst hsz
  have hD := hD0.self (sz := s.heap.size)
  generalize hAe : va_A [(x, .inr (0, [.ref L, .ref S, .ref C, .ref P, .int 0, .int 0])), (L, .inr (1, [.ref tx, .ref b1, .ref b2, .int 0, .int 0]))] s.heap.size = A at hD hU ⊢
  have hA : ∀ q : Nat, s.heap.size ≤ q → A q := fun q h => by rw [← hAe]; exact Or.inr h
  have hS : va_S A s.heap s.heap [] := va_S.rf
  have hP : va_P D xcl [(x, .inr (0, [.ref L, .ref S, .ref C, .ref P, .int 0, .int 0])), (L, .inr (1, [.ref tx, .ref b1, .ref b2, .int 0, .int 0]))] s.heap := hP
  have hl := lv_entry ([.ref x, .int n, .int k, .int z]) (n := 7) (Nat.le_of_ble_eq_true rfl)
  rw [lg_entry_eq]
  generalize (lg_sl ([.ref x, .int n, .int k, .int z]) ++ List.replicate (7 - (lg_sl ([.ref x, .int n, .int k, .int z])).length) Slot.unset).toArray = ls at hl ⊢
  have hl : lv_has ls 7 [(0, .ref x), (1, .int n), (2, .int k), (3, .int z)] := hl
  refine lv_aload_n hx hb xd_De_layer_0 rfl (lv_at hl 0 rfl) ?_
  refine lv_iconst (v := 0) hx hb xd_De_layer_1 (by decide) ?_
  refine va_put (D := D) (ci := 0) (v := .int 0) (ty := .int) (C := xR_De) (T := xT_De) (N := 6) hx hb hT xi_De xt_De xt_De_ok xn_De hown hK.1 hP hD hS 0 rfl rfl 5 (by decide) (hT _ xk_44) (fun _ h9 => h9) rfl (by decide +kernel) rfl rfl (Nat.le_of_ble_eq_true rfl) xd_De_layer_2 (fun H locs hP hD hS => ?_)
  have hP : va_P D xcl [(x, .inr (0, [.ref L, .ref S, .ref C, .ref P, .int 0, .int 0])), (L, .inr (1, [.ref tx, .ref b1, .ref b2, .int 0, .int 0]))] H := hP
  have hD : va_D A [(x, .inr (0, [.ref L, .ref S, .ref C, .ref P, .int 0, .int 0])), (L, .inr (1, [.ref tx, .ref b1, .ref b2, .int 0, .int 0]))] := hD
  refine lv_aload_n hx hb xd_De_layer_5 rfl (lv_at hl 0 rfl) ?_
  refine va_get (D := D) (ci := 0) (v := .ref L) (C := xR_De) (T := xT_De) (N := 6) hx hb hT xi_De hown hK.1 hP 0 rfl rfl 0 (by decide) (hT _ xk_27) (fun _ h9 => h9) rfl xd_De_layer_6 ?_
  have hPc := hP.sub (ws' := [(L, .inr (1, [.ref tx, .ref b1, .ref b2, .int 0, .int 0]))]) [1] rfl
  have hDc := hD.sub (ws' := [(L, .inr (1, [.ref tx, .ref b1, .ref b2, .int 0, .int 0]))]) [1] (by decide) rfl
  have hFc := va_free (wc := [(L, .inr (1, [.ref tx, .ref b1, .ref b2, .int 0, .int 0]))]) hD hS hA [1] rfl
  have hkc : 0 + 0 ≤ 1 := Nat.le_of_ble_eq_true rfl
  have hks : 0 + 0 ≤ 6 := Nat.le_of_ble_eq_true rfl
  refine va_callv (va_runV (As := []) (rest := []) ⟨hx, hb, hml, hown, hT⟩ (xc_Li_take l D kA H.size L tx b1 b2) (cwV 0 hT (wT_V xk_81 xk_78 xk_79 xk_24 xk_76) rfl rfl rfl (by decide +kernel) ⟨Nat.le_of_ble_eq_true rfl, Nat.le_of_ble_eq_true rfl⟩) (x_preV hK hPc hDc 0 rfl rfl) rfl rfl hl.1 rfl (lv_room (Nat.le_of_ble_eq_true rfl)) xd_De_layer_9 ⟨hkc, hks⟩) hS (fun q _ h => hFc q h) hFc (fun u t H1 locs ht hvm hpost hB hz1 hk1 hS => ?_)
  obtain ⟨hP1, hD1⟩ := hB
  rw [ht] at hP1
  obtain ⟨hP, hD⟩ := va_join (wr := [(x, .inr (0, [.ref L, .ref S, .ref C, .ref P, .int 0, .int 0]))]) (w1 := [(L, .inr (1, [.ref tx, .ref b1, .ref b2, .int 0, .int 0]))]) hP hD [1] [0] rfl rfl (by decide) (by decide) hk1 hFc hP1 hD1
  generalize H1 = H at hP hS ⊢
  have hP : va_P D xcl [(x, .inr (0, [.ref L, .ref S, .ref C, .ref P, .int 0, .int 0])), (L, .inr (1, [.ref tx, .ref b1, .ref b2, .int 0, .int 0]))] H := hP
  have hD : va_D A [(x, .inr (0, [.ref L, .ref S, .ref C, .ref P, .int 0, .int 0])), (L, .inr (1, [.ref tx, .ref b1, .ref b2, .int 0, .int 0]))] := hD
  refine lv_aload_n hx hb xd_De_layer_12 rfl (lv_at hl 0 rfl) ?_
  refine lv_iload_n hx hb xd_De_layer_13 rfl (lv_at hl 2 rfl) ?_
  have hPc := hP.sub (ws' := [(x, .inr (0, [.ref L, .ref S, .ref C, .ref P, .int 0, .int 0]))]) [0] rfl
  have hDc := hD.sub (ws' := [(x, .inr (0, [.ref L, .ref S, .ref C, .ref P, .int 0, .int 0]))]) [0] (by decide) rfl
  have hFc := va_free (wc := [(x, .inr (0, [.ref L, .ref S, .ref C, .ref P, .int 0, .int 0]))]) hD hS hA [0] rfl
  have hkc : 0 + 0 ≤ 1 := Nat.le_of_ble_eq_true rfl
  have hks : 0 + 0 ≤ 6 := Nat.le_of_ble_eq_true rfl
  refine va_callq (va_runV (As := [.int k]) (rest := []) ⟨hx, hb, hml, hown, hT⟩ (xc_De_openLayer l D kA H.size x L S C P k) (cwV 1 hT (wT_V xk_87 xk_88 xk_89 xk_90 xk_86) rfl rfl rfl (by decide +kernel) ⟨Nat.le_of_ble_eq_true rfl, Nat.le_of_ble_eq_true rfl⟩) (x_preV hK hPc hDc 0 rfl rfl) rfl rfl hl.1 rfl (lv_room (Nat.le_of_ble_eq_true rfl)) xd_De_layer_14 ⟨hkc, hks⟩) hS (fun q _ h => hFc q h) hFc (fun r u t H1 locs ht hvm hpost hB hz1 hk1 hS => ?_)
  subst hpost
  obtain ⟨hP1, hD1⟩ := hB
  rw [ht] at hP1
  obtain ⟨hP, hD⟩ := va_join (wr := [(L, .inr (1, [.ref tx, .ref b1, .ref b2, .int 0, .int 0]))]) (w1 := [(x, .inr (0, [.ref L, .ref S, .ref C, .ref P, .int 0, .int 0]))]) hP hD [0] [1] rfl rfl (by decide) (by decide) hk1 hFc hP1 hD1
  generalize H1 = H at hP hS ⊢
  have hP : va_P D xcl [(L, .inr (1, [.ref tx, .ref b1, .ref b2, .int 0, .int 0])), (x, .inr (0, [.ref L, .ref S, .ref C, .ref P, .int 0, .int 0]))] H := hP
  have hD : va_D A [(L, .inr (1, [.ref tx, .ref b1, .ref b2, .int 0, .int 0])), (x, .inr (0, [.ref L, .ref S, .ref C, .ref P, .int 0, .int 0]))] := hD
  refine lv_astoreN hx hb xd_De_layer_17 hl (Nat.le_of_ble_eq_true rfl) rfl (fun ls hl => ?_)
  have hl : lv_has ls 7 [(4, .null), (0, .ref x), (1, .int n), (2, .int k), (3, .int z)] := hl
  refine lv_iload_n hx hb xd_De_layer_19 rfl (lv_at hl 3 rfl) ?_
  refine lv_iconst (v := (-1)) hx hb xd_De_layer_20 (by decide) ?_
  refine lv_icmp_eq (tgt := 29) hx hb xd_De_layer_21 (by decide) (fun hc1 => ?_) (fun hc1 => ?_)
  · refine lv_iconst (v := 1) hx hb xd_De_layer_29 (by decide) ?_
    refine lv_goto (tgt := 34) hx hb xd_De_layer_30 (by decide) ?_
    refine lv_istore hx hb xd_De_layer_34 hl (Nat.le_of_ble_eq_true rfl) rfl (fun ls hl => ?_)
    have hl : lv_has ls 7 [(5, .int 1), (4, .null), (0, .ref x), (1, .int n), (2, .int k), (3, .int z)] := hl
    refine lv_aload_n hx hb xd_De_layer_36 rfl (lv_at hl 2 rfl) ?_
    have hPc := hP.sub (ws' := [(x, .inr (0, [.ref L, .ref S, .ref C, .ref P, .int 0, .int 0])), (L, .inr (1, [.ref tx, .ref b1, .ref b2, .int 0, .int 0]))]) [1, 0] rfl
    have hDc := hD.sub (ws' := [(x, .inr (0, [.ref L, .ref S, .ref C, .ref P, .int 0, .int 0])), (L, .inr (1, [.ref tx, .ref b1, .ref b2, .int 0, .int 0]))]) [1, 0] (by decide) rfl
    have hFc := va_free (wc := [(x, .inr (0, [.ref L, .ref S, .ref C, .ref P, .int 0, .int 0])), (L, .inr (1, [.ref tx, .ref b1, .ref b2, .int 0, .int 0]))]) hD hS hA [1, 0] rfl
    have hkc : 0 + 0 ≤ 1 := Nat.le_of_ble_eq_true rfl
    have hks : 0 + 0 ≤ 6 := Nat.le_of_ble_eq_true rfl
    refine va_calli (va_runV (As := []) (rest := []) ⟨hx, hb, hml, hown, hT⟩ (xc_De_rootsAreNames l D kA H.size x L S C P tx b1 b2) (cwV 0 hT (wT_V xk_106 xk_107 xk_108 xk_90 xk_105) rfl rfl rfl (by decide +kernel) ⟨Nat.le_of_ble_eq_true rfl, Nat.le_of_ble_eq_true rfl⟩) (x_preV hK hPc hDc 0 rfl rfl) rfl rfl hl.1 rfl (lv_room (Nat.le_of_ble_eq_true rfl)) xd_De_layer_37 ⟨hkc, hks⟩) hS (fun q _ h => hFc q h) hFc (fun r u t H1 locs ht hvm hpost hB hz1 hk1 hS => ?_)
    have hpost : r = 0 := hpost
    subst hpost
    obtain ⟨hP1, hD1⟩ := hB
    rw [ht] at hP1
    obtain ⟨hP, hD⟩ := va_join (wr := []) (w1 := [(x, .inr (0, [.ref L, .ref S, .ref C, .ref P, .int 0, .int 0])), (L, .inr (1, [.ref tx, .ref b1, .ref b2, .int 0, .int 0]))]) hP hD [1, 0] [] rfl rfl (by decide) (by decide) hk1 hFc hP1 hD1
    generalize H1 = H at hP hS ⊢
    have hP : va_P D xcl [(x, .inr (0, [.ref L, .ref S, .ref C, .ref P, .int 0, .int 0])), (L, .inr (1, [.ref tx, .ref b1, .ref b2, .int 0, .int 0]))] H := hP
    have hD : va_D A [(x, .inr (0, [.ref L, .ref S, .ref C, .ref P, .int 0, .int 0])), (L, .inr (1, [.ref tx, .ref b1, .ref b2, .int 0, .int 0]))] := hD
    refine lv_if_eq (tgt := 55) hx hb xd_De_layer_40 (by decide) (fun _ => ?_) (fun hc => absurd (by decide) hc)
    have hP9 := hP.sub (ws' := [(x, .inr (0, [.ref L, .ref S, .ref C, .ref P, .int 0, .int 0])), (L, .inr (1, [.ref tx, .ref b1, .ref b2, .int 0, .int 0]))]) [0, 1] rfl
    have hD9 := hD.sub (ws' := [(x, .inr (0, [.ref L, .ref S, .ref C, .ref P, .int 0, .int 0])), (L, .inr (1, [.ref tx, .ref b1, .ref b2, .int 0, .int 0]))]) [0, 1] (by decide) rfl
    exact x_throwI (ik := 56) (is := 80) (w2 := [(x, .inr (0, [.ref L, .ref S, .ref C, .ref P, .int 0, .int 0])), (L, .inr (1, [.ref tx, .ref b1, .ref b2, .int 0, .int 0]))]) hx hb hlt hown hT hK xk_109 xk_110 hstr hU hS hP9 hD9 (hl.1.trans hml.symm) xd_De_layer_55 xd_De_layer_58 xd_De_layer_59 xd_De_layer_61 xd_De_layer_64 htab (Nat.le_of_ble_eq_true rfl) (Nat.le_of_ble_eq_true rfl) (Nat.le_of_ble_eq_true rfl) (Nat.le_of_ble_eq_true rfl) hlocks (Nat.le_of_ble_eq_true rfl) (Nat.le_of_ble_eq_true rfl)
  · refine lv_aloadN hx hb xd_De_layer_24 (lv_at hl 0 rfl) ?_
    refine lv_ifnullN (tgt := 33) hx hb xd_De_layer_26 (by decide) ?_
    refine lv_iconst (v := 0) hx hb xd_De_layer_33 (by decide) ?_
    refine lv_istore hx hb xd_De_layer_34 hl (Nat.le_of_ble_eq_true rfl) rfl (fun ls hl => ?_)
    have hl : lv_has ls 7 [(5, .int 0), (4, .null), (0, .ref x), (1, .int n), (2, .int k), (3, .int z)] := hl
    refine lv_aload_n hx hb xd_De_layer_36 rfl (lv_at hl 2 rfl) ?_
    have hPc := hP.sub (ws' := [(x, .inr (0, [.ref L, .ref S, .ref C, .ref P, .int 0, .int 0])), (L, .inr (1, [.ref tx, .ref b1, .ref b2, .int 0, .int 0]))]) [1, 0] rfl
    have hDc := hD.sub (ws' := [(x, .inr (0, [.ref L, .ref S, .ref C, .ref P, .int 0, .int 0])), (L, .inr (1, [.ref tx, .ref b1, .ref b2, .int 0, .int 0]))]) [1, 0] (by decide) rfl
    have hFc := va_free (wc := [(x, .inr (0, [.ref L, .ref S, .ref C, .ref P, .int 0, .int 0])), (L, .inr (1, [.ref tx, .ref b1, .ref b2, .int 0, .int 0]))]) hD hS hA [1, 0] rfl
    have hkc : 0 + 0 ≤ 1 := Nat.le_of_ble_eq_true rfl
    have hks : 0 + 0 ≤ 6 := Nat.le_of_ble_eq_true rfl
    refine va_calli (va_runV (As := []) (rest := []) ⟨hx, hb, hml, hown, hT⟩ (xc_De_rootsAreNames l D kA H.size x L S C P tx b1 b2) (cwV 0 hT (wT_V xk_106 xk_107 xk_108 xk_90 xk_105) rfl rfl rfl (by decide +kernel) ⟨Nat.le_of_ble_eq_true rfl, Nat.le_of_ble_eq_true rfl⟩) (x_preV hK hPc hDc 0 rfl rfl) rfl rfl hl.1 rfl (lv_room (Nat.le_of_ble_eq_true rfl)) xd_De_layer_37 ⟨hkc, hks⟩) hS (fun q _ h => hFc q h) hFc (fun r u t H1 locs ht hvm hpost hB hz1 hk1 hS => ?_)
    have hpost : r = 0 := hpost
    subst hpost
    obtain ⟨hP1, hD1⟩ := hB
    rw [ht] at hP1
    obtain ⟨hP, hD⟩ := va_join (wr := []) (w1 := [(x, .inr (0, [.ref L, .ref S, .ref C, .ref P, .int 0, .int 0])), (L, .inr (1, [.ref tx, .ref b1, .ref b2, .int 0, .int 0]))]) hP hD [1, 0] [] rfl rfl (by decide) (by decide) hk1 hFc hP1 hD1
    generalize H1 = H at hP hS ⊢
    have hP : va_P D xcl [(x, .inr (0, [.ref L, .ref S, .ref C, .ref P, .int 0, .int 0])), (L, .inr (1, [.ref tx, .ref b1, .ref b2, .int 0, .int 0]))] H := hP
    have hD : va_D A [(x, .inr (0, [.ref L, .ref S, .ref C, .ref P, .int 0, .int 0])), (L, .inr (1, [.ref tx, .ref b1, .ref b2, .int 0, .int 0]))] := hD
    refine lv_if_eq (tgt := 55) hx hb xd_De_layer_40 (by decide) (fun _ => ?_) (fun hc => absurd (by decide) hc)
    have hP9 := hP.sub (ws' := [(x, .inr (0, [.ref L, .ref S, .ref C, .ref P, .int 0, .int 0])), (L, .inr (1, [.ref tx, .ref b1, .ref b2, .int 0, .int 0]))]) [0, 1] rfl
    have hD9 := hD.sub (ws' := [(x, .inr (0, [.ref L, .ref S, .ref C, .ref P, .int 0, .int 0])), (L, .inr (1, [.ref tx, .ref b1, .ref b2, .int 0, .int 0]))]) [0, 1] (by decide) rfl
    exact x_throwI (ik := 56) (is := 80) (w2 := [(x, .inr (0, [.ref L, .ref S, .ref C, .ref P, .int 0, .int 0])), (L, .inr (1, [.ref tx, .ref b1, .ref b2, .int 0, .int 0]))]) hx hb hlt hown hT hK xk_109 xk_110 hstr hU hS hP9 hD9 (hl.1.trans hml.symm) xd_De_layer_55 xd_De_layer_58 xd_De_layer_59 xd_De_layer_61 xd_De_layer_64 htab (Nat.le_of_ble_eq_true rfl) (Nat.le_of_ble_eq_true rfl) (Nat.le_of_ble_eq_true rfl) (Nat.le_of_ble_eq_true rfl) hlocks (Nat.le_of_ble_eq_true rfl) (Nat.le_of_ble_eq_true rfl)
set_option maxHeartbeats 4000000 in
set_option maxRecDepth 100000 in
theorem xc_De_load (l : Launch) (hlt : l.stackTraces = false) (D : va_G) (kA : Nat → ClassId) (sz sa : Nat) (x : Nat) (L : Nat) (S : Nat) (C : Nat) (P : Nat) (tx : Nat) (b1 : Nat) (b2 : Nat) (n : Int32) (k : Int32) : vx_Met l xy_De_load (.code xy_De_load xb_De_load 6 (some .int) :: wT) { frames := 6, cells := 1, slots := 6, locals := 82 } (va_Pc [.ref x, .int n, .int k] (xPreX D kA sz [(x, .inr (0, [.ref L, .ref S, .ref C, .ref P, .int 0, .int 0])), (L, .inr (1, [.ref tx, .ref b1, .ref b2, .int 0, .int 0]))] "LayerDesk" 161 "no such module, or no name" sa)) (va_Qi (fun (r : Int32) (u : Unit) => False) (fun u t => True) (va_A [(x, .inr (0, [.ref L, .ref S, .ref C, .ref P, .int 0, .int 0])), (L, .inr (1, [.ref tx, .ref b1, .ref b2, .int 0, .int 0]))] sz)) (vx_X (fun _ : Unit => True) (fun E _ t => E = "java/lang/IllegalArgumentException" ∧ va_P D xcl [(x, .inr (0, [.ref L, .ref S, .ref C, .ref P, .int 0, .int 0])), (L, .inr (1, [.ref tx, .ref b1, .ref b2, .int 0, .int 0]))] t.heap ∧ va_D (va_A [(x, .inr (0, [.ref L, .ref S, .ref C, .ref P, .int 0, .int 0])), (L, .inr (1, [.ref tx, .ref b1, .ref b2, .int 0, .int 0]))] sz) [(x, .inr (0, [.ref L, .ref S, .ref C, .ref P, .int 0, .int 0])), (L, .inr (1, [.ref tx, .ref b1, .ref b2, .int 0, .int 0]))]) (va_A [(x, .inr (0, [.ref L, .ref S, .ref C, .ref P, .int 0, .int 0])), (L, .inr (1, [.ref tx, .ref b1, .ref b2, .int 0, .int 0]))] sz)) 1 6 (va_A [(x, .inr (0, [.ref L, .ref S, .ref C, .ref P, .int 0, .int 0])), (L, .inr (1, [.ref tx, .ref b1, .ref b2, .int 0, .int 0]))] sz) := by
  refine vx_ofW (cc := xb_De_load) (maxL := 6) (ret := (some .int)) (by decide) rfl ?_
  intro p e s m args below meth c s₁ B hml htab hv
  obtain ⟨rfl, ⟨hsz, hP, hK, hD0⟩, hU, hstr⟩ := hv
  have hx := B.exec
  have hb := B.bytes
  have hr := B.returns
  have hT := x_hT B.pre
  have hown : s.vm.findClass xR_De = some m.cls := findClass_of_methodNamed B.named
  have hlocks := B.notSynchronized
  subst hsz
  have hD := hD0.self (sz := s.heap.size)
  generalize hAe : va_A [(x, .inr (0, [.ref L, .ref S, .ref C, .ref P, .int 0, .int 0])), (L, .inr (1, [.ref tx, .ref b1, .ref b2, .int 0, .int 0]))] s.heap.size = A at hD hU ⊢
  have hA : ∀ q : Nat, s.heap.size ≤ q → A q := fun q h => by rw [← hAe]; exact Or.inr h
  have hS : va_S A s.heap s.heap [] := va_S.rf
  have hP : va_P D xcl [(x, .inr (0, [.ref L, .ref S, .ref C, .ref P, .int 0, .int 0])), (L, .inr (1, [.ref tx, .ref b1, .ref b2, .int 0, .int 0]))] s.heap := hP
  have hl := lv_entry ([.ref x, .int n, .int k]) (n := 6) (Nat.le_of_ble_eq_true rfl)
  rw [lg_entry_eq]
  generalize (lg_sl ([.ref x, .int n, .int k]) ++ List.replicate (6 - (lg_sl ([.ref x, .int n, .int k])).length) Slot.unset).toArray = ls at hl ⊢
  have hl : lv_has ls 6 [(0, .ref x), (1, .int n), (2, .int k)] := hl
  refine lv_aload_n hx hb xd_De_load_0 rfl (lv_at hl 0 rfl) ?_
  refine va_get (D := D) (ci := 0) (v := .ref L) (C := xR_De) (T := xT_De) (N := 6) hx hb hT xi_De hown hK.1 hP 0 rfl rfl 0 (by decide) (hT _ xk_27) (fun _ h9 => h9) rfl xd_De_load_1 ?_
  have hPc := hP.sub (ws' := [(L, .inr (1, [.ref tx, .ref b1, .ref b2, .int 0, .int 0]))]) [1] rfl
  have hDc := hD.sub (ws' := [(L, .inr (1, [.ref tx, .ref b1, .ref b2, .int 0, .int 0]))]) [1] (by decide) rfl
  have hFc := va_free (wc := [(L, .inr (1, [.ref tx, .ref b1, .ref b2, .int 0, .int 0]))]) hD hS hA [1] rfl
  have hkc : 0 + 0 ≤ 1 := Nat.le_of_ble_eq_true rfl
  have hks : 0 + 0 ≤ 6 := Nat.le_of_ble_eq_true rfl
  refine va_calli (va_runV (As := []) (rest := []) ⟨hx, hb, hml, hown, hT⟩ (xc_Li_takeName l D kA s.heap.size L tx b1 b2) (cwV 0 hT (wT_V xk_112 xk_113 xk_114 xk_24 xk_111) rfl rfl rfl (by decide +kernel) ⟨Nat.le_of_ble_eq_true rfl, Nat.le_of_ble_eq_true rfl⟩) (x_preV hK hPc hDc 0 rfl rfl) rfl rfl hl.1 rfl (lv_room (Nat.le_of_ble_eq_true rfl)) xd_De_load_4 ⟨hkc, hks⟩) hS (fun q _ h => hFc q h) hFc (fun r u t H1 locs ht hvm hpost hB hz1 hk1 hS => ?_)
  have hpost : r = 0 := hpost
  subst hpost
  obtain ⟨hP1, hD1⟩ := hB
  rw [ht] at hP1
  obtain ⟨hP, hD⟩ := va_join (wr := [(x, .inr (0, [.ref L, .ref S, .ref C, .ref P, .int 0, .int 0]))]) (w1 := [(L, .inr (1, [.ref tx, .ref b1, .ref b2, .int 0, .int 0]))]) hP hD [1] [0] rfl rfl (by decide) (by decide) hk1 hFc hP1 hD1
  generalize H1 = H at hP hS ⊢
  have hP : va_P D xcl [(x, .inr (0, [.ref L, .ref S, .ref C, .ref P, .int 0, .int 0])), (L, .inr (1, [.ref tx, .ref b1, .ref b2, .int 0, .int 0]))] H := hP
  have hD : va_D A [(x, .inr (0, [.ref L, .ref S, .ref C, .ref P, .int 0, .int 0])), (L, .inr (1, [.ref tx, .ref b1, .ref b2, .int 0, .int 0]))] := hD
  refine lv_istore_n hx hb xd_De_load_7 rfl hl (Nat.le_of_ble_eq_true rfl) rfl (fun ls hl => ?_)
  have hl : lv_has ls 6 [(3, .int 0), (0, .ref x), (1, .int n), (2, .int k)] := hl
  refine lv_aload_n hx hb xd_De_load_8 rfl (lv_at hl 1 rfl) ?_
  refine lv_iload_n hx hb xd_De_load_9 rfl (lv_at hl 2 rfl) ?_
  refine lv_iload_n hx hb xd_De_load_10 rfl (lv_at hl 3 rfl) ?_
  have hPc := hP.sub (ws' := [(x, .inr (0, [.ref L, .ref S, .ref C, .ref P, .int 0, .int 0]))]) [0] rfl
  have hDc := hD.sub (ws' := [(x, .inr (0, [.ref L, .ref S, .ref C, .ref P, .int 0, .int 0]))]) [0] (by decide) rfl
  have hFc := va_free (wc := [(x, .inr (0, [.ref L, .ref S, .ref C, .ref P, .int 0, .int 0]))]) hD hS hA [0] rfl
  have hkc : 0 + 0 ≤ 1 := Nat.le_of_ble_eq_true rfl
  have hks : 0 + 0 ≤ 6 := Nat.le_of_ble_eq_true rfl
  refine va_callq (va_runV (As := [.int n, .int k]) (rest := []) ⟨hx, hb, hml, hown, hT⟩ (xc_De_memberAt l D kA H.size x L S C P n k) (cwV 2 hT (wT_V xk_97 xk_98 xk_99 xk_90 xk_96) rfl rfl rfl (by decide +kernel) ⟨Nat.le_of_ble_eq_true rfl, Nat.le_of_ble_eq_true rfl⟩) (x_preV hK hPc hDc 0 rfl rfl) rfl rfl hl.1 rfl (lv_room (Nat.le_of_ble_eq_true rfl)) xd_De_load_11 ⟨hkc, hks⟩) hS (fun q _ h => hFc q h) hFc (fun r u t H1 locs ht hvm hpost hB hz1 hk1 hS => ?_)
  subst hpost
  obtain ⟨hP1, hD1⟩ := hB
  rw [ht] at hP1
  obtain ⟨hP, hD⟩ := va_join (wr := [(L, .inr (1, [.ref tx, .ref b1, .ref b2, .int 0, .int 0]))]) (w1 := [(x, .inr (0, [.ref L, .ref S, .ref C, .ref P, .int 0, .int 0]))]) hP hD [0] [1] rfl rfl (by decide) (by decide) hk1 hFc hP1 hD1
  generalize H1 = H at hP hS ⊢
  have hP : va_P D xcl [(L, .inr (1, [.ref tx, .ref b1, .ref b2, .int 0, .int 0])), (x, .inr (0, [.ref L, .ref S, .ref C, .ref P, .int 0, .int 0]))] H := hP
  have hD : va_D A [(L, .inr (1, [.ref tx, .ref b1, .ref b2, .int 0, .int 0])), (x, .inr (0, [.ref L, .ref S, .ref C, .ref P, .int 0, .int 0]))] := hD
  refine lv_astoreN hx hb xd_De_load_14 hl (Nat.le_of_ble_eq_true rfl) rfl (fun ls hl => ?_)
  have hl : lv_has ls 6 [(4, .null), (3, .int 0), (0, .ref x), (1, .int n), (2, .int k)] := hl
  refine lv_aloadN hx hb xd_De_load_16 (lv_at hl 0 rfl) ?_
  refine lv_ifnullN (tgt := 25) hx hb xd_De_load_18 (by decide) ?_
  have hP9 := hP.sub (ws' := [(x, .inr (0, [.ref L, .ref S, .ref C, .ref P, .int 0, .int 0])), (L, .inr (1, [.ref tx, .ref b1, .ref b2, .int 0, .int 0]))]) [1, 0] rfl
  have hD9 := hD.sub (ws' := [(x, .inr (0, [.ref L, .ref S, .ref C, .ref P, .int 0, .int 0])), (L, .inr (1, [.ref tx, .ref b1, .ref b2, .int 0, .int 0]))]) [1, 0] (by decide) rfl
  exact x_throwI (ik := 56) (is := 161) (w2 := [(x, .inr (0, [.ref L, .ref S, .ref C, .ref P, .int 0, .int 0])), (L, .inr (1, [.ref tx, .ref b1, .ref b2, .int 0, .int 0]))]) hx hb hlt hown hT hK xk_109 xk_110 hstr hU hS hP9 hD9 (hl.1.trans hml.symm) xd_De_load_25 xd_De_load_28 xd_De_load_29 xd_De_load_31 xd_De_load_34 htab (Nat.le_of_ble_eq_true rfl) (Nat.le_of_ble_eq_true rfl) (Nat.le_of_ble_eq_true rfl) (Nat.le_of_ble_eq_true rfl) hlocks (Nat.le_of_ble_eq_true rfl) (Nat.le_of_ble_eq_true rfl)
set_option maxHeartbeats 4000000 in
set_option maxRecDepth 100000 in
theorem xc_De_peek (l : Launch) (hlt : l.stackTraces = false) (D : va_G) (kA : Nat → ClassId) (sz sa : Nat) (x : Nat) (L : Nat) (S : Nat) (C : Nat) (P : Nat) (tx : Nat) (b1 : Nat) (b2 : Nat) (n : Int32) (k : Int32) (n2 : Int32) (k2 : Int32) : vx_Met l xy_De_peek (.code xy_De_peek xb_De_peek 8 (some .boolean) :: wT) { frames := 6, cells := 1, slots := 6, locals := 82 } (va_Pc [.ref x, .int n, .int k, .int n2, .int k2] (xPreX D kA sz [(x, .inr (0, [.ref L, .ref S, .ref C, .ref P, .int 0, .int 0])), (L, .inr (1, [.ref tx, .ref b1, .ref b2, .int 0, .int 0]))] "LayerDesk" 161 "no such module, or no name" sa)) (va_Qi (fun (r : Int32) (u : Unit) => False) (fun u t => True) (va_A [(x, .inr (0, [.ref L, .ref S, .ref C, .ref P, .int 0, .int 0])), (L, .inr (1, [.ref tx, .ref b1, .ref b2, .int 0, .int 0]))] sz)) (vx_X (fun _ : Unit => True) (fun E _ t => E = "java/lang/IllegalArgumentException" ∧ va_P D xcl [(x, .inr (0, [.ref L, .ref S, .ref C, .ref P, .int 0, .int 0])), (L, .inr (1, [.ref tx, .ref b1, .ref b2, .int 0, .int 0]))] t.heap ∧ va_D (va_A [(x, .inr (0, [.ref L, .ref S, .ref C, .ref P, .int 0, .int 0])), (L, .inr (1, [.ref tx, .ref b1, .ref b2, .int 0, .int 0]))] sz) [(x, .inr (0, [.ref L, .ref S, .ref C, .ref P, .int 0, .int 0])), (L, .inr (1, [.ref tx, .ref b1, .ref b2, .int 0, .int 0]))]) (va_A [(x, .inr (0, [.ref L, .ref S, .ref C, .ref P, .int 0, .int 0])), (L, .inr (1, [.ref tx, .ref b1, .ref b2, .int 0, .int 0]))] sz)) 1 6 (va_A [(x, .inr (0, [.ref L, .ref S, .ref C, .ref P, .int 0, .int 0])), (L, .inr (1, [.ref tx, .ref b1, .ref b2, .int 0, .int 0]))] sz) := by
  refine vx_ofW (cc := xb_De_peek) (maxL := 8) (ret := (some .boolean)) (by decide) rfl ?_
  intro p e s m args below meth c s₁ B hml htab hv
  obtain ⟨rfl, ⟨hsz, hP, hK, hD0⟩, hU, hstr⟩ := hv
  have hx := B.exec
  have hb := B.bytes
  have hr := B.returns
  have hT := x_hT B.pre
  have hown : s.vm.findClass xR_De = some m.cls := findClass_of_methodNamed B.named
  have hlocks := B.notSynchronized
  subst hsz
  have hD := hD0.self (sz := s.heap.size)
  generalize hAe : va_A [(x, .inr (0, [.ref L, .ref S, .ref C, .ref P, .int 0, .int 0])), (L, .inr (1, [.ref tx, .ref b1, .ref b2, .int 0, .int 0]))] s.heap.size = A at hD hU ⊢
  have hA : ∀ q : Nat, s.heap.size ≤ q → A q := fun q h => by rw [← hAe]; exact Or.inr h
  have hS : va_S A s.heap s.heap [] := va_S.rf
  have hP : va_P D xcl [(x, .inr (0, [.ref L, .ref S, .ref C, .ref P, .int 0, .int 0])), (L, .inr (1, [.ref tx, .ref b1, .ref b2, .int 0, .int 0]))] s.heap := hP
  have hl := lv_entry ([.ref x, .int n, .int k, .int n2, .int k2]) (n := 8) (Nat.le_of_ble_eq_true rfl)
  rw [lg_entry_eq]
  generalize (lg_sl ([.ref x, .int n, .int k, .int n2, .int k2]) ++ List.replicate (8 - (lg_sl ([.ref x, .int n, .int k, .int n2, .int k2])).length) Slot.unset).toArray = ls at hl ⊢
  have hl : lv_has ls 8 [(0, .ref x), (1, .int n), (2, .int k), (3, .int n2), (4, .int k2)] := hl
  refine lv_aload_n hx hb xd_De_peek_0 rfl (lv_at hl 0 rfl) ?_
  refine va_get (D := D) (ci := 0) (v := .ref L) (C := xR_De) (T := xT_De) (N := 6) hx hb hT xi_De hown hK.1 hP 0 rfl rfl 0 (by decide) (hT _ xk_27) (fun _ h9 => h9) rfl xd_De_peek_1 ?_
  have hPc := hP.sub (ws' := [(L, .inr (1, [.ref tx, .ref b1, .ref b2, .int 0, .int 0]))]) [1] rfl
  have hDc := hD.sub (ws' := [(L, .inr (1, [.ref tx, .ref b1, .ref b2, .int 0, .int 0]))]) [1] (by decide) rfl
  have hFc := va_free (wc := [(L, .inr (1, [.ref tx, .ref b1, .ref b2, .int 0, .int 0]))]) hD hS hA [1] rfl
  have hkc : 0 + 0 ≤ 1 := Nat.le_of_ble_eq_true rfl
  have hks : 0 + 0 ≤ 6 := Nat.le_of_ble_eq_true rfl
  refine va_calli (va_runV (As := []) (rest := []) ⟨hx, hb, hml, hown, hT⟩ (xc_Li_takeName l D kA s.heap.size L tx b1 b2) (cwV 0 hT (wT_V xk_112 xk_113 xk_114 xk_24 xk_111) rfl rfl rfl (by decide +kernel) ⟨Nat.le_of_ble_eq_true rfl, Nat.le_of_ble_eq_true rfl⟩) (x_preV hK hPc hDc 0 rfl rfl) rfl rfl hl.1 rfl (lv_room (Nat.le_of_ble_eq_true rfl)) xd_De_peek_4 ⟨hkc, hks⟩) hS (fun q _ h => hFc q h) hFc (fun r u t H1 locs ht hvm hpost hB hz1 hk1 hS => ?_)
  have hpost : r = 0 := hpost
  subst hpost
  obtain ⟨hP1, hD1⟩ := hB
  rw [ht] at hP1
  obtain ⟨hP, hD⟩ := va_join (wr := [(x, .inr (0, [.ref L, .ref S, .ref C, .ref P, .int 0, .int 0]))]) (w1 := [(L, .inr (1, [.ref tx, .ref b1, .ref b2, .int 0, .int 0]))]) hP hD [1] [0] rfl rfl (by decide) (by decide) hk1 hFc hP1 hD1
  generalize H1 = H at hP hS ⊢
  have hP : va_P D xcl [(x, .inr (0, [.ref L, .ref S, .ref C, .ref P, .int 0, .int 0])), (L, .inr (1, [.ref tx, .ref b1, .ref b2, .int 0, .int 0]))] H := hP
  have hD : va_D A [(x, .inr (0, [.ref L, .ref S, .ref C, .ref P, .int 0, .int 0])), (L, .inr (1, [.ref tx, .ref b1, .ref b2, .int 0, .int 0]))] := hD
  refine lv_istore hx hb xd_De_peek_7 hl (Nat.le_of_ble_eq_true rfl) rfl (fun ls hl => ?_)
  have hl : lv_has ls 8 [(5, .int 0), (0, .ref x), (1, .int n), (2, .int k), (3, .int n2), (4, .int k2)] := hl
  refine lv_aload_n hx hb xd_De_peek_9 rfl (lv_at hl 1 rfl) ?_
  refine lv_iload_n hx hb xd_De_peek_10 rfl (lv_at hl 2 rfl) ?_
  refine lv_iload_n hx hb xd_De_peek_11 rfl (lv_at hl 3 rfl) ?_
  have hPc := hP.sub (ws' := [(x, .inr (0, [.ref L, .ref S, .ref C, .ref P, .int 0, .int 0]))]) [0] rfl
  have hDc := hD.sub (ws' := [(x, .inr (0, [.ref L, .ref S, .ref C, .ref P, .int 0, .int 0]))]) [0] (by decide) rfl
  have hFc := va_free (wc := [(x, .inr (0, [.ref L, .ref S, .ref C, .ref P, .int 0, .int 0]))]) hD hS hA [0] rfl
  have hkc : 0 + 0 ≤ 1 := Nat.le_of_ble_eq_true rfl
  have hks : 0 + 0 ≤ 6 := Nat.le_of_ble_eq_true rfl
  refine va_callq (va_runV (As := [.int n, .int k]) (rest := []) ⟨hx, hb, hml, hown, hT⟩ (xc_De_memberAt l D kA H.size x L S C P n k) (cwV 2 hT (wT_V xk_97 xk_98 xk_99 xk_90 xk_96) rfl rfl rfl (by decide +kernel) ⟨Nat.le_of_ble_eq_true rfl, Nat.le_of_ble_eq_true rfl⟩) (x_preV hK hPc hDc 0 rfl rfl) rfl rfl hl.1 rfl (lv_room (Nat.le_of_ble_eq_true rfl)) xd_De_peek_12 ⟨hkc, hks⟩) hS (fun q _ h => hFc q h) hFc (fun r u t H1 locs ht hvm hpost hB hz1 hk1 hS => ?_)
  subst hpost
  obtain ⟨hP1, hD1⟩ := hB
  rw [ht] at hP1
  obtain ⟨hP, hD⟩ := va_join (wr := [(L, .inr (1, [.ref tx, .ref b1, .ref b2, .int 0, .int 0]))]) (w1 := [(x, .inr (0, [.ref L, .ref S, .ref C, .ref P, .int 0, .int 0]))]) hP hD [0] [1] rfl rfl (by decide) (by decide) hk1 hFc hP1 hD1
  generalize H1 = H at hP hS ⊢
  have hP : va_P D xcl [(L, .inr (1, [.ref tx, .ref b1, .ref b2, .int 0, .int 0])), (x, .inr (0, [.ref L, .ref S, .ref C, .ref P, .int 0, .int 0]))] H := hP
  have hD : va_D A [(L, .inr (1, [.ref tx, .ref b1, .ref b2, .int 0, .int 0])), (x, .inr (0, [.ref L, .ref S, .ref C, .ref P, .int 0, .int 0]))] := hD
  refine lv_astoreN hx hb xd_De_peek_15 hl (Nat.le_of_ble_eq_true rfl) rfl (fun ls hl => ?_)
  have hl : lv_has ls 8 [(6, .null), (5, .int 0), (0, .ref x), (1, .int n), (2, .int k), (3, .int n2), (4, .int k2)] := hl
  refine lv_aload_n hx hb xd_De_peek_17 rfl (lv_at hl 2 rfl) ?_
  refine lv_iload_n hx hb xd_De_peek_18 rfl (lv_at hl 5 rfl) ?_
  refine lv_iload hx hb xd_De_peek_19 (lv_at hl 6 rfl) ?_
  have hPc := hP.sub (ws' := [(x, .inr (0, [.ref L, .ref S, .ref C, .ref P, .int 0, .int 0]))]) [1] rfl
  have hDc := hD.sub (ws' := [(x, .inr (0, [.ref L, .ref S, .ref C, .ref P, .int 0, .int 0]))]) [1] (by decide) rfl
  have hFc := va_free (wc := [(x, .inr (0, [.ref L, .ref S, .ref C, .ref P, .int 0, .int 0]))]) hD hS hA [1] rfl
  have hkc : 0 + 0 ≤ 1 := Nat.le_of_ble_eq_true rfl
  have hks : 0 + 0 ≤ 6 := Nat.le_of_ble_eq_true rfl
  refine va_callq (va_runV (As := [.int n2, .int k2]) (rest := []) ⟨hx, hb, hml, hown, hT⟩ (xc_De_memberOf l D kA H.size x L S C P n2 k2) (cwV 2 hT (wT_V xk_101 xk_102 xk_103 xk_90 xk_100) rfl rfl rfl (by decide +kernel) ⟨Nat.le_of_ble_eq_true rfl, Nat.le_of_ble_eq_true rfl⟩) (x_preV hK hPc hDc 0 rfl rfl) rfl rfl hl.1 rfl (lv_room (Nat.le_of_ble_eq_true rfl)) xd_De_peek_21 ⟨hkc, hks⟩) hS (fun q _ h => hFc q h) hFc (fun r u t H1 locs ht hvm hpost hB hz1 hk1 hS => ?_)
  subst hpost
  obtain ⟨hP1, hD1⟩ := hB
  rw [ht] at hP1
  obtain ⟨hP, hD⟩ := va_join (wr := [(L, .inr (1, [.ref tx, .ref b1, .ref b2, .int 0, .int 0]))]) (w1 := [(x, .inr (0, [.ref L, .ref S, .ref C, .ref P, .int 0, .int 0]))]) hP hD [1] [0] rfl rfl (by decide) (by decide) hk1 hFc hP1 hD1
  generalize H1 = H at hP hS ⊢
  have hP : va_P D xcl [(L, .inr (1, [.ref tx, .ref b1, .ref b2, .int 0, .int 0])), (x, .inr (0, [.ref L, .ref S, .ref C, .ref P, .int 0, .int 0]))] H := hP
  have hD : va_D A [(L, .inr (1, [.ref tx, .ref b1, .ref b2, .int 0, .int 0])), (x, .inr (0, [.ref L, .ref S, .ref C, .ref P, .int 0, .int 0]))] := hD
  refine lv_astoreN hx hb xd_De_peek_24 hl (Nat.le_of_ble_eq_true rfl) rfl (fun ls hl => ?_)
  have hl : lv_has ls 8 [(7, .null), (6, .null), (5, .int 0), (0, .ref x), (1, .int n), (2, .int k), (3, .int n2), (4, .int k2)] := hl
  refine lv_aloadN hx hb xd_De_peek_26 (lv_at hl 1 rfl) ?_
  refine lv_ifnullN (tgt := 41) hx hb xd_De_peek_28 (by decide) ?_
  have hP9 := hP.sub (ws' := [(x, .inr (0, [.ref L, .ref S, .ref C, .ref P, .int 0, .int 0])), (L, .inr (1, [.ref tx, .ref b1, .ref b2, .int 0, .int 0]))]) [1, 0] rfl
  have hD9 := hD.sub (ws' := [(x, .inr (0, [.ref L, .ref S, .ref C, .ref P, .int 0, .int 0])), (L, .inr (1, [.ref tx, .ref b1, .ref b2, .int 0, .int 0]))]) [1, 0] (by decide) rfl
  exact x_throwI (ik := 56) (is := 161) (w2 := [(x, .inr (0, [.ref L, .ref S, .ref C, .ref P, .int 0, .int 0])), (L, .inr (1, [.ref tx, .ref b1, .ref b2, .int 0, .int 0]))]) hx hb hlt hown hT hK xk_109 xk_110 hstr hU hS hP9 hD9 (hl.1.trans hml.symm) xd_De_peek_41 xd_De_peek_44 xd_De_peek_45 xd_De_peek_47 xd_De_peek_50 htab (Nat.le_of_ble_eq_true rfl) (Nat.le_of_ble_eq_true rfl) (Nat.le_of_ble_eq_true rfl) (Nat.le_of_ble_eq_true rfl) hlocks (Nat.le_of_ble_eq_true rfl) (Nat.le_of_ble_eq_true rfl)
set_option maxHeartbeats 4000000 in
set_option maxRecDepth 100000 in
theorem xc_De_provider (l : Launch) (hlt : l.stackTraces = false) (D : va_G) (kA : Nat → ClassId) (sz sa : Nat) (x : Nat) (L : Nat) (S : Nat) (C : Nat) (P : Nat) (tx : Nat) (b1 : Nat) (b2 : Nat) (n : Int32) (k : Int32) : vx_Met l xy_De_provider (.code xy_De_provider xb_De_provider 6 (some .int) :: wT) { frames := 6, cells := 1, slots := 6, locals := 82 } (va_Pc [.ref x, .int n, .int k] (xPreX D kA sz [(x, .inr (0, [.ref L, .ref S, .ref C, .ref P, .int 0, .int 0])), (L, .inr (1, [.ref tx, .ref b1, .ref b2, .int 0, .int 0]))] "LayerDesk" 190 "the layer is not open, or no name" sa)) (va_Qi (fun (r : Int32) (u : Unit) => False) (fun u t => True) (va_A [(x, .inr (0, [.ref L, .ref S, .ref C, .ref P, .int 0, .int 0])), (L, .inr (1, [.ref tx, .ref b1, .ref b2, .int 0, .int 0]))] sz)) (vx_X (fun _ : Unit => True) (fun E _ t => E = "java/lang/IllegalArgumentException" ∧ va_P D xcl [(x, .inr (0, [.ref L, .ref S, .ref C, .ref P, .int 0, .int 0])), (L, .inr (1, [.ref tx, .ref b1, .ref b2, .int 0, .int 0]))] t.heap ∧ va_D (va_A [(x, .inr (0, [.ref L, .ref S, .ref C, .ref P, .int 0, .int 0])), (L, .inr (1, [.ref tx, .ref b1, .ref b2, .int 0, .int 0]))] sz) [(x, .inr (0, [.ref L, .ref S, .ref C, .ref P, .int 0, .int 0])), (L, .inr (1, [.ref tx, .ref b1, .ref b2, .int 0, .int 0]))]) (va_A [(x, .inr (0, [.ref L, .ref S, .ref C, .ref P, .int 0, .int 0])), (L, .inr (1, [.ref tx, .ref b1, .ref b2, .int 0, .int 0]))] sz)) 1 6 (va_A [(x, .inr (0, [.ref L, .ref S, .ref C, .ref P, .int 0, .int 0])), (L, .inr (1, [.ref tx, .ref b1, .ref b2, .int 0, .int 0]))] sz) := by
  refine vx_ofW (cc := xb_De_provider) (maxL := 6) (ret := (some .int)) (by decide) rfl ?_
  intro p e s m args below meth c s₁ B hml htab hv
  obtain ⟨rfl, ⟨hsz, hP, hK, hD0⟩, hU, hstr⟩ := hv
  have hx := B.exec
  have hb := B.bytes
  have hr := B.returns
  have hT := x_hT B.pre
  have hown : s.vm.findClass xR_De = some m.cls := findClass_of_methodNamed B.named
  have hlocks := B.notSynchronized
  subst hsz
  have hD := hD0.self (sz := s.heap.size)
  generalize hAe : va_A [(x, .inr (0, [.ref L, .ref S, .ref C, .ref P, .int 0, .int 0])), (L, .inr (1, [.ref tx, .ref b1, .ref b2, .int 0, .int 0]))] s.heap.size = A at hD hU ⊢
  have hA : ∀ q : Nat, s.heap.size ≤ q → A q := fun q h => by rw [← hAe]; exact Or.inr h
  have hS : va_S A s.heap s.heap [] := va_S.rf
  have hP : va_P D xcl [(x, .inr (0, [.ref L, .ref S, .ref C, .ref P, .int 0, .int 0])), (L, .inr (1, [.ref tx, .ref b1, .ref b2, .int 0, .int 0]))] s.heap := hP
  have hl := lv_entry ([.ref x, .int n, .int k]) (n := 6) (Nat.le_of_ble_eq_true rfl)
  rw [lg_entry_eq]
  generalize (lg_sl ([.ref x, .int n, .int k]) ++ List.replicate (6 - (lg_sl ([.ref x, .int n, .int k])).length) Slot.unset).toArray = ls at hl ⊢
  have hl : lv_has ls 6 [(0, .ref x), (1, .int n), (2, .int k)] := hl
  refine lv_aload_n hx hb xd_De_provider_0 rfl (lv_at hl 0 rfl) ?_
  refine va_get (D := D) (ci := 0) (v := .ref L) (C := xR_De) (T := xT_De) (N := 6) hx hb hT xi_De hown hK.1 hP 0 rfl rfl 0 (by decide) (hT _ xk_27) (fun _ h9 => h9) rfl xd_De_provider_1 ?_
  have hPc := hP.sub (ws' := [(L, .inr (1, [.ref tx, .ref b1, .ref b2, .int 0, .int 0]))]) [1] rfl
  have hDc := hD.sub (ws' := [(L, .inr (1, [.ref tx, .ref b1, .ref b2, .int 0, .int 0]))]) [1] (by decide) rfl
  have hFc := va_free (wc := [(L, .inr (1, [.ref tx, .ref b1, .ref b2, .int 0, .int 0]))]) hD hS hA [1] rfl
  have hkc : 0 + 0 ≤ 1 := Nat.le_of_ble_eq_true rfl
  have hks : 0 + 0 ≤ 6 := Nat.le_of_ble_eq_true rfl
  refine va_calli (va_runV (As := []) (rest := []) ⟨hx, hb, hml, hown, hT⟩ (xc_Li_takeName l D kA s.heap.size L tx b1 b2) (cwV 0 hT (wT_V xk_112 xk_113 xk_114 xk_24 xk_111) rfl rfl rfl (by decide +kernel) ⟨Nat.le_of_ble_eq_true rfl, Nat.le_of_ble_eq_true rfl⟩) (x_preV hK hPc hDc 0 rfl rfl) rfl rfl hl.1 rfl (lv_room (Nat.le_of_ble_eq_true rfl)) xd_De_provider_4 ⟨hkc, hks⟩) hS (fun q _ h => hFc q h) hFc (fun r u t H1 locs ht hvm hpost hB hz1 hk1 hS => ?_)
  have hpost : r = 0 := hpost
  subst hpost
  obtain ⟨hP1, hD1⟩ := hB
  rw [ht] at hP1
  obtain ⟨hP, hD⟩ := va_join (wr := [(x, .inr (0, [.ref L, .ref S, .ref C, .ref P, .int 0, .int 0]))]) (w1 := [(L, .inr (1, [.ref tx, .ref b1, .ref b2, .int 0, .int 0]))]) hP hD [1] [0] rfl rfl (by decide) (by decide) hk1 hFc hP1 hD1
  generalize H1 = H at hP hS ⊢
  have hP : va_P D xcl [(x, .inr (0, [.ref L, .ref S, .ref C, .ref P, .int 0, .int 0])), (L, .inr (1, [.ref tx, .ref b1, .ref b2, .int 0, .int 0]))] H := hP
  have hD : va_D A [(x, .inr (0, [.ref L, .ref S, .ref C, .ref P, .int 0, .int 0])), (L, .inr (1, [.ref tx, .ref b1, .ref b2, .int 0, .int 0]))] := hD
  refine lv_istore_n hx hb xd_De_provider_7 rfl hl (Nat.le_of_ble_eq_true rfl) rfl (fun ls hl => ?_)
  have hl : lv_has ls 6 [(3, .int 0), (0, .ref x), (1, .int n), (2, .int k)] := hl
  refine lv_aload_n hx hb xd_De_provider_8 rfl (lv_at hl 1 rfl) ?_
  refine lv_iload_n hx hb xd_De_provider_9 rfl (lv_at hl 2 rfl) ?_
  have hPc := hP.sub (ws' := [(x, .inr (0, [.ref L, .ref S, .ref C, .ref P, .int 0, .int 0]))]) [0] rfl
  have hDc := hD.sub (ws' := [(x, .inr (0, [.ref L, .ref S, .ref C, .ref P, .int 0, .int 0]))]) [0] (by decide) rfl
  have hFc := va_free (wc := [(x, .inr (0, [.ref L, .ref S, .ref C, .ref P, .int 0, .int 0]))]) hD hS hA [0] rfl
  have hkc : 0 + 0 ≤ 1 := Nat.le_of_ble_eq_true rfl
  have hks : 0 + 0 ≤ 6 := Nat.le_of_ble_eq_true rfl
  refine va_callq (va_runV (As := [.int n]) (rest := []) ⟨hx, hb, hml, hown, hT⟩ (xc_De_openLayer l D kA H.size x L S C P n) (cwV 1 hT (wT_V xk_87 xk_88 xk_89 xk_90 xk_86) rfl rfl rfl (by decide +kernel) ⟨Nat.le_of_ble_eq_true rfl, Nat.le_of_ble_eq_true rfl⟩) (x_preV hK hPc hDc 0 rfl rfl) rfl rfl hl.1 rfl (lv_room (Nat.le_of_ble_eq_true rfl)) xd_De_provider_10 ⟨hkc, hks⟩) hS (fun q _ h => hFc q h) hFc (fun r u t H1 locs ht hvm hpost hB hz1 hk1 hS => ?_)
  subst hpost
  obtain ⟨hP1, hD1⟩ := hB
  rw [ht] at hP1
  obtain ⟨hP, hD⟩ := va_join (wr := [(L, .inr (1, [.ref tx, .ref b1, .ref b2, .int 0, .int 0]))]) (w1 := [(x, .inr (0, [.ref L, .ref S, .ref C, .ref P, .int 0, .int 0]))]) hP hD [0] [1] rfl rfl (by decide) (by decide) hk1 hFc hP1 hD1
  generalize H1 = H at hP hS ⊢
  have hP : va_P D xcl [(L, .inr (1, [.ref tx, .ref b1, .ref b2, .int 0, .int 0])), (x, .inr (0, [.ref L, .ref S, .ref C, .ref P, .int 0, .int 0]))] H := hP
  have hD : va_D A [(L, .inr (1, [.ref tx, .ref b1, .ref b2, .int 0, .int 0])), (x, .inr (0, [.ref L, .ref S, .ref C, .ref P, .int 0, .int 0]))] := hD
  refine lv_astoreN hx hb xd_De_provider_13 hl (Nat.le_of_ble_eq_true rfl) rfl (fun ls hl => ?_)
  have hl : lv_has ls 6 [(4, .null), (3, .int 0), (0, .ref x), (1, .int n), (2, .int k)] := hl
  refine lv_aloadN hx hb xd_De_provider_15 (lv_at hl 0 rfl) ?_
  refine lv_ifnullN (tgt := 24) hx hb xd_De_provider_17 (by decide) ?_
  have hP9 := hP.sub (ws' := [(x, .inr (0, [.ref L, .ref S, .ref C, .ref P, .int 0, .int 0])), (L, .inr (1, [.ref tx, .ref b1, .ref b2, .int 0, .int 0]))]) [1, 0] rfl
  have hD9 := hD.sub (ws' := [(x, .inr (0, [.ref L, .ref S, .ref C, .ref P, .int 0, .int 0])), (L, .inr (1, [.ref tx, .ref b1, .ref b2, .int 0, .int 0]))]) [1, 0] (by decide) rfl
  exact x_throwI (ik := 56) (is := 190) (w2 := [(x, .inr (0, [.ref L, .ref S, .ref C, .ref P, .int 0, .int 0])), (L, .inr (1, [.ref tx, .ref b1, .ref b2, .int 0, .int 0]))]) hx hb hlt hown hT hK xk_109 xk_110 hstr hU hS hP9 hD9 (hl.1.trans hml.symm) xd_De_provider_24 xd_De_provider_27 xd_De_provider_28 xd_De_provider_30 xd_De_provider_33 htab (Nat.le_of_ble_eq_true rfl) (Nat.le_of_ble_eq_true rfl) (Nat.le_of_ble_eq_true rfl) (Nat.le_of_ble_eq_true rfl) hlocks (Nat.le_of_ble_eq_true rfl) (Nat.le_of_ble_eq_true rfl)
