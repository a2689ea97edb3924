theorem k5r_0 : (Cond.fieldLink "LayerDesk$Reach" 11 "LayerDesk$Reach" "rows" "[I") ∈ wT := wT_t (List.mem_append_right _ (List.mem_append_right _ (List.mem_append_left _ (List.mem_of_getElem? (i := 174) rfl)))) rfl
set_option maxHeartbeats 4000000 in
set_option maxRecDepth 100000 in
theorem xc_Re_joinX (l : Launch) (D : va_G) (kA : Nat → ClassId) (sz : Nat) (ad : Nat → Nat → Nat) (E : Nat → Nat → va_E) (RL : List (Nat × Nat)) (b : Nat) (o : Nat) (oa : Nat) (f : Nat → Int32) (b3 : Nat) (o3 : Nat) (oa3 : Nat) (f3 : Nat → Int32) (ym0 : (b, o) ∈ RL) (yc0 : E b o = .inr (10, [.ref (ad b oa)])) (ym1 : (b, oa) ∈ RL) (yc1 : E b oa = .inl (kA 0, 6, .inl f)) (ym2 : (b3, o3) ∈ RL) (yc2 : E b3 o3 = .inr (10, [.ref (ad b3 oa3)])) (ym3 : (b3, oa3) ∈ RL) (yc3 : E b3 oa3 = .inl (kA 0, 6, .inl f3)) (hoa : o ≠ oa) (hap : ¬ (b3 = b ∧ o3 = oa) ∧ ¬ (b3 = b ∧ oa3 = oa)) : Met l xy_Re_join (.code xy_Re_join xb_Re_join 3 none :: wT) { frames := 0, cells := 0, slots := 0, locals := 0 } (va_Pc [.ref (ad b o), .ref (ad b3 o3)] (xPre D kA sz (rp ad E RL))) (va_Qv (fun (u : Nat → Nat → va_E) => ∃ f2 : Nat → Int32, (∀ r, r < 6 → f2 r = f r ||| f3 r) ∧ (u b oa = .inl (kA 0, 6, .inl f2)) ∧ ((∀ b2 o2, ¬ (b2 = b ∧ o2 = oa) → u b2 o2 = E b2 o2))) (fun (u : Nat → Nat → va_E) t => va_P D xcl (rp ad u RL) t.heap ∧ va_D (va_A (rp ad E RL) sz) (rp ad u RL)) (va_A (rp ad E RL) sz)) 0 0 (va_A (rp ad E RL) sz) := by
  refine Met.ofW (cc := xb_Re_join) (maxL := 3) (ret := none) (by decide) rfl ?_
  intro p e s m args below meth c s₁ B hml hv
  obtain ⟨rfl, hsz, hP, hK, hD0⟩ := hv
  have hx := B.exec
  have hb := B.bytes
  have hr := B.returns
  have hT := x_hT B.pre
  have hown : s.vm.findClass xR_Re = some m.cls := findClass_of_methodNamed B.named
  have hlocks := B.notSynchronized
  subst hsz
  have hD := hD0.self (sz := s.heap.size)
  generalize hAe : va_A (rp ad E RL) s.heap.size = A at hD ⊢
  have hA : ∀ q : Nat, s.heap.size ≤ q → A q := fun q h => by rw [← hAe]; exact Or.inr h
  have hS : va_S A s.heap s.heap [] := va_S.rf
  have hl := lv_entry ([.ref (ad b o), .ref (ad b3 o3)]) (n := 3) (Nat.le_of_ble_eq_true rfl)
  rw [lg_entry_eq]
  generalize (lg_sl ([.ref (ad b o), .ref (ad b3 o3)]) ++ List.replicate (3 - (lg_sl ([.ref (ad b o), .ref (ad b3 o3)])).length) Slot.unset).toArray = ls at hl ⊢
  have hl : lv_has ls 3 [(0, .ref (ad b o)), (1, .ref (ad b3 o3))] := hl
  have hP : va_P D xcl (rp ad E RL) s.heap := hP
  refine lv_iconst (v := 0) hx hb xd_Re_join_0 (by decide) ?_
  refine lv_istore_n hx hb xd_Re_join_1 rfl hl (Nat.le_of_ble_eq_true rfl) rfl (fun ls hl => ?_)
  have hl : lv_has ls 3 [(2, .int 0), (0, .ref (ad b o)), (1, .ref (ad b3 o3))] := hl
  refine xlab (σ := Nat × (Nat → Nat → va_E) × (Nat → Int32)) (ml := 3) 2 (fun (i, E1, f1) => [(2, .int (nI i)), (0, .ref (ad b o)), (1, .ref (ad b3 o3))]) (fun (i, E1, f1) => []) (fun (i, E1, f1) => rp ad E1 RL) (fun (i, E1, f1) => (i ≤ 6) ∧ (E1 b oa = .inl (kA 0, 6, .inl f1)) ∧ (∀ b2 o2, ¬ (b2 = b ∧ o2 = oa) → E1 b2 o2 = E b2 o2) ∧ (∀ r, r < i → f1 r = f r ||| f3 r) ∧ (∀ r, i ≤ r → f1 r = f r)) (fun (i, E1, f1) => 6 - i) ?_ (0, E, f) _ _ _ (lv_sub hl [0, 1, 2] rfl) hP hD hS ⟨(show 0 ≤ 6 from by first | assumption | omega), (show E b oa = .inl (kA 0, 6, .inl f) from yc1), (show ∀ b2 o2, ¬ (b2 = b ∧ o2 = oa) → E b2 o2 = E b2 o2 from fun b2 o2 _ => rfl), (show ∀ r, r < 0 → f r = f r ||| f3 r from fun r hr => absurd hr (by omega)), (show ∀ r, 0 ≤ r → f r = f r from fun r _ => rfl)⟩
  intro n9 ih1 a9 ls H locs hμ hl hP hD hS hI
  subst hμ
  obtain ⟨i, E1, f1⟩ := a9
  obtain ⟨hi, hc9, hfr, hj1, hj2⟩ := hI
  have hi : i ≤ 6 := hi
  have hc9 : E1 b oa = .inl (kA 0, 6, .inl f1) := hc9
  have hfr : ∀ b2 o2, ¬ (b2 = b ∧ o2 = oa) → E1 b2 o2 = E b2 o2 := hfr
  have hj1 : ∀ r, r < i → f1 r = f r ||| f3 r := hj1
  have hj2 : ∀ r, i ≤ r → f1 r = f r := hj2
  have hl : lv_has ls 3 [(2, .int (nI i)), (0, .ref (ad b o)), (1, .ref (ad b3 o3))] := hl
  have hP : va_P D xcl (rp ad E1 RL) H := hP
  have hD : va_D A (rp ad E1 RL) := hD
  have c_2 : E1 b o = .inr (10, [.ref (ad b oa)]) := (hfr b o (by omega)).trans yc0
  have c_3 : E1 b3 o3 = .inr (10, [.ref (ad b3 oa3)]) := (hfr b3 o3 (by omega)).trans yc2
  have c_4 : E1 b3 oa3 = .inl (kA 0, 6, .inl f3) := (hfr b3 oa3 (by omega)).trans yc3
  refine lv_iload_n hx hb xd_Re_join_2 rfl (lv_at hl 0 rfl) ?_
  refine lv_bipush (v := 6) hx hb xd_Re_join_3 (by decide) ?_
  refine xn_ge (a := i) (b := 6) (tgt := 29) hx hb xd_Re_join_5 (by decide) (by omega) (by omega) (fun hc5 => ?_) (fun hc5 => ?_)
  · exact W.vret hx hb hr (fun t ht hW => ⟨⟨E1, rfl, ⟨f1, (fun r hr => hj1 r (by omega)), hc9, (fun b2 o2 h09 => by show E1 b2 o2 = _; rw [hfr b2 o2 (by omega)])⟩, by rw [ht]; exact hP, hD⟩, hS.F ht⟩) hS.2.2 xd_Re_join_29
  · refine lv_aload_n hx hb xd_Re_join_8 rfl (lv_at hl 1 rfl) ?_
    refine px_get (D := D) (ci := 10) (v := .ref (ad b oa)) (C := xR_Re) (T := xT_Re) (N := 1) hx hb hT xi_Re hown hK.1 hP ym0 c_2 rfl 0 (by decide) (hT _ k5r_0) (fun _ h9 => h9) rfl xd_Re_join_9 ?_
    refine lv_iload_n hx hb xd_Re_join_12 rfl (lv_at hl 0 rfl) ?_
    refine lv_dup2_11 hx hb xd_Re_join_13 rfl rfl ?_
    refine px_iald (i := i) hx hb hK.1 hP ym1 hc9 0 rfl (by omega) (by decide) xd_Re_join_14 ?_
    refine lv_aload_n hx hb xd_Re_join_15 rfl (lv_at hl 2 rfl) ?_
    refine px_get (D := D) (ci := 10) (v := .ref (ad b3 oa3)) (C := xR_Re) (T := xT_Re) (N := 1) hx hb hT xi_Re hown hK.1 hP ym2 c_3 rfl 0 (by decide) (hT _ k5r_0) (fun _ h9 => h9) rfl xd_Re_join_16 ?_
    refine lv_iload_n hx hb xd_Re_join_19 rfl (lv_at hl 0 rfl) ?_
    refine px_iald (i := i) hx hb hK.1 hP ym3 c_4 0 rfl (by omega) (by decide) xd_Re_join_20 ?_
    refine lv_ior hx hb xd_Re_join_21 ?_
    refine px_iast (i := i) hx hb hK.1 hP hD hS ym1 hc9 0 rfl (by omega) (by decide) xd_Re_join_22 (fun H locs hP hD hS => ?_)
    have hP : va_P D xcl (rp ad (up2 E1 b oa (.inl (kA 0, 6, .inl (upd f1 i ((f1 i) ||| (f3 i)))))) RL) H := hP
    have hD : va_D A (rp ad (up2 E1 b oa (.inl (kA 0, 6, .inl (upd f1 i ((f1 i) ||| (f3 i)))))) RL) := hD
    generalize hE7 : up2 E1 b oa (.inl (kA 0, 6, .inl (upd f1 i ((f1 i) ||| (f3 i))))) = E6 at hP hD
    have fE8 : ∀ b2 o2, ¬ (b2 = b ∧ o2 = oa) → E6 b2 o2 = E1 b2 o2 := fun b2 o2 h9 => by rw [← hE7]; exact up2_ne (by omega)
    have c_9 : E6 b oa = .inl (kA 0, 6, .inl (upd f1 i ((f1 i) ||| (f3 i)))) := by rw [← hE7]; exact up2_eq
    have c_10 : E6 b o = .inr (10, [.ref (ad b oa)]) := (fE8 b o (by omega)).trans c_2
    have c_11 : E6 b3 o3 = .inr (10, [.ref (ad b3 oa3)]) := (fE8 b3 o3 (by omega)).trans c_3
    have c_12 : E6 b3 oa3 = .inl (kA 0, 6, .inl f3) := (fE8 b3 oa3 (by omega)).trans c_4
    refine lv_iinc (k := 0) (x := (nI i)) (v := (nI (i + 1))) hx hb xd_Re_join_23 hl rfl (xb_inc i 1) (Nat.le_of_ble_eq_true rfl) rfl (fun ls hl => ?_)
    have hl : lv_has ls 3 [(2, .int (nI (i + 1))), (0, .ref (ad b o)), (1, .ref (ad b3 o3))] := hl
    refine lv_goto (tgt := 2) hx hb xd_Re_join_26 (by decide) ?_
    exact ih1 (i + 1, E6, (upd f1 i ((f1 i) ||| (f3 i)))) _ _ _ (show 6 - (i + 1) < 6 - i by omega) (lv_sub hl [0, 1, 2] rfl) hP hD hS ⟨(show (i + 1) ≤ 6 from by first | assumption | omega), (show E6 b oa = .inl (kA 0, 6, .inl (upd f1 i ((f1 i) ||| (f3 i)))) from c_9), (show ∀ b2 o2, ¬ (b2 = b ∧ o2 = oa) → E6 b2 o2 = E b2 o2 from fun b2 o2 h9 => by rw [fE8 b2 o2 (by omega), hfr b2 o2 (by omega)]), (show ∀ r, r < (i + 1) → (upd f1 i ((f1 i) ||| (f3 i))) r = f r ||| f3 r from fun r hr => by
        by_cases q : r = i
        · rw [q, pk_us, hj2 i (Nat.le_refl _)]
        · rw [pk_un q]; exact hj1 r (by omega)), (show ∀ r, (i + 1) ≤ r → (upd f1 i ((f1 i) ||| (f3 i))) r = f r from fun r hr => by rw [pk_un (by omega)]; exact hj2 r (by omega))⟩
set_option maxHeartbeats 4000000 in
set_option maxRecDepth 100000 in
theorem xc_Re_joinSX (l : Launch) (D : va_G) (kA : Nat → ClassId) (sz : Nat) (ad : Nat → Nat → Nat) (E : Nat → Nat → va_E) (RL : List (Nat × Nat)) (b : Nat) (o : Nat) (oa : Nat) (f : Nat → Int32) (ym0 : (b, o) ∈ RL) (yc0 : E b o = .inr (10, [.ref (ad b oa)])) (ym1 : (b, oa) ∈ RL) (yc1 : E b oa = .inl (kA 0, 6, .inl f)) (hoa : o ≠ oa) : Met l xy_Re_join (.code xy_Re_join xb_Re_join 3 none :: wT) { frames := 0, cells := 0, slots := 0, locals := 0 } (va_Pc [.ref (ad b o), .ref (ad b o)] (xPre D kA sz (rp ad E RL))) (va_Qv (fun (u : Nat → Nat → va_E) => ∃ f2 : Nat → Int32, (∀ r, r < 6 → f2 r = f r ||| f r) ∧ (u b oa = .inl (kA 0, 6, .inl f2)) ∧ ((∀ b2 o2, ¬ (b2 = b ∧ o2 = oa) → u b2 o2 = E b2 o2))) (fun (u : Nat → Nat → va_E) t => va_P D xcl (rp ad u RL) t.heap ∧ va_D (va_A (rp ad E RL) sz) (rp ad u RL)) (va_A (rp ad E RL) sz)) 0 0 (va_A (rp ad E RL) sz) := by
  refine Met.ofW (cc := xb_Re_join) (maxL := 3) (ret := none) (by decide) rfl ?_
  intro p e s m args below meth c s₁ B hml hv
  obtain ⟨rfl, hsz, hP, hK, hD0⟩ := hv
  have hx := B.exec
  have hb := B.bytes
  have hr := B.returns
  have hT := x_hT B.pre
  have hown : s.vm.findClass xR_Re = some m.cls := findClass_of_methodNamed B.named
  have hlocks := B.notSynchronized
  subst hsz
  have hD := hD0.self (sz := s.heap.size)
  generalize hAe : va_A (rp ad E RL) s.heap.size = A at hD ⊢
  have hA : ∀ q : Nat, s.heap.size ≤ q → A q := fun q h => by rw [← hAe]; exact Or.inr h
  have hS : va_S A s.heap s.heap [] := va_S.rf
  have hl := lv_entry ([.ref (ad b o), .ref (ad b o)]) (n := 3) (Nat.le_of_ble_eq_true rfl)
  rw [lg_entry_eq]
  generalize (lg_sl ([.ref (ad b o), .ref (ad b o)]) ++ List.replicate (3 - (lg_sl ([.ref (ad b o), .ref (ad b o)])).length) Slot.unset).toArray = ls at hl ⊢
  have hl : lv_has ls 3 [(0, .ref (ad b o)), (1, .ref (ad b o))] := hl
  have hP : va_P D xcl (rp ad E RL) s.heap := hP
  refine lv_iconst (v := 0) hx hb xd_Re_join_0 (by decide) ?_
  refine lv_istore_n hx hb xd_Re_join_1 rfl hl (Nat.le_of_ble_eq_true rfl) rfl (fun ls hl => ?_)
  have hl : lv_has ls 3 [(2, .int 0), (0, .ref (ad b o)), (1, .ref (ad b o))] := hl
  refine xlab (σ := Nat × (Nat → Nat → va_E) × (Nat → Int32)) (ml := 3) 2 (fun (i, E1, f1) => [(2, .int (nI i)), (0, .ref (ad b o)), (1, .ref (ad b o))]) (fun (i, E1, f1) => []) (fun (i, E1, f1) => rp ad E1 RL) (fun (i, E1, f1) => (i ≤ 6) ∧ (E1 b oa = .inl (kA 0, 6, .inl f1)) ∧ (∀ b2 o2, ¬ (b2 = b ∧ o2 = oa) → E1 b2 o2 = E b2 o2) ∧ (∀ r, r < i → f1 r = f r ||| f r) ∧ (∀ r, i ≤ r → f1 r = f r)) (fun (i, E1, f1) => 6 - i) ?_ (0, E, f) _ _ _ (lv_sub hl [0, 1, 2] rfl) hP hD hS ⟨(show 0 ≤ 6 from by first | assumption | omega), (show E b oa = .inl (kA 0, 6, .inl f) from yc1), (show ∀ b2 o2, ¬ (b2 = b ∧ o2 = oa) → E b2 o2 = E b2 o2 from fun b2 o2 _ => rfl), (show ∀ r, r < 0 → f r = f r ||| f r from fun r hr => absurd hr (by omega)), (show ∀ r, 0 ≤ r → f r = f r from fun r _ => rfl)⟩
  intro n9 ih1 a9 ls H locs hμ hl hP hD hS hI
  subst hμ
  obtain ⟨i, E1, f1⟩ := a9
  obtain ⟨hi, hc9, hfr, hj1, hj2⟩ := hI
  have hi : i ≤ 6 := hi
  have hc9 : E1 b oa = .inl (kA 0, 6, .inl f1) := hc9
  have hfr : ∀ b2 o2, ¬ (b2 = b ∧ o2 = oa) → E1 b2 o2 = E b2 o2 := hfr
  have hj1 : ∀ r, r < i → f1 r = f r ||| f r := hj1
  have hj2 : ∀ r, i ≤ r → f1 r = f r := hj2
  have hl : lv_has ls 3 [(2, .int (nI i)), (0, .ref (ad b o)), (1, .ref (ad b o))] := hl
  have hP : va_P D xcl (rp ad E1 RL) H := hP
  have hD : va_D A (rp ad E1 RL) := hD
  have c_2 : E1 b o = .inr (10, [.ref (ad b oa)]) := (hfr b o (by omega)).trans yc0
  refine lv_iload_n hx hb xd_Re_join_2 rfl (lv_at hl 0 rfl) ?_
  refine lv_bipush (v := 6) hx hb xd_Re_join_3 (by decide) ?_
  refine xn_ge (a := i) (b := 6) (tgt := 29) hx hb xd_Re_join_5 (by decide) (by omega) (by omega) (fun hc3 => ?_) (fun hc3 => ?_)
  · exact W.vret hx hb hr (fun t ht hW => ⟨⟨E1, rfl, ⟨f1, (fun r hr => hj1 r (by omega)), hc9, (fun b2 o2 h09 => by show E1 b2 o2 = _; rw [hfr b2 o2 (by omega)])⟩, by rw [ht]; exact hP, hD⟩, hS.F ht⟩) hS.2.2 xd_Re_join_29
  · refine lv_aload_n hx hb xd_Re_join_8 rfl (lv_at hl 1 rfl) ?_
    refine px_get (D := D) (ci := 10) (v := .ref (ad b oa)) (C := xR_Re) (T := xT_Re) (N := 1) hx hb hT xi_Re hown hK.1 hP ym0 c_2 rfl 0 (by decide) (hT _ k5r_0) (fun _ h9 => h9) rfl xd_Re_join_9 ?_
    refine lv_iload_n hx hb xd_Re_join_12 rfl (lv_at hl 0 rfl) ?_
    refine lv_dup2_11 hx hb xd_Re_join_13 rfl rfl ?_
    refine px_iald (i := i) hx hb hK.1 hP ym1 hc9 0 rfl (by omega) (by decide) xd_Re_join_14 ?_
    refine lv_aload_n hx hb xd_Re_join_15 rfl (lv_at hl 2 rfl) ?_
    refine px_get (D := D) (ci := 10) (v := .ref (ad b oa)) (C := xR_Re) (T := xT_Re) (N := 1) hx hb hT xi_Re hown hK.1 hP ym0 c_2 rfl 0 (by decide) (hT _ k5r_0) (fun _ h9 => h9) rfl xd_Re_join_16 ?_
    refine lv_iload_n hx hb xd_Re_join_19 rfl (lv_at hl 0 rfl) ?_
    refine px_iald (i := i) hx hb hK.1 hP ym1 hc9 0 rfl (by omega) (by decide) xd_Re_join_20 ?_
    refine lv_ior hx hb xd_Re_join_21 ?_
    refine px_iast (i := i) hx hb hK.1 hP hD hS ym1 hc9 0 rfl (by omega) (by decide) xd_Re_join_22 (fun H locs hP hD hS => ?_)
    have hP : va_P D xcl (rp ad (up2 E1 b oa (.inl (kA 0, 6, .inl (upd f1 i ((f1 i) ||| (f1 i)))))) RL) H := hP
    have hD : va_D A (rp ad (up2 E1 b oa (.inl (kA 0, 6, .inl (upd f1 i ((f1 i) ||| (f1 i)))))) RL) := hD
    generalize hE5 : up2 E1 b oa (.inl (kA 0, 6, .inl (upd f1 i ((f1 i) ||| (f1 i))))) = E4 at hP hD
    have fE6 : ∀ b2 o2, ¬ (b2 = b ∧ o2 = oa) → E4 b2 o2 = E1 b2 o2 := fun b2 o2 h9 => by rw [← hE5]; exact up2_ne (by omega)
    have c_7 : E4 b oa = .inl (kA 0, 6, .inl (upd f1 i ((f1 i) ||| (f1 i)))) := by rw [← hE5]; exact up2_eq
    have c_8 : E4 b o = .inr (10, [.ref (ad b oa)]) := (fE6 b o (by omega)).trans c_2
    refine lv_iinc (k := 0) (x := (nI i)) (v := (nI (i + 1))) hx hb xd_Re_join_23 hl rfl (xb_inc i 1) (Nat.le_of_ble_eq_true rfl) rfl (fun ls hl => ?_)
    have hl : lv_has ls 3 [(2, .int (nI (i + 1))), (0, .ref (ad b o)), (1, .ref (ad b o))] := hl
    refine lv_goto (tgt := 2) hx hb xd_Re_join_26 (by decide) ?_
    exact ih1 (i + 1, E4, (upd f1 i ((f1 i) ||| (f1 i)))) _ _ _ (show 6 - (i + 1) < 6 - i by omega) (lv_sub hl [0, 1, 2] rfl) hP hD hS ⟨(show (i + 1) ≤ 6 from by first | assumption | omega), (show E4 b oa = .inl (kA 0, 6, .inl (upd f1 i ((f1 i) ||| (f1 i)))) from c_7), (show ∀ b2 o2, ¬ (b2 = b ∧ o2 = oa) → E4 b2 o2 = E b2 o2 from fun b2 o2 h9 => by rw [fE6 b2 o2 (by omega), hfr b2 o2 (by omega)]), (show ∀ r, r < (i + 1) → (upd f1 i ((f1 i) ||| (f1 i))) r = f r ||| f r from fun r hr => by
        by_cases q : r = i
        · rw [q, pk_us, hj2 i (Nat.le_refl _)]
        · rw [pk_un q]; exact hj1 r (by omega)), (show ∀ r, (i + 1) ≤ r → (upd f1 i ((f1 i) ||| (f1 i))) r = f r from fun r hr => by rw [pk_un (by omega)]; exact hj2 r (by omega))⟩
