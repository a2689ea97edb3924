theorem k4l_0 : (Cond.fieldLink "LayerDeskModel" 150 "LayerDeskModel" "layers" "I") ∈ wT := wT_t (List.mem_append_right _ (List.mem_append_right _ (List.mem_append_right _ (List.mem_append_left _ (List.mem_of_getElem? (i := 107) rfl))))) rfl
theorem k4l_1 : (Cond.fieldLink "LayerDeskModel" 84 "LayerDeskModel" "seen" "[Z") ∈ wT := wT_t (List.mem_append_right _ (List.mem_append_right _ (List.mem_append_right _ (List.mem_append_left _ (List.mem_of_getElem? (i := 114) rfl))))) rfl
theorem k4l_2 : (Cond.fieldLink "LayerDeskModel" 72 "LayerDeskModel" "modules" "[I") ∈ wT := wT_t (List.mem_append_right _ (List.mem_append_right _ (List.mem_append_right _ (List.mem_append_left _ (List.mem_of_getElem? (i := 110) rfl))))) rfl
theorem k4l_3 : (Cond.fieldLink "LayerDeskModel" 75 "LayerDeskModel" "module" "[I") ∈ wT := wT_t (List.mem_append_right _ (List.mem_append_right _ (List.mem_append_right _ (List.mem_append_left _ (List.mem_of_getElem? (i := 111) rfl))))) rfl
theorem k4l_4 : (Cond.fieldLink "LayerDeskModel" 48 "LayerDeskModel" "requires" "[I") ∈ wT := wT_t (List.mem_append_right _ (List.mem_append_right _ (List.mem_append_right _ (List.mem_append_left _ (List.mem_of_getElem? (i := 101) rfl))))) rfl
theorem k4l_5 : (Cond.fieldLink "LayerDeskModel" 63 "LayerDeskModel" "still" "[Z") ∈ wT := wT_t (List.mem_append_right _ (List.mem_append_right _ (List.mem_append_right _ (List.mem_append_left _ (List.mem_of_getElem? (i := 106) rfl))))) rfl
theorem k4l_6 : (Cond.fieldLink "LayerDeskModel" 51 "LayerDeskModel" "require" "[I") ∈ wT := wT_t (List.mem_append_right _ (List.mem_append_right _ (List.mem_append_right _ (List.mem_append_left _ (List.mem_of_getElem? (i := 102) rfl))))) rfl
theorem k4l_7 : (Cond.code xy_Mo_lookUp xb_Mo_lookUp 5 (some .int)) ∈ wT := wT_t (List.mem_append_right _ (List.mem_append_right _ (List.mem_append_right _ (List.mem_append_right _ (List.mem_of_getElem? (i := 20) rfl))))) rfl
theorem k4l_8 : (Cond.methodLink "LayerDeskModel" 153 xy_Mo_lookUp) ∈ wT := wT_t (List.mem_append_right _ (List.mem_append_right _ (List.mem_append_right _ (List.mem_append_right _ (List.mem_of_getElem? (i := 17) rfl))))) rfl
theorem k4l_9 : (Cond.instanceMethod xy_Mo_lookUp) ∈ wT := wT_t (List.mem_append_right _ (List.mem_append_right _ (List.mem_append_right _ (List.mem_append_right _ (List.mem_of_getElem? (i := 19) rfl))))) rfl
theorem k4l_10 : (Cond.selects "LayerDeskModel" xy_Mo_lookUp xy_Mo_lookUp) ∈ wT := wT_s (q := (xy_Mo_lookUp, 31)) (by decide +kernel) rfl
theorem k4l_11 : (Cond.initialized "LayerDeskModel") ∈ wT := wT_t (List.mem_append_left _ (List.mem_of_getElem? (i := 5) rfl)) rfl
set_option maxHeartbeats 4000000 in
set_option maxRecDepth 100000 in
theorem xc_Mo_isCycleX (l : Launch) (D : va_G) (kA : Nat → ClassId) (sz h : Nat) (mm : Nat → Nat) (v : Nat → Int32) (g : Nat → Nat → Int32) (d : Nat) (nl : Nat) (md0 : Nat) (hMI : MI v g) (hnl : v 5 = nI nl) (hnl5 : nl ≤ 5) (hpn : ∀ la, la < nl + 1 → ∃ lq, lq ≤ la ∧ g 19 la = nI lq - 1) (hmd0 : g 20 nl = nI md0) (hmd012 : md0 ≤ 12) (hd : d < 12) (hdm : MB g nl md0 d) : Met l xy_Mo_isCycle (.code xy_Mo_isCycle xb_Mo_isCycle 10 (some .boolean) :: wT) { frames := 1, cells := 0, slots := 0, locals := 24 } (va_Pc [.ref h, .int (nI d)] (xPre D kA sz (moW h mm kA v g))) (va_Qi (fun (r : Int32) (u : (Nat → Int32) × (Nat → Nat → Int32)) => u.1 = v ∧ (∀ j, j ≠ 24 → u.2 j = g j) ∧ (¬ r = 0 ↔ tc (stp g nl) d d)) (fun (u : (Nat → Int32) × (Nat → Nat → Int32)) t => va_P D xcl (moW h mm kA u.1 u.2) t.heap ∧ va_D (va_A (moW h mm kA v g) sz) (moW h mm kA u.1 u.2)) (va_A (moW h mm kA v g) sz)) 0 0 (va_A (moW h mm kA v g) sz) := by
  refine Met.ofW (cc := xb_Mo_isCycle) (maxL := 10) (ret := (some .boolean)) (by decide) rfl ?_
  intro p e s m args below meth c s₁ B hml hv
  obtain ⟨rfl, hsz, hP, hK, hD0⟩ := hv
  have hx := B.exec
  have hb := B.bytes
  have hr := B.returns
  have hT := x_hT B.pre
  have hown : s.vm.findClass xR_Mo = some m.cls := findClass_of_methodNamed B.named
  have hlocks := B.notSynchronized
  subst hsz
  have hD := hD0.self (sz := s.heap.size)
  generalize hAe : va_A (moW h mm kA v g) s.heap.size = A at hD ⊢
  have hA : ∀ q : Nat, s.heap.size ≤ q → A q := fun q h => by rw [← hAe]; exact Or.inr h
  have hS : va_S A s.heap s.heap [] := va_S.rf
  have hl := lv_entry ([.ref h, .int (nI d)]) (n := 10) (Nat.le_of_ble_eq_true rfl)
  rw [lg_entry_eq]
  generalize (lg_sl ([.ref h, .int (nI d)]) ++ List.replicate (10 - (lg_sl ([.ref h, .int (nI d)])).length) Slot.unset).toArray = ls at hl ⊢
  have hl : lv_has ls 10 [(0, .ref h), (1, .int (nI d))] := hl
  have hP : va_P D xcl (moW h mm kA v g) s.heap := hP
  obtain ⟨-, -, -, -, hrq, hmd, -⟩ := id hMI
  obtain ⟨mdk, hmdk, emdk, hent⟩ := hmd nl (by omega)
  have emd : md0 = mdk := (nI_eq (by rw [xb_31]; omega) (by rw [xb_31]; omega)).mp (hmd0.symm.trans emdk)
  have hent2 : ∀ i, 12 * nl ≤ i → i < 12 * nl + md0 → ∃ d, d < 12 ∧ g 21 i = nI d := fun i h1 h2 => by
    have h3 := hent (i - 12 * nl) (by omega)
    rwa [show 12 * nl + (i - 12 * nl) = i by omega] at h3
  refine lv_aload_n hx hb xd_Mo_isCycle_0 rfl (lv_at hl 0 rfl) ?_
  refine va_get (D := D) (ci := 4) (v := .int (v 5)) (C := xR_Mo) (T := xT_Mo) (N := 31) hx hb hT xi_Mo hown hK.1 hP 0 rfl rfl 23 (by decide) (hT _ k4l_0) (fun _ h9 => h9) rfl xd_Mo_isCycle_1 ?_
  refine xn_top (x := (v 5)) (y := nI nl) hnl ?_
  refine lv_istore_n hx hb xd_Mo_isCycle_4 rfl hl (Nat.le_of_ble_eq_true rfl) rfl (fun ls hl => ?_)
  have hl : lv_has ls 10 [(2, .int (nI nl)), (0, .ref h), (1, .int (nI d))] := hl
  refine lv_iconst (v := 0) hx hb xd_Mo_isCycle_5 (by decide) ?_
  refine lv_istore_n hx hb xd_Mo_isCycle_6 rfl hl (Nat.le_of_ble_eq_true rfl) rfl (fun ls hl => ?_)
  have hl : lv_has ls 10 [(3, .int 0), (2, .int (nI nl)), (0, .ref h), (1, .int (nI d))] := hl
  refine xlab (σ := Nat × (Nat → Int32)) (ml := 10) 7 (fun (i0, f0) => [(3, .int (nI i0)), (2, .int (nI nl)), (0, .ref h), (1, .int (nI d))]) (fun (i0, f0) => []) (fun (i0, f0) => moW h mm kA v (va_up g 24 f0)) (fun (i0, f0) => (i0 ≤ 72) ∧ (∀ j, j < i0 → f0 j = vp_nar .boolean 0)) (fun (i0, f0) => 72 - i0) ?_ (0, (g 24)) _ _ _ (lv_sub hl [0, 1, 2, 3] rfl) hP hD hS ⟨(show 0 ≤ 72 from by first | assumption | omega), (show ∀ j, j < 0 → (g 24) j = vp_nar .boolean 0 from fun j hj => absurd hj (by omega))⟩
  intro n9 ih1 a9 ls H locs hμ hl hP hD hS hI
  subst hμ
  obtain ⟨i0, f0⟩ := a9
  obtain ⟨hi0, hz0⟩ := hI
  have hi0 : i0 ≤ 72 := hi0
  have hz0 : ∀ j, j < i0 → f0 j = vp_nar .boolean 0 := hz0
  have hl : lv_has ls 10 [(3, .int (nI i0)), (2, .int (nI nl)), (0, .ref h), (1, .int (nI d))] := hl
  have hP : va_P D xcl (moW h mm kA v (va_up g 24 f0)) H := hP
  have hD : va_D A (moW h mm kA v (va_up g 24 f0)) := hD
  refine lv_iload_n hx hb xd_Mo_isCycle_7 rfl (lv_at hl 0 rfl) ?_
  refine lv_bipush (v := 72) hx hb xd_Mo_isCycle_8 (by decide) ?_
  refine xn_ge (a := i0) (b := 72) (tgt := 26) hx hb xd_Mo_isCycle_10 (by decide) (by omega) (by omega) (fun hc2 => ?_) (fun hc2 => ?_)
  · refine lv_iconst (v := 1) hx hb xd_Mo_isCycle_26 (by decide) ?_
    refine lv_istore_n hx hb xd_Mo_isCycle_27 rfl hl (Nat.le_of_ble_eq_true rfl) rfl (fun ls hl => ?_)
    have hl : lv_has ls 10 [(3, .int 1), (2, .int (nI nl)), (0, .ref h), (1, .int (nI d))] := hl
    refine lv_iconst (v := 1) hx hb xd_Mo_isCycle_28 (by decide) ?_
    refine lv_istore hx hb xd_Mo_isCycle_29 hl (Nat.le_of_ble_eq_true rfl) rfl (fun ls hl => ?_)
    have hl : lv_has ls 10 [(4, .int 1), (3, .int 1), (2, .int (nI nl)), (0, .ref h), (1, .int (nI d))] := hl
    refine xlab (σ := Nat × Nat × (Nat → Int32)) (ml := 10) 31 (fun (mr3, fi, f3) => [(3, .int (nI mr3)), (4, .int (nI fi)), (2, .int (nI nl)), (0, .ref h), (1, .int (nI d))]) (fun (mr3, fi, f3) => []) (fun (mr3, fi, f3) => moW h mm kA v (va_up g 24 f3)) (fun (mr3, fi, f3) => (mr3 ≤ 1) ∧ (fi ≤ 1) ∧ (bz f3) ∧ (cyS g nl md0 d f3) ∧ ((fi = 0 → ∀ b, stp g nl d b → ¬ f3 (12 * nl + b) = 0) ∧ (mr3 = 0 → fi = 0 ∧ ∀ j, 12 * nl ≤ j → j < 12 * nl + md0 → ∀ m9, g 21 j = nI m9 → m9 < 12 → ¬ f3 (12 * nl + m9) = 0 → ∀ b, stp g nl m9 b → ¬ f3 (12 * nl + b) = 0)) ∧ (¬ fi = 0 → ∀ t, t < 72 → f3 t = 0)) (fun (mr3, fi, f3) => 2 * cz f3 72 + mr3) ?_ (1, 1, f0) _ _ _ (lv_sub hl [1, 0, 2, 3, 4] rfl) hP hD hS ⟨(show 1 ≤ 1 from by first | assumption | omega), (show 1 ≤ 1 from by first | assumption | omega), (show bz f0 from bz_0 (fun j hj => hz0 j (by omega))), (show cyS g nl md0 d f0 from cyS_0 (fun j hj => hz0 j (by omega))), (show (1 = 0 → ∀ b, stp g nl d b → ¬ f0 (12 * nl + b) = 0) ∧ (1 = 0 → 1 = 0 ∧ ∀ j, 12 * nl ≤ j → j < 12 * nl + md0 → ∀ m9, g 21 j = nI m9 → m9 < 12 → ¬ f0 (12 * nl + m9) = 0 → ∀ b, stp g nl m9 b → ¬ f0 (12 * nl + b) = 0) from ⟨fun q => absurd q (by omega), fun q => absurd q (by omega)⟩), (show ¬ 1 = 0 → ∀ t, t < 72 → f0 t = 0 from fun _ t ht => (hz0 t (by omega)).trans (by decide))⟩
    intro n9 ih3 a9 ls H locs hμ hl hP hD hS hI
    subst hμ
    obtain ⟨mr3, fi, f3⟩ := a9
    obtain ⟨hmr31, hfi, hbz3, hs3, hc3, hz3⟩ := hI
    have hmr31 : mr3 ≤ 1 := hmr31
    have hfi : fi ≤ 1 := hfi
    have hbz3 : bz f3 := hbz3
    have hs3 : cyS g nl md0 d f3 := hs3
    have hc3 : (fi = 0 → ∀ b, stp g nl d b → ¬ f3 (12 * nl + b) = 0) ∧ (mr3 = 0 → fi = 0 ∧ ∀ j, 12 * nl ≤ j → j < 12 * nl + md0 → ∀ m9, g 21 j = nI m9 → m9 < 12 → ¬ f3 (12 * nl + m9) = 0 → ∀ b, stp g nl m9 b → ¬ f3 (12 * nl + b) = 0) := hc3
    have hz3 : ¬ fi = 0 → ∀ t, t < 72 → f3 t = 0 := hz3
    have hl : lv_has ls 10 [(3, .int (nI mr3)), (4, .int (nI fi)), (2, .int (nI nl)), (0, .ref h), (1, .int (nI d))] := hl
    have hP : va_P D xcl (moW h mm kA v (va_up g 24 f3)) H := hP
    have hD : va_D A (moW h mm kA v (va_up g 24 f3)) := hD
    refine lv_iload_n hx hb xd_Mo_isCycle_31 rfl (lv_at hl 0 rfl) ?_
    refine xz_eq (a := mr3) (tgt := 204) hx hb xd_Mo_isCycle_32 (by decide) (by omega) (fun hc4 => ?_) (fun hc4 => ?_)
    · refine lv_aload_n hx hb xd_Mo_isCycle_204 rfl (lv_at hl 3 rfl) ?_
      refine va_get (D := D) (ci := 4) (v := .ref (mm 24)) (C := xR_Mo) (T := xT_Mo) (N := 31) hx hb hT xi_Mo hown hK.1 hP 0 rfl rfl 30 (by decide) (hT _ k4l_1) (fun _ h9 => h9) rfl xd_Mo_isCycle_205 ?_
      refine lv_bipush (v := 12) hx hb xd_Mo_isCycle_208 (by decide) ?_
      refine lv_iload_n hx hb xd_Mo_isCycle_210 rfl (lv_at hl 2 rfl) ?_
      refine lv_imul hx hb xd_Mo_isCycle_211 ?_
      refine xn_top (y := nI (12 * nl)) (pk_mul 12 nl) ?_
      refine lv_iload_n hx hb xd_Mo_isCycle_212 rfl (lv_at hl 4 rfl) ?_
      refine lv_iadd hx hb xd_Mo_isCycle_213 ?_
      refine xn_top (y := nI ((12 * nl) + d)) (nI_add (12 * nl) d) ?_
      refine xn_zald (i := (12 * nl) + d) hx hb hK.1 hP 25 2 rfl rfl (by omega) (by decide) xd_Mo_isCycle_214 ?_
      exact W.zret (v := (f3 ((12 * nl) + d))) hx hb hr (hbz3 _ (by omega)) (fun t ht hW => ⟨⟨(f3 ((12 * nl) + d)), (v, (va_up g 24 f3)), rfl, ⟨rfl, fun j h1 => by simp [va_up, h1], ⟨fun q => (by
        obtain ⟨b9, q1, _, q3⟩ := hs3 (12 * nl + d) (by omega) q
        rw [show b9 = d by omega] at q3; exact q3), fun q => (by
        have hc := hc3.2 (by omega)
        exact (tc_min (S := fun b => b < 12 ∧ ¬ f3 (12 * nl + b) = 0) (fun b hb => ⟨(stp_MB hnl5 hpn hmd0 hmd012 hent2 hb).1, hc3.1 hc.1 b hb⟩) (fun b c hb hs => by
          have hb1 := hb.1
          obtain ⟨b8, e8, ⟨l8, j8, a8, c8, d8⟩, _⟩ := hs3 (12 * nl + b) (by omega) hb.2
          rw [show b8 = b by omega] at d8
          exact ⟨(stp_MB hnl5 hpn hmd0 hmd012 hent2 hs).1, hc.2 j8 a8 c8 b d8 hb.1 hb.2 c hs⟩) q).2)⟩⟩, by rw [ht]; exact hP, hD⟩, hS.F ht⟩) hS.2.2 xd_Mo_isCycle_215
    · refine lv_iconst (v := 0) hx hb xd_Mo_isCycle_35 (by decide) ?_
      refine lv_istore_n hx hb xd_Mo_isCycle_36 rfl hl (Nat.le_of_ble_eq_true rfl) rfl (fun ls hl => ?_)
      have hl : lv_has ls 10 [(3, .int 0), (4, .int (nI fi)), (2, .int (nI nl)), (0, .ref h), (1, .int (nI d))] := hl
      refine lv_bipush (v := 12) hx hb xd_Mo_isCycle_37 (by decide) ?_
      refine lv_iload_n hx hb xd_Mo_isCycle_39 rfl (lv_at hl 2 rfl) ?_
      refine lv_imul hx hb xd_Mo_isCycle_40 ?_
      refine xn_top (y := nI (12 * nl)) (pk_mul 12 nl) ?_
      refine lv_istore hx hb xd_Mo_isCycle_41 hl (Nat.le_of_ble_eq_true rfl) rfl (fun ls hl => ?_)
      have hl : lv_has ls 10 [(5, .int (nI (12 * nl))), (3, .int 0), (4, .int (nI fi)), (2, .int (nI nl)), (0, .ref h), (1, .int (nI d))] := hl
      refine xlab (σ := Nat × Nat × (Nat → Int32)) (ml := 10) 43 (fun (q5, mr5, f5) => [(5, .int (nI q5)), (3, .int (nI mr5)), (4, .int (nI fi)), (2, .int (nI nl)), (0, .ref h), (1, .int (nI d))]) (fun (q5, mr5, f5) => []) (fun (q5, mr5, f5) => moW h mm kA v (va_up g 24 f5)) (fun (q5, mr5, f5) => (12 * nl ≤ q5) ∧ (q5 ≤ 12 * nl + md0) ∧ (mr5 ≤ 1) ∧ (cz f5 72 ≤ cz f3 72) ∧ (mr5 = 1 → cz f5 72 < cz f3 72) ∧ (bz f5) ∧ (cyS g nl md0 d f5) ∧ (∀ t, ¬ f3 t = 0 → ¬ f5 t = 0) ∧ (mr5 = 0 → f5 = f3) ∧ (∀ j, 12 * nl ≤ j → j < q5 → ∀ m9, g 21 j = nI m9 → m9 < 12 → ((¬ fi = 0 ∧ m9 = d) ∨ (fi = 0 ∧ ¬ f3 (12 * nl + m9) = 0)) → ∀ b, stp g nl m9 b → ¬ f5 (12 * nl + b) = 0)) (fun (q5, mr5, f5) => 12 * nl + md0 - q5) ?_ (12 * nl, 0, f3) _ _ _ (lv_sub hl [0, 1, 2, 3, 4, 5] rfl) hP hD hS ⟨(show 12 * nl ≤ (12 * nl) from by first | assumption | omega), (show (12 * nl) ≤ 12 * nl + md0 from by first | assumption | omega), (show 0 ≤ 1 from by first | assumption | omega), (show cz f3 72 ≤ cz f3 72 from by omega), (show 0 = 1 → cz f3 72 < cz f3 72 from fun h => absurd h (by omega)), (show bz f3 from hbz3), (show cyS g nl md0 d f3 from hs3), (show ∀ t, ¬ f3 t = 0 → ¬ f3 t = 0 from fun t ht => ht), (show 0 = 0 → f3 = f3 from fun _ => rfl), (show ∀ j, 12 * nl ≤ j → j < (12 * nl) → ∀ m9, g 21 j = nI m9 → m9 < 12 → ((¬ fi = 0 ∧ m9 = d) ∨ (fi = 0 ∧ ¬ f3 (12 * nl + m9) = 0)) → ∀ b, stp g nl m9 b → ¬ f3 (12 * nl + b) = 0 from fun j h1 h2 => absurd h2 (by omega))⟩
      intro n9 ih5 a9 ls H locs hμ hl hP hD hS hI
      subst hμ
      obtain ⟨q5, mr5, f5⟩ := a9
      obtain ⟨hq1, hq2, hmr51, hc5, hmr5, hbz5, hs5, hmo5, hme5, hp5⟩ := hI
      have hq1 : 12 * nl ≤ q5 := hq1
      have hq2 : q5 ≤ 12 * nl + md0 := hq2
      have hmr51 : mr5 ≤ 1 := hmr51
      have hc5 : cz f5 72 ≤ cz f3 72 := hc5
      have hmr5 : mr5 = 1 → cz f5 72 < cz f3 72 := hmr5
      have hbz5 : bz f5 := hbz5
      have hs5 : cyS g nl md0 d f5 := hs5
      have hmo5 : ∀ t, ¬ f3 t = 0 → ¬ f5 t = 0 := hmo5
      have hme5 : mr5 = 0 → f5 = f3 := hme5
      have hp5 : ∀ j, 12 * nl ≤ j → j < q5 → ∀ m9, g 21 j = nI m9 → m9 < 12 → ((¬ fi = 0 ∧ m9 = d) ∨ (fi = 0 ∧ ¬ f3 (12 * nl + m9) = 0)) → ∀ b, stp g nl m9 b → ¬ f5 (12 * nl + b) = 0 := hp5
      have hl : lv_has ls 10 [(5, .int (nI q5)), (3, .int (nI mr5)), (4, .int (nI fi)), (2, .int (nI nl)), (0, .ref h), (1, .int (nI d))] := hl
      have hP : va_P D xcl (moW h mm kA v (va_up g 24 f5)) H := hP
      have hD : va_D A (moW h mm kA v (va_up g 24 f5)) := hD
      refine lv_iload hx hb xd_Mo_isCycle_43 (lv_at hl 0 rfl) ?_
      refine lv_bipush (v := 12) hx hb xd_Mo_isCycle_45 (by decide) ?_
      refine lv_iload_n hx hb xd_Mo_isCycle_47 rfl (lv_at hl 3 rfl) ?_
      refine lv_imul hx hb xd_Mo_isCycle_48 ?_
      refine xn_top (y := nI (12 * nl)) (pk_mul 12 nl) ?_
      refine lv_aload_n hx hb xd_Mo_isCycle_49 rfl (lv_at hl 4 rfl) ?_
      refine va_get (D := D) (ci := 4) (v := .ref (mm 20)) (C := xR_Mo) (T := xT_Mo) (N := 31) hx hb hT xi_Mo hown hK.1 hP 0 rfl rfl 26 (by decide) (hT _ k4l_2) (fun _ h9 => h9) rfl xd_Mo_isCycle_50 ?_
      refine lv_iload_n hx hb xd_Mo_isCycle_53 rfl (lv_at hl 3 rfl) ?_
      refine xn_iald (i := nl) hx hb hK.1 hP 21 0 rfl rfl (by omega) (by decide) xd_Mo_isCycle_54 ?_
      refine xn_top (x := (g 20 nl)) (y := nI md0) hmd0 ?_
      refine lv_iadd hx hb xd_Mo_isCycle_55 ?_
      refine xn_top (y := nI ((12 * nl) + md0)) (nI_add (12 * nl) md0) ?_
      refine xn_ge (a := q5) (b := (12 * nl) + md0) (tgt := 198) hx hb xd_Mo_isCycle_56 (by decide) (by omega) (by omega) (fun hc6 => ?_) (fun hc6 => ?_)
      · refine lv_iconst (v := 0) hx hb xd_Mo_isCycle_198 (by decide) ?_
        refine lv_istore hx hb xd_Mo_isCycle_199 hl (Nat.le_of_ble_eq_true rfl) rfl (fun ls hl => ?_)
        have hl : lv_has ls 10 [(4, .int 0), (5, .int (nI q5)), (3, .int (nI mr5)), (2, .int (nI nl)), (0, .ref h), (1, .int (nI d))] := hl
        refine lv_goto (tgt := 31) hx hb xd_Mo_isCycle_201 (by decide) ?_
        exact ih3 (mr5, 0, f5) _ _ _ (show 2 * cz f5 72 + mr5 < 2 * cz f3 72 + mr3 by omega) (lv_sub hl [2, 0, 3, 4, 5] rfl) hP hD hS ⟨(show mr5 ≤ 1 from by first | assumption | omega), (show 0 ≤ 1 from by first | assumption | omega), (show bz f5 from hbz5), (show cyS g nl md0 d f5 from hs5), (show (0 = 0 → ∀ b, stp g nl d b → ¬ f5 (12 * nl + b) = 0) ∧ (mr5 = 0 → 0 = 0 ∧ ∀ j, 12 * nl ≤ j → j < 12 * nl + md0 → ∀ m9, g 21 j = nI m9 → m9 < 12 → ¬ f5 (12 * nl + m9) = 0 → ∀ b, stp g nl m9 b → ¬ f5 (12 * nl + b) = 0) from ⟨fun _ b q => by
        rcases Nat.eq_zero_or_pos fi with e | e
        · exact hmo5 _ (hc3.1 e b q)
        · obtain ⟨hd9, j9, a9, b9, c9⟩ := hdm
          exact hp5 j9 a9 (by omega) d c9 hd9 (Or.inl ⟨by omega, rfl⟩) b q, fun q0 => ⟨rfl, fun j a9 b9 m9 e9 l9 q1 b q2 => by
        rcases Nat.eq_zero_or_pos fi with e | e
        · exact hp5 j a9 (by omega) m9 e9 l9 (Or.inr ⟨e, by rw [← hme5 q0]; exact q1⟩) b q2
        · exact absurd (hz3 (by omega) (12 * nl + m9) (by omega)) (by rw [← hme5 q0]; exact q1)⟩⟩), (show ¬ 0 = 0 → ∀ t, t < 72 → f5 t = 0 from fun q => absurd rfl q)⟩
      · refine lv_aload_n hx hb xd_Mo_isCycle_59 rfl (lv_at hl 4 rfl) ?_
        refine va_get (D := D) (ci := 4) (v := .ref (mm 21)) (C := xR_Mo) (T := xT_Mo) (N := 31) hx hb hT xi_Mo hown hK.1 hP 0 rfl rfl 27 (by decide) (hT _ k4l_3) (fun _ h9 => h9) rfl xd_Mo_isCycle_60 ?_
        refine lv_iload hx hb xd_Mo_isCycle_63 (lv_at hl 0 rfl) ?_
        refine xn_iald (i := q5) hx hb hK.1 hP 22 0 rfl rfl (by omega) (by decide) xd_Mo_isCycle_65 ?_
        obtain ⟨k7, hk8, ek9⟩ := hent2 q5 (by omega) (by omega)
        refine xn_top (x := (g 21 q5)) ek9 ?_
        refine lv_istore hx hb xd_Mo_isCycle_66 hl (Nat.le_of_ble_eq_true rfl) rfl (fun ls hl => ?_)
        have hl : lv_has ls 10 [(6, .int (nI k7)), (5, .int (nI q5)), (3, .int (nI mr5)), (4, .int (nI fi)), (2, .int (nI nl)), (0, .ref h), (1, .int (nI d))] := hl
        refine xjoin (D := D) (cl := xcl) (A := A) (H0 := s.heap) (σ := Int32) (ml := 10) 101 (fun (fr : Int32) => [(7, .int fr), (6, .int (nI k7)), (5, .int (nI q5)), (4, .int (nI fi)), (3, .int (nI mr5)), (2, .int (nI nl)), (0, .ref h), (1, .int (nI d))]) (fun (fr : Int32) => []) (fun (fr : Int32) => moW h mm kA v (va_up g 24 f5)) (fun (fr : Int32) => (¬ fr = 0 → (k7 = d ∨ tc (stp g nl) d k7)) ∧ (((¬ fi = 0 ∧ k7 = d) ∨ (fi = 0 ∧ ¬ f3 (12 * nl + k7) = 0)) → ¬ fr = 0)) ?_ (fun jn10 => ?_)
        · intro a9 ls H locs hl hP hD hS hI
          obtain ⟨fr, rfl⟩ : ∃ z, z = a9 := ⟨_, rfl⟩
          obtain ⟨hfS, hfC⟩ := hI
          have hfS : ¬ fr = 0 → (k7 = d ∨ tc (stp g nl) d k7) := hfS
          have hfC : ((¬ fi = 0 ∧ k7 = d) ∨ (fi = 0 ∧ ¬ f3 (12 * nl + k7) = 0)) → ¬ fr = 0 := hfC
          have hl : lv_has ls 10 [(7, .int fr), (6, .int (nI k7)), (5, .int (nI q5)), (4, .int (nI fi)), (3, .int (nI mr5)), (2, .int (nI nl)), (0, .ref h), (1, .int (nI d))] := hl
          have hP : va_P D xcl (moW h mm kA v (va_up g 24 f5)) H := hP
          have hD : va_D A (moW h mm kA v (va_up g 24 f5)) := hD
          obtain ⟨rq1, hrq1, erq1⟩ := hrq k7 (by omega)
          refine lv_iconst (v := 5) hx hb xd_Mo_isCycle_101 (by decide) ?_
          refine lv_iload hx hb xd_Mo_isCycle_102 (lv_at hl 1 rfl) ?_
          refine lv_imul hx hb xd_Mo_isCycle_104 ?_
          refine xn_top (y := nI (5 * k7)) (pk_mul 5 k7) ?_
          refine lv_istore hx hb xd_Mo_isCycle_105 hl (Nat.le_of_ble_eq_true rfl) rfl (fun ls hl => ?_)
          have hl : lv_has ls 10 [(8, .int (nI (5 * k7))), (7, .int fr), (6, .int (nI k7)), (5, .int (nI q5)), (4, .int (nI fi)), (3, .int (nI mr5)), (2, .int (nI nl)), (0, .ref h), (1, .int (nI d))] := hl
          refine xlab (σ := Nat × Nat × (Nat → Int32)) (ml := 10) 107 (fun (k8, mr8, f8) => [(8, .int (nI k8)), (7, .int fr), (3, .int (nI mr8)), (6, .int (nI k7)), (5, .int (nI q5)), (4, .int (nI fi)), (2, .int (nI nl)), (0, .ref h), (1, .int (nI d))]) (fun (k8, mr8, f8) => []) (fun (k8, mr8, f8) => moW h mm kA v (va_up g 24 f8)) (fun (k8, mr8, f8) => (5 * k7 ≤ k8) ∧ (k8 ≤ 5 * k7 + rq1) ∧ (mr8 ≤ 1) ∧ (cz f8 72 ≤ cz f3 72) ∧ (mr8 = 1 → cz f8 72 < cz f3 72) ∧ (bz f8) ∧ (cyS g nl md0 d f8) ∧ (∀ t, ¬ f3 t = 0 → ¬ f8 t = 0) ∧ (∀ t, ¬ f5 t = 0 → ¬ f8 t = 0) ∧ (mr8 = 0 → f8 = f3) ∧ (¬ fr = 0 → ∀ i, 5 * k7 ≤ i → i < k8 → g 17 i = 0 → ∀ b9, lkG g (nl + 1) (g 13 i) = some (nl, b9) → ¬ f8 (12 * nl + b9) = 0)) (fun (k8, mr8, f8) => 5 * k7 + rq1 - k8) ?_ (5 * k7, mr5, f5) _ _ _ (lv_sub hl [0, 1, 5, 2, 3, 4, 6, 7, 8] rfl) hP hD hS ⟨(show 5 * k7 ≤ (5 * k7) from by first | assumption | omega), (show (5 * k7) ≤ 5 * k7 + rq1 from by first | assumption | omega), (show mr5 ≤ 1 from by first | assumption | omega), (show cz f5 72 ≤ cz f3 72 from by omega), (show mr5 = 1 → cz f5 72 < cz f3 72 from hmr5), (show bz f5 from hbz5), (show cyS g nl md0 d f5 from hs5), (show ∀ t, ¬ f3 t = 0 → ¬ f5 t = 0 from hmo5), (show ∀ t, ¬ f5 t = 0 → ¬ f5 t = 0 from fun t ht => ht), (show mr5 = 0 → f5 = f3 from hme5), (show ¬ fr = 0 → ∀ i, 5 * k7 ≤ i → i < (5 * k7) → g 17 i = 0 → ∀ b9, lkG g (nl + 1) (g 13 i) = some (nl, b9) → ¬ f5 (12 * nl + b9) = 0 from fun _ i h1 h2 => absurd h2 (by omega))⟩
          intro n9 ih11 a9 ls H locs hμ hl hP hD hS hI
          subst hμ
          obtain ⟨k8, mr8, f8⟩ := a9
          obtain ⟨hk81, hk82, hmr81, hc8, hmr8, hbz8, hs8, hmo8, hm58, hme8, hk8⟩ := hI
          have hk81 : 5 * k7 ≤ k8 := hk81
          have hk82 : k8 ≤ 5 * k7 + rq1 := hk82
          have hmr81 : mr8 ≤ 1 := hmr81
          have hc8 : cz f8 72 ≤ cz f3 72 := hc8
          have hmr8 : mr8 = 1 → cz f8 72 < cz f3 72 := hmr8
          have hbz8 : bz f8 := hbz8
          have hs8 : cyS g nl md0 d f8 := hs8
          have hmo8 : ∀ t, ¬ f3 t = 0 → ¬ f8 t = 0 := hmo8
          have hm58 : ∀ t, ¬ f5 t = 0 → ¬ f8 t = 0 := hm58
          have hme8 : mr8 = 0 → f8 = f3 := hme8
          have hk8 : ¬ fr = 0 → ∀ i, 5 * k7 ≤ i → i < k8 → g 17 i = 0 → ∀ b9, lkG g (nl + 1) (g 13 i) = some (nl, b9) → ¬ f8 (12 * nl + b9) = 0 := hk8
          have hl : lv_has ls 10 [(8, .int (nI k8)), (7, .int fr), (3, .int (nI mr8)), (6, .int (nI k7)), (5, .int (nI q5)), (4, .int (nI fi)), (2, .int (nI nl)), (0, .ref h), (1, .int (nI d))] := hl
          have hP : va_P D xcl (moW h mm kA v (va_up g 24 f8)) H := hP
          have hD : va_D A (moW h mm kA v (va_up g 24 f8)) := hD
          refine lv_iload hx hb xd_Mo_isCycle_107 (lv_at hl 0 rfl) ?_
          refine lv_iconst (v := 5) hx hb xd_Mo_isCycle_109 (by decide) ?_
          refine lv_iload hx hb xd_Mo_isCycle_110 (lv_at hl 3 rfl) ?_
          refine lv_imul hx hb xd_Mo_isCycle_112 ?_
          refine xn_top (y := nI (5 * k7)) (pk_mul 5 k7) ?_
          refine lv_aload_n hx hb xd_Mo_isCycle_113 rfl (lv_at hl 7 rfl) ?_
          refine va_get (D := D) (ci := 4) (v := .ref (mm 12)) (C := xR_Mo) (T := xT_Mo) (N := 31) hx hb hT xi_Mo hown hK.1 hP 0 rfl rfl 17 (by decide) (hT _ k4l_4) (fun _ h9 => h9) rfl xd_Mo_isCycle_114 ?_
          refine lv_iload hx hb xd_Mo_isCycle_117 (lv_at hl 3 rfl) ?_
          refine xn_iald (i := k7) hx hb hK.1 hP 13 0 rfl rfl (by omega) (by decide) xd_Mo_isCycle_119 ?_
          refine xn_top (x := (g 12 k7)) (y := nI rq1) erq1 ?_
          refine lv_iadd hx hb xd_Mo_isCycle_120 ?_
          refine xn_top (y := nI ((5 * k7) + rq1)) (nI_add (5 * k7) rq1) ?_
          refine xn_ge (a := k8) (b := (5 * k7) + rq1) (tgt := 192) hx hb xd_Mo_isCycle_121 (by decide) (by omega) (by omega) (fun hc12 => ?_) (fun hc12 => ?_)
          · refine lv_iinc (k := 4) (x := (nI q5)) (v := (nI (q5 + 1))) hx hb xd_Mo_isCycle_192 hl rfl (xb_inc q5 1) (Nat.le_of_ble_eq_true rfl) rfl (fun ls hl => ?_)
            have hl : lv_has ls 10 [(5, .int (nI (q5 + 1))), (8, .int (nI k8)), (7, .int fr), (3, .int (nI mr8)), (6, .int (nI k7)), (4, .int (nI fi)), (2, .int (nI nl)), (0, .ref h), (1, .int (nI d))] := hl
            refine lv_goto (tgt := 43) hx hb xd_Mo_isCycle_195 (by decide) ?_
            exact ih5 (q5 + 1, mr8, f8) _ _ _ (show 12 * nl + md0 - (q5 + 1) < 12 * nl + md0 - q5 by omega) (lv_sub hl [0, 3, 5, 6, 7, 8] rfl) hP hD hS ⟨(show 12 * nl ≤ (q5 + 1) from by first | assumption | omega), (show (q5 + 1) ≤ 12 * nl + md0 from by first | assumption | omega), (show mr8 ≤ 1 from by first | assumption | omega), (show cz f8 72 ≤ cz f3 72 from by omega), (show mr8 = 1 → cz f8 72 < cz f3 72 from hmr8), (show bz f8 from hbz8), (show cyS g nl md0 d f8 from hs8), (show ∀ t, ¬ f3 t = 0 → ¬ f8 t = 0 from hmo8), (show mr8 = 0 → f8 = f3 from hme8), (show ∀ j, 12 * nl ≤ j → j < (q5 + 1) → ∀ m9, g 21 j = nI m9 → m9 < 12 → ((¬ fi = 0 ∧ m9 = d) ∨ (fi = 0 ∧ ¬ f3 (12 * nl + m9) = 0)) → ∀ b, stp g nl m9 b → ¬ f8 (12 * nl + b) = 0 from fun j h1 h2 m9 e9 l9 q1 b q2 => by
        rcases Nat.lt_or_ge j q5 with q | q
        · exact hm58 _ (hp5 j h1 q m9 e9 l9 q1 b q2)
        · have e8 : m9 = k7 := by
            rw [show j = q5 by omega, ek9] at e9
            exact nI_inj (by omega) (by omega) e9.symm
          subst e8
          exact (by
            obtain ⟨i9, a9, b9, c9, d9⟩ := q2
            exact hk8 (hfC q1) i9 a9 (by rw [erq1, iN_nI (by omega)] at b9; omega) c9 b d9))⟩
          · refine lv_iload hx hb xd_Mo_isCycle_124 (lv_at hl 1 rfl) ?_
            refine lv_if_eq (tgt := 192) hx hb xd_Mo_isCycle_126 (by decide) (fun hc13 => ?_) (fun hc13 => ?_)
            · refine lv_iinc (k := 4) (x := (nI q5)) (v := (nI (q5 + 1))) hx hb xd_Mo_isCycle_192 hl rfl (xb_inc q5 1) (Nat.le_of_ble_eq_true rfl) rfl (fun ls hl => ?_)
              have hl : lv_has ls 10 [(5, .int (nI (q5 + 1))), (8, .int (nI k8)), (7, .int fr), (3, .int (nI mr8)), (6, .int (nI k7)), (4, .int (nI fi)), (2, .int (nI nl)), (0, .ref h), (1, .int (nI d))] := hl
              refine lv_goto (tgt := 43) hx hb xd_Mo_isCycle_195 (by decide) ?_
              exact ih5 (q5 + 1, mr8, f8) _ _ _ (show 12 * nl + md0 - (q5 + 1) < 12 * nl + md0 - q5 by omega) (lv_sub hl [0, 3, 5, 6, 7, 8] rfl) hP hD hS ⟨(show 12 * nl ≤ (q5 + 1) from by first | assumption | omega), (show (q5 + 1) ≤ 12 * nl + md0 from by first | assumption | omega), (show mr8 ≤ 1 from by first | assumption | omega), (show cz f8 72 ≤ cz f3 72 from by omega), (show mr8 = 1 → cz f8 72 < cz f3 72 from hmr8), (show bz f8 from hbz8), (show cyS g nl md0 d f8 from hs8), (show ∀ t, ¬ f3 t = 0 → ¬ f8 t = 0 from hmo8), (show mr8 = 0 → f8 = f3 from hme8), (show ∀ j, 12 * nl ≤ j → j < (q5 + 1) → ∀ m9, g 21 j = nI m9 → m9 < 12 → ((¬ fi = 0 ∧ m9 = d) ∨ (fi = 0 ∧ ¬ f3 (12 * nl + m9) = 0)) → ∀ b, stp g nl m9 b → ¬ f8 (12 * nl + b) = 0 from fun j h1 h2 m9 e9 l9 q1 b q2 => by
        rcases Nat.lt_or_ge j q5 with q | q
        · exact hm58 _ (hp5 j h1 q m9 e9 l9 q1 b q2)
        · have e8 : m9 = k7 := by
            rw [show j = q5 by omega, ek9] at e9
            exact nI_inj (by omega) (by omega) e9.symm
          subst e8
          exact absurd hc13 (hfC q1))⟩
            · refine lv_aload_n hx hb xd_Mo_isCycle_129 rfl (lv_at hl 7 rfl) ?_
              refine va_get (D := D) (ci := 4) (v := .ref (mm 17)) (C := xR_Mo) (T := xT_Mo) (N := 31) hx hb hT xi_Mo hown hK.1 hP 0 rfl rfl 22 (by decide) (hT _ k4l_5) (fun _ h9 => h9) rfl xd_Mo_isCycle_130 ?_
              refine lv_iload hx hb xd_Mo_isCycle_133 (lv_at hl 0 rfl) ?_
              refine xn_zald (i := k8) hx hb hK.1 hP 18 2 rfl rfl (by omega) (by decide) xd_Mo_isCycle_135 ?_
              refine lv_if_eq (tgt := 143) hx hb xd_Mo_isCycle_136 (by decide) (fun hc14 => ?_) (fun hc14 => ?_)
              · refine lv_aload_n hx hb xd_Mo_isCycle_143 rfl (lv_at hl 7 rfl) ?_
                refine lv_iload_n hx hb xd_Mo_isCycle_144 rfl (lv_at hl 6 rfl) ?_
                refine xn_top (x := (nI nl)) (y := nI (nl + 1) - 1) (nI_pred nl).symm ?_
                refine lv_aload_n hx hb xd_Mo_isCycle_145 rfl (lv_at hl 7 rfl) ?_
                refine va_get (D := D) (ci := 4) (v := .ref (mm 13)) (C := xR_Mo) (T := xT_Mo) (N := 31) hx hb hT xi_Mo hown hK.1 hP 0 rfl rfl 18 (by decide) (hT _ k4l_6) (fun _ h9 => h9) rfl xd_Mo_isCycle_146 ?_
                refine lv_iload hx hb xd_Mo_isCycle_149 (lv_at hl 0 rfl) ?_
                refine xn_iald (i := k8) hx hb hK.1 hP 14 0 rfl rfl (by omega) (by decide) xd_Mo_isCycle_151 ?_
                have hFc := va_free (wc := (moW h mm kA v (va_up g 24 f8))) hD hS hA [0, 1, 2, 3, 4, 5, 6, 7, 8, 9, 10, 11, 12, 13, 14, 15, 16, 17, 18, 19, 20, 21, 22, 23, 24, 25] rfl
                refine va_calli (va_runV (As := [.int (nI (nl + 1) - 1), .int (g 13 k8)]) (rest := []) ⟨hx, hb, hml, hown, hT⟩ (xc_Mo_lookUpX l D kA H.size h mm v (va_up g 24 f8) (nl + 1) (g 13 k8) (nl + 1) (by first | assumption | omega) hpn (by first | assumption | omega) hmd) (cwV 2 hT (wT_V k4l_8 k4l_9 k4l_10 k4l_11 k4l_7) rfl rfl rfl (by decide +kernel) ⟨Nat.le_of_ble_eq_true rfl, Nat.le_of_ble_eq_true rfl⟩) (x_preV hK hP hD 0 rfl rfl) rfl rfl hl.1 rfl (lv_room (Nat.le_of_ble_eq_true rfl)) xd_Mo_isCycle_152 ⟨Nat.le_of_ble_eq_true rfl, Nat.le_of_ble_eq_true rfl⟩) hS (fun q _ h => hFc q h) hFc (fun r15 u16 t H1 locs ht hvm hp17 hB hz1 hk1 hS => ?_)
                obtain ⟨hP1, hD1⟩ := hB
                rw [ht] at hP1
                have hD1 := hD1.weaken (fun _ _ _ h => hFc _ h)
                generalize H1 = H at hP1 hS ⊢
                have hP := hP1
                have hD := hD1
                have hP : va_P D xcl (moW h mm kA v (va_up g 24 f8)) H := hP
                have hD : va_D A (moW h mm kA v (va_up g 24 f8)) := hD
                rcases hp17 with ⟨z18, rfl⟩ | ⟨z19, z20, z21, z22, z23, rfl⟩
                · have hlk9 : lkG g (nl + 1) (g 13 k8) = none := z18
                  refine lv_istore hx hb xd_Mo_isCycle_155 hl (Nat.le_of_ble_eq_true rfl) rfl (fun ls hl => ?_)
                  have hl : lv_has ls 10 [(9, .int (-1)), (8, .int (nI k8)), (7, .int fr), (3, .int (nI mr8)), (6, .int (nI k7)), (5, .int (nI q5)), (4, .int (nI fi)), (2, .int (nI nl)), (0, .ref h), (1, .int (nI d))] := hl
                  refine lv_iload hx hb xd_Mo_isCycle_157 (lv_at hl 0 rfl) ?_
                  refine lv_bipush (v := 12) hx hb xd_Mo_isCycle_159 (by decide) ?_
                  refine lv_iload_n hx hb xd_Mo_isCycle_161 rfl (lv_at hl 7 rfl) ?_
                  refine lv_imul hx hb xd_Mo_isCycle_162 ?_
                  refine xn_top (y := nI (12 * nl)) (pk_mul 12 nl) ?_
                  refine lv_icmp_lt (tgt := 186) hx hb xd_Mo_isCycle_163 (by decide) (fun _ => ?_) (fun hc24 => absurd (xb_mlt _ (by omega)) hc24)
                  refine lv_iinc (k := 1) (x := (nI k8)) (v := (nI (k8 + 1))) hx hb xd_Mo_isCycle_186 hl rfl (xb_inc k8 1) (Nat.le_of_ble_eq_true rfl) rfl (fun ls hl => ?_)
                  have hl : lv_has ls 10 [(8, .int (nI (k8 + 1))), (9, .int (-1)), (7, .int fr), (3, .int (nI mr8)), (6, .int (nI k7)), (5, .int (nI q5)), (4, .int (nI fi)), (2, .int (nI nl)), (0, .ref h), (1, .int (nI d))] := hl
                  refine lv_goto (tgt := 107) hx hb xd_Mo_isCycle_189 (by decide) ?_
                  exact ih11 (k8 + 1, mr8, f8) _ _ _ (show 5 * k7 + rq1 - (k8 + 1) < 5 * k7 + rq1 - k8 by omega) (lv_sub hl [0, 2, 3, 4, 5, 6, 7, 8, 9] rfl) hP hD hS ⟨(show 5 * k7 ≤ (k8 + 1) from by first | assumption | omega), (show (k8 + 1) ≤ 5 * k7 + rq1 from by first | assumption | omega), (show mr8 ≤ 1 from by first | assumption | omega), (show cz f8 72 ≤ cz f3 72 from by omega), (show mr8 = 1 → cz f8 72 < cz f3 72 from hmr8), (show bz f8 from hbz8), (show cyS g nl md0 d f8 from hs8), (show ∀ t, ¬ f3 t = 0 → ¬ f8 t = 0 from hmo8), (show ∀ t, ¬ f5 t = 0 → ¬ f8 t = 0 from hm58), (show mr8 = 0 → f8 = f3 from hme8), (show ¬ fr = 0 → ∀ i, 5 * k7 ≤ i → i < (k8 + 1) → g 17 i = 0 → ∀ b9, lkG g (nl + 1) (g 13 i) = some (nl, b9) → ¬ f8 (12 * nl + b9) = 0 from fun q0 i h1 h2 c9 b9 d9 => by
        rcases Nat.lt_or_ge i k8 with q | q
        · exact hk8 q0 i h1 q c9 b9 d9
        · have e0 : i = k8 := by omega
          subst e0
          exact (by rw [hlk9] at d9; cases d9))⟩
                · have hlk9 : lkG g (nl + 1) (g 13 k8) = some (z19, z20) := z21
                  have hdd9 := z23
                  have hld9 := z22
                  refine lv_istore hx hb xd_Mo_isCycle_155 hl (Nat.le_of_ble_eq_true rfl) rfl (fun ls hl => ?_)
                  have hl : lv_has ls 10 [(9, .int (nI (12 * z19 + z20))), (8, .int (nI k8)), (7, .int fr), (3, .int (nI mr8)), (6, .int (nI k7)), (5, .int (nI q5)), (4, .int (nI fi)), (2, .int (nI nl)), (0, .ref h), (1, .int (nI d))] := hl
                  refine lv_iload hx hb xd_Mo_isCycle_157 (lv_at hl 0 rfl) ?_
                  refine lv_bipush (v := 12) hx hb xd_Mo_isCycle_159 (by decide) ?_
                  refine lv_iload_n hx hb xd_Mo_isCycle_161 rfl (lv_at hl 7 rfl) ?_
                  refine lv_imul hx hb xd_Mo_isCycle_162 ?_
                  refine xn_top (y := nI (12 * nl)) (pk_mul 12 nl) ?_
                  refine xn_lt (a := 12 * z19 + z20) (b := 12 * nl) (tgt := 186) hx hb xd_Mo_isCycle_163 (by decide) (by omega) (by omega) (fun hc25 => ?_) (fun hc25 => ?_)
                  · refine lv_iinc (k := 1) (x := (nI k8)) (v := (nI (k8 + 1))) hx hb xd_Mo_isCycle_186 hl rfl (xb_inc k8 1) (Nat.le_of_ble_eq_true rfl) rfl (fun ls hl => ?_)
                    have hl : lv_has ls 10 [(8, .int (nI (k8 + 1))), (9, .int (nI (12 * z19 + z20))), (7, .int fr), (3, .int (nI mr8)), (6, .int (nI k7)), (5, .int (nI q5)), (4, .int (nI fi)), (2, .int (nI nl)), (0, .ref h), (1, .int (nI d))] := hl
                    refine lv_goto (tgt := 107) hx hb xd_Mo_isCycle_189 (by decide) ?_
                    exact ih11 (k8 + 1, mr8, f8) _ _ _ (show 5 * k7 + rq1 - (k8 + 1) < 5 * k7 + rq1 - k8 by omega) (lv_sub hl [0, 2, 3, 4, 5, 6, 7, 8, 9] rfl) hP hD hS ⟨(show 5 * k7 ≤ (k8 + 1) from by first | assumption | omega), (show (k8 + 1) ≤ 5 * k7 + rq1 from by first | assumption | omega), (show mr8 ≤ 1 from by first | assumption | omega), (show cz f8 72 ≤ cz f3 72 from by omega), (show mr8 = 1 → cz f8 72 < cz f3 72 from hmr8), (show bz f8 from hbz8), (show cyS g nl md0 d f8 from hs8), (show ∀ t, ¬ f3 t = 0 → ¬ f8 t = 0 from hmo8), (show ∀ t, ¬ f5 t = 0 → ¬ f8 t = 0 from hm58), (show mr8 = 0 → f8 = f3 from hme8), (show ¬ fr = 0 → ∀ i, 5 * k7 ≤ i → i < (k8 + 1) → g 17 i = 0 → ∀ b9, lkG g (nl + 1) (g 13 i) = some (nl, b9) → ¬ f8 (12 * nl + b9) = 0 from fun q0 i h1 h2 c9 b9 d9 => by
        rcases Nat.lt_or_ge i k8 with q | q
        · exact hk8 q0 i h1 q c9 b9 d9
        · have e0 : i = k8 := by omega
          subst e0
          exact (by rw [hlk9] at d9; have e8 := congrArg Prod.fst (Option.some.inj d9); have e9 := congrArg Prod.snd (Option.some.inj d9); simp only at e8 e9; omega))⟩
                  · refine lv_aload_n hx hb xd_Mo_isCycle_166 rfl (lv_at hl 8 rfl) ?_
                    refine va_get (D := D) (ci := 4) (v := .ref (mm 24)) (C := xR_Mo) (T := xT_Mo) (N := 31) hx hb hT xi_Mo hown hK.1 hP 0 rfl rfl 30 (by decide) (hT _ k4l_1) (fun _ h9 => h9) rfl xd_Mo_isCycle_167 ?_
                    refine lv_iload hx hb xd_Mo_isCycle_170 (lv_at hl 0 rfl) ?_
                    refine xn_zald (i := 12 * z19 + z20) hx hb hK.1 hP 25 2 rfl rfl (by omega) (by decide) xd_Mo_isCycle_172 ?_
                    refine lv_if_ne (tgt := 186) hx hb xd_Mo_isCycle_173 (by decide) (fun hc26 => ?_) (fun hc26 => ?_)
                    · refine lv_iinc (k := 1) (x := (nI k8)) (v := (nI (k8 + 1))) hx hb xd_Mo_isCycle_186 hl rfl (xb_inc k8 1) (Nat.le_of_ble_eq_true rfl) rfl (fun ls hl => ?_)
                      have hl : lv_has ls 10 [(8, .int (nI (k8 + 1))), (9, .int (nI (12 * z19 + z20))), (7, .int fr), (3, .int (nI mr8)), (6, .int (nI k7)), (5, .int (nI q5)), (4, .int (nI fi)), (2, .int (nI nl)), (0, .ref h), (1, .int (nI d))] := hl
                      refine lv_goto (tgt := 107) hx hb xd_Mo_isCycle_189 (by decide) ?_
                      exact ih11 (k8 + 1, mr8, f8) _ _ _ (show 5 * k7 + rq1 - (k8 + 1) < 5 * k7 + rq1 - k8 by omega) (lv_sub hl [0, 2, 3, 4, 5, 6, 7, 8, 9] rfl) hP hD hS ⟨(show 5 * k7 ≤ (k8 + 1) from by first | assumption | omega), (show (k8 + 1) ≤ 5 * k7 + rq1 from by first | assumption | omega), (show mr8 ≤ 1 from by first | assumption | omega), (show cz f8 72 ≤ cz f3 72 from by omega), (show mr8 = 1 → cz f8 72 < cz f3 72 from hmr8), (show bz f8 from hbz8), (show cyS g nl md0 d f8 from hs8), (show ∀ t, ¬ f3 t = 0 → ¬ f8 t = 0 from hmo8), (show ∀ t, ¬ f5 t = 0 → ¬ f8 t = 0 from hm58), (show mr8 = 0 → f8 = f3 from hme8), (show ¬ fr = 0 → ∀ i, 5 * k7 ≤ i → i < (k8 + 1) → g 17 i = 0 → ∀ b9, lkG g (nl + 1) (g 13 i) = some (nl, b9) → ¬ f8 (12 * nl + b9) = 0 from fun q0 i h1 h2 c9 b9 d9 => by
        rcases Nat.lt_or_ge i k8 with q | q
        · exact hk8 q0 i h1 q c9 b9 d9
        · have e0 : i = k8 := by omega
          subst e0
          exact (by rw [hlk9] at d9; have e8 := congrArg Prod.fst (Option.some.inj d9); have e9 := congrArg Prod.snd (Option.some.inj d9); simp only at e8 e9; rw [show 12 * nl + b9 = 12 * z19 + z20 by omega]; exact hc26))⟩
                    · have hla9 : 12 * z19 + z20 = 12 * nl + z20 := by omega
                      have hln9 : z19 = nl := by omega
                      have hstp9 : stp g nl k7 z20 := ⟨k8, hk81, by rw [erq1, iN_nI (by omega)]; omega, hc14, by rw [hlk9, hln9]⟩
                      have hmb9 : MB g nl md0 z20 := stp_MB hnl5 hpn hmd0 hmd012 hent2 hstp9
                      refine lv_aload_n hx hb xd_Mo_isCycle_176 rfl (lv_at hl 8 rfl) ?_
                      refine va_get (D := D) (ci := 4) (v := .ref (mm 24)) (C := xR_Mo) (T := xT_Mo) (N := 31) hx hb hT xi_Mo hown hK.1 hP 0 rfl rfl 30 (by decide) (hT _ k4l_1) (fun _ h9 => h9) rfl xd_Mo_isCycle_177 ?_
                      refine lv_iload hx hb xd_Mo_isCycle_180 (lv_at hl 0 rfl) ?_
                      refine lv_iconst (v := 1) hx hb xd_Mo_isCycle_182 (by decide) ?_
                      refine xn_zast (i := 12 * z19 + z20) hx hb hK.1 hP hD hS 25 2 rfl rfl (by omega) (by decide) xd_Mo_isCycle_183 (fun H locs hP hD hS => ?_)
                      have hP : va_P D xcl (moW h mm kA v (va_up g 24 (upd f8 (12 * z19 + z20) (vp_nar .boolean 1)))) H := hP
                      have hD : va_D A (moW h mm kA v (va_up g 24 (upd f8 (12 * z19 + z20) (vp_nar .boolean 1)))) := hD
                      refine lv_iconst (v := 1) hx hb xd_Mo_isCycle_184 (by decide) ?_
                      refine lv_istore_n hx hb xd_Mo_isCycle_185 rfl hl (Nat.le_of_ble_eq_true rfl) rfl (fun ls hl => ?_)
                      have hl : lv_has ls 10 [(3, .int 1), (9, .int (nI (12 * z19 + z20))), (8, .int (nI k8)), (7, .int fr), (6, .int (nI k7)), (5, .int (nI q5)), (4, .int (nI fi)), (2, .int (nI nl)), (0, .ref h), (1, .int (nI d))] := hl
                      refine lv_iinc (k := 2) (x := (nI k8)) (v := (nI (k8 + 1))) hx hb xd_Mo_isCycle_186 hl rfl (xb_inc k8 1) (Nat.le_of_ble_eq_true rfl) rfl (fun ls hl => ?_)
                      have hl : lv_has ls 10 [(8, .int (nI (k8 + 1))), (3, .int 1), (9, .int (nI (12 * z19 + z20))), (7, .int fr), (6, .int (nI k7)), (5, .int (nI q5)), (4, .int (nI fi)), (2, .int (nI nl)), (0, .ref h), (1, .int (nI d))] := hl
                      refine lv_goto (tgt := 107) hx hb xd_Mo_isCycle_189 (by decide) ?_
                      exact ih11 (k8 + 1, 1, (upd f8 (12 * z19 + z20) (vp_nar .boolean 1))) _ _ _ (show 5 * k7 + rq1 - (k8 + 1) < 5 * k7 + rq1 - k8 by omega) (lv_sub hl [0, 3, 1, 4, 5, 6, 7, 8, 9] rfl) hP hD hS ⟨(show 5 * k7 ≤ (k8 + 1) from by first | assumption | omega), (show (k8 + 1) ≤ 5 * k7 + rq1 from by first | assumption | omega), (show 1 ≤ 1 from by first | assumption | omega), (show cz (upd f8 (12 * z19 + z20) (vp_nar .boolean 1)) 72 ≤ cz f3 72 from by
      have h9 := cz_mark (f := f8) hc26 bn_1 72 (by omega)
      omega), (show 1 = 1 → cz (upd f8 (12 * z19 + z20) (vp_nar .boolean 1)) 72 < cz f3 72 from fun _ => by
      have h9 := cz_mark (f := f8) hc26 bn_1 72 (by omega)
      omega), (show bz (upd f8 (12 * z19 + z20) (vp_nar .boolean 1)) from bz_up hbz8 bn_n), (show cyS g nl md0 d (upd f8 (12 * z19 + z20) (vp_nar .boolean 1)) from cyS_up hs8 hla9 hmb9 (hfS hc13) hstp9), (show ∀ t, ¬ f3 t = 0 → ¬ (upd f8 (12 * z19 + z20) (vp_nar .boolean 1)) t = 0 from up_mono bn_1 hmo8), (show ∀ t, ¬ f5 t = 0 → ¬ (upd f8 (12 * z19 + z20) (vp_nar .boolean 1)) t = 0 from up_mono bn_1 hm58), (show 1 = 0 → (upd f8 (12 * z19 + z20) (vp_nar .boolean 1)) = f3 from fun q => absurd q (by omega)), (show ¬ fr = 0 → ∀ i, 5 * k7 ≤ i → i < (k8 + 1) → g 17 i = 0 → ∀ b9, lkG g (nl + 1) (g 13 i) = some (nl, b9) → ¬ (upd f8 (12 * z19 + z20) (vp_nar .boolean 1)) (12 * nl + b9) = 0 from fun q0 i h1 h2 c9 b9 d9 => by
        rcases Nat.lt_or_ge i k8 with q | q
        · exact (up_mono bn_1 (fun t ht => ht) _ (hk8 q0 i h1 q c9 b9 d9))
        · have e0 : i = k8 := by omega
          subst e0
          exact (by rw [hlk9] at d9; have e8 := congrArg Prod.fst (Option.some.inj d9); have e9 := congrArg Prod.snd (Option.some.inj d9); simp only at e8 e9; rw [show 12 * nl + b9 = 12 * z19 + z20 by omega, pk_us]; exact bn_1))⟩
              · refine lv_iconst (v := (-1)) hx hb xd_Mo_isCycle_139 (by decide) ?_
                refine lv_goto (tgt := 155) hx hb xd_Mo_isCycle_140 (by decide) ?_
                refine lv_istore hx hb xd_Mo_isCycle_155 hl (Nat.le_of_ble_eq_true rfl) rfl (fun ls hl => ?_)
                have hl : lv_has ls 10 [(9, .int (-1)), (8, .int (nI k8)), (7, .int fr), (3, .int (nI mr8)), (6, .int (nI k7)), (5, .int (nI q5)), (4, .int (nI fi)), (2, .int (nI nl)), (0, .ref h), (1, .int (nI d))] := hl
                refine lv_iload hx hb xd_Mo_isCycle_157 (lv_at hl 0 rfl) ?_
                refine lv_bipush (v := 12) hx hb xd_Mo_isCycle_159 (by decide) ?_
                refine lv_iload_n hx hb xd_Mo_isCycle_161 rfl (lv_at hl 7 rfl) ?_
                refine lv_imul hx hb xd_Mo_isCycle_162 ?_
                refine xn_top (y := nI (12 * nl)) (pk_mul 12 nl) ?_
                refine lv_icmp_lt (tgt := 186) hx hb xd_Mo_isCycle_163 (by decide) (fun _ => ?_) (fun hc27 => absurd (xb_mlt _ (by omega)) hc27)
                refine lv_iinc (k := 1) (x := (nI k8)) (v := (nI (k8 + 1))) hx hb xd_Mo_isCycle_186 hl rfl (xb_inc k8 1) (Nat.le_of_ble_eq_true rfl) rfl (fun ls hl => ?_)
                have hl : lv_has ls 10 [(8, .int (nI (k8 + 1))), (9, .int (-1)), (7, .int fr), (3, .int (nI mr8)), (6, .int (nI k7)), (5, .int (nI q5)), (4, .int (nI fi)), (2, .int (nI nl)), (0, .ref h), (1, .int (nI d))] := hl
                refine lv_goto (tgt := 107) hx hb xd_Mo_isCycle_189 (by decide) ?_
                exact ih11 (k8 + 1, mr8, f8) _ _ _ (show 5 * k7 + rq1 - (k8 + 1) < 5 * k7 + rq1 - k8 by omega) (lv_sub hl [0, 2, 3, 4, 5, 6, 7, 8, 9] rfl) hP hD hS ⟨(show 5 * k7 ≤ (k8 + 1) from by first | assumption | omega), (show (k8 + 1) ≤ 5 * k7 + rq1 from by first | assumption | omega), (show mr8 ≤ 1 from by first | assumption | omega), (show cz f8 72 ≤ cz f3 72 from by omega), (show mr8 = 1 → cz f8 72 < cz f3 72 from hmr8), (show bz f8 from hbz8), (show cyS g nl md0 d f8 from hs8), (show ∀ t, ¬ f3 t = 0 → ¬ f8 t = 0 from hmo8), (show ∀ t, ¬ f5 t = 0 → ¬ f8 t = 0 from hm58), (show mr8 = 0 → f8 = f3 from hme8), (show ¬ fr = 0 → ∀ i, 5 * k7 ≤ i → i < (k8 + 1) → g 17 i = 0 → ∀ b9, lkG g (nl + 1) (g 13 i) = some (nl, b9) → ¬ f8 (12 * nl + b9) = 0 from fun q0 i h1 h2 c9 b9 d9 => by
        rcases Nat.lt_or_ge i k8 with q | q
        · exact hk8 q0 i h1 q c9 b9 d9
        · have e0 : i = k8 := by omega
          subst e0
          exact (absurd c9 hc14))⟩
        refine lv_iload hx hb xd_Mo_isCycle_68 (lv_at hl 3 rfl) ?_
        refine xz_eq (a := fi) (tgt := 87) hx hb xd_Mo_isCycle_70 (by decide) (by omega) (fun hc28 => ?_) (fun hc28 => ?_)
        · refine lv_aload_n hx hb xd_Mo_isCycle_87 rfl (lv_at hl 5 rfl) ?_
          refine va_get (D := D) (ci := 4) (v := .ref (mm 24)) (C := xR_Mo) (T := xT_Mo) (N := 31) hx hb hT xi_Mo hown hK.1 hP 0 rfl rfl 30 (by decide) (hT _ k4l_1) (fun _ h9 => h9) rfl xd_Mo_isCycle_88 ?_
          refine lv_bipush (v := 12) hx hb xd_Mo_isCycle_91 (by decide) ?_
          refine lv_iload_n hx hb xd_Mo_isCycle_93 rfl (lv_at hl 4 rfl) ?_
          refine lv_imul hx hb xd_Mo_isCycle_94 ?_
          refine xn_top (y := nI (12 * nl)) (pk_mul 12 nl) ?_
          refine lv_iload hx hb xd_Mo_isCycle_95 (lv_at hl 0 rfl) ?_
          refine lv_iadd hx hb xd_Mo_isCycle_97 ?_
          refine xn_top (y := nI ((12 * nl) + k7)) (nI_add (12 * nl) k7) ?_
          refine xn_zald (i := (12 * nl) + k7) hx hb hK.1 hP 25 2 rfl rfl (by omega) (by decide) xd_Mo_isCycle_98 ?_
          refine lv_istore hx hb xd_Mo_isCycle_99 hl (Nat.le_of_ble_eq_true rfl) rfl (fun ls hl => ?_)
          have hl : lv_has ls 10 [(7, .int (f5 ((12 * nl) + k7))), (6, .int (nI k7)), (5, .int (nI q5)), (3, .int (nI mr5)), (4, .int (nI fi)), (2, .int (nI nl)), (0, .ref h), (1, .int (nI d))] := hl
          exact jn10 (f5 ((12 * nl) + k7)) _ _ _ (lv_sub hl [0, 1, 2, 4, 3, 5, 6, 7] rfl) hP hD hS ⟨(show ¬ (f5 ((12 * nl) + k7)) = 0 → (k7 = d ∨ tc (stp g nl) d k7) from fun q => Or.inr (by obtain ⟨b9, q1, q2, q3⟩ := hs5 (12 * nl + k7) (by omega) q; rw [show k7 = b9 by omega]; exact q3)), (show ((¬ fi = 0 ∧ k7 = d) ∨ (fi = 0 ∧ ¬ f3 (12 * nl + k7) = 0)) → ¬ (f5 ((12 * nl) + k7)) = 0 from fun q => by
        rcases q with ⟨q, _⟩ | ⟨_, q⟩
        · omega
        · exact hmo5 _ q)⟩
        · refine lv_iload hx hb xd_Mo_isCycle_73 (lv_at hl 0 rfl) ?_
          refine lv_iload_n hx hb xd_Mo_isCycle_75 rfl (lv_at hl 6 rfl) ?_
          refine xn_ne (a := k7) (b := d) (tgt := 83) hx hb xd_Mo_isCycle_76 (by decide) (by omega) (by omega) (fun hc29 => ?_) (fun hc29 => ?_)
          · refine lv_iconst (v := 0) hx hb xd_Mo_isCycle_83 (by decide) ?_
            refine lv_goto (tgt := 99) hx hb xd_Mo_isCycle_84 (by decide) ?_
            refine lv_istore hx hb xd_Mo_isCycle_99 hl (Nat.le_of_ble_eq_true rfl) rfl (fun ls hl => ?_)
            have hl : lv_has ls 10 [(7, .int 0), (6, .int (nI k7)), (5, .int (nI q5)), (3, .int (nI mr5)), (4, .int (nI fi)), (2, .int (nI nl)), (0, .ref h), (1, .int (nI d))] := hl
            exact jn10 0 _ _ _ (lv_sub hl [0, 1, 2, 4, 3, 5, 6, 7] rfl) hP hD hS ⟨(show ¬ 0 = 0 → (k7 = d ∨ tc (stp g nl) d k7) from fun q => absurd rfl q), (show ((¬ fi = 0 ∧ k7 = d) ∨ (fi = 0 ∧ ¬ f3 (12 * nl + k7) = 0)) → ¬ 0 = 0 from fun q => by
        rcases q with ⟨_, q⟩ | ⟨q, _⟩
        · exact absurd q hc29
        · omega)⟩
          · refine lv_iconst (v := 1) hx hb xd_Mo_isCycle_79 (by decide) ?_
            refine lv_goto (tgt := 99) hx hb xd_Mo_isCycle_80 (by decide) ?_
            refine lv_istore hx hb xd_Mo_isCycle_99 hl (Nat.le_of_ble_eq_true rfl) rfl (fun ls hl => ?_)
            have hl : lv_has ls 10 [(7, .int 1), (6, .int (nI k7)), (5, .int (nI q5)), (3, .int (nI mr5)), (4, .int (nI fi)), (2, .int (nI nl)), (0, .ref h), (1, .int (nI d))] := hl
            exact jn10 1 _ _ _ (lv_sub hl [0, 1, 2, 4, 3, 5, 6, 7] rfl) hP hD hS ⟨(show ¬ 1 = 0 → (k7 = d ∨ tc (stp g nl) d k7) from fun _ => Or.inl hc29), (show ((¬ fi = 0 ∧ k7 = d) ∨ (fi = 0 ∧ ¬ f3 (12 * nl + k7) = 0)) → ¬ 1 = 0 from fun _ => by decide)⟩
  · refine lv_aload_n hx hb xd_Mo_isCycle_13 rfl (lv_at hl 2 rfl) ?_
    refine va_get (D := D) (ci := 4) (v := .ref (mm 24)) (C := xR_Mo) (T := xT_Mo) (N := 31) hx hb hT xi_Mo hown hK.1 hP 0 rfl rfl 30 (by decide) (hT _ k4l_1) (fun _ h9 => h9) rfl xd_Mo_isCycle_14 ?_
    refine lv_iload_n hx hb xd_Mo_isCycle_17 rfl (lv_at hl 0 rfl) ?_
    refine lv_iconst (v := 0) hx hb xd_Mo_isCycle_18 (by decide) ?_
    refine xn_zast (i := i0) hx hb hK.1 hP hD hS 25 2 rfl rfl (by omega) (by decide) xd_Mo_isCycle_19 (fun H locs hP hD hS => ?_)
    have hP : va_P D xcl (moW h mm kA v (va_up g 24 (upd f0 i0 (vp_nar .boolean 0)))) H := hP
    have hD : va_D A (moW h mm kA v (va_up g 24 (upd f0 i0 (vp_nar .boolean 0)))) := hD
    refine lv_iinc (k := 0) (x := (nI i0)) (v := (nI (i0 + 1))) hx hb xd_Mo_isCycle_20 hl rfl (xb_inc i0 1) (Nat.le_of_ble_eq_true rfl) rfl (fun ls hl => ?_)
    have hl : lv_has ls 10 [(3, .int (nI (i0 + 1))), (2, .int (nI nl)), (0, .ref h), (1, .int (nI d))] := hl
    refine lv_goto (tgt := 7) hx hb xd_Mo_isCycle_23 (by decide) ?_
    exact ih1 (i0 + 1, (upd f0 i0 (vp_nar .boolean 0))) _ _ _ (show 72 - (i0 + 1) < 72 - i0 by omega) (lv_sub hl [0, 1, 2, 3] rfl) hP hD hS ⟨(show (i0 + 1) ≤ 72 from by first | assumption | omega), (show ∀ j, j < (i0 + 1) → (upd f0 i0 (vp_nar .boolean 0)) j = vp_nar .boolean 0 from fun j hj => by
      by_cases e : j = i0
      · subst e; exact pk_us
      · rw [pk_un e]; exact hz0 j (by omega))⟩
