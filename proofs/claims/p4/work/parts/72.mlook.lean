theorem k4g_0 : (Cond.fieldLink "LayerDeskModel" 72 "LayerDeskModel" "modules" "[I") ∈ wT := wT_t (List.mem_append_right _ (List.mem_append_right _ (List.mem_append_right _ (List.mem_append_left _ (List.mem_of_getElem? (i := 110) rfl))))) rfl
theorem k4g_1 : (Cond.fieldLink "LayerDeskModel" 69 "LayerDeskModel" "parent" "[I") ∈ wT := wT_t (List.mem_append_right _ (List.mem_append_right _ (List.mem_append_right _ (List.mem_append_left _ (List.mem_of_getElem? (i := 109) rfl))))) rfl
theorem k4g_2 : (Cond.fieldLink "LayerDeskModel" 23 "LayerDeskModel" "name" "[I") ∈ wT := wT_t (List.mem_append_right _ (List.mem_append_right _ (List.mem_append_right _ (List.mem_append_left _ (List.mem_of_getElem? (i := 93) rfl))))) rfl
theorem k4g_3 : (Cond.fieldLink "LayerDeskModel" 75 "LayerDeskModel" "module" "[I") ∈ wT := wT_t (List.mem_append_right _ (List.mem_append_right _ (List.mem_append_right _ (List.mem_append_left _ (List.mem_of_getElem? (i := 111) rfl))))) rfl
set_option maxHeartbeats 4000000 in
set_option maxRecDepth 100000 in
theorem xc_Mo_lookUpX (l : Launch) (D : va_G) (kA : Nat → ClassId) (sz h : Nat) (mm : Nat → Nat) (v : Nat → Int32) (g : Nat → Nat → Int32) (lq : Nat) (nm : Int32) (np : Nat) (hnp : np ≤ 6) (hpar : ∀ la, la < np → ∃ lq, lq ≤ la ∧ g 19 la = nI lq - 1) (hlq : lq ≤ np) (hmd : ∀ la, la < 6 → ∃ k, k ≤ 12 ∧ g 20 la = nI k ∧ ∀ j, j < k → ∃ d, d < 12 ∧ g 21 (12 * la + j) = nI d) : Met l xy_Mo_lookUp (.code xy_Mo_lookUp xb_Mo_lookUp 5 (some .int) :: wT) { frames := 0, cells := 0, slots := 0, locals := 0 } (va_Pc [.ref h, .int (nI lq - 1), .int nm] (xPre D kA sz (moW h mm kA v g))) (va_Qi (fun (r : Int32) (u : Unit) => (lkG g lq nm = none ∧ r = -1) ∨ ∃ la d, lkG g lq nm = some (la, d) ∧ la < np ∧ d < 12 ∧ r = nI (12 * la + d)) (fun (u : Unit) t => va_P D xcl (moW h mm kA v g) t.heap ∧ va_D (va_A (moW h mm kA v g) sz) (moW h mm kA v g)) (va_A (moW h mm kA v g) sz)) 0 0 (va_A (moW h mm kA v g) sz) := by
  refine Met.ofW (cc := xb_Mo_lookUp) (maxL := 5) (ret := (some .int)) (by decide) rfl ?_
  intro p e s m args below meth c s₁ B hml hv
  obtain ⟨rfl, hsz, hP, hK, hD0⟩ := hv
  have hx := B.exec
  have hb := B.bytes
  have hr := B.returns
  have hT := x_hT B.pre
  have hown : s.vm.findClass xR_Mo = some m.cls := findClass_of_methodNamed B.named
  have hlocks := B.notSynchronized
  subst hsz
  have hD := hD0.self (sz := s.heap.size)
  generalize hAe : va_A (moW h mm kA v g) s.heap.size = A at hD ⊢
  have hA : ∀ q : Nat, s.heap.size ≤ q → A q := fun q h => by rw [← hAe]; exact Or.inr h
  have hS : va_S A s.heap s.heap [] := va_S.rf
  have hl := lv_entry ([.ref h, .int (nI lq - 1), .int nm]) (n := 5) (Nat.le_of_ble_eq_true rfl)
  rw [lg_entry_eq]
  generalize (lg_sl ([.ref h, .int (nI lq - 1), .int nm]) ++ List.replicate (5 - (lg_sl ([.ref h, .int (nI lq - 1), .int nm])).length) Slot.unset).toArray = ls at hl ⊢
  have hl : lv_has ls 5 [(0, .ref h), (1, .int (nI lq - 1)), (2, .int nm)] := hl
  have hP : va_P D xcl (moW h mm kA v g) s.heap := hP
  refine lv_iload_n hx hb xd_Mo_lookUp_0 rfl (lv_at hl 1 rfl) ?_
  refine lv_istore_n hx hb xd_Mo_lookUp_1 rfl hl (Nat.le_of_ble_eq_true rfl) rfl (fun ls hl => ?_)
  have hl : lv_has ls 5 [(3, .int (nI lq - 1)), (0, .ref h), (1, .int (nI lq - 1)), (2, .int nm)] := hl
  refine xlab (σ := Nat) (ml := 5) 2 (fun (lq1 : Nat) => [(3, .int (nI lq1 - 1)), (0, .ref h), (1, .int (nI lq - 1)), (2, .int nm)]) (fun (lq1 : Nat) => []) (fun (lq1 : Nat) => moW h mm kA v g) (fun (lq1 : Nat) => (lq1 ≤ np) ∧ (lkG g lq nm = lkG g lq1 nm)) (fun (lq1 : Nat) => lq1) ?_ lq _ _ _ (lv_sub hl [0, 1, 2, 3] rfl) hP hD hS ⟨(show lq ≤ np from by first | assumption | omega), (show lkG g lq nm = lkG g lq nm from rfl)⟩
  intro n9 ih1 a9 ls H locs hμ hl hP hD hS hI
  subst hμ
  obtain ⟨lq1, rfl⟩ : ∃ z, z = a9 := ⟨_, rfl⟩
  obtain ⟨hlq1, hlk⟩ := hI
  have hlq1 : lq1 ≤ np := hlq1
  have hlk : lkG g lq nm = lkG g lq1 nm := hlk
  have hl : lv_has ls 5 [(3, .int (nI lq1 - 1)), (0, .ref h), (1, .int (nI lq - 1)), (2, .int nm)] := hl
  have hP : va_P D xcl (moW h mm kA v g) H := hP
  have hD : va_D A (moW h mm kA v g) := hD
  rcases Nat.eq_zero_or_pos lq1 with hz5 | hz5
  · have e5 : nI lq1 - 1 = -1 := by rw [hz5]; decide
    rw [e5] at hl
    refine lv_iload_n hx hb xd_Mo_lookUp_2 rfl (lv_at hl 0 rfl) ?_
    refine lv_if_lt (tgt := 73) hx hb xd_Mo_lookUp_3 (by decide) (fun _ => ?_) (fun hc2 => absurd hc2 (by decide))
    refine lv_iconst (v := (-1)) hx hb xd_Mo_lookUp_73 (by decide) ?_
    exact W.iret (v := (-1)) hx hb hr (fun t ht hW => ⟨⟨(-1), (), rfl, Or.inl ⟨by rw [hlk, hz5]; rfl, rfl⟩, by rw [ht]; exact hP, hD⟩, hS.F ht⟩) hS.2.2 xd_Mo_lookUp_74
  · have e5 : nI lq1 - 1 = nI (lq1 - 1) := pk_sub (a := lq1) (b := 1) hz5
    rw [e5] at hl
    refine lv_iload_n hx hb xd_Mo_lookUp_2 rfl (lv_at hl 0 rfl) ?_
    refine xz_lt (a := lq1 - 1) (tgt := 73) hx hb xd_Mo_lookUp_3 (by decide) (by omega) ?_
    obtain ⟨mdk, hmdk, emdk, hent⟩ := hmd (lq1 - 1) (by omega)
    have hent2 : ∀ i, 12 * (lq1 - 1) ≤ i → i < 12 * (lq1 - 1) + mdk → ∃ d, d < 12 ∧ g 21 i = nI d := fun i h1 h2 => by
      have h3 := hent (i - 12 * (lq1 - 1)) (by omega)
      rwa [show 12 * (lq1 - 1) + (i - 12 * (lq1 - 1)) = i by omega] at h3
    refine lv_bipush (v := 12) hx hb xd_Mo_lookUp_6 (by decide) ?_
    refine lv_iload_n hx hb xd_Mo_lookUp_8 rfl (lv_at hl 0 rfl) ?_
    refine lv_imul hx hb xd_Mo_lookUp_9 ?_
    refine xn_top (y := nI (12 * (lq1 - 1))) (pk_mul 12 (lq1 - 1)) ?_
    refine lv_istore hx hb xd_Mo_lookUp_10 hl (Nat.le_of_ble_eq_true rfl) rfl (fun ls hl => ?_)
    have hl : lv_has ls 5 [(4, .int (nI (12 * (lq1 - 1)))), (3, .int (nI (lq1 - 1))), (0, .ref h), (1, .int (nI lq - 1)), (2, .int nm)] := hl
    refine xlab (σ := Nat) (ml := 5) 12 (fun (i : Nat) => [(4, .int (nI i)), (3, .int (nI (lq1 - 1))), (0, .ref h), (1, .int (nI lq - 1)), (2, .int nm)]) (fun (i : Nat) => []) (fun (i : Nat) => moW h mm kA v g) (fun (i : Nat) => (12 * (lq1 - 1) ≤ i) ∧ (i ≤ 12 * (lq1 - 1) + mdk) ∧ (∀ j, j < i - 12 * (lq1 - 1) → ¬ g 4 (mdv g (lq1 - 1) j) = nm)) (fun (i : Nat) => 12 * (lq1 - 1) + mdk - i) ?_ (12 * (lq1 - 1)) _ _ _ (lv_sub hl [0, 1, 2, 3, 4] rfl) hP hD hS ⟨(show 12 * (lq1 - 1) ≤ (12 * (lq1 - 1)) from by first | assumption | omega), (show (12 * (lq1 - 1)) ≤ 12 * (lq1 - 1) + mdk from by first | assumption | omega), (show ∀ j, j < (12 * (lq1 - 1)) - 12 * (lq1 - 1) → ¬ g 4 (mdv g (lq1 - 1) j) = nm from fun j hj => absurd hj (by omega))⟩
    intro n9 ih4 a9 ls H locs hμ hl hP hD hS hI
    subst hμ
    obtain ⟨i, rfl⟩ : ∃ z, z = a9 := ⟨_, rfl⟩
    obtain ⟨hi1, hi2, hno⟩ := hI
    have hi1 : 12 * (lq1 - 1) ≤ i := hi1
    have hi2 : i ≤ 12 * (lq1 - 1) + mdk := hi2
    have hno : ∀ j, j < i - 12 * (lq1 - 1) → ¬ g 4 (mdv g (lq1 - 1) j) = nm := hno
    have hl : lv_has ls 5 [(4, .int (nI i)), (3, .int (nI (lq1 - 1))), (0, .ref h), (1, .int (nI lq - 1)), (2, .int nm)] := hl
    have hP : va_P D xcl (moW h mm kA v g) H := hP
    have hD : va_D A (moW h mm kA v g) := hD
    refine lv_iload hx hb xd_Mo_lookUp_12 (lv_at hl 0 rfl) ?_
    refine lv_bipush (v := 12) hx hb xd_Mo_lookUp_14 (by decide) ?_
    refine lv_iload_n hx hb xd_Mo_lookUp_16 rfl (lv_at hl 1 rfl) ?_
    refine lv_imul hx hb xd_Mo_lookUp_17 ?_
    refine xn_top (y := nI (12 * (lq1 - 1))) (pk_mul 12 (lq1 - 1)) ?_
    refine lv_aload_n hx hb xd_Mo_lookUp_18 rfl (lv_at hl 2 rfl) ?_
    refine va_get (D := D) (ci := 4) (v := .ref (mm 20)) (C := xR_Mo) (T := xT_Mo) (N := 31) hx hb hT xi_Mo hown hK.1 hP 0 rfl rfl 26 (by decide) (hT _ k4g_0) (fun _ h9 => h9) rfl xd_Mo_lookUp_19 ?_
    refine lv_iload_n hx hb xd_Mo_lookUp_22 rfl (lv_at hl 1 rfl) ?_
    refine xn_iald (i := lq1 - 1) hx hb hK.1 hP 21 0 rfl rfl (by omega) (by decide) xd_Mo_lookUp_23 ?_
    refine xn_top (x := (g 20 (lq1 - 1))) (y := nI mdk) emdk ?_
    refine lv_iadd hx hb xd_Mo_lookUp_24 ?_
    refine xn_top (y := nI ((12 * (lq1 - 1)) + mdk)) (nI_add (12 * (lq1 - 1)) mdk) ?_
    refine xn_ge (a := i) (b := (12 * (lq1 - 1)) + mdk) (tgt := 63) hx hb xd_Mo_lookUp_25 (by decide) (by omega) (by omega) (fun hc5 => ?_) (fun hc5 => ?_)
    · refine lv_aload_n hx hb xd_Mo_lookUp_63 rfl (lv_at hl 2 rfl) ?_
      refine va_get (D := D) (ci := 4) (v := .ref (mm 19)) (C := xR_Mo) (T := xT_Mo) (N := 31) hx hb hT xi_Mo hown hK.1 hP 0 rfl rfl 25 (by decide) (hT _ k4g_1) (fun _ h9 => h9) rfl xd_Mo_lookUp_64 ?_
      refine lv_iload_n hx hb xd_Mo_lookUp_67 rfl (lv_at hl 1 rfl) ?_
      refine xn_iald (i := lq1 - 1) hx hb hK.1 hP 20 0 rfl rfl (by omega) (by decide) xd_Mo_lookUp_68 ?_
      obtain ⟨q6, hq7, eq8⟩ := hpar (lq1 - 1) (by omega)
      refine xn_top (x := (g 19 (lq1 - 1))) eq8 ?_
      refine lv_istore_n hx hb xd_Mo_lookUp_69 rfl hl (Nat.le_of_ble_eq_true rfl) rfl (fun ls hl => ?_)
      have hl : lv_has ls 5 [(3, .int (nI q6 - 1)), (4, .int (nI i)), (0, .ref h), (1, .int (nI lq - 1)), (2, .int nm)] := hl
      refine lv_goto (tgt := 2) hx hb xd_Mo_lookUp_70 (by decide) ?_
      exact ih1 q6 _ _ _ (show q6 < lq1 by omega) (lv_sub hl [0, 2, 3, 4] rfl) hP hD hS ⟨(show q6 ≤ np from by first | assumption | omega), (show lkG g lq nm = lkG g q6 nm from hlk.trans (lkG_miss hnp hpar hz5 (by omega) emdk hmdk eq8 (by omega) (fun j hj => hno j (by omega))))⟩
    · refine lv_aload_n hx hb xd_Mo_lookUp_28 rfl (lv_at hl 2 rfl) ?_
      refine va_get (D := D) (ci := 4) (v := .ref (mm 4)) (C := xR_Mo) (T := xT_Mo) (N := 31) hx hb hT xi_Mo hown hK.1 hP 0 rfl rfl 9 (by decide) (hT _ k4g_2) (fun _ h9 => h9) rfl xd_Mo_lookUp_29 ?_
      refine lv_aload_n hx hb xd_Mo_lookUp_32 rfl (lv_at hl 2 rfl) ?_
      refine va_get (D := D) (ci := 4) (v := .ref (mm 21)) (C := xR_Mo) (T := xT_Mo) (N := 31) hx hb hT xi_Mo hown hK.1 hP 0 rfl rfl 27 (by decide) (hT _ k4g_3) (fun _ h9 => h9) rfl xd_Mo_lookUp_33 ?_
      refine lv_iload hx hb xd_Mo_lookUp_36 (lv_at hl 0 rfl) ?_
      refine xn_iald (i := i) hx hb hK.1 hP 22 0 rfl rfl (by omega) (by decide) xd_Mo_lookUp_38 ?_
      obtain ⟨k9, hk10, ek11⟩ := hent2 i (by omega) (by omega)
      refine xn_top (x := (g 21 i)) ek11 ?_
      refine xn_iald (i := k9) hx hb hK.1 hP 5 0 rfl rfl (by omega) (by decide) xd_Mo_lookUp_39 ?_
      refine lv_iload_n hx hb xd_Mo_lookUp_40 rfl (lv_at hl 4 rfl) ?_
      refine lv_icmp_ne (tgt := 57) hx hb xd_Mo_lookUp_41 (by decide) (fun hc12 => ?_) (fun hc12 => ?_)
      · refine lv_iinc (k := 0) (x := (nI i)) (v := (nI (i + 1))) hx hb xd_Mo_lookUp_57 hl rfl (xb_inc i 1) (Nat.le_of_ble_eq_true rfl) rfl (fun ls hl => ?_)
        have hl : lv_has ls 5 [(4, .int (nI (i + 1))), (3, .int (nI (lq1 - 1))), (0, .ref h), (1, .int (nI lq - 1)), (2, .int nm)] := hl
        refine lv_goto (tgt := 12) hx hb xd_Mo_lookUp_60 (by decide) ?_
        exact ih4 (i + 1) _ _ _ (show 12 * (lq1 - 1) + mdk - (i + 1) < 12 * (lq1 - 1) + mdk - i by omega) (lv_sub hl [0, 1, 2, 3, 4] rfl) hP hD hS ⟨(show 12 * (lq1 - 1) ≤ (i + 1) from by first | assumption | omega), (show (i + 1) ≤ 12 * (lq1 - 1) + mdk from by first | assumption | omega), (show ∀ j, j < (i + 1) - 12 * (lq1 - 1) → ¬ g 4 (mdv g (lq1 - 1) j) = nm from mdv_step hi1 ek11 hk10 hc12 hno)⟩
      · refine lv_bipush (v := 12) hx hb xd_Mo_lookUp_44 (by decide) ?_
        refine lv_iload_n hx hb xd_Mo_lookUp_46 rfl (lv_at hl 1 rfl) ?_
        refine lv_imul hx hb xd_Mo_lookUp_47 ?_
        refine xn_top (y := nI (12 * (lq1 - 1))) (pk_mul 12 (lq1 - 1)) ?_
        refine lv_aload_n hx hb xd_Mo_lookUp_48 rfl (lv_at hl 2 rfl) ?_
        refine va_get (D := D) (ci := 4) (v := .ref (mm 21)) (C := xR_Mo) (T := xT_Mo) (N := 31) hx hb hT xi_Mo hown hK.1 hP 0 rfl rfl 27 (by decide) (hT _ k4g_3) (fun _ h9 => h9) rfl xd_Mo_lookUp_49 ?_
        refine lv_iload hx hb xd_Mo_lookUp_52 (lv_at hl 0 rfl) ?_
        refine xn_iald (i := i) hx hb hK.1 hP 22 0 rfl rfl (by omega) (by decide) xd_Mo_lookUp_54 ?_
        obtain ⟨k13, hk14, ek15⟩ := hent2 i (by omega) (by omega)
        refine xn_top (x := (g 21 i)) ek15 ?_
        refine lv_iadd hx hb xd_Mo_lookUp_55 ?_
        refine xn_top (y := nI ((12 * (lq1 - 1)) + k13)) (nI_add (12 * (lq1 - 1)) k13) ?_
        exact W.iret (v := (nI ((12 * (lq1 - 1)) + k13))) hx hb hr (fun t ht hW => ⟨⟨(nI ((12 * (lq1 - 1)) + k13)), (), rfl, Or.inr ⟨lq1 - 1, k13, hlk.trans (lkG_hit hz5 emdk hmdk hi1 (by omega) ek15 hk14 hno (by rw [← nI_inj (by omega) (by omega) (ek11.symm.trans ek15)]; exact hc12)), by omega, by omega, rfl⟩, by rw [ht]; exact hP, hD⟩, hS.F ht⟩) hS.2.2 xd_Mo_lookUp_56
