theorem k4m_0 : (Cond.fieldLink "LayerDeskModel" 48 "LayerDeskModel" "requires" "[I") ∈ wT := wT_t (List.mem_append_right _ (List.mem_append_right _ (List.mem_append_right _ (List.mem_append_left _ (List.mem_of_getElem? (i := 101) rfl))))) rfl
theorem k4m_1 : (Cond.fieldLink "LayerDeskModel" 84 "LayerDeskModel" "seen" "[Z") ∈ wT := wT_t (List.mem_append_right _ (List.mem_append_right _ (List.mem_append_right _ (List.mem_append_left _ (List.mem_of_getElem? (i := 114) rfl))))) rfl
theorem k4m_2 : (Cond.fieldLink "LayerDeskModel" 60 "LayerDeskModel" "passes" "[Z") ∈ wT := wT_t (List.mem_append_right _ (List.mem_append_right _ (List.mem_append_right _ (List.mem_append_left _ (List.mem_of_getElem? (i := 105) rfl))))) rfl
theorem k4m_3 : (Cond.fieldLink "LayerDeskModel" 51 "LayerDeskModel" "require" "[I") ∈ wT := wT_t (List.mem_append_right _ (List.mem_append_right _ (List.mem_append_right _ (List.mem_append_left _ (List.mem_of_getElem? (i := 102) rfl))))) rfl
theorem k4m_4 : (Cond.code xy_Mo_lookUp xb_Mo_lookUp 5 (some .int)) ∈ wT := wT_t (List.mem_append_right _ (List.mem_append_right _ (List.mem_append_right _ (List.mem_append_right _ (List.mem_of_getElem? (i := 20) rfl))))) rfl
theorem k4m_5 : (Cond.methodLink "LayerDeskModel" 153 xy_Mo_lookUp) ∈ wT := wT_t (List.mem_append_right _ (List.mem_append_right _ (List.mem_append_right _ (List.mem_append_right _ (List.mem_of_getElem? (i := 17) rfl))))) rfl
theorem k4m_6 : (Cond.instanceMethod xy_Mo_lookUp) ∈ wT := wT_t (List.mem_append_right _ (List.mem_append_right _ (List.mem_append_right _ (List.mem_append_right _ (List.mem_of_getElem? (i := 19) rfl))))) rfl
theorem k4m_7 : (Cond.selects "LayerDeskModel" xy_Mo_lookUp xy_Mo_lookUp) ∈ wT := wT_s (q := (xy_Mo_lookUp, 31)) (by decide +kernel) rfl
theorem k4m_8 : (Cond.initialized "LayerDeskModel") ∈ wT := wT_t (List.mem_append_left _ (List.mem_of_getElem? (i := 5) rfl)) rfl
set_option maxHeartbeats 4000000 in
set_option maxRecDepth 100000 in
theorem xc_Mo_readingX (l : Launch) (D : va_G) (kA : Nat → ClassId) (sz h : Nat) (mm : Nat → Nat) (v : Nat → Int32) (g : Nat → Nat → Int32) (ly : Nat) (d : Nat) (np : Nat) (hMI : MI v g) (hnp : np ≤ 6) (hpar : ∀ la, la < np → ∃ lq, lq ≤ la ∧ g 19 la = nI lq - 1) (hly : ly < np) (hd : d < 12) : Met l xy_Mo_reading (.code xy_Mo_reading xb_Mo_reading 7 none :: wT) { frames := 1, cells := 0, slots := 0, locals := 24 } (va_Pc [.ref h, .int (nI ly), .int (nI d)] (xPre D kA sz (moW h mm kA v g))) (va_Qv (fun (u : (Nat → Int32) × (Nat → Nat → Int32)) => u.1 = v ∧ (∀ j, j ≠ 24 → u.2 j = g j) ∧ bz (u.2 24) ∧ (∀ i, i < 72 → ¬ u.2 24 i = 0 → i / 12 < np) ∧ ∀ b, b < 72 → (¬ u.2 24 b = 0 ↔ (rdP g ly d b ∧ b ≠ 12 * ly + d))) (fun (u : (Nat → Int32) × (Nat → Nat → Int32)) t => va_P D xcl (moW h mm kA u.1 u.2) t.heap ∧ va_D (va_A (moW h mm kA v g) sz) (moW h mm kA u.1 u.2)) (va_A (moW h mm kA v g) sz)) 0 0 (va_A (moW h mm kA v g) sz) := by
  refine Met.ofW (cc := xb_Mo_reading) (maxL := 7) (ret := none) (by decide) rfl ?_
  intro p e s m args below meth c s₁ B hml hv
  obtain ⟨rfl, hsz, hP, hK, hD0⟩ := hv
  have hx := B.exec
  have hb := B.bytes
  have hr := B.returns
  have hT := x_hT B.pre
  have hown : s.vm.findClass xR_Mo = some m.cls := findClass_of_methodNamed B.named
  have hlocks := B.notSynchronized
  subst hsz
  have hD := hD0.self (sz := s.heap.size)
  generalize hAe : va_A (moW h mm kA v g) s.heap.size = A at hD ⊢
  have hA : ∀ q : Nat, s.heap.size ≤ q → A q := fun q h => by rw [← hAe]; exact Or.inr h
  have hS : va_S A s.heap s.heap [] := va_S.rf
  have hl := lv_entry ([.ref h, .int (nI ly), .int (nI d)]) (n := 7) (Nat.le_of_ble_eq_true rfl)
  rw [lg_entry_eq]
  generalize (lg_sl ([.ref h, .int (nI ly), .int (nI d)]) ++ List.replicate (7 - (lg_sl ([.ref h, .int (nI ly), .int (nI d)])).length) Slot.unset).toArray = ls at hl ⊢
  have hl : lv_has ls 7 [(0, .ref h), (1, .int (nI ly)), (2, .int (nI d))] := hl
  have hP : va_P D xcl (moW h mm kA v g) s.heap := hP
  obtain ⟨-, -, -, hpk, hrq, hmd, -⟩ := id hMI
  refine lv_iconst (v := 0) hx hb xd_Mo_reading_0 (by decide) ?_
  refine lv_istore_n hx hb xd_Mo_reading_1 rfl hl (Nat.le_of_ble_eq_true rfl) rfl (fun ls hl => ?_)
  have hl : lv_has ls 7 [(3, .int 0), (0, .ref h), (1, .int (nI ly)), (2, .int (nI d))] := hl
  refine xlab (σ := Nat × (Nat → Int32)) (ml := 7) 2 (fun (i0, f0) => [(3, .int (nI i0)), (0, .ref h), (1, .int (nI ly)), (2, .int (nI d))]) (fun (i0, f0) => []) (fun (i0, f0) => moW h mm kA v (va_up g 24 f0)) (fun (i0, f0) => (i0 ≤ 72) ∧ (∀ j, j < i0 → f0 j = vp_nar .boolean 0)) (fun (i0, f0) => 72 - i0) ?_ (0, (g 24)) _ _ _ (lv_sub hl [0, 1, 2, 3] rfl) hP hD hS ⟨(show 0 ≤ 72 from by first | assumption | omega), (show ∀ j, j < 0 → (g 24) j = vp_nar .boolean 0 from fun j hj => absurd hj (by omega))⟩
  intro n9 ih1 a9 ls H locs hμ hl hP hD hS hI
  subst hμ
  obtain ⟨i0, f0⟩ := a9
  obtain ⟨hi0, hz0⟩ := hI
  have hi0 : i0 ≤ 72 := hi0
  have hz0 : ∀ j, j < i0 → f0 j = vp_nar .boolean 0 := hz0
  have hl : lv_has ls 7 [(3, .int (nI i0)), (0, .ref h), (1, .int (nI ly)), (2, .int (nI d))] := hl
  have hP : va_P D xcl (moW h mm kA v (va_up g 24 f0)) H := hP
  have hD : va_D A (moW h mm kA v (va_up g 24 f0)) := hD
  refine lv_iload_n hx hb xd_Mo_reading_2 rfl (lv_at hl 0 rfl) ?_
  refine lv_bipush (v := 72) hx hb xd_Mo_reading_3 (by decide) ?_
  refine xn_ge (a := i0) (b := 72) (tgt := 21) hx hb xd_Mo_reading_5 (by decide) (by omega) (by omega) (fun hc2 => ?_) (fun hc2 => ?_)
  · obtain ⟨rqa, hrqa, erqa⟩ := hrq d (by omega)
    have hird : iN (g 12 d) = rqa := by rw [erqa, iN_nI (by omega)]
    refine lv_iconst (v := 5) hx hb xd_Mo_reading_21 (by decide) ?_
    refine lv_iload_n hx hb xd_Mo_reading_22 rfl (lv_at hl 3 rfl) ?_
    refine lv_imul hx hb xd_Mo_reading_23 ?_
    refine xn_top (y := nI (5 * d)) (pk_mul 5 d) ?_
    refine lv_istore_n hx hb xd_Mo_reading_24 rfl hl (Nat.le_of_ble_eq_true rfl) rfl (fun ls hl => ?_)
    have hl : lv_has ls 7 [(3, .int (nI (5 * d))), (0, .ref h), (1, .int (nI ly)), (2, .int (nI d))] := hl
    refine xlab (σ := Nat × (Nat → Int32)) (ml := 7) 25 (fun (k2, f2) => [(3, .int (nI k2)), (0, .ref h), (1, .int (nI ly)), (2, .int (nI d))]) (fun (k2, f2) => []) (fun (k2, f2) => moW h mm kA v (va_up g 24 f2)) (fun (k2, f2) => (5 * d ≤ k2) ∧ (k2 ≤ 5 * d + rqa) ∧ (bz f2) ∧ (∀ i, i < 72 → ¬ f2 i = 0 → i / 12 < np) ∧ (∀ t, t < 72 → ¬ f2 t = 0 → rd0 g ly d k2 t) ∧ (∀ b, rd0 g ly d k2 b → ¬ f2 b = 0)) (fun (k2, f2) => 5 * d + rqa - k2) ?_ (5 * d, f0) _ _ _ (lv_sub hl [0, 1, 2, 3] rfl) hP hD hS ⟨(show 5 * d ≤ (5 * d) from by first | assumption | omega), (show (5 * d) ≤ 5 * d + rqa from by first | assumption | omega), (show bz f0 from bz_0 (fun j hj => hz0 j (by omega))), (show ∀ i, i < 72 → ¬ f0 i = 0 → i / 12 < np from fun i hi hne => absurd (hz0 i (by omega)) (fun q => hne (q.trans (by decide)))), (show ∀ t, t < 72 → ¬ f0 t = 0 → rd0 g ly d (5 * d) t from fun t ht hn => absurd ((hz0 t (by omega)).trans (by decide)) hn), (show ∀ b, rd0 g ly d (5 * d) b → ¬ f0 b = 0 from fun b ⟨i, h1, h2, _⟩ => absurd h2 (by omega))⟩
    intro n9 ih3 a9 ls H locs hμ hl hP hD hS hI
    subst hμ
    obtain ⟨k2, f2⟩ := a9
    obtain ⟨hk21, hk22, hbz2, hsn2, hs2, hcm2⟩ := hI
    have hk21 : 5 * d ≤ k2 := hk21
    have hk22 : k2 ≤ 5 * d + rqa := hk22
    have hbz2 : bz f2 := hbz2
    have hsn2 : ∀ i, i < 72 → ¬ f2 i = 0 → i / 12 < np := hsn2
    have hs2 : ∀ t, t < 72 → ¬ f2 t = 0 → rd0 g ly d k2 t := hs2
    have hcm2 : ∀ b, rd0 g ly d k2 b → ¬ f2 b = 0 := hcm2
    have hl : lv_has ls 7 [(3, .int (nI k2)), (0, .ref h), (1, .int (nI ly)), (2, .int (nI d))] := hl
    have hP : va_P D xcl (moW h mm kA v (va_up g 24 f2)) H := hP
    have hD : va_D A (moW h mm kA v (va_up g 24 f2)) := hD
    refine lv_iload_n hx hb xd_Mo_reading_25 rfl (lv_at hl 0 rfl) ?_
    refine lv_iconst (v := 5) hx hb xd_Mo_reading_26 (by decide) ?_
    refine lv_iload_n hx hb xd_Mo_reading_27 rfl (lv_at hl 3 rfl) ?_
    refine lv_imul hx hb xd_Mo_reading_28 ?_
    refine xn_top (y := nI (5 * d)) (pk_mul 5 d) ?_
    refine lv_aload_n hx hb xd_Mo_reading_29 rfl (lv_at hl 1 rfl) ?_
    refine va_get (D := D) (ci := 4) (v := .ref (mm 12)) (C := xR_Mo) (T := xT_Mo) (N := 31) hx hb hT xi_Mo hown hK.1 hP 0 rfl rfl 17 (by decide) (hT _ k4m_0) (fun _ h9 => h9) rfl xd_Mo_reading_30 ?_
    refine lv_iload_n hx hb xd_Mo_reading_33 rfl (lv_at hl 3 rfl) ?_
    refine xn_iald (i := d) hx hb hK.1 hP 13 0 rfl rfl (by omega) (by decide) xd_Mo_reading_34 ?_
    refine xn_top (x := (g 12 d)) (y := nI rqa) erqa ?_
    refine lv_iadd hx hb xd_Mo_reading_35 ?_
    refine xn_top (y := nI ((5 * d) + rqa)) (nI_add (5 * d) rqa) ?_
    refine xn_ge (a := k2) (b := (5 * d) + rqa) (tgt := 71) hx hb xd_Mo_reading_36 (by decide) (by omega) (by omega) (fun hc4 => ?_) (fun hc4 => ?_)
    · refine lv_iconst (v := 1) hx hb xd_Mo_reading_71 (by decide) ?_
      refine lv_istore_n hx hb xd_Mo_reading_72 rfl hl (Nat.le_of_ble_eq_true rfl) rfl (fun ls hl => ?_)
      have hl : lv_has ls 7 [(3, .int 1), (0, .ref h), (1, .int (nI ly)), (2, .int (nI d))] := hl
      refine xlab (σ := Nat × (Nat → Int32)) (ml := 7) 73 (fun (mr3, f3) => [(3, .int (nI mr3)), (0, .ref h), (1, .int (nI ly)), (2, .int (nI d))]) (fun (mr3, f3) => []) (fun (mr3, f3) => moW h mm kA v (va_up g 24 f3)) (fun (mr3, f3) => (mr3 ≤ 1) ∧ (bz f3) ∧ (∀ i, i < 72 → ¬ f3 i = 0 → i / 12 < np) ∧ (∀ t, t < 72 → ¬ f3 t = 0 → rdP g ly d t) ∧ (∀ b, rd0 g ly d (5 * d + iN (g 12 d)) b → ¬ f3 b = 0) ∧ (mr3 = 0 → ∀ a, a < 72 → ¬ f3 a = 0 → ∀ b, pst g a b → ¬ f3 b = 0)) (fun (mr3, f3) => 2 * cz f3 72 + mr3) ?_ (1, f2) _ _ _ (lv_sub hl [0, 1, 2, 3] rfl) hP hD hS ⟨(show 1 ≤ 1 from by first | assumption | omega), (show bz f2 from hbz2), (show ∀ i, i < 72 → ¬ f2 i = 0 → i / 12 < np from hsn2), (show ∀ t, t < 72 → ¬ f2 t = 0 → rdP g ly d t from fun t ht hn => Or.inl (by rw [hird, ← show k2 = 5 * d + rqa by omega]; exact hs2 t ht hn)), (show ∀ b, rd0 g ly d (5 * d + iN (g 12 d)) b → ¬ f2 b = 0 from fun b hb => hcm2 b (by rw [hird, ← show k2 = 5 * d + rqa by omega] at hb; exact hb)), (show 1 = 0 → ∀ a, a < 72 → ¬ f2 a = 0 → ∀ b, pst g a b → ¬ f2 b = 0 from fun q => absurd q (by omega))⟩
      intro n9 ih5 a9 ls H locs hμ hl hP hD hS hI
      subst hμ
      obtain ⟨mr3, f3⟩ := a9
      obtain ⟨hmr31, hbz3, hsn3, hs3, hcm3, hcl3⟩ := hI
      have hmr31 : mr3 ≤ 1 := hmr31
      have hbz3 : bz f3 := hbz3
      have hsn3 : ∀ i, i < 72 → ¬ f3 i = 0 → i / 12 < np := hsn3
      have hs3 : ∀ t, t < 72 → ¬ f3 t = 0 → rdP g ly d t := hs3
      have hcm3 : ∀ b, rd0 g ly d (5 * d + iN (g 12 d)) b → ¬ f3 b = 0 := hcm3
      have hcl3 : mr3 = 0 → ∀ a, a < 72 → ¬ f3 a = 0 → ∀ b, pst g a b → ¬ f3 b = 0 := hcl3
      have hl : lv_has ls 7 [(3, .int (nI mr3)), (0, .ref h), (1, .int (nI ly)), (2, .int (nI d))] := hl
      have hP : va_P D xcl (moW h mm kA v (va_up g 24 f3)) H := hP
      have hD : va_D A (moW h mm kA v (va_up g 24 f3)) := hD
      refine lv_iload_n hx hb xd_Mo_reading_73 rfl (lv_at hl 0 rfl) ?_
      refine xz_eq (a := mr3) (tgt := 203) hx hb xd_Mo_reading_74 (by decide) (by omega) (fun hc6 => ?_) (fun hc6 => ?_)
      · refine lv_aload_n hx hb xd_Mo_reading_203 rfl (lv_at hl 1 rfl) ?_
        refine va_get (D := D) (ci := 4) (v := .ref (mm 24)) (C := xR_Mo) (T := xT_Mo) (N := 31) hx hb hT xi_Mo hown hK.1 hP 0 rfl rfl 30 (by decide) (hT _ k4m_1) (fun _ h9 => h9) rfl xd_Mo_reading_204 ?_
        refine lv_bipush (v := 12) hx hb xd_Mo_reading_207 (by decide) ?_
        refine lv_iload_n hx hb xd_Mo_reading_209 rfl (lv_at hl 2 rfl) ?_
        refine lv_imul hx hb xd_Mo_reading_210 ?_
        refine xn_top (y := nI (12 * ly)) (pk_mul 12 ly) ?_
        refine lv_iload_n hx hb xd_Mo_reading_211 rfl (lv_at hl 3 rfl) ?_
        refine lv_iadd hx hb xd_Mo_reading_212 ?_
        refine xn_top (y := nI ((12 * ly) + d)) (nI_add (12 * ly) d) ?_
        refine lv_iconst (v := 0) hx hb xd_Mo_reading_213 (by decide) ?_
        refine xn_zast (i := (12 * ly) + d) hx hb hK.1 hP hD hS 25 2 rfl rfl (by omega) (by decide) xd_Mo_reading_214 (fun H locs hP hD hS => ?_)
        have hP : va_P D xcl (moW h mm kA v (va_up g 24 (upd f3 ((12 * ly) + d) (vp_nar .boolean 0)))) H := hP
        have hD : va_D A (moW h mm kA v (va_up g 24 (upd f3 ((12 * ly) + d) (vp_nar .boolean 0)))) := hD
        exact W.vret hx hb hr (fun t ht hW => ⟨⟨(v, (va_up g 24 (upd f3 ((12 * ly) + d) (vp_nar .boolean 0)))), rfl, ⟨rfl, fun j h1 => by simp [va_up, h1], bz_up hbz3 bn_0, (fun i hi hne => by
        by_cases e : i = 12 * ly + d
        · omega
        · exact hsn3 i hi (by
            have h9 : ¬ upd f3 (12 * ly + d) (vp_nar .boolean 0) i = 0 := hne
            rwa [pk_un e] at h9)), fun b hb => (show ¬ upd f3 (12 * ly + d) (vp_nar .boolean 0) b = 0 ↔ (rdP g ly d b ∧ b ≠ 12 * ly + d) from by
        by_cases e : b = 12 * ly + d
        · rw [e, pk_us]; exact ⟨fun q => absurd (by decide) q, fun q => absurd rfl q.2⟩
        · rw [pk_un e]
          refine ⟨fun q => ⟨hs3 b hb q, e⟩, fun q => ?_⟩
          exact (rdP_min (S := fun x => x < 72 ∧ ¬ f3 x = 0) (fun c hc => ⟨by
            obtain ⟨i9, _, _, la9, e9, q9, q8⟩ := hc
            have := lkG_72 hnp hpar hmd (by omega) q9
            omega, hcm3 c hc⟩) (fun a c ha hc => ⟨by
            have h8 := hsn3 a ha.1 ha.2
            obtain ⟨i9, _, _, _, la9, e9, q9, q8⟩ := hc
            have := lkG_72 hnp hpar hmd (by omega) q9
            omega, hcl3 (by omega) a ha.1 ha.2 c hc⟩) q.1).2)⟩, by rw [ht]; exact hP, hD⟩, hS.F ht⟩) hS.2.2 xd_Mo_reading_215
      · refine lv_iconst (v := 0) hx hb xd_Mo_reading_77 (by decide) ?_
        refine lv_istore_n hx hb xd_Mo_reading_78 rfl hl (Nat.le_of_ble_eq_true rfl) rfl (fun ls hl => ?_)
        have hl : lv_has ls 7 [(3, .int 0), (0, .ref h), (1, .int (nI ly)), (2, .int (nI d))] := hl
        refine lv_iconst (v := 0) hx hb xd_Mo_reading_79 (by decide) ?_
        refine lv_istore hx hb xd_Mo_reading_80 hl (Nat.le_of_ble_eq_true rfl) rfl (fun ls hl => ?_)
        have hl : lv_has ls 7 [(4, .int 0), (3, .int 0), (0, .ref h), (1, .int (nI ly)), (2, .int (nI d))] := hl
        refine xlab (σ := Nat × Nat × (Nat → Int32)) (ml := 7) 82 (fun (m4, mr4, f4) => [(4, .int (nI m4)), (3, .int (nI mr4)), (0, .ref h), (1, .int (nI ly)), (2, .int (nI d))]) (fun (m4, mr4, f4) => []) (fun (m4, mr4, f4) => moW h mm kA v (va_up g 24 f4)) (fun (m4, mr4, f4) => (m4 ≤ 72) ∧ (mr4 ≤ 1) ∧ (cz f4 72 ≤ cz f3 72) ∧ (mr4 = 1 → cz f4 72 < cz f3 72) ∧ (bz f4) ∧ (∀ i, i < 72 → ¬ f4 i = 0 → i / 12 < np) ∧ (∀ t, t < 72 → ¬ f4 t = 0 → rdP g ly d t) ∧ (∀ t, ¬ f3 t = 0 → ¬ f4 t = 0) ∧ (mr4 = 0 → f4 = f3) ∧ (∀ a, a < m4 → ¬ f3 a = 0 → ∀ b, pst g a b → ¬ f4 b = 0)) (fun (m4, mr4, f4) => 72 - m4) ?_ (0, 0, f3) _ _ _ (lv_sub hl [0, 1, 2, 3, 4] rfl) hP hD hS ⟨(show 0 ≤ 72 from by first | assumption | omega), (show 0 ≤ 1 from by first | assumption | omega), (show cz f3 72 ≤ cz f3 72 from by omega), (show 0 = 1 → cz f3 72 < cz f3 72 from fun h => absurd h (by omega)), (show bz f3 from hbz3), (show ∀ i, i < 72 → ¬ f3 i = 0 → i / 12 < np from hsn3), (show ∀ t, t < 72 → ¬ f3 t = 0 → rdP g ly d t from hs3), (show ∀ t, ¬ f3 t = 0 → ¬ f3 t = 0 from fun t ht => ht), (show 0 = 0 → f3 = f3 from fun _ => rfl), (show ∀ a, a < 0 → ¬ f3 a = 0 → ∀ b, pst g a b → ¬ f3 b = 0 from fun a ha => absurd ha (by omega))⟩
        intro n9 ih7 a9 ls H locs hμ hl hP hD hS hI
        subst hμ
        obtain ⟨m4, mr4, f4⟩ := a9
        obtain ⟨hm4, hmr41, hc4, hmr4, hbz4, hsn4, hs4, hmo4, hme4, hp4⟩ := hI
        have hm4 : m4 ≤ 72 := hm4
        have hmr41 : mr4 ≤ 1 := hmr41
        have hc4 : cz f4 72 ≤ cz f3 72 := hc4
        have hmr4 : mr4 = 1 → cz f4 72 < cz f3 72 := hmr4
        have hbz4 : bz f4 := hbz4
        have hsn4 : ∀ i, i < 72 → ¬ f4 i = 0 → i / 12 < np := hsn4
        have hs4 : ∀ t, t < 72 → ¬ f4 t = 0 → rdP g ly d t := hs4
        have hmo4 : ∀ t, ¬ f3 t = 0 → ¬ f4 t = 0 := hmo4
        have hme4 : mr4 = 0 → f4 = f3 := hme4
        have hp4 : ∀ a, a < m4 → ¬ f3 a = 0 → ∀ b, pst g a b → ¬ f4 b = 0 := hp4
        have hl : lv_has ls 7 [(4, .int (nI m4)), (3, .int (nI mr4)), (0, .ref h), (1, .int (nI ly)), (2, .int (nI d))] := hl
        have hP : va_P D xcl (moW h mm kA v (va_up g 24 f4)) H := hP
        have hD : va_D A (moW h mm kA v (va_up g 24 f4)) := hD
        refine lv_iload hx hb xd_Mo_reading_82 (lv_at hl 0 rfl) ?_
        refine lv_bipush (v := 72) hx hb xd_Mo_reading_84 (by decide) ?_
        refine xn_ge (a := m4) (b := 72) (tgt := 200) hx hb xd_Mo_reading_86 (by decide) (by omega) (by omega) (fun hc8 => ?_) (fun hc8 => ?_)
        · refine lv_goto (tgt := 73) hx hb xd_Mo_reading_200 (by decide) ?_
          exact ih5 (mr4, f4) _ _ _ (show 2 * cz f4 72 + mr4 < 2 * cz f3 72 + mr3 by omega) (lv_sub hl [1, 2, 3, 4] rfl) hP hD hS ⟨(show mr4 ≤ 1 from by first | assumption | omega), (show bz f4 from hbz4), (show ∀ i, i < 72 → ¬ f4 i = 0 → i / 12 < np from hsn4), (show ∀ t, t < 72 → ¬ f4 t = 0 → rdP g ly d t from hs4), (show ∀ b, rd0 g ly d (5 * d + iN (g 12 d)) b → ¬ f4 b = 0 from fun b hb => hmo4 _ (hcm3 b hb)), (show mr4 = 0 → ∀ a, a < 72 → ¬ f4 a = 0 → ∀ b, pst g a b → ¬ f4 b = 0 from fun q0 a ha q1 b q2 => hp4 a (by omega) (by rw [← hme4 q0]; exact q1) b q2)⟩
        · obtain ⟨rqb, hrqb, erqb⟩ := hrq (m4 % 12) (by omega)
          refine lv_iconst (v := 5) hx hb xd_Mo_reading_89 (by decide) ?_
          refine lv_iload hx hb xd_Mo_reading_90 (lv_at hl 0 rfl) ?_
          refine lv_bipush (v := 12) hx hb xd_Mo_reading_92 (by decide) ?_
          refine lv_irem hx hb xd_Mo_reading_94 (by decide) ?_
          refine xn_top (y := nI (m4 % 12)) (pk_rem (a := m4) (d := 12) (by omega) (by decide) (by decide)) ?_
          refine lv_imul hx hb xd_Mo_reading_95 ?_
          refine xn_top (y := nI (5 * (m4 % 12))) (pk_mul 5 (m4 % 12)) ?_
          refine lv_istore hx hb xd_Mo_reading_96 hl (Nat.le_of_ble_eq_true rfl) rfl (fun ls hl => ?_)
          have hl : lv_has ls 7 [(5, .int (nI (5 * (m4 % 12)))), (4, .int (nI m4)), (3, .int (nI mr4)), (0, .ref h), (1, .int (nI ly)), (2, .int (nI d))] := hl
          refine xlab (σ := Nat × Nat × (Nat → Int32)) (ml := 7) 98 (fun (k5, mr5, f5) => [(5, .int (nI k5)), (4, .int (nI m4)), (3, .int (nI mr5)), (0, .ref h), (1, .int (nI ly)), (2, .int (nI d))]) (fun (k5, mr5, f5) => []) (fun (k5, mr5, f5) => moW h mm kA v (va_up g 24 f5)) (fun (k5, mr5, f5) => (5 * (m4 % 12) ≤ k5) ∧ (k5 ≤ 5 * (m4 % 12) + rqb) ∧ (mr5 ≤ 1) ∧ (cz f5 72 ≤ cz f3 72) ∧ (mr5 = 1 → cz f5 72 < cz f3 72) ∧ (bz f5) ∧ (∀ i, i < 72 → ¬ f5 i = 0 → i / 12 < np) ∧ (∀ t, t < 72 → ¬ f5 t = 0 → rdP g ly d t) ∧ (∀ t, ¬ f3 t = 0 → ¬ f5 t = 0) ∧ (∀ t, ¬ f4 t = 0 → ¬ f5 t = 0) ∧ (mr5 = 0 → f5 = f3) ∧ (¬ f3 m4 = 0 → ∀ i, 5 * (m4 % 12) ≤ i → i < k5 → ¬ g 16 i = 0 → ∀ la9 e9, lkG g (m4 / 12 + 1) (g 13 i) = some (la9, e9) → ¬ f5 (12 * la9 + e9) = 0)) (fun (k5, mr5, f5) => 5 * (m4 % 12) + rqb - k5) ?_ (5 * (m4 % 12), mr4, f4) _ _ _ (lv_sub hl [0, 1, 2, 3, 4, 5] rfl) hP hD hS ⟨(show 5 * (m4 % 12) ≤ (5 * (m4 % 12)) from by first | assumption | omega), (show (5 * (m4 % 12)) ≤ 5 * (m4 % 12) + rqb from by first | assumption | omega), (show mr4 ≤ 1 from by first | assumption | omega), (show cz f4 72 ≤ cz f3 72 from by omega), (show mr4 = 1 → cz f4 72 < cz f3 72 from hmr4), (show bz f4 from hbz4), (show ∀ i, i < 72 → ¬ f4 i = 0 → i / 12 < np from hsn4), (show ∀ t, t < 72 → ¬ f4 t = 0 → rdP g ly d t from hs4), (show ∀ t, ¬ f3 t = 0 → ¬ f4 t = 0 from hmo4), (show ∀ t, ¬ f4 t = 0 → ¬ f4 t = 0 from fun t ht => ht), (show mr4 = 0 → f4 = f3 from hme4), (show ¬ f3 m4 = 0 → ∀ i, 5 * (m4 % 12) ≤ i → i < (5 * (m4 % 12)) → ¬ g 16 i = 0 → ∀ la9 e9, lkG g (m4 / 12 + 1) (g 13 i) = some (la9, e9) → ¬ f4 (12 * la9 + e9) = 0 from fun _ i h1 h2 => absurd h2 (by omega))⟩
          intro n9 ih9 a9 ls H locs hμ hl hP hD hS hI
          subst hμ
          obtain ⟨k5, mr5, f5⟩ := a9
          obtain ⟨hk51, hk52, hmr51, hc5, hmr5, hbz5, hsn5, hs5, hmo5, hm45, hme5, hk5⟩ := hI
          have hk51 : 5 * (m4 % 12) ≤ k5 := hk51
          have hk52 : k5 ≤ 5 * (m4 % 12) + rqb := hk52
          have hmr51 : mr5 ≤ 1 := hmr51
          have hc5 : cz f5 72 ≤ cz f3 72 := hc5
          have hmr5 : mr5 = 1 → cz f5 72 < cz f3 72 := hmr5
          have hbz5 : bz f5 := hbz5
          have hsn5 : ∀ i, i < 72 → ¬ f5 i = 0 → i / 12 < np := hsn5
          have hs5 : ∀ t, t < 72 → ¬ f5 t = 0 → rdP g ly d t := hs5
          have hmo5 : ∀ t, ¬ f3 t = 0 → ¬ f5 t = 0 := hmo5
          have hm45 : ∀ t, ¬ f4 t = 0 → ¬ f5 t = 0 := hm45
          have hme5 : mr5 = 0 → f5 = f3 := hme5
          have hk5 : ¬ f3 m4 = 0 → ∀ i, 5 * (m4 % 12) ≤ i → i < k5 → ¬ g 16 i = 0 → ∀ la9 e9, lkG g (m4 / 12 + 1) (g 13 i) = some (la9, e9) → ¬ f5 (12 * la9 + e9) = 0 := hk5
          have hl : lv_has ls 7 [(5, .int (nI k5)), (4, .int (nI m4)), (3, .int (nI mr5)), (0, .ref h), (1, .int (nI ly)), (2, .int (nI d))] := hl
          have hP : va_P D xcl (moW h mm kA v (va_up g 24 f5)) H := hP
          have hD : va_D A (moW h mm kA v (va_up g 24 f5)) := hD
          refine lv_aload_n hx hb xd_Mo_reading_98 rfl (lv_at hl 3 rfl) ?_
          refine va_get (D := D) (ci := 4) (v := .ref (mm 24)) (C := xR_Mo) (T := xT_Mo) (N := 31) hx hb hT xi_Mo hown hK.1 hP 0 rfl rfl 30 (by decide) (hT _ k4m_1) (fun _ h9 => h9) rfl xd_Mo_reading_99 ?_
          refine lv_iload hx hb xd_Mo_reading_102 (lv_at hl 1 rfl) ?_
          refine xn_zald (i := m4) hx hb hK.1 hP 25 2 rfl rfl (by omega) (by decide) xd_Mo_reading_104 ?_
          refine lv_if_eq (tgt := 194) hx hb xd_Mo_reading_105 (by decide) (fun hc10 => ?_) (fun hc10 => ?_)
          · refine lv_iinc (k := 1) (x := (nI m4)) (v := (nI (m4 + 1))) hx hb xd_Mo_reading_194 hl rfl (xb_inc m4 1) (Nat.le_of_ble_eq_true rfl) rfl (fun ls hl => ?_)
            have hl : lv_has ls 7 [(4, .int (nI (m4 + 1))), (5, .int (nI k5)), (3, .int (nI mr5)), (0, .ref h), (1, .int (nI ly)), (2, .int (nI d))] := hl
            refine lv_goto (tgt := 82) hx hb xd_Mo_reading_197 (by decide) ?_
            exact ih7 (m4 + 1, mr5, f5) _ _ _ (show 72 - (m4 + 1) < 72 - m4 by omega) (lv_sub hl [0, 2, 3, 4, 5] rfl) hP hD hS ⟨(show (m4 + 1) ≤ 72 from by first | assumption | omega), (show mr5 ≤ 1 from by first | assumption | omega), (show cz f5 72 ≤ cz f3 72 from by omega), (show mr5 = 1 → cz f5 72 < cz f3 72 from hmr5), (show bz f5 from hbz5), (show ∀ i, i < 72 → ¬ f5 i = 0 → i / 12 < np from hsn5), (show ∀ t, t < 72 → ¬ f5 t = 0 → rdP g ly d t from hs5), (show ∀ t, ¬ f3 t = 0 → ¬ f5 t = 0 from hmo5), (show mr5 = 0 → f5 = f3 from hme5), (show ∀ a, a < (m4 + 1) → ¬ f3 a = 0 → ∀ b, pst g a b → ¬ f5 b = 0 from fun a ha q1 b q2 => by
        rcases Nat.lt_or_ge a m4 with q | q
        · exact hm45 _ (hp4 a q q1 b q2)
        · have e8 : a = m4 := by omega
          subst e8
          exact absurd hc10 (hmo5 _ q1))⟩
          · refine lv_iload hx hb xd_Mo_reading_108 (lv_at hl 0 rfl) ?_
            refine lv_iconst (v := 5) hx hb xd_Mo_reading_110 (by decide) ?_
            refine lv_iload hx hb xd_Mo_reading_111 (lv_at hl 1 rfl) ?_
            refine lv_bipush (v := 12) hx hb xd_Mo_reading_113 (by decide) ?_
            refine lv_irem hx hb xd_Mo_reading_115 (by decide) ?_
            refine xn_top (y := nI (m4 % 12)) (pk_rem (a := m4) (d := 12) (by omega) (by decide) (by decide)) ?_
            refine lv_imul hx hb xd_Mo_reading_116 ?_
            refine xn_top (y := nI (5 * (m4 % 12))) (pk_mul 5 (m4 % 12)) ?_
            refine lv_aload_n hx hb xd_Mo_reading_117 rfl (lv_at hl 3 rfl) ?_
            refine va_get (D := D) (ci := 4) (v := .ref (mm 12)) (C := xR_Mo) (T := xT_Mo) (N := 31) hx hb hT xi_Mo hown hK.1 hP 0 rfl rfl 17 (by decide) (hT _ k4m_0) (fun _ h9 => h9) rfl xd_Mo_reading_118 ?_
            refine lv_iload hx hb xd_Mo_reading_121 (lv_at hl 1 rfl) ?_
            refine lv_bipush (v := 12) hx hb xd_Mo_reading_123 (by decide) ?_
            refine lv_irem hx hb xd_Mo_reading_125 (by decide) ?_
            refine xn_top (y := nI (m4 % 12)) (pk_rem (a := m4) (d := 12) (by omega) (by decide) (by decide)) ?_
            refine xn_iald (i := m4 % 12) hx hb hK.1 hP 13 0 rfl rfl (by omega) (by decide) xd_Mo_reading_126 ?_
            refine xn_top (x := (g 12 (m4 % 12))) (y := nI rqb) erqb ?_
            refine lv_iadd hx hb xd_Mo_reading_127 ?_
            refine xn_top (y := nI ((5 * (m4 % 12)) + rqb)) (nI_add (5 * (m4 % 12)) rqb) ?_
            refine xn_ge (a := k5) (b := (5 * (m4 % 12)) + rqb) (tgt := 194) hx hb xd_Mo_reading_128 (by decide) (by omega) (by omega) (fun hc11 => ?_) (fun hc11 => ?_)
            · refine lv_iinc (k := 1) (x := (nI m4)) (v := (nI (m4 + 1))) hx hb xd_Mo_reading_194 hl rfl (xb_inc m4 1) (Nat.le_of_ble_eq_true rfl) rfl (fun ls hl => ?_)
              have hl : lv_has ls 7 [(4, .int (nI (m4 + 1))), (5, .int (nI k5)), (3, .int (nI mr5)), (0, .ref h), (1, .int (nI ly)), (2, .int (nI d))] := hl
              refine lv_goto (tgt := 82) hx hb xd_Mo_reading_197 (by decide) ?_
              exact ih7 (m4 + 1, mr5, f5) _ _ _ (show 72 - (m4 + 1) < 72 - m4 by omega) (lv_sub hl [0, 2, 3, 4, 5] rfl) hP hD hS ⟨(show (m4 + 1) ≤ 72 from by first | assumption | omega), (show mr5 ≤ 1 from by first | assumption | omega), (show cz f5 72 ≤ cz f3 72 from by omega), (show mr5 = 1 → cz f5 72 < cz f3 72 from hmr5), (show bz f5 from hbz5), (show ∀ i, i < 72 → ¬ f5 i = 0 → i / 12 < np from hsn5), (show ∀ t, t < 72 → ¬ f5 t = 0 → rdP g ly d t from hs5), (show ∀ t, ¬ f3 t = 0 → ¬ f5 t = 0 from hmo5), (show mr5 = 0 → f5 = f3 from hme5), (show ∀ a, a < (m4 + 1) → ¬ f3 a = 0 → ∀ b, pst g a b → ¬ f5 b = 0 from fun a ha q1 b q2 => by
        rcases Nat.lt_or_ge a m4 with q | q
        · exact hm45 _ (hp4 a q q1 b q2)
        · have e8 : a = m4 := by omega
          subst e8
          exact (by
            obtain ⟨i9, a9, b9, c9, la9, e9, d9, f9⟩ := q2
            rw [f9]; exact hk5 q1 i9 a9 (by rw [erqb, iN_nI (by omega)] at b9; omega) c9 la9 e9 d9))⟩
            · refine lv_aload_n hx hb xd_Mo_reading_131 rfl (lv_at hl 3 rfl) ?_
              refine va_get (D := D) (ci := 4) (v := .ref (mm 16)) (C := xR_Mo) (T := xT_Mo) (N := 31) hx hb hT xi_Mo hown hK.1 hP 0 rfl rfl 21 (by decide) (hT _ k4m_2) (fun _ h9 => h9) rfl xd_Mo_reading_132 ?_
              refine lv_iload hx hb xd_Mo_reading_135 (lv_at hl 0 rfl) ?_
              refine xn_zald (i := k5) hx hb hK.1 hP 17 2 rfl rfl (by omega) (by decide) xd_Mo_reading_137 ?_
              refine lv_if_eq (tgt := 160) hx hb xd_Mo_reading_138 (by decide) (fun hc12 => ?_) (fun hc12 => ?_)
              · refine lv_iconst (v := (-1)) hx hb xd_Mo_reading_160 (by decide) ?_
                refine lv_istore hx hb xd_Mo_reading_161 hl (Nat.le_of_ble_eq_true rfl) rfl (fun ls hl => ?_)
                have hl : lv_has ls 7 [(6, .int (-1)), (5, .int (nI k5)), (4, .int (nI m4)), (3, .int (nI mr5)), (0, .ref h), (1, .int (nI ly)), (2, .int (nI d))] := hl
                refine lv_iload hx hb xd_Mo_reading_163 (lv_at hl 0 rfl) ?_
                refine lv_if_lt (tgt := 188) hx hb xd_Mo_reading_165 (by decide) (fun _ => ?_) (fun hc13 => absurd hc13 (by decide))
                refine lv_iinc (k := 1) (x := (nI k5)) (v := (nI (k5 + 1))) hx hb xd_Mo_reading_188 hl rfl (xb_inc k5 1) (Nat.le_of_ble_eq_true rfl) rfl (fun ls hl => ?_)
                have hl : lv_has ls 7 [(5, .int (nI (k5 + 1))), (6, .int (-1)), (4, .int (nI m4)), (3, .int (nI mr5)), (0, .ref h), (1, .int (nI ly)), (2, .int (nI d))] := hl
                refine lv_goto (tgt := 98) hx hb xd_Mo_reading_191 (by decide) ?_
                exact ih9 (k5 + 1, mr5, f5) _ _ _ (show 5 * (m4 % 12) + rqb - (k5 + 1) < 5 * (m4 % 12) + rqb - k5 by omega) (lv_sub hl [0, 2, 3, 4, 5, 6] rfl) hP hD hS ⟨(show 5 * (m4 % 12) ≤ (k5 + 1) from by first | assumption | omega), (show (k5 + 1) ≤ 5 * (m4 % 12) + rqb from by first | assumption | omega), (show mr5 ≤ 1 from by first | assumption | omega), (show cz f5 72 ≤ cz f3 72 from by omega), (show mr5 = 1 → cz f5 72 < cz f3 72 from hmr5), (show bz f5 from hbz5), (show ∀ i, i < 72 → ¬ f5 i = 0 → i / 12 < np from hsn5), (show ∀ t, t < 72 → ¬ f5 t = 0 → rdP g ly d t from hs5), (show ∀ t, ¬ f3 t = 0 → ¬ f5 t = 0 from hmo5), (show ∀ t, ¬ f4 t = 0 → ¬ f5 t = 0 from hm45), (show mr5 = 0 → f5 = f3 from hme5), (show ¬ f3 m4 = 0 → ∀ i, 5 * (m4 % 12) ≤ i → i < (k5 + 1) → ¬ g 16 i = 0 → ∀ la9 e9, lkG g (m4 / 12 + 1) (g 13 i) = some (la9, e9) → ¬ f5 (12 * la9 + e9) = 0 from fun q0 i h1 h2 c9 la9 e9 d9 => by
        rcases Nat.lt_or_ge i k5 with q | q
        · exact hk5 q0 i h1 q c9 la9 e9 d9
        · have e0 : i = k5 := by omega
          subst e0
          exact (absurd hc12 c9))⟩
              · have hm12 := hsn5 m4 (by omega) hc10
                refine lv_aload_n hx hb xd_Mo_reading_141 rfl (lv_at hl 3 rfl) ?_
                refine lv_iload hx hb xd_Mo_reading_142 (lv_at hl 1 rfl) ?_
                refine lv_bipush (v := 12) hx hb xd_Mo_reading_144 (by decide) ?_
                refine lv_idiv hx hb xd_Mo_reading_146 (by decide) ?_
                refine xn_top (y := nI (m4 / 12)) (pk_div (a := m4) (d := 12) (by omega) (by decide) (by decide)) ?_
                refine xn_top (x := (nI (m4 / 12))) (y := nI (m4 / 12 + 1) - 1) (nI_pred (m4 / 12)).symm ?_
                refine lv_aload_n hx hb xd_Mo_reading_147 rfl (lv_at hl 3 rfl) ?_
                refine va_get (D := D) (ci := 4) (v := .ref (mm 13)) (C := xR_Mo) (T := xT_Mo) (N := 31) hx hb hT xi_Mo hown hK.1 hP 0 rfl rfl 18 (by decide) (hT _ k4m_3) (fun _ h9 => h9) rfl xd_Mo_reading_148 ?_
                refine lv_iload hx hb xd_Mo_reading_151 (lv_at hl 0 rfl) ?_
                refine xn_iald (i := k5) hx hb hK.1 hP 14 0 rfl rfl (by omega) (by decide) xd_Mo_reading_153 ?_
                have hFc := va_free (wc := (moW h mm kA v (va_up g 24 f5))) hD hS hA [0, 1, 2, 3, 4, 5, 6, 7, 8, 9, 10, 11, 12, 13, 14, 15, 16, 17, 18, 19, 20, 21, 22, 23, 24, 25] rfl
                refine va_calli (va_runV (As := [.int (nI (m4 / 12 + 1) - 1), .int (g 13 k5)]) (rest := []) ⟨hx, hb, hml, hown, hT⟩ (xc_Mo_lookUpX l D kA H.size h mm v (va_up g 24 f5) (m4 / 12 + 1) (g 13 k5) np (by first | assumption | omega) hpar (by first | assumption | omega) hmd) (cwV 2 hT (wT_V k4m_5 k4m_6 k4m_7 k4m_8 k4m_4) rfl rfl rfl (by decide +kernel) ⟨Nat.le_of_ble_eq_true rfl, Nat.le_of_ble_eq_true rfl⟩) (x_preV hK hP hD 0 rfl rfl) rfl rfl hl.1 rfl (lv_room (Nat.le_of_ble_eq_true rfl)) xd_Mo_reading_154 ⟨Nat.le_of_ble_eq_true rfl, Nat.le_of_ble_eq_true rfl⟩) hS (fun q _ h => hFc q h) hFc (fun r14 u15 t H1 locs ht hvm hp16 hB hz1 hk1 hS => ?_)
                obtain ⟨hP1, hD1⟩ := hB
                rw [ht] at hP1
                have hD1 := hD1.weaken (fun _ _ _ h => hFc _ h)
                generalize H1 = H at hP1 hS ⊢
                have hP := hP1
                have hD := hD1
                have hP : va_P D xcl (moW h mm kA v (va_up g 24 f5)) H := hP
                have hD : va_D A (moW h mm kA v (va_up g 24 f5)) := hD
                rcases hp16 with ⟨z17, rfl⟩ | ⟨z18, z19, z20, z21, z22, rfl⟩
                · have hlk9 : lkG g (m4 / 12 + 1) (g 13 k5) = none := z17
                  refine lv_goto (tgt := 161) hx hb xd_Mo_reading_157 (by decide) ?_
                  refine lv_istore hx hb xd_Mo_reading_161 hl (Nat.le_of_ble_eq_true rfl) rfl (fun ls hl => ?_)
                  have hl : lv_has ls 7 [(6, .int (-1)), (5, .int (nI k5)), (4, .int (nI m4)), (3, .int (nI mr5)), (0, .ref h), (1, .int (nI ly)), (2, .int (nI d))] := hl
                  refine lv_iload hx hb xd_Mo_reading_163 (lv_at hl 0 rfl) ?_
                  refine lv_if_lt (tgt := 188) hx hb xd_Mo_reading_165 (by decide) (fun _ => ?_) (fun hc23 => absurd hc23 (by decide))
                  refine lv_iinc (k := 1) (x := (nI k5)) (v := (nI (k5 + 1))) hx hb xd_Mo_reading_188 hl rfl (xb_inc k5 1) (Nat.le_of_ble_eq_true rfl) rfl (fun ls hl => ?_)
                  have hl : lv_has ls 7 [(5, .int (nI (k5 + 1))), (6, .int (-1)), (4, .int (nI m4)), (3, .int (nI mr5)), (0, .ref h), (1, .int (nI ly)), (2, .int (nI d))] := hl
                  refine lv_goto (tgt := 98) hx hb xd_Mo_reading_191 (by decide) ?_
                  exact ih9 (k5 + 1, mr5, f5) _ _ _ (show 5 * (m4 % 12) + rqb - (k5 + 1) < 5 * (m4 % 12) + rqb - k5 by omega) (lv_sub hl [0, 2, 3, 4, 5, 6] rfl) hP hD hS ⟨(show 5 * (m4 % 12) ≤ (k5 + 1) from by first | assumption | omega), (show (k5 + 1) ≤ 5 * (m4 % 12) + rqb from by first | assumption | omega), (show mr5 ≤ 1 from by first | assumption | omega), (show cz f5 72 ≤ cz f3 72 from by omega), (show mr5 = 1 → cz f5 72 < cz f3 72 from hmr5), (show bz f5 from hbz5), (show ∀ i, i < 72 → ¬ f5 i = 0 → i / 12 < np from hsn5), (show ∀ t, t < 72 → ¬ f5 t = 0 → rdP g ly d t from hs5), (show ∀ t, ¬ f3 t = 0 → ¬ f5 t = 0 from hmo5), (show ∀ t, ¬ f4 t = 0 → ¬ f5 t = 0 from hm45), (show mr5 = 0 → f5 = f3 from hme5), (show ¬ f3 m4 = 0 → ∀ i, 5 * (m4 % 12) ≤ i → i < (k5 + 1) → ¬ g 16 i = 0 → ∀ la9 e9, lkG g (m4 / 12 + 1) (g 13 i) = some (la9, e9) → ¬ f5 (12 * la9 + e9) = 0 from fun q0 i h1 h2 c9 la9 e9 d9 => by
        rcases Nat.lt_or_ge i k5 with q | q
        · exact hk5 q0 i h1 q c9 la9 e9 d9
        · have e0 : i = k5 := by omega
          subst e0
          exact (by rw [hlk9] at d9; cases d9))⟩
                · have hlk9 : lkG g (m4 / 12 + 1) (g 13 k5) = some (z18, z19) := z20
                  have hdd9 := z22
                  have hld9 := z21
                  refine lv_goto (tgt := 161) hx hb xd_Mo_reading_157 (by decide) ?_
                  refine lv_istore hx hb xd_Mo_reading_161 hl (Nat.le_of_ble_eq_true rfl) rfl (fun ls hl => ?_)
                  have hl : lv_has ls 7 [(6, .int (nI (12 * z18 + z19))), (5, .int (nI k5)), (4, .int (nI m4)), (3, .int (nI mr5)), (0, .ref h), (1, .int (nI ly)), (2, .int (nI d))] := hl
                  refine lv_iload hx hb xd_Mo_reading_163 (lv_at hl 0 rfl) ?_
                  refine xz_lt (a := 12 * z18 + z19) (tgt := 188) hx hb xd_Mo_reading_165 (by decide) (by omega) ?_
                  refine lv_aload_n hx hb xd_Mo_reading_168 rfl (lv_at hl 4 rfl) ?_
                  refine va_get (D := D) (ci := 4) (v := .ref (mm 24)) (C := xR_Mo) (T := xT_Mo) (N := 31) hx hb hT xi_Mo hown hK.1 hP 0 rfl rfl 30 (by decide) (hT _ k4m_1) (fun _ h9 => h9) rfl xd_Mo_reading_169 ?_
                  refine lv_iload hx hb xd_Mo_reading_172 (lv_at hl 0 rfl) ?_
                  refine xn_zald (i := 12 * z18 + z19) hx hb hK.1 hP 25 2 rfl rfl (by omega) (by decide) xd_Mo_reading_174 ?_
                  refine lv_if_ne (tgt := 188) hx hb xd_Mo_reading_175 (by decide) (fun hc25 => ?_) (fun hc25 => ?_)
                  · refine lv_iinc (k := 1) (x := (nI k5)) (v := (nI (k5 + 1))) hx hb xd_Mo_reading_188 hl rfl (xb_inc k5 1) (Nat.le_of_ble_eq_true rfl) rfl (fun ls hl => ?_)
                    have hl : lv_has ls 7 [(5, .int (nI (k5 + 1))), (6, .int (nI (12 * z18 + z19))), (4, .int (nI m4)), (3, .int (nI mr5)), (0, .ref h), (1, .int (nI ly)), (2, .int (nI d))] := hl
                    refine lv_goto (tgt := 98) hx hb xd_Mo_reading_191 (by decide) ?_
                    exact ih9 (k5 + 1, mr5, f5) _ _ _ (show 5 * (m4 % 12) + rqb - (k5 + 1) < 5 * (m4 % 12) + rqb - k5 by omega) (lv_sub hl [0, 2, 3, 4, 5, 6] rfl) hP hD hS ⟨(show 5 * (m4 % 12) ≤ (k5 + 1) from by first | assumption | omega), (show (k5 + 1) ≤ 5 * (m4 % 12) + rqb from by first | assumption | omega), (show mr5 ≤ 1 from by first | assumption | omega), (show cz f5 72 ≤ cz f3 72 from by omega), (show mr5 = 1 → cz f5 72 < cz f3 72 from hmr5), (show bz f5 from hbz5), (show ∀ i, i < 72 → ¬ f5 i = 0 → i / 12 < np from hsn5), (show ∀ t, t < 72 → ¬ f5 t = 0 → rdP g ly d t from hs5), (show ∀ t, ¬ f3 t = 0 → ¬ f5 t = 0 from hmo5), (show ∀ t, ¬ f4 t = 0 → ¬ f5 t = 0 from hm45), (show mr5 = 0 → f5 = f3 from hme5), (show ¬ f3 m4 = 0 → ∀ i, 5 * (m4 % 12) ≤ i → i < (k5 + 1) → ¬ g 16 i = 0 → ∀ la9 e9, lkG g (m4 / 12 + 1) (g 13 i) = some (la9, e9) → ¬ f5 (12 * la9 + e9) = 0 from fun q0 i h1 h2 c9 la9 e9 d9 => by
        rcases Nat.lt_or_ge i k5 with q | q
        · exact hk5 q0 i h1 q c9 la9 e9 d9
        · have e0 : i = k5 := by omega
          subst e0
          exact (by rw [hlk9] at d9; have e8 := congrArg Prod.fst (Option.some.inj d9); have e7 := congrArg Prod.snd (Option.some.inj d9); simp only at e8 e7; rw [show 12 * la9 + e9 = 12 * z18 + z19 by omega]; exact hc25))⟩
                  · refine lv_aload_n hx hb xd_Mo_reading_178 rfl (lv_at hl 4 rfl) ?_
                    refine va_get (D := D) (ci := 4) (v := .ref (mm 24)) (C := xR_Mo) (T := xT_Mo) (N := 31) hx hb hT xi_Mo hown hK.1 hP 0 rfl rfl 30 (by decide) (hT _ k4m_1) (fun _ h9 => h9) rfl xd_Mo_reading_179 ?_
                    refine lv_iload hx hb xd_Mo_reading_182 (lv_at hl 0 rfl) ?_
                    refine lv_iconst (v := 1) hx hb xd_Mo_reading_184 (by decide) ?_
                    refine xn_zast (i := 12 * z18 + z19) hx hb hK.1 hP hD hS 25 2 rfl rfl (by omega) (by decide) xd_Mo_reading_185 (fun H locs hP hD hS => ?_)
                    have hP : va_P D xcl (moW h mm kA v (va_up g 24 (upd f5 (12 * z18 + z19) (vp_nar .boolean 1)))) H := hP
                    have hD : va_D A (moW h mm kA v (va_up g 24 (upd f5 (12 * z18 + z19) (vp_nar .boolean 1)))) := hD
                    refine lv_iconst (v := 1) hx hb xd_Mo_reading_186 (by decide) ?_
                    refine lv_istore_n hx hb xd_Mo_reading_187 rfl hl (Nat.le_of_ble_eq_true rfl) rfl (fun ls hl => ?_)
                    have hl : lv_has ls 7 [(3, .int 1), (6, .int (nI (12 * z18 + z19))), (5, .int (nI k5)), (4, .int (nI m4)), (0, .ref h), (1, .int (nI ly)), (2, .int (nI d))] := hl
                    refine lv_iinc (k := 2) (x := (nI k5)) (v := (nI (k5 + 1))) hx hb xd_Mo_reading_188 hl rfl (xb_inc k5 1) (Nat.le_of_ble_eq_true rfl) rfl (fun ls hl => ?_)
                    have hl : lv_has ls 7 [(5, .int (nI (k5 + 1))), (3, .int 1), (6, .int (nI (12 * z18 + z19))), (4, .int (nI m4)), (0, .ref h), (1, .int (nI ly)), (2, .int (nI d))] := hl
                    refine lv_goto (tgt := 98) hx hb xd_Mo_reading_191 (by decide) ?_
                    exact ih9 (k5 + 1, 1, (upd f5 (12 * z18 + z19) (vp_nar .boolean 1))) _ _ _ (show 5 * (m4 % 12) + rqb - (k5 + 1) < 5 * (m4 % 12) + rqb - k5 by omega) (lv_sub hl [0, 3, 1, 4, 5, 6] rfl) hP hD hS ⟨(show 5 * (m4 % 12) ≤ (k5 + 1) from by first | assumption | omega), (show (k5 + 1) ≤ 5 * (m4 % 12) + rqb from by first | assumption | omega), (show 1 ≤ 1 from by first | assumption | omega), (show cz (upd f5 (12 * z18 + z19) (vp_nar .boolean 1)) 72 ≤ cz f3 72 from by
      have h9 := cz_mark (f := f5) hc25 bn_1 72 (by omega)
      omega), (show 1 = 1 → cz (upd f5 (12 * z18 + z19) (vp_nar .boolean 1)) 72 < cz f3 72 from fun _ => by
      have h9 := cz_mark (f := f5) hc25 bn_1 72 (by omega)
      omega), (show bz (upd f5 (12 * z18 + z19) (vp_nar .boolean 1)) from bz_up hbz5 bn_n), (show ∀ i, i < 72 → ¬ (upd f5 (12 * z18 + z19) (vp_nar .boolean 1)) i = 0 → i / 12 < np from fun i hi hne => by
      rcases Nat.lt_trichotomy i (12 * z18 + z19) with e | e | e
      · exact hsn5 i hi (by rwa [pk_un (by omega)] at hne)
      · omega
      · exact hsn5 i hi (by rwa [pk_un (by omega)] at hne)), (show ∀ t, t < 72 → ¬ (upd f5 (12 * z18 + z19) (vp_nar .boolean 1)) t = 0 → rdP g ly d t from fun t ht hn => by
        by_cases e : t = 12 * z18 + z19
        · rw [e]; exact rdP_s (hs5 m4 (by omega) hc10) ⟨k5, hk51, by rw [erqb, iN_nI (by omega)]; omega, hc12, z18, z19, hlk9, rfl⟩
        · rw [pk_un e] at hn; exact hs5 t ht hn), (show ∀ t, ¬ f3 t = 0 → ¬ (upd f5 (12 * z18 + z19) (vp_nar .boolean 1)) t = 0 from up_mono bn_1 hmo5), (show ∀ t, ¬ f4 t = 0 → ¬ (upd f5 (12 * z18 + z19) (vp_nar .boolean 1)) t = 0 from up_mono bn_1 hm45), (show 1 = 0 → (upd f5 (12 * z18 + z19) (vp_nar .boolean 1)) = f3 from fun q => absurd q (by omega)), (show ¬ f3 m4 = 0 → ∀ i, 5 * (m4 % 12) ≤ i → i < (k5 + 1) → ¬ g 16 i = 0 → ∀ la9 e9, lkG g (m4 / 12 + 1) (g 13 i) = some (la9, e9) → ¬ (upd f5 (12 * z18 + z19) (vp_nar .boolean 1)) (12 * la9 + e9) = 0 from fun q0 i h1 h2 c9 la9 e9 d9 => by
        rcases Nat.lt_or_ge i k5 with q | q
        · exact (up_mono bn_1 (fun t ht => ht) _ (hk5 q0 i h1 q c9 la9 e9 d9))
        · have e0 : i = k5 := by omega
          subst e0
          exact (by rw [hlk9] at d9; have e8 := congrArg Prod.fst (Option.some.inj d9); have e7 := congrArg Prod.snd (Option.some.inj d9); simp only at e8 e7; rw [show 12 * la9 + e9 = 12 * z18 + z19 by omega, pk_us]; exact bn_1))⟩
    · refine lv_aload_n hx hb xd_Mo_reading_39 rfl (lv_at hl 1 rfl) ?_
      refine lv_iload_n hx hb xd_Mo_reading_40 rfl (lv_at hl 2 rfl) ?_
      refine xn_top (x := (nI ly)) (y := nI (ly + 1) - 1) (nI_pred ly).symm ?_
      refine lv_aload_n hx hb xd_Mo_reading_41 rfl (lv_at hl 1 rfl) ?_
      refine va_get (D := D) (ci := 4) (v := .ref (mm 13)) (C := xR_Mo) (T := xT_Mo) (N := 31) hx hb hT xi_Mo hown hK.1 hP 0 rfl rfl 18 (by decide) (hT _ k4m_3) (fun _ h9 => h9) rfl xd_Mo_reading_42 ?_
      refine lv_iload_n hx hb xd_Mo_reading_45 rfl (lv_at hl 0 rfl) ?_
      refine xn_iald (i := k2) hx hb hK.1 hP 14 0 rfl rfl (by omega) (by decide) xd_Mo_reading_46 ?_
      have hFc := va_free (wc := (moW h mm kA v (va_up g 24 f2))) hD hS hA [0, 1, 2, 3, 4, 5, 6, 7, 8, 9, 10, 11, 12, 13, 14, 15, 16, 17, 18, 19, 20, 21, 22, 23, 24, 25] rfl
      refine va_calli (va_runV (As := [.int (nI (ly + 1) - 1), .int (g 13 k2)]) (rest := []) ⟨hx, hb, hml, hown, hT⟩ (xc_Mo_lookUpX l D kA H.size h mm v (va_up g 24 f2) (ly + 1) (g 13 k2) np (by first | assumption | omega) hpar (by first | assumption | omega) hmd) (cwV 2 hT (wT_V k4m_5 k4m_6 k4m_7 k4m_8 k4m_4) rfl rfl rfl (by decide +kernel) ⟨Nat.le_of_ble_eq_true rfl, Nat.le_of_ble_eq_true rfl⟩) (x_preV hK hP hD 0 rfl rfl) rfl rfl hl.1 rfl (lv_room (Nat.le_of_ble_eq_true rfl)) xd_Mo_reading_47 ⟨Nat.le_of_ble_eq_true rfl, Nat.le_of_ble_eq_true rfl⟩) hS (fun q _ h => hFc q h) hFc (fun r26 u27 t H1 locs ht hvm hp28 hB hz1 hk1 hS => ?_)
      obtain ⟨hP1, hD1⟩ := hB
      rw [ht] at hP1
      have hD1 := hD1.weaken (fun _ _ _ h => hFc _ h)
      generalize H1 = H at hP1 hS ⊢
      have hP := hP1
      have hD := hD1
      have hP : va_P D xcl (moW h mm kA v (va_up g 24 f2)) H := hP
      have hD : va_D A (moW h mm kA v (va_up g 24 f2)) := hD
      rcases hp28 with ⟨z29, rfl⟩ | ⟨z30, z31, z32, z33, z34, rfl⟩
      · have hlk9 : lkG g (ly + 1) (g 13 k2) = none := z29
        refine lv_istore hx hb xd_Mo_reading_50 hl (Nat.le_of_ble_eq_true rfl) rfl (fun ls hl => ?_)
        have hl : lv_has ls 7 [(4, .int (-1)), (3, .int (nI k2)), (0, .ref h), (1, .int (nI ly)), (2, .int (nI d))] := hl
        refine lv_iload hx hb xd_Mo_reading_52 (lv_at hl 0 rfl) ?_
        refine lv_if_lt (tgt := 65) hx hb xd_Mo_reading_54 (by decide) (fun _ => ?_) (fun hc35 => absurd hc35 (by decide))
        refine lv_iinc (k := 1) (x := (nI k2)) (v := (nI (k2 + 1))) hx hb xd_Mo_reading_65 hl rfl (xb_inc k2 1) (Nat.le_of_ble_eq_true rfl) rfl (fun ls hl => ?_)
        have hl : lv_has ls 7 [(3, .int (nI (k2 + 1))), (4, .int (-1)), (0, .ref h), (1, .int (nI ly)), (2, .int (nI d))] := hl
        refine lv_goto (tgt := 25) hx hb xd_Mo_reading_68 (by decide) ?_
        exact ih3 (k2 + 1, f2) _ _ _ (show 5 * d + rqa - (k2 + 1) < 5 * d + rqa - k2 by omega) (lv_sub hl [0, 2, 3, 4] rfl) hP hD hS ⟨(show 5 * d ≤ (k2 + 1) from by first | assumption | omega), (show (k2 + 1) ≤ 5 * d + rqa from by first | assumption | omega), (show bz f2 from hbz2), (show ∀ i, i < 72 → ¬ f2 i = 0 → i / 12 < np from hsn2), (show ∀ t, t < 72 → ¬ f2 t = 0 → rd0 g ly d (k2 + 1) t from fun t ht hn => rd0_s (hs2 t ht hn)), (show ∀ b, rd0 g ly d (k2 + 1) b → ¬ f2 b = 0 from fun b hb => hcm2 b (rd0_c hb (fun la9 e9 q => by rw [hlk9] at q; cases q)))⟩
      · have hlk9 : lkG g (ly + 1) (g 13 k2) = some (z30, z31) := z32
        have hdd9 := z34
        have hld9 := z33
        refine lv_istore hx hb xd_Mo_reading_50 hl (Nat.le_of_ble_eq_true rfl) rfl (fun ls hl => ?_)
        have hl : lv_has ls 7 [(4, .int (nI (12 * z30 + z31))), (3, .int (nI k2)), (0, .ref h), (1, .int (nI ly)), (2, .int (nI d))] := hl
        refine lv_iload hx hb xd_Mo_reading_52 (lv_at hl 0 rfl) ?_
        refine xz_lt (a := 12 * z30 + z31) (tgt := 65) hx hb xd_Mo_reading_54 (by decide) (by omega) ?_
        refine lv_aload_n hx hb xd_Mo_reading_57 rfl (lv_at hl 2 rfl) ?_
        refine va_get (D := D) (ci := 4) (v := .ref (mm 24)) (C := xR_Mo) (T := xT_Mo) (N := 31) hx hb hT xi_Mo hown hK.1 hP 0 rfl rfl 30 (by decide) (hT _ k4m_1) (fun _ h9 => h9) rfl xd_Mo_reading_58 ?_
        refine lv_iload hx hb xd_Mo_reading_61 (lv_at hl 0 rfl) ?_
        refine lv_iconst (v := 1) hx hb xd_Mo_reading_63 (by decide) ?_
        refine xn_zast (i := 12 * z30 + z31) hx hb hK.1 hP hD hS 25 2 rfl rfl (by omega) (by decide) xd_Mo_reading_64 (fun H locs hP hD hS => ?_)
        have hP : va_P D xcl (moW h mm kA v (va_up g 24 (upd f2 (12 * z30 + z31) (vp_nar .boolean 1)))) H := hP
        have hD : va_D A (moW h mm kA v (va_up g 24 (upd f2 (12 * z30 + z31) (vp_nar .boolean 1)))) := hD
        refine lv_iinc (k := 1) (x := (nI k2)) (v := (nI (k2 + 1))) hx hb xd_Mo_reading_65 hl rfl (xb_inc k2 1) (Nat.le_of_ble_eq_true rfl) rfl (fun ls hl => ?_)
        have hl : lv_has ls 7 [(3, .int (nI (k2 + 1))), (4, .int (nI (12 * z30 + z31))), (0, .ref h), (1, .int (nI ly)), (2, .int (nI d))] := hl
        refine lv_goto (tgt := 25) hx hb xd_Mo_reading_68 (by decide) ?_
        exact ih3 (k2 + 1, (upd f2 (12 * z30 + z31) (vp_nar .boolean 1))) _ _ _ (show 5 * d + rqa - (k2 + 1) < 5 * d + rqa - k2 by omega) (lv_sub hl [0, 2, 3, 4] rfl) hP hD hS ⟨(show 5 * d ≤ (k2 + 1) from by first | assumption | omega), (show (k2 + 1) ≤ 5 * d + rqa from by first | assumption | omega), (show bz (upd f2 (12 * z30 + z31) (vp_nar .boolean 1)) from bz_up hbz2 bn_n), (show ∀ i, i < 72 → ¬ (upd f2 (12 * z30 + z31) (vp_nar .boolean 1)) i = 0 → i / 12 < np from fun i hi hne => by
      rcases Nat.lt_trichotomy i (12 * z30 + z31) with e | e | e
      · exact hsn2 i hi (by rwa [pk_un (by omega)] at hne)
      · omega
      · exact hsn2 i hi (by rwa [pk_un (by omega)] at hne)), (show ∀ t, t < 72 → ¬ (upd f2 (12 * z30 + z31) (vp_nar .boolean 1)) t = 0 → rd0 g ly d (k2 + 1) t from fun t ht hn => by
        by_cases e : t = 12 * z30 + z31
        · exact ⟨k2, hk21, by omega, z30, z31, hlk9, e⟩
        · rw [pk_un e] at hn; exact rd0_s (hs2 t ht hn)), (show ∀ b, rd0 g ly d (k2 + 1) b → ¬ (upd f2 (12 * z30 + z31) (vp_nar .boolean 1)) b = 0 from fun b hb => by
        by_cases e : b = 12 * z30 + z31
        · rw [e, pk_us]; exact bn_1
        · rw [pk_un e]; exact hcm2 b (rd0_c hb (fun la9 e9 q => by rw [hlk9] at q; have e8 := congrArg Prod.fst (Option.some.inj q); have e7 := congrArg Prod.snd (Option.some.inj q); simp only at e8 e7; omega)))⟩
  · refine lv_aload_n hx hb xd_Mo_reading_8 rfl (lv_at hl 1 rfl) ?_
    refine va_get (D := D) (ci := 4) (v := .ref (mm 24)) (C := xR_Mo) (T := xT_Mo) (N := 31) hx hb hT xi_Mo hown hK.1 hP 0 rfl rfl 30 (by decide) (hT _ k4m_1) (fun _ h9 => h9) rfl xd_Mo_reading_9 ?_
    refine lv_iload_n hx hb xd_Mo_reading_12 rfl (lv_at hl 0 rfl) ?_
    refine lv_iconst (v := 0) hx hb xd_Mo_reading_13 (by decide) ?_
    refine xn_zast (i := i0) hx hb hK.1 hP hD hS 25 2 rfl rfl (by omega) (by decide) xd_Mo_reading_14 (fun H locs hP hD hS => ?_)
    have hP : va_P D xcl (moW h mm kA v (va_up g 24 (upd f0 i0 (vp_nar .boolean 0)))) H := hP
    have hD : va_D A (moW h mm kA v (va_up g 24 (upd f0 i0 (vp_nar .boolean 0)))) := hD
    refine lv_iinc (k := 0) (x := (nI i0)) (v := (nI (i0 + 1))) hx hb xd_Mo_reading_15 hl rfl (xb_inc i0 1) (Nat.le_of_ble_eq_true rfl) rfl (fun ls hl => ?_)
    have hl : lv_has ls 7 [(3, .int (nI (i0 + 1))), (0, .ref h), (1, .int (nI ly)), (2, .int (nI d))] := hl
    refine lv_goto (tgt := 2) hx hb xd_Mo_reading_18 (by decide) ?_
    exact ih1 (i0 + 1, (upd f0 i0 (vp_nar .boolean 0))) _ _ _ (show 72 - (i0 + 1) < 72 - i0 by omega) (lv_sub hl [0, 1, 2, 3] rfl) hP hD hS ⟨(show (i0 + 1) ≤ 72 from by first | assumption | omega), (show ∀ j, j < (i0 + 1) → (upd f0 i0 (vp_nar .boolean 0)) j = vp_nar .boolean 0 from fun j hj => by
      by_cases e : j = i0
      · subst e; exact pk_us
      · rw [pk_un e]; exact hz0 j (by omega))⟩
