theorem k5b_0 : (Cond.fieldLink "LayerDesk$Line" 24 "LayerDesk$Line" "words" "I") ∈ wT := wT_t (List.mem_append_left _ (List.mem_of_getElem? (i := 40) rfl)) rfl
theorem k5b_1 : (Cond.fieldLink "LayerDesk$Line" 17 "LayerDesk$Line" "ends" "[I") ∈ wT := wT_t (List.mem_append_left _ (List.mem_of_getElem? (i := 38) rfl)) rfl
theorem k5b_2 : (Cond.fieldLink "LayerDesk$Line" 13 "LayerDesk$Line" "starts" "[I") ∈ wT := wT_t (List.mem_append_left _ (List.mem_of_getElem? (i := 37) rfl)) rfl
theorem k5b_3 : (Cond.fieldLink "LayerDesk$Line" 9 "LayerDesk$Line" "text" "[C") ∈ wT := wT_t (List.mem_append_left _ (List.mem_of_getElem? (i := 36) rfl)) rfl
theorem k5b_4 : (Cond.code xy_JS_length xb_JS_length 1 (some .int)) ∈ wT := wT_t (List.mem_append_left _ (List.mem_of_getElem? (i := 203) rfl)) rfl
theorem k5b_5 : (Cond.methodLink "LayerDesk$Line" 34 xy_JS_length) ∈ wT := wT_t (List.mem_append_left _ (List.mem_of_getElem? (i := 200) rfl)) rfl
theorem k5b_6 : (Cond.instanceMethod xy_JS_length) ∈ wT := wT_t (List.mem_append_left _ (List.mem_of_getElem? (i := 201) rfl)) rfl
theorem k5b_7 : (Cond.selects "java/lang/String" xy_JS_length xy_JS_length) ∈ wT := wT_t (List.mem_append_left _ (List.mem_of_getElem? (i := 202) rfl)) rfl
theorem k5b_8 : (Cond.initialized "java/lang/String") ∈ wT := wT_t (List.mem_append_left _ (List.mem_of_getElem? (i := 6) rfl)) rfl
theorem k5b_9 : (Cond.code xy_JS_charAt xb_JS_charAt 2 (some .char)) ∈ wT := wT_t (List.mem_append_left _ (List.mem_of_getElem? (i := 213) rfl)) rfl
theorem k5b_10 : (Cond.methodLink "LayerDesk$Line" 39 xy_JS_charAt) ∈ wT := wT_t (List.mem_append_left _ (List.mem_of_getElem? (i := 210) rfl)) rfl
theorem k5b_11 : (Cond.instanceMethod xy_JS_charAt) ∈ wT := wT_t (List.mem_append_left _ (List.mem_of_getElem? (i := 211) rfl)) rfl
theorem k5b_12 : (Cond.selects "java/lang/String" xy_JS_charAt xy_JS_charAt) ∈ wT := wT_t (List.mem_append_left _ (List.mem_of_getElem? (i := 212) rfl)) rfl
set_option maxHeartbeats 4000000 in
set_option maxRecDepth 100000 in
theorem xc_Li_nameAtX (l : Launch) (D : va_G) (kA : Nat → ClassId) (sz : Nat) (ad : Nat → Nat → Nat) (E : Nat → Nat → va_E) (RL : List (Nat × Nat)) (g : Nat → Nat → Int32) (ml : Nat) (nd : Nat) (len : Nat) (lt : Nat) (wl : List (Nat × Nat)) (cs : Nat) (iw : Nat) (hCI : CI kA ad E RL ml nd len wl.length cs) (hLW : LW g E lt wl) (hiw : iw ≤ 100) : Met l xy_Li_nameAt (.code xy_Li_nameAt xb_Li_nameAt 4 (some .int) :: wT) { frames := 0, cells := 0, slots := 0, locals := 0 } (va_Pc [.ref (ad 0 1), .int (nI iw)] (xPre D kA sz (rp ad E RL))) (va_Qi (fun (r : Int32) (u : Unit) => r = wN (g 0) wl iw) (fun (u : Unit) t => va_P D xcl (rp ad E RL) t.heap ∧ va_D (va_A (rp ad E RL) sz) (rp ad E RL)) (va_A (rp ad E RL) sz)) 0 0 (va_A (rp ad E RL) sz) := by
  refine Met.ofW (cc := xb_Li_nameAt) (maxL := 4) (ret := (some .int)) (by decide) rfl ?_
  intro p e s m args below meth c s₁ B hml hv
  obtain ⟨rfl, hsz, hP, hK, hD0⟩ := hv
  have hx := B.exec
  have hb := B.bytes
  have hr := B.returns
  have hT := x_hT B.pre
  have hown : s.vm.findClass xR_Li = some m.cls := findClass_of_methodNamed B.named
  have hlocks := B.notSynchronized
  subst hsz
  have hD := hD0.self (sz := s.heap.size)
  generalize hAe : va_A (rp ad E RL) s.heap.size = A at hD ⊢
  have hA : ∀ q : Nat, s.heap.size ≤ q → A q := fun q h => by rw [← hAe]; exact Or.inr h
  have hS : va_S A s.heap s.heap [] := va_S.rf
  have hl := lv_entry ([.ref (ad 0 1), .int (nI iw)]) (n := 4) (Nat.le_of_ble_eq_true rfl)
  rw [lg_entry_eq]
  generalize (lg_sl ([.ref (ad 0 1), .int (nI iw)]) ++ List.replicate (4 - (lg_sl ([.ref (ad 0 1), .int (nI iw)])).length) Slot.unset).toArray = ls at hl ⊢
  have hl : lv_has ls 4 [(0, .ref (ad 0 1)), (1, .int (nI iw))] := hl
  have hP : va_P D xcl (rp ad E RL) s.heap := hP
  obtain ⟨hmB, hDk, hLi, hSh, hCh, hLa, hDIs, hLIs⟩ := id hCI
  obtain ⟨hWL, hlt40, hLwd, hLtx⟩ := id hLW
  obtain ⟨tx_1, fb_1, fe_1, hl1_1, hw2_1, q1_1, q2_1, q3_1, q4_1, hws_1⟩ := id (hLi)
  have c_2 : E 0 1 = .inr (1, [.ref (ad 0 2), .ref (ad 0 3), .ref (ad 0 4), .int (nI len), .int (nI (wl.length))]) := q1_1
  have m_3 : (0, 1) ∈ RL := hmB 1 (by omega)
  have c_4 : E 0 2 = .inl (kA 1, 40, .inl tx_1) := q2_1
  have m_5 : (0, 2) ∈ RL := hmB 2 (by omega)
  have c_6 : E 0 3 = .inl (kA 0, 20, .inl fb_1) := q3_1
  have m_7 : (0, 3) ∈ RL := hmB 3 (by omega)
  have c_8 : E 0 4 = .inl (kA 0, 20, .inl fe_1) := q4_1
  have m_9 : (0, 4) ∈ RL := hmB 4 (by omega)
  refine lv_iload_n hx hb xd_Li_nameAt_0 rfl (lv_at hl 1 rfl) ?_
  refine xz_lt (a := iw) (tgt := 29) hx hb xd_Li_nameAt_1 (by decide) (by omega) ?_
  refine lv_iload_n hx hb xd_Li_nameAt_4 rfl (lv_at hl 1 rfl) ?_
  refine lv_aload_n hx hb xd_Li_nameAt_5 rfl (lv_at hl 0 rfl) ?_
  refine px_get (D := D) (ci := 1) (v := .int (nI (wl.length))) (C := xR_Li) (T := xT_Li) (N := 5) hx hb hT xi_Li hown hK.1 hP m_3 c_2 rfl 4 (by decide) (hT _ k5b_0) (fun _ h9 => h9) rfl xd_Li_nameAt_6 ?_
  refine xn_ge (a := iw) (b := wl.length) (tgt := 29) hx hb xd_Li_nameAt_9 (by decide) (by omega) (by omega) (fun hc11 => ?_) (fun hc11 => ?_)
  · refine lv_iconst (v := 0) hx hb xd_Li_nameAt_29 (by decide) ?_
    exact W.iret (v := 0) hx hb hr (fun t ht hW => ⟨⟨0, (), rfl, (wN_out (by omega)).symm, by rw [ht]; exact hP, hD⟩, hS.F ht⟩) hS.2.2 xd_Li_nameAt_30
  · have hbe9 := (hWL.2 iw (by omega)).1
    have he40 := (hWL.2 iw (by omega)).2
    have helt := (hLwd iw (by omega)).2.2
    have hfb9 : fb_1 iw = nI (wb wl iw) := by have q := (hLwd iw (by omega)).1; rw [c_6] at q; exact q
    have hfe9 : fe_1 iw = nI (we wl iw) := by have q := (hLwd iw (by omega)).2.1; rw [c_8] at q; exact q
    have htx9 : ∀ j, j < lt → tx_1 j = g 0 j := fun j hj => by have q := hLtx j hj; rw [c_4] at q; exact q
    refine lv_aload_n hx hb xd_Li_nameAt_12 rfl (lv_at hl 0 rfl) ?_
    refine px_get (D := D) (ci := 1) (v := .ref (ad 0 4)) (C := xR_Li) (T := xT_Li) (N := 5) hx hb hT xi_Li hown hK.1 hP m_3 c_2 rfl 2 (by decide) (hT _ k5b_1) (fun _ h9 => h9) rfl xd_Li_nameAt_13 ?_
    refine lv_iload_n hx hb xd_Li_nameAt_16 rfl (lv_at hl 1 rfl) ?_
    refine px_iald (i := iw) hx hb hK.1 hP m_9 c_8 0 rfl (by omega) (by decide) xd_Li_nameAt_17 ?_
    refine xn_top (x := (fe_1 iw)) (y := nI (we wl iw)) hfe9 ?_
    refine lv_aload_n hx hb xd_Li_nameAt_18 rfl (lv_at hl 0 rfl) ?_
    refine px_get (D := D) (ci := 1) (v := .ref (ad 0 3)) (C := xR_Li) (T := xT_Li) (N := 5) hx hb hT xi_Li hown hK.1 hP m_3 c_2 rfl 1 (by decide) (hT _ k5b_2) (fun _ h9 => h9) rfl xd_Li_nameAt_19 ?_
    refine lv_iload_n hx hb xd_Li_nameAt_22 rfl (lv_at hl 1 rfl) ?_
    refine px_iald (i := iw) hx hb hK.1 hP m_7 c_6 0 rfl (by omega) (by decide) xd_Li_nameAt_23 ?_
    refine xn_top (x := (fb_1 iw)) (y := nI (wb wl iw)) hfb9 ?_
    refine lv_isub hx hb xd_Li_nameAt_24 ?_
    refine xn_top (y := nI ((we wl iw) - (wb wl iw))) (pk_sub (a := (we wl iw)) (b := (wb wl iw)) (by omega)) ?_
    refine lv_iconst (v := 4) hx hb xd_Li_nameAt_25 (by decide) ?_
    refine xn_le (a := (we wl iw) - (wb wl iw)) (b := 4) (tgt := 31) hx hb xd_Li_nameAt_26 (by decide) (by omega) (by omega) (fun hc12 => ?_) (fun hc12 => ?_)
    · refine lv_iconst (v := 0) hx hb xd_Li_nameAt_31 (by decide) ?_
      refine lv_istore_n hx hb xd_Li_nameAt_32 rfl hl (Nat.le_of_ble_eq_true rfl) rfl (fun ls hl => ?_)
      have hl : lv_has ls 4 [(2, .int 0), (0, .ref (ad 0 1)), (1, .int (nI iw))] := hl
      refine lv_aload_n hx hb xd_Li_nameAt_33 rfl (lv_at hl 1 rfl) ?_
      refine px_get (D := D) (ci := 1) (v := .ref (ad 0 3)) (C := xR_Li) (T := xT_Li) (N := 5) hx hb hT xi_Li hown hK.1 hP m_3 c_2 rfl 1 (by decide) (hT _ k5b_2) (fun _ h9 => h9) rfl xd_Li_nameAt_34 ?_
      refine lv_iload_n hx hb xd_Li_nameAt_37 rfl (lv_at hl 2 rfl) ?_
      refine px_iald (i := iw) hx hb hK.1 hP m_7 c_6 0 rfl (by omega) (by decide) xd_Li_nameAt_38 ?_
      refine xn_top (x := (fb_1 iw)) (y := nI (wb wl iw)) hfb9 ?_
      refine lv_istore_n hx hb xd_Li_nameAt_39 rfl hl (Nat.le_of_ble_eq_true rfl) rfl (fun ls hl => ?_)
      have hl : lv_has ls 4 [(3, .int (nI ((wb wl iw)))), (2, .int 0), (0, .ref (ad 0 1)), (1, .int (nI iw))] := hl
      refine xlab (σ := Nat × Int32) (ml := 4) 40 (fun (pp9, nm9) => [(3, .int (nI pp9)), (2, .int nm9), (0, .ref (ad 0 1)), (1, .int (nI iw))]) (fun (pp9, nm9) => []) (fun (pp9, nm9) => rp ad E RL) (fun (pp9, nm9) => (wb wl iw ≤ pp9) ∧ (pp9 ≤ we wl iw) ∧ (nm9 = n_fold tx_1 (wb wl iw) (pp9 - wb wl iw) 0) ∧ (n_small tx_1 (wb wl iw) (pp9 - wb wl iw))) (fun (pp9, nm9) => we wl iw - pp9) ?_ ((wb wl iw), 0) _ _ _ (lv_sub hl [0, 1, 2, 3] rfl) hP hD hS ⟨(show wb wl iw ≤ (wb wl iw) from by first | assumption | omega), (show (wb wl iw) ≤ we wl iw from by first | assumption | omega), (show 0 = n_fold tx_1 (wb wl iw) ((wb wl iw) - wb wl iw) 0 from by rw [Nat.sub_self]; rfl), (show n_small tx_1 (wb wl iw) ((wb wl iw) - wb wl iw) from by rw [Nat.sub_self]; trivial)⟩
      intro n9 ih13 a9 ls H locs hμ hl hP hD hS hI
      subst hμ
      obtain ⟨pp9, nm9⟩ := a9
      obtain ⟨hp1, hp2, hnm9, hsm9⟩ := hI
      have hp1 : wb wl iw ≤ pp9 := hp1
      have hp2 : pp9 ≤ we wl iw := hp2
      have hnm9 : nm9 = n_fold tx_1 (wb wl iw) (pp9 - wb wl iw) 0 := hnm9
      have hsm9 : n_small tx_1 (wb wl iw) (pp9 - wb wl iw) := hsm9
      have hl : lv_has ls 4 [(3, .int (nI pp9)), (2, .int nm9), (0, .ref (ad 0 1)), (1, .int (nI iw))] := hl
      have hP : va_P D xcl (rp ad E RL) H := hP
      have hD : va_D A (rp ad E RL) := hD
      refine lv_iload_n hx hb xd_Li_nameAt_40 rfl (lv_at hl 0 rfl) ?_
      refine lv_aload_n hx hb xd_Li_nameAt_41 rfl (lv_at hl 2 rfl) ?_
      refine px_get (D := D) (ci := 1) (v := .ref (ad 0 4)) (C := xR_Li) (T := xT_Li) (N := 5) hx hb hT xi_Li hown hK.1 hP m_3 c_2 rfl 2 (by decide) (hT _ k5b_1) (fun _ h9 => h9) rfl xd_Li_nameAt_42 ?_
      refine lv_iload_n hx hb xd_Li_nameAt_45 rfl (lv_at hl 3 rfl) ?_
      refine px_iald (i := iw) hx hb hK.1 hP m_9 c_8 0 rfl (by omega) (by decide) xd_Li_nameAt_46 ?_
      refine xn_top (x := (fe_1 iw)) (y := nI (we wl iw)) hfe9 ?_
      refine xn_ge (a := pp9) (b := (we wl iw)) (tgt := 97) hx hb xd_Li_nameAt_47 (by decide) (by omega) (by omega) (fun hc14 => ?_) (fun hc14 => ?_)
      · refine lv_iload_n hx hb xd_Li_nameAt_97 rfl (lv_at hl 1 rfl) ?_
        exact W.iret (v := nm9) hx hb hr (fun t ht hW => ⟨⟨nm9, (), rfl, (by
        rw [wN_in (by omega), ← (nV_congr (fun j h1 h2 => htx9 j (by omega)))]
        exact nV_ok (by omega) (by rw [show we wl iw - wb wl iw = pp9 - wb wl iw by omega]; exact hsm9) (by rw [show we wl iw - wb wl iw = pp9 - wb wl iw by omega]; exact hnm9)), by rw [ht]; exact hP, hD⟩, hS.F ht⟩) hS.2.2 xd_Li_nameAt_98
      · refine lv_aload_n hx hb xd_Li_nameAt_50 rfl (lv_at hl 2 rfl) ?_
        refine px_get (D := D) (ci := 1) (v := .ref (ad 0 2)) (C := xR_Li) (T := xT_Li) (N := 5) hx hb hT xi_Li hown hK.1 hP m_3 c_2 rfl 0 (by decide) (hT _ k5b_3) (fun _ h9 => h9) rfl xd_Li_nameAt_51 ?_
        refine lv_iload_n hx hb xd_Li_nameAt_54 rfl (lv_at hl 0 rfl) ?_
        refine px_cald (i := pp9) hx hb hK.1 hP m_5 c_4 1 rfl (by omega) (by decide) xd_Li_nameAt_55 ?_
        refine lv_bipush (v := 97) hx hb xd_Li_nameAt_56 (by decide) ?_
        refine lv_icmp_lt (tgt := 72) hx hb xd_Li_nameAt_58 (by decide) (fun hc15 => ?_) (fun hc15 => ?_)
        · refine lv_iconst (v := 0) hx hb xd_Li_nameAt_72 (by decide) ?_
          exact W.iret (v := 0) hx hb hr (fun t ht hW => ⟨⟨0, (), rfl, (by
        rw [wN_in (by omega), ← (nV_congr (fun j h1 h2 => htx9 j (by omega)))]
        exact nV_no (fun q => (n_small_at q.2 (p := pp9 - wb wl iw) (by omega)).1 (by rw [show wb wl iw + (pp9 - wb wl iw) = pp9 by omega]; exact hc15))), by rw [ht]; exact hP, hD⟩, hS.F ht⟩) hS.2.2 xd_Li_nameAt_73
        · refine lv_aload_n hx hb xd_Li_nameAt_61 rfl (lv_at hl 2 rfl) ?_
          refine px_get (D := D) (ci := 1) (v := .ref (ad 0 2)) (C := xR_Li) (T := xT_Li) (N := 5) hx hb hT xi_Li hown hK.1 hP m_3 c_2 rfl 0 (by decide) (hT _ k5b_3) (fun _ h9 => h9) rfl xd_Li_nameAt_62 ?_
          refine lv_iload_n hx hb xd_Li_nameAt_65 rfl (lv_at hl 0 rfl) ?_
          refine px_cald (i := pp9) hx hb hK.1 hP m_5 c_4 1 rfl (by omega) (by decide) xd_Li_nameAt_66 ?_
          refine lv_bipush (v := 122) hx hb xd_Li_nameAt_67 (by decide) ?_
          refine lv_icmp_le (tgt := 74) hx hb xd_Li_nameAt_69 (by decide) (fun hc16 => ?_) (fun hc16 => ?_)
          · refine lv_iload_n hx hb xd_Li_nameAt_74 rfl (lv_at hl 1 rfl) ?_
            refine lv_bipush (v := 27) hx hb xd_Li_nameAt_75 (by decide) ?_
            refine lv_imul hx hb xd_Li_nameAt_77 ?_
            refine lv_aload_n hx hb xd_Li_nameAt_78 rfl (lv_at hl 2 rfl) ?_
            refine px_get (D := D) (ci := 1) (v := .ref (ad 0 2)) (C := xR_Li) (T := xT_Li) (N := 5) hx hb hT xi_Li hown hK.1 hP m_3 c_2 rfl 0 (by decide) (hT _ k5b_3) (fun _ h9 => h9) rfl xd_Li_nameAt_79 ?_
            refine lv_iload_n hx hb xd_Li_nameAt_82 rfl (lv_at hl 0 rfl) ?_
            refine px_cald (i := pp9) hx hb hK.1 hP m_5 c_4 1 rfl (by omega) (by decide) xd_Li_nameAt_83 ?_
            refine lv_bipush (v := 97) hx hb xd_Li_nameAt_84 (by decide) ?_
            refine lv_isub hx hb xd_Li_nameAt_86 ?_
            refine lv_iconst (v := 1) hx hb xd_Li_nameAt_87 (by decide) ?_
            refine lv_iadd hx hb xd_Li_nameAt_88 ?_
            refine lv_iadd hx hb xd_Li_nameAt_89 ?_
            refine lv_istore_n hx hb xd_Li_nameAt_90 rfl hl (Nat.le_of_ble_eq_true rfl) rfl (fun ls hl => ?_)
            have hl : lv_has ls 4 [(2, .int ((nm9 * 27) + (((tx_1 pp9) - 97) + 1))), (3, .int (nI pp9)), (0, .ref (ad 0 1)), (1, .int (nI iw))] := hl
            refine lv_iinc (k := 1) (x := (nI pp9)) (v := (nI (pp9 + 1))) hx hb xd_Li_nameAt_91 hl rfl (xb_inc pp9 1) (Nat.le_of_ble_eq_true rfl) rfl (fun ls hl => ?_)
            have hl : lv_has ls 4 [(3, .int (nI (pp9 + 1))), (2, .int ((nm9 * 27) + (((tx_1 pp9) - 97) + 1))), (0, .ref (ad 0 1)), (1, .int (nI iw))] := hl
            refine lv_goto (tgt := 40) hx hb xd_Li_nameAt_94 (by decide) ?_
            exact ih13 (pp9 + 1, ((nm9 * 27) + (((tx_1 pp9) - 97) + 1))) _ _ _ (show we wl iw - (pp9 + 1) < we wl iw - pp9 by omega) (lv_sub hl [0, 1, 2, 3] rfl) hP hD hS ⟨(show wb wl iw ≤ (pp9 + 1) from by first | assumption | omega), (show (pp9 + 1) ≤ we wl iw from by first | assumption | omega), (show ((nm9 * 27) + (((tx_1 pp9) - 97) + 1)) = n_fold tx_1 (wb wl iw) ((pp9 + 1) - wb wl iw) 0 from by rw [hnm9, show pp9 + 1 - wb wl iw = pp9 - wb wl iw + 1 by omega, n_fold_r, show wb wl iw + (pp9 - wb wl iw) = pp9 by omega]), (show n_small tx_1 (wb wl iw) ((pp9 + 1) - wb wl iw) from by rw [show pp9 + 1 - wb wl iw = pp9 - wb wl iw + 1 by omega, n_small_r, show wb wl iw + (pp9 - wb wl iw) = pp9 by omega]; exact ⟨hsm9, hc15, Int32.not_lt.mpr hc16⟩)⟩
          · refine lv_iconst (v := 0) hx hb xd_Li_nameAt_72 (by decide) ?_
            exact W.iret (v := 0) hx hb hr (fun t ht hW => ⟨⟨0, (), rfl, (by
        rw [wN_in (by omega), ← (nV_congr (fun j h1 h2 => htx9 j (by omega)))]
        exact nV_no (fun q => (n_small_at q.2 (p := pp9 - wb wl iw) (by omega)).2 (by rw [show wb wl iw + (pp9 - wb wl iw) = pp9 by omega]; exact (Int32.not_le.mp hc16)))), by rw [ht]; exact hP, hD⟩, hS.F ht⟩) hS.2.2 xd_Li_nameAt_73
    · refine lv_iconst (v := 0) hx hb xd_Li_nameAt_29 (by decide) ?_
      exact W.iret (v := 0) hx hb hr (fun t ht hW => ⟨⟨0, (), rfl, (by
        rw [wN_in (by omega)]
        exact nV_no (fun q => absurd q.1 (by omega))), by rw [ht]; exact hP, hD⟩, hS.F ht⟩) hS.2.2 xd_Li_nameAt_30
set_option maxHeartbeats 4000000 in
set_option maxRecDepth 100000 in
theorem xc_Li_wordIsX (l : Launch) (D : va_G) (kA : Nat → ClassId) (sz : Nat) (ad : Nat → Nat → Nat) (E : Nat → Nat → va_E) (RL : List (Nat × Nat)) (Z : zT) (g : Nat → Nat → Int32) (ml : Nat) (nd : Nat) (len : Nat) (lt : Nat) (wl : List (Nat × Nat)) (cs : Nat) (iw : Nat) (si : Nat) (hCI : CI kA ad E RL ml nd len wl.length cs) (hLW : LW g E lt wl) (hiw : iw ≤ 100) (hsi : si < 12) : Met l xy_Li_wordIs (.code xy_Li_wordIs xb_Li_wordIs 4 (some .boolean) :: wT) { frames := 4, cells := 0, slots := 0, locals := 85 } (va_Pc [.ref (ad 0 1), .int (nI iw), .ref (Z.1 si)] (xPreZ D kA sz (rp ad E RL) Z)) (va_Qi (fun (r : Int32) (u : Unit) => (r = 1 ∧ wS (g 0) wl iw (zW si)) ∨ (r = 0 ∧ ¬ wS (g 0) wl iw (zW si))) (fun (u : Unit) t => va_P D xcl (rp ad E RL) t.heap ∧ va_D (va_A (rp ad E RL) sz) (rp ad E RL)) (va_A (rp ad E RL) sz)) 0 0 (va_A (rp ad E RL) sz) := by
  refine Met.ofW (cc := xb_Li_wordIs) (maxL := 4) (ret := (some .boolean)) (by decide) rfl ?_
  intro p e s m args below meth c s₁ B hml hv
  obtain ⟨rfl, ⟨hsz, hP, hK, hD0⟩, hZ⟩ := hv
  have hx := B.exec
  have hb := B.bytes
  have hr := B.returns
  have hT := x_hT B.pre
  have hown : s.vm.findClass xR_Li = some m.cls := findClass_of_methodNamed B.named
  have hlocks := B.notSynchronized
  subst hsz
  have hD := hD0.self (sz := s.heap.size)
  generalize hAe : va_A (rp ad E RL) s.heap.size = A at hD hZ ⊢
  have hA : ∀ q : Nat, s.heap.size ≤ q → A q := fun q h => by rw [← hAe]; exact Or.inr h
  have hS : va_S A s.heap s.heap [] := va_S.rf
  have hl := lv_entry ([.ref (ad 0 1), .int (nI iw), .ref (Z.1 si)]) (n := 4) (Nat.le_of_ble_eq_true rfl)
  rw [lg_entry_eq]
  generalize (lg_sl ([.ref (ad 0 1), .int (nI iw), .ref (Z.1 si)]) ++ List.replicate (4 - (lg_sl ([.ref (ad 0 1), .int (nI iw), .ref (Z.1 si)])).length) Slot.unset).toArray = ls at hl ⊢
  have hl : lv_has ls 4 [(0, .ref (ad 0 1)), (1, .int (nI iw)), (2, .ref (Z.1 si))] := hl
  have hP : va_P D xcl (rp ad E RL) s.heap := hP
  obtain ⟨hmB, hDk, hLi, hSh, hCh, hLa, hDIs, hLIs⟩ := id hCI
  obtain ⟨hWL, hlt40, hLwd, hLtx⟩ := id hLW
  obtain ⟨tx_1, fb_1, fe_1, hl1_1, hw2_1, q1_1, q2_1, q3_1, q4_1, hws_1⟩ := id (hLi)
  have c_2 : E 0 1 = .inr (1, [.ref (ad 0 2), .ref (ad 0 3), .ref (ad 0 4), .int (nI len), .int (nI (wl.length))]) := q1_1
  have m_3 : (0, 1) ∈ RL := hmB 1 (by omega)
  have c_4 : E 0 2 = .inl (kA 1, 40, .inl tx_1) := q2_1
  have m_5 : (0, 2) ∈ RL := hmB 2 (by omega)
  have c_6 : E 0 3 = .inl (kA 0, 20, .inl fb_1) := q3_1
  have m_7 : (0, 3) ∈ RL := hmB 3 (by omega)
  have c_8 : E 0 4 = .inl (kA 0, 20, .inl fe_1) := q4_1
  have m_9 : (0, 4) ∈ RL := hmB 4 (by omega)
  have hz9 := z_len si hsi
  have hzl := zW_len si hsi
  refine lv_iload_n hx hb xd_Li_wordIs_0 rfl (lv_at hl 1 rfl) ?_
  refine xz_lt (a := iw) (tgt := 32) hx hb xd_Li_wordIs_1 (by decide) (by omega) ?_
  refine lv_iload_n hx hb xd_Li_wordIs_4 rfl (lv_at hl 1 rfl) ?_
  refine lv_aload_n hx hb xd_Li_wordIs_5 rfl (lv_at hl 0 rfl) ?_
  refine px_get (D := D) (ci := 1) (v := .int (nI (wl.length))) (C := xR_Li) (T := xT_Li) (N := 5) hx hb hT xi_Li hown hK.1 hP m_3 c_2 rfl 4 (by decide) (hT _ k5b_0) (fun _ h9 => h9) rfl xd_Li_wordIs_6 ?_
  refine xn_ge (a := iw) (b := wl.length) (tgt := 32) hx hb xd_Li_wordIs_9 (by decide) (by omega) (by omega) (fun hc11 => ?_) (fun hc11 => ?_)
  · refine lv_iconst (v := 0) hx hb xd_Li_wordIs_32 (by decide) ?_
    exact W.zret (v := 0) hx hb hr rfl (fun t ht hW => ⟨⟨0, (), rfl, Or.inr ⟨rfl, fun q => absurd q.1 (by omega)⟩, by rw [ht]; exact hP, hD⟩, hS.F ht⟩) hS.2.2 xd_Li_wordIs_33
  · have hbe9 := (hWL.2 iw (by omega)).1
    have he40 := (hWL.2 iw (by omega)).2
    have helt := (hLwd iw (by omega)).2.2
    have hfb9 : fb_1 iw = nI (wb wl iw) := by have q := (hLwd iw (by omega)).1; rw [c_6] at q; exact q
    have hfe9 : fe_1 iw = nI (we wl iw) := by have q := (hLwd iw (by omega)).2.1; rw [c_8] at q; exact q
    have htx9 : ∀ j, j < lt → tx_1 j = g 0 j := fun j hj => by have q := hLtx j hj; rw [c_4] at q; exact q
    refine lv_aload_n hx hb xd_Li_wordIs_12 rfl (lv_at hl 0 rfl) ?_
    refine px_get (D := D) (ci := 1) (v := .ref (ad 0 4)) (C := xR_Li) (T := xT_Li) (N := 5) hx hb hT xi_Li hown hK.1 hP m_3 c_2 rfl 2 (by decide) (hT _ k5b_1) (fun _ h9 => h9) rfl xd_Li_wordIs_13 ?_
    refine lv_iload_n hx hb xd_Li_wordIs_16 rfl (lv_at hl 1 rfl) ?_
    refine px_iald (i := iw) hx hb hK.1 hP m_9 c_8 0 rfl (by omega) (by decide) xd_Li_wordIs_17 ?_
    refine xn_top (x := (fe_1 iw)) (y := nI (we wl iw)) hfe9 ?_
    refine lv_aload_n hx hb xd_Li_wordIs_18 rfl (lv_at hl 0 rfl) ?_
    refine px_get (D := D) (ci := 1) (v := .ref (ad 0 3)) (C := xR_Li) (T := xT_Li) (N := 5) hx hb hT xi_Li hown hK.1 hP m_3 c_2 rfl 1 (by decide) (hT _ k5b_2) (fun _ h9 => h9) rfl xd_Li_wordIs_19 ?_
    refine lv_iload_n hx hb xd_Li_wordIs_22 rfl (lv_at hl 1 rfl) ?_
    refine px_iald (i := iw) hx hb hK.1 hP m_7 c_6 0 rfl (by omega) (by decide) xd_Li_wordIs_23 ?_
    refine xn_top (x := (fb_1 iw)) (y := nI (wb wl iw)) hfb9 ?_
    refine lv_isub hx hb xd_Li_wordIs_24 ?_
    refine xn_top (y := nI ((we wl iw) - (wb wl iw))) (pk_sub (a := (we wl iw)) (b := (wb wl iw)) (by omega)) ?_
    refine lv_aload_n hx hb xd_Li_wordIs_25 rfl (lv_at hl 2 rfl) ?_
    have hFc := px_free hD hS hA
    refine va_calli (va_runV (As := []) (rest := [.int (nI ((we wl iw) - (wb wl iw)))]) ⟨hx, hb, hml, hown, hT⟩ (xc_JS_length l D kA s.heap.size ad E RL Z si (by first | assumption | omega)) (cwV 0 hT (wT_V k5b_5 k5b_6 k5b_7 k5b_8 k5b_4) rfl rfl rfl (by decide +kernel) ⟨Nat.le_of_ble_eq_true rfl, Nat.le_of_ble_eq_true rfl⟩) (x_preTZ (vk_recv hZ.2.1 hsi hS) hK hP hD hFc (hZ.kept hS)) rfl rfl hl.1 rfl (lv_room (Nat.le_of_ble_eq_true rfl)) xd_Li_wordIs_26 ⟨(Nat.le_of_ble_eq_true rfl), (Nat.le_of_ble_eq_true rfl)⟩) hS (fun q _ h => hFc q h) hFc (fun r12 u13 t H1 locs ht hvm hp14 hB hz1 hk1 hS => ?_)
    obtain ⟨hP1, hD1⟩ := hB
    rw [ht] at hP1
    have hD1 := hD1.weaken (fun _ _ _ h => hFc _ h)
    generalize H1 = H at hP1 hS ⊢
    have hP := hP1
    have hD := hD1
    have hP : va_P D xcl (rp ad E RL) H := hP
    have hD : va_D A (rp ad E RL) := hD
    rcases hp14 with rfl
    · refine W.eq (g2 := F0 m 29 ls [.int (nI ((zL.getD si 0))), .int (nI ((we wl iw) - (wb wl iw)))]) rfl ?_
      refine xn_eq (a := (we wl iw) - (wb wl iw)) (b := (zL.getD si 0)) (tgt := 34) hx hb xd_Li_wordIs_29 (by decide) (by omega) (by omega) (fun hc15 => ?_) (fun hc15 => ?_)
      · refine lv_iconst (v := 0) hx hb xd_Li_wordIs_34 (by decide) ?_
        refine lv_istore_n hx hb xd_Li_wordIs_35 rfl hl (Nat.le_of_ble_eq_true rfl) rfl (fun ls hl => ?_)
        have hl : lv_has ls 4 [(3, .int 0), (0, .ref (ad 0 1)), (1, .int (nI iw)), (2, .ref (Z.1 si))] := hl
        refine xlab (σ := Nat) (ml := 4) 36 (fun (pp9 : Nat) => [(3, .int (nI pp9)), (2, .ref (Z.1 si)), (0, .ref (ad 0 1)), (1, .int (nI iw))]) (fun (pp9 : Nat) => []) (fun (pp9 : Nat) => rp ad E RL) (fun (pp9 : Nat) => (pp9 ≤ zL.getD si 0) ∧ (∀ p9, p9 < pp9 → tx_1 (wb wl iw + p9) = nI ((zW si).getD p9 0))) (fun (pp9 : Nat) => zL.getD si 0 - pp9) ?_ 0 _ _ _ (lv_sub hl [0, 3, 1, 2] rfl) hP hD hS ⟨(show 0 ≤ zL.getD si 0 from by first | assumption | omega), (show ∀ p9, p9 < 0 → tx_1 (wb wl iw + p9) = nI ((zW si).getD p9 0) from fun p9 hp9 => absurd hp9 (by omega))⟩
        intro n9 ih16 a9 ls H locs hμ hl hP hD hS hI
        subst hμ
        obtain ⟨pp9, rfl⟩ : ∃ z, z = a9 := ⟨_, rfl⟩
        obtain ⟨hp1, hpq⟩ := hI
        have hp1 : pp9 ≤ zL.getD si 0 := hp1
        have hpq : ∀ p9, p9 < pp9 → tx_1 (wb wl iw + p9) = nI ((zW si).getD p9 0) := hpq
        have hl : lv_has ls 4 [(3, .int (nI pp9)), (2, .ref (Z.1 si)), (0, .ref (ad 0 1)), (1, .int (nI iw))] := hl
        have hP : va_P D xcl (rp ad E RL) H := hP
        have hD : va_D A (rp ad E RL) := hD
        refine lv_iload_n hx hb xd_Li_wordIs_36 rfl (lv_at hl 0 rfl) ?_
        refine lv_aload_n hx hb xd_Li_wordIs_37 rfl (lv_at hl 1 rfl) ?_
        have hFc := px_free hD hS hA
        refine va_calli (va_runV (As := []) (rest := [.int (nI pp9)]) ⟨hx, hb, hml, hown, hT⟩ (xc_JS_length l D kA H.size ad E RL Z si (by first | assumption | omega)) (cwV 0 hT (wT_V k5b_5 k5b_6 k5b_7 k5b_8 k5b_4) rfl rfl rfl (by decide +kernel) ⟨Nat.le_of_ble_eq_true rfl, Nat.le_of_ble_eq_true rfl⟩) (x_preTZ (vk_recv hZ.2.1 hsi hS) hK hP hD hFc (hZ.kept hS)) rfl rfl hl.1 rfl (lv_room (Nat.le_of_ble_eq_true rfl)) xd_Li_wordIs_38 ⟨(Nat.le_of_ble_eq_true rfl), (Nat.le_of_ble_eq_true rfl)⟩) hS (fun q _ h => hFc q h) hFc (fun r17 u18 t H1 locs ht hvm hp19 hB hz1 hk1 hS => ?_)
        obtain ⟨hP1, hD1⟩ := hB
        rw [ht] at hP1
        have hD1 := hD1.weaken (fun _ _ _ h => hFc _ h)
        generalize H1 = H at hP1 hS ⊢
        have hP := hP1
        have hD := hD1
        have hP : va_P D xcl (rp ad E RL) H := hP
        have hD : va_D A (rp ad E RL) := hD
        rcases hp19 with rfl
        · refine W.eq (g2 := F0 m 41 ls [.int (nI ((zL.getD si 0))), .int (nI pp9)]) rfl ?_
          refine xn_ge (a := pp9) (b := (zL.getD si 0)) (tgt := 73) hx hb xd_Li_wordIs_41 (by decide) (by omega) (by omega) (fun hc20 => ?_) (fun hc20 => ?_)
          · refine lv_iconst (v := 1) hx hb xd_Li_wordIs_73 (by decide) ?_
            exact W.zret (v := 1) hx hb hr rfl (fun t ht hW => ⟨⟨1, (), rfl, Or.inl ⟨rfl, by omega, (wE_congr (fun j h1 h2 => htx9 j (by omega))).mp ⟨by rw [hzl]; omega, fun p9 hp9 => hpq p9 (by rw [hzl] at hp9; omega)⟩⟩, by rw [ht]; exact hP, hD⟩, hS.F ht⟩) hS.2.2 xd_Li_wordIs_74
          · refine lv_aload_n hx hb xd_Li_wordIs_44 rfl (lv_at hl 2 rfl) ?_
            refine px_get (D := D) (ci := 1) (v := .ref (ad 0 2)) (C := xR_Li) (T := xT_Li) (N := 5) hx hb hT xi_Li hown hK.1 hP m_3 c_2 rfl 0 (by decide) (hT _ k5b_3) (fun _ h9 => h9) rfl xd_Li_wordIs_45 ?_
            refine lv_aload_n hx hb xd_Li_wordIs_48 rfl (lv_at hl 2 rfl) ?_
            refine px_get (D := D) (ci := 1) (v := .ref (ad 0 3)) (C := xR_Li) (T := xT_Li) (N := 5) hx hb hT xi_Li hown hK.1 hP m_3 c_2 rfl 1 (by decide) (hT _ k5b_2) (fun _ h9 => h9) rfl xd_Li_wordIs_49 ?_
            refine lv_iload_n hx hb xd_Li_wordIs_52 rfl (lv_at hl 3 rfl) ?_
            refine px_iald (i := iw) hx hb hK.1 hP m_7 c_6 0 rfl (by omega) (by decide) xd_Li_wordIs_53 ?_
            refine xn_top (x := (fb_1 iw)) (y := nI (wb wl iw)) hfb9 ?_
            refine lv_iload_n hx hb xd_Li_wordIs_54 rfl (lv_at hl 0 rfl) ?_
            refine lv_iadd hx hb xd_Li_wordIs_55 ?_
            refine xn_top (y := nI ((wb wl iw) + pp9)) (nI_add (wb wl iw) pp9) ?_
            refine px_cald (i := (wb wl iw) + pp9) hx hb hK.1 hP m_5 c_4 1 rfl (by omega) (by decide) xd_Li_wordIs_56 ?_
            refine lv_aload_n hx hb xd_Li_wordIs_57 rfl (lv_at hl 1 rfl) ?_
            refine lv_iload_n hx hb xd_Li_wordIs_58 rfl (lv_at hl 0 rfl) ?_
            have hFc := px_free hD hS hA
            refine va_calli (va_runV (As := [.int (nI pp9)]) (rest := [.int (tx_1 ((wb wl iw) + pp9))]) ⟨hx, hb, hml, hown, hT⟩ (xc_JS_charAtX l D kA H.size ad E RL Z si pp9 (by first | assumption | omega) (by first | assumption | omega)) (cwV 1 hT (wT_V k5b_10 k5b_11 k5b_12 k5b_8 k5b_9) rfl rfl rfl (by decide +kernel) ⟨Nat.le_of_ble_eq_true rfl, Nat.le_of_ble_eq_true rfl⟩) (x_preTZ (vk_recv hZ.2.1 hsi hS) hK hP hD hFc (hZ.kept hS)) rfl rfl hl.1 rfl (lv_room (Nat.le_of_ble_eq_true rfl)) xd_Li_wordIs_59 ⟨(Nat.le_of_ble_eq_true rfl), (Nat.le_of_ble_eq_true rfl)⟩) hS (fun q _ h => hFc q h) hFc (fun r21 u22 t H1 locs ht hvm hp23 hB hz1 hk1 hS => ?_)
            obtain ⟨hP1, hD1⟩ := hB
            rw [ht] at hP1
            have hD1 := hD1.weaken (fun _ _ _ h => hFc _ h)
            generalize H1 = H at hP1 hS ⊢
            have hP := hP1
            have hD := hD1
            have hP : va_P D xcl (rp ad E RL) H := hP
            have hD : va_D A (rp ad E RL) := hD
            have hch9 : r21 = nI ((zW si).getD pp9 0) := by rw [hp23]; exact zW_chr si hsi pp9 (by omega)
            refine lv_icmp_eq (tgt := 67) hx hb xd_Li_wordIs_62 (by decide) (fun hc24 => ?_) (fun hc24 => ?_)
            · refine lv_iinc (k := 0) (x := (nI pp9)) (v := (nI (pp9 + 1))) hx hb xd_Li_wordIs_67 hl rfl (xb_inc pp9 1) (Nat.le_of_ble_eq_true rfl) rfl (fun ls hl => ?_)
              have hl : lv_has ls 4 [(3, .int (nI (pp9 + 1))), (2, .ref (Z.1 si)), (0, .ref (ad 0 1)), (1, .int (nI iw))] := hl
              refine lv_goto (tgt := 36) hx hb xd_Li_wordIs_70 (by decide) ?_
              exact ih16 (pp9 + 1) _ _ _ (show zL.getD si 0 - (pp9 + 1) < zL.getD si 0 - pp9 by omega) (lv_sub hl [0, 1, 2, 3] rfl) hP hD hS ⟨(show (pp9 + 1) ≤ zL.getD si 0 from by first | assumption | omega), (show ∀ p9, p9 < (pp9 + 1) → tx_1 (wb wl iw + p9) = nI ((zW si).getD p9 0) from fun p9 hp9 => by
        rcases Nat.lt_or_ge p9 pp9 with q | q
        · exact hpq p9 q
        · rw [show p9 = pp9 by omega]; exact hc24.trans hch9)⟩
            · refine lv_iconst (v := 0) hx hb xd_Li_wordIs_65 (by decide) ?_
              exact W.zret (v := 0) hx hb hr rfl (fun t ht hW => ⟨⟨0, (), rfl, Or.inr ⟨rfl, fun q => hc24 (by rw [hch9]; have q2 := ((wE_congr (fun j h1 h2 => htx9 j (by omega))).mpr q.2).2 pp9 (by rw [hzl]; omega); exact q2)⟩, by rw [ht]; exact hP, hD⟩, hS.F ht⟩) hS.2.2 xd_Li_wordIs_66
      · refine lv_iconst (v := 0) hx hb xd_Li_wordIs_32 (by decide) ?_
        exact W.zret (v := 0) hx hb hr rfl (fun t ht hW => ⟨⟨0, (), rfl, Or.inr ⟨rfl, fun q => absurd q.2.1 (by rw [hzl]; omega)⟩, by rw [ht]; exact hP, hD⟩, hS.F ht⟩) hS.2.2 xd_Li_wordIs_33
