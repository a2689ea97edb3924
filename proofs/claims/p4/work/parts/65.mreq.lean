theorem k4d_0 : (Cond.fieldLink "LayerDeskModel" 94 "LayerDeskModel" "words" "I") ∈ wT := wT_t (List.mem_append_right _ (List.mem_append_right _ (List.mem_append_right _ (List.mem_append_left _ (List.mem_of_getElem? (i := 88) rfl))))) rfl
theorem k4d_1 : (Cond.code xy_Mo_nameOf xb_Mo_nameOf 4 (some .int)) ∈ wT := wT_t (List.mem_append_right _ (List.mem_append_right _ (List.mem_append_right _ (List.mem_append_left _ (List.mem_of_getElem? (i := 212) rfl))))) rfl
theorem k4d_2 : (Cond.methodLink "LayerDeskModel" 133 xy_Mo_nameOf) ∈ wT := wT_t (List.mem_append_right _ (List.mem_append_right _ (List.mem_append_right _ (List.mem_append_left _ (List.mem_of_getElem? (i := 209) rfl))))) rfl
theorem k4d_3 : (Cond.instanceMethod xy_Mo_nameOf) ∈ wT := wT_t (List.mem_append_right _ (List.mem_append_right _ (List.mem_append_right _ (List.mem_append_left _ (List.mem_of_getElem? (i := 211) rfl))))) rfl
theorem k4d_4 : (Cond.selects "LayerDeskModel" xy_Mo_nameOf xy_Mo_nameOf) ∈ wT := wT_s (q := (xy_Mo_nameOf, 31)) (by decide +kernel) rfl
theorem k4d_5 : (Cond.initialized "LayerDeskModel") ∈ wT := wT_t (List.mem_append_left _ (List.mem_of_getElem? (i := 5) rfl)) rfl
theorem k4d_6 : (Cond.fieldLink "LayerDeskModel" 140 "LayerDeskModel" "descriptors" "I") ∈ wT := wT_t (List.mem_append_right _ (List.mem_append_right _ (List.mem_append_right _ (List.mem_append_left _ (List.mem_of_getElem? (i := 91) rfl))))) rfl
theorem k4d_7 : (Cond.code xy_Mo_isShut xb_Mo_isShut 1 (some .boolean)) ∈ wT := wT_t (List.mem_append_right _ (List.mem_append_right _ (List.mem_append_right _ (List.mem_append_left _ (List.mem_of_getElem? (i := 228) rfl))))) rfl
theorem k4d_8 : (Cond.methodLink "LayerDeskModel" 146 xy_Mo_isShut) ∈ wT := wT_t (List.mem_append_right _ (List.mem_append_right _ (List.mem_append_right _ (List.mem_append_left _ (List.mem_of_getElem? (i := 225) rfl))))) rfl
theorem k4d_9 : (Cond.instanceMethod xy_Mo_isShut) ∈ wT := wT_t (List.mem_append_right _ (List.mem_append_right _ (List.mem_append_right _ (List.mem_append_left _ (List.mem_of_getElem? (i := 227) rfl))))) rfl
theorem k4d_10 : (Cond.selects "LayerDeskModel" xy_Mo_isShut xy_Mo_isShut) ∈ wT := wT_s (q := (xy_Mo_isShut, 31)) (by decide +kernel) rfl
theorem k4d_11 : (Cond.fieldLink "LayerDeskModel" 23 "LayerDeskModel" "name" "[I") ∈ wT := wT_t (List.mem_append_right _ (List.mem_append_right _ (List.mem_append_right _ (List.mem_append_left _ (List.mem_of_getElem? (i := 93) rfl))))) rfl
theorem k4d_12 : (Cond.fieldLink "LayerDeskModel" 48 "LayerDeskModel" "requires" "[I") ∈ wT := wT_t (List.mem_append_right _ (List.mem_append_right _ (List.mem_append_right _ (List.mem_append_left _ (List.mem_of_getElem? (i := 101) rfl))))) rfl
theorem k4d_13 : (Cond.fieldLink "LayerDeskModel" 51 "LayerDeskModel" "require" "[I") ∈ wT := wT_t (List.mem_append_right _ (List.mem_append_right _ (List.mem_append_right _ (List.mem_append_left _ (List.mem_of_getElem? (i := 102) rfl))))) rfl
theorem k4d_14 : (Cond.fieldLink "LayerDeskModel" 60 "LayerDeskModel" "passes" "[Z") ∈ wT := wT_t (List.mem_append_right _ (List.mem_append_right _ (List.mem_append_right _ (List.mem_append_left _ (List.mem_of_getElem? (i := 105) rfl))))) rfl
theorem k4d_15 : (Cond.fieldLink "LayerDeskModel" 63 "LayerDeskModel" "still" "[Z") ∈ wT := wT_t (List.mem_append_right _ (List.mem_append_right _ (List.mem_append_right _ (List.mem_append_left _ (List.mem_of_getElem? (i := 106) rfl))))) rfl
theorem k4d_16 : (Cond.code xy_Mo_code xb_Mo_code 6 (some .int)) ∈ wT := wT_t (List.mem_append_right _ (List.mem_append_right _ (List.mem_append_right _ (List.mem_append_left _ (List.mem_of_getElem? (i := 196) rfl))))) rfl
theorem k4d_17 : (Cond.methodLink "LayerDeskModel" 104 xy_Mo_code) ∈ wT := wT_t (List.mem_append_right _ (List.mem_append_right _ (List.mem_append_right _ (List.mem_append_left _ (List.mem_of_getElem? (i := 194) rfl))))) rfl
theorem k4d_18 : (Cond.static xy_Mo_code) ∈ wT := wT_t (List.mem_append_right _ (List.mem_append_right _ (List.mem_append_right _ (List.mem_append_left _ (List.mem_of_getElem? (i := 195) rfl))))) rfl
theorem k4d_19 : (Cond.code xy_Mo_says xb_Mo_says 8 (some .boolean)) ∈ wT := wT_t (List.mem_append_right _ (List.mem_append_right _ (List.mem_append_right _ (List.mem_append_left _ (List.mem_of_getElem? (i := 200) rfl))))) rfl
theorem k4d_20 : (Cond.methodLink "LayerDeskModel" 108 xy_Mo_says) ∈ wT := wT_t (List.mem_append_right _ (List.mem_append_right _ (List.mem_append_right _ (List.mem_append_left _ (List.mem_of_getElem? (i := 197) rfl))))) rfl
theorem k4d_21 : (Cond.instanceMethod xy_Mo_says) ∈ wT := wT_t (List.mem_append_right _ (List.mem_append_right _ (List.mem_append_right _ (List.mem_append_left _ (List.mem_of_getElem? (i := 199) rfl))))) rfl
theorem k4d_22 : (Cond.selects "LayerDeskModel" xy_Mo_says xy_Mo_says) ∈ wT := wT_s (q := (xy_Mo_says, 31)) (by decide +kernel) rfl
set_option maxHeartbeats 4000000 in
set_option maxRecDepth 100000 in
theorem xc_Mo_newRequireX (l : Launch) (D : va_G) (kA : Nat → ClassId) (sz h : Nat) (mm : Nat → Nat) (v : Nat → Int32) (g : Nat → Nat → Int32) (wl : List (Nat × Nat)) (nd : Nat) (hMI : MI v g) (hWX : WX v g wl) (hnd : v 4 = nI nd) (hnd12 : nd ≤ 12) : Met l xy_Mo_newRequire (.code xy_Mo_newRequire xb_Mo_newRequire 8 (some .int) :: wT) { frames := 2, cells := 0, slots := 0, locals := 49 } (va_Pc [.ref h] (xPre D kA sz (moW h mm kA v g))) (va_Qi (fun (r : Int32) (u : (Nat → Int32) × (Nat → Nat → Int32)) => MI u.1 u.2 ∧ u.1 2 = v 2 ∧ (r = -1 ∨ r = -2 ∨ r = 1 ∨ r = 2) ∧ u = (v, lR (g 0) wl nd g)) (fun (u : (Nat → Int32) × (Nat → Nat → Int32)) t => va_P D xcl (moW h mm kA u.1 u.2) t.heap ∧ va_D (va_A (moW h mm kA v g) sz) (moW h mm kA u.1 u.2)) (va_A (moW h mm kA v g) sz)) 0 0 (va_A (moW h mm kA v g) sz) := by
  refine Met.ofW (cc := xb_Mo_newRequire) (maxL := 8) (ret := (some .int)) (by decide) rfl ?_
  intro p e s m args below meth c s₁ B hml hv
  obtain ⟨rfl, hsz, hP, hK, hD0⟩ := hv
  have hx := B.exec
  have hb := B.bytes
  have hr := B.returns
  have hT := x_hT B.pre
  have hown : s.vm.findClass xR_Mo = some m.cls := findClass_of_methodNamed B.named
  have hlocks := B.notSynchronized
  subst hsz
  have hD := hD0.self (sz := s.heap.size)
  generalize hAe : va_A (moW h mm kA v g) s.heap.size = A at hD ⊢
  have hA : ∀ q : Nat, s.heap.size ≤ q → A q := fun q h => by rw [← hAe]; exact Or.inr h
  have hS : va_S A s.heap s.heap [] := va_S.rf
  have hl := lv_entry ([.ref h]) (n := 8) (Nat.le_of_ble_eq_true rfl)
  rw [lg_entry_eq]
  generalize (lg_sl ([.ref h]) ++ List.replicate (8 - (lg_sl ([.ref h])).length) Slot.unset).toArray = ls at hl ⊢
  have hl : lv_has ls 8 [(0, .ref h)] := hl
  have hP : va_P D xcl (moW h mm kA v g) s.heap := hP
  obtain ⟨-, ⟨nl, hnl5, hnl, hpar⟩, hch, hpk, hrq, hmd, huq⟩ := id hMI
  obtain ⟨hwn, ⟨hwn20, hwlr⟩, hws⟩ := id hWX
  refine lv_iconst (v := 1) hx hb xd_Mo_newRequire_0 (by decide) ?_
  refine lv_istore_n hx hb xd_Mo_newRequire_1 rfl hl (Nat.le_of_ble_eq_true rfl) rfl (fun ls hl => ?_)
  have hl : lv_has ls 8 [(1, .int 1), (0, .ref h)] := hl
  refine xjoin (D := D) (cl := xcl) (A := A) (H0 := s.heap) (σ := Int32 × Nat) (ml := 8) 60 (fun (th, w1) => [(2, .int th), (1, .int (nI w1)), (0, .ref h)]) (fun (th, w1) => []) (fun (th, w1) => moW h mm kA v g) (fun (th, w1) => ((th = 1 ∧ rqT (g 0) wl ∧ w1 = 2) ∨ (th = 0 ∧ ¬ rqT (g 0) wl ∧ w1 = 1))) ?_ (fun jn1 => ?_)
  · intro a9 ls H locs hl hP hD hS hI
    obtain ⟨th, w1⟩ := a9
    have hth : (th = 1 ∧ rqT (g 0) wl ∧ w1 = 2) ∨ (th = 0 ∧ ¬ rqT (g 0) wl ∧ w1 = 1) := hI
    have hA9 : rqA (g 0) wl = w1 := by
      unfold rqA
      rcases hth with ⟨_, q, q2⟩ | ⟨_, q, q2⟩
      · rw [cif_pos q, q2]
      · rw [cif_neg q, q2]
    have hthb : th = bI (rqT (g 0) wl) := by
      rcases hth with ⟨q, q1, q2⟩ | ⟨q, q1, q2⟩
      · rw [q]; exact bI_1 q1
      · rw [q]; exact bI_0 q1
    have hw12 : 1 ≤ w1 ∧ w1 ≤ 2 := by omega
    have hl : lv_has ls 8 [(2, .int th), (1, .int (nI w1)), (0, .ref h)] := hl
    have hP : va_P D xcl (moW h mm kA v g) H := hP
    have hD : va_D A (moW h mm kA v g) := hD
    refine xjoin (D := D) (cl := xcl) (A := A) (H0 := s.heap) (σ := Int32 × Nat) (ml := 8) 118 (fun (qt, w2) => [(3, .int qt), (1, .int (nI w2)), (2, .int th), (0, .ref h)]) (fun (qt, w2) => []) (fun (qt, w2) => moW h mm kA v g) (fun (qt, w2) => ((qt = 1 ∧ rqO (g 0) wl ∧ w2 = w1 + 1) ∨ (qt = 0 ∧ ¬ rqO (g 0) wl ∧ w2 = w1))) ?_ (fun jn2 => ?_)
    · intro a9 ls H locs hl hP hD hS hI
      obtain ⟨qt, w2⟩ := a9
      have hqt : (qt = 1 ∧ rqO (g 0) wl ∧ w2 = w1 + 1) ∨ (qt = 0 ∧ ¬ rqO (g 0) wl ∧ w2 = w1) := hI
      have hl : lv_has ls 8 [(3, .int qt), (1, .int (nI w2)), (2, .int th), (0, .ref h)] := hl
      have hP : va_P D xcl (moW h mm kA v g) H := hP
      have hD : va_D A (moW h mm kA v g) := hD
      have hB9 : rqB (g 0) wl = w2 := by
        unfold rqB
        rcases hqt with ⟨_, q, q2⟩ | ⟨_, q, q2⟩
        · rw [cif_pos q, hA9, q2]
        · rw [cif_neg q, hA9, q2]
      have hqtb : qt = bI (rqO (g 0) wl) := by
        rcases hqt with ⟨q, q1, q2⟩ | ⟨q, q1, q2⟩
        · rw [q]; exact bI_1 q1
        · rw [q]; exact bI_0 q1
      have hw23 : 1 ≤ w2 ∧ w2 ≤ 3 := by omega
      refine lv_aload_n hx hb xd_Mo_newRequire_118 rfl (lv_at hl 3 rfl) ?_
      refine va_get (D := D) (ci := 4) (v := .int (v 3)) (C := xR_Mo) (T := xT_Mo) (N := 31) hx hb hT xi_Mo hown hK.1 hP 0 rfl rfl 4 (by decide) (hT _ k4d_0) (fun _ h9 => h9) rfl xd_Mo_newRequire_119 ?_
      refine xn_top (x := (v 3)) (y := nI wl.length) hwn ?_
      refine lv_iload_n hx hb xd_Mo_newRequire_122 rfl (lv_at hl 1 rfl) ?_
      refine lv_iconst (v := 1) hx hb xd_Mo_newRequire_123 (by decide) ?_
      refine lv_iadd hx hb xd_Mo_newRequire_124 ?_
      refine xn_top (y := nI (w2 + 1)) (nI_add w2 1) ?_
      refine xn_ne (a := wl.length) (b := w2 + 1) (tgt := 136) hx hb xd_Mo_newRequire_125 (by decide) (by omega) (by omega) (fun hc3 => ?_) (fun hc3 => ?_)
      · refine lv_iconst (v := 0) hx hb xd_Mo_newRequire_136 (by decide) ?_
        refine lv_istore hx hb xd_Mo_newRequire_137 hl (Nat.le_of_ble_eq_true rfl) rfl (fun ls hl => ?_)
        have hl : lv_has ls 8 [(4, .int 0), (3, .int qt), (1, .int (nI w2)), (2, .int th), (0, .ref h)] := hl
        refine lv_iload hx hb xd_Mo_newRequire_139 (lv_at hl 0 rfl) ?_
        refine xz_ne (a := 0) (tgt := 146) hx hb xd_Mo_newRequire_141 (by decide) (by omega) (fun hc4 => absurd hc4 (by omega)) (fun _ => ?_)
        refine lv_iconst (v := (-1)) hx hb xd_Mo_newRequire_144 (by decide) ?_
        exact W.iret (v := (-1)) hx hb hr (fun t ht hW => ⟨⟨(-1), (v, g), rfl, ⟨hMI, rfl, Or.inl rfl, congrArg (Prod.mk v) (lR_no (fun q => absurd q.1 (by rw [hB9]; omega)))⟩, by rw [ht]; exact hP, hD⟩, hS.F ht⟩) hS.2.2 xd_Mo_newRequire_145
      · have hbew2 := (hwlr w2 (by omega)).1
        have hew2 := (hwlr w2 (by omega)).2
        have ebw2 := (hws w2 (by omega)).1
        have eew2 := (hws w2 (by omega)).2
        refine lv_aload_n hx hb xd_Mo_newRequire_128 rfl (lv_at hl 3 rfl) ?_
        refine lv_iload_n hx hb xd_Mo_newRequire_129 rfl (lv_at hl 1 rfl) ?_
        have hFc := va_free (wc := (moW h mm kA v g)) hD hS hA [0, 1, 2, 3, 4, 5, 6, 7, 8, 9, 10, 11, 12, 13, 14, 15, 16, 17, 18, 19, 20, 21, 22, 23, 24, 25] rfl
        refine va_calli (va_runV (As := [.int (nI w2)]) (rest := []) ⟨hx, hb, hml, hown, hT⟩ (xc_Mo_nameOfX l D kA H.size h mm v g w2 (wb wl w2) (we wl w2) (by first | assumption | omega) (by first | assumption | omega) (by first | assumption | omega) (by first | assumption | omega) (by first | assumption | omega)) (cwV 1 hT (wT_V k4d_2 k4d_3 k4d_4 k4d_5 k4d_1) rfl rfl rfl (by decide +kernel) ⟨Nat.le_of_ble_eq_true rfl, Nat.le_of_ble_eq_true rfl⟩) (x_preV hK hP hD 0 rfl rfl) rfl rfl hl.1 rfl (lv_room (Nat.le_of_ble_eq_true rfl)) xd_Mo_newRequire_130 ⟨Nat.le_of_ble_eq_true rfl, Nat.le_of_ble_eq_true rfl⟩) hS (fun q _ h => hFc q h) hFc (fun r5 u6 t H1 locs ht hvm hp7 hB hz1 hk1 hS => ?_)
        obtain ⟨hP1, hD1⟩ := hB
        rw [ht] at hP1
        have hD1 := hD1.weaken (fun _ _ _ h => hFc _ h)
        generalize H1 = H at hP1 hS ⊢
        have hP := hP1
        have hD := hD1
        have hP : va_P D xcl (moW h mm kA v g) H := hP
        have hD : va_D A (moW h mm kA v g) := hD
        have hp7 : r5 = nV (g 0) (wb wl w2) (we wl w2) := hp7
        subst hp7
        have hP : va_P D xcl (moW h mm kA v g) H := hP
        have hD : va_D A (moW h mm kA v g) := hD
        refine lv_goto (tgt := 137) hx hb xd_Mo_newRequire_133 (by decide) ?_
        refine lv_istore hx hb xd_Mo_newRequire_137 hl (Nat.le_of_ble_eq_true rfl) rfl (fun ls hl => ?_)
        have hl : lv_has ls 8 [(4, .int (nV (g 0) (wb wl w2) (we wl w2))), (3, .int qt), (1, .int (nI w2)), (2, .int th), (0, .ref h)] := hl
        refine lv_iload hx hb xd_Mo_newRequire_139 (lv_at hl 0 rfl) ?_
        refine lv_if_ne (tgt := 146) hx hb xd_Mo_newRequire_141 (by decide) (fun hc8 => ?_) (fun hc8 => ?_)
        · rcases Nat.eq_zero_or_pos nd with hz | hz
          · have hnd0 : v 4 = nI 0 := by rw [hnd, hz]
            have hnn : wN (g 0) wl (rqB (g 0) wl) = nV (g 0) (wb wl w2) (we wl w2) := by rw [hB9]; exact wN_in (by omega)
            refine lv_aload_n hx hb xd_Mo_newRequire_146 rfl (lv_at hl 4 rfl) ?_
            refine va_get (D := D) (ci := 4) (v := .int (v 4)) (C := xR_Mo) (T := xT_Mo) (N := 31) hx hb hT xi_Mo hown hK.1 hP 0 rfl rfl 7 (by decide) (hT _ k4d_6) (fun _ h9 => h9) rfl xd_Mo_newRequire_147 ?_
            refine xn_top (x := (v 4)) (y := nI 0) hnd0 ?_
            refine lv_iconst (v := 1) hx hb xd_Mo_newRequire_150 (by decide) ?_
            refine lv_isub hx hb xd_Mo_newRequire_151 ?_
            refine lv_istore hx hb xd_Mo_newRequire_152 hl (Nat.le_of_ble_eq_true rfl) rfl (fun ls hl => ?_)
            have hl : lv_has ls 8 [(5, .int ((nI 0) - 1)), (4, .int (nV (g 0) (wb wl w2) (we wl w2))), (3, .int qt), (1, .int (nI w2)), (2, .int th), (0, .ref h)] := hl
            refine lv_iload hx hb xd_Mo_newRequire_154 (lv_at hl 0 rfl) ?_
            refine lv_if_lt (tgt := 175) hx hb xd_Mo_newRequire_156 (by decide) (fun _ => ?_) (fun hc9 => absurd hc9 (by decide))
            refine lv_iconst (v := 0) hx hb xd_Mo_newRequire_175 (by decide) ?_
            refine lv_istore hx hb xd_Mo_newRequire_176 hl (Nat.le_of_ble_eq_true rfl) rfl (fun ls hl => ?_)
            have hl : lv_has ls 8 [(6, .int 0), (5, .int ((nI 0) - 1)), (4, .int (nV (g 0) (wb wl w2) (we wl w2))), (3, .int qt), (1, .int (nI w2)), (2, .int th), (0, .ref h)] := hl
            refine lv_iconst (v := 5) hx hb xd_Mo_newRequire_178 (by decide) ?_
            refine lv_iload hx hb xd_Mo_newRequire_179 (lv_at hl 1 rfl) ?_
            refine lv_imul hx hb xd_Mo_newRequire_181 ?_
            refine lv_istore hx hb xd_Mo_newRequire_182 hl (Nat.le_of_ble_eq_true rfl) rfl (fun ls hl => ?_)
            have hl : lv_has ls 8 [(7, .int (5 * ((nI 0) - 1))), (6, .int 0), (5, .int ((nI 0) - 1)), (4, .int (nV (g 0) (wb wl w2) (we wl w2))), (3, .int qt), (1, .int (nI w2)), (2, .int th), (0, .ref h)] := hl
            refine lv_iload hx hb xd_Mo_newRequire_184 (lv_at hl 2 rfl) ?_
            refine lv_if_lt (tgt := 236) hx hb xd_Mo_newRequire_186 (by decide) (fun _ => ?_) (fun hc10 => absurd hc10 (by decide))
            refine lv_iload hx hb xd_Mo_newRequire_236 (lv_at hl 1 rfl) ?_
            refine xz_eq (a := 0) (tgt := 243) hx hb xd_Mo_newRequire_238 (by decide) (by omega) (fun _ => ?_) (fun hc11 => absurd hc11 (by omega))
            refine lv_aload_n hx hb xd_Mo_newRequire_243 rfl (lv_at hl 7 rfl) ?_
            have hFc := va_free (wc := (moW h mm kA v g)) hD hS hA [0, 1, 2, 3, 4, 5, 6, 7, 8, 9, 10, 11, 12, 13, 14, 15, 16, 17, 18, 19, 20, 21, 22, 23, 24, 25] rfl
            refine va_calli (va_runV (As := []) (rest := []) ⟨hx, hb, hml, hown, hT⟩ (xc_Mo_isShut l D kA H.size h mm v g nd (by first | assumption | omega) (by first | assumption | omega)) (cwV 0 hT (wT_V k4d_8 k4d_9 k4d_10 k4d_5 k4d_7) rfl rfl rfl (by decide +kernel) ⟨Nat.le_of_ble_eq_true rfl, Nat.le_of_ble_eq_true rfl⟩) (x_preV hK hP hD 0 rfl rfl) rfl rfl hl.1 rfl (lv_room (Nat.le_of_ble_eq_true rfl)) xd_Mo_newRequire_244 ⟨Nat.le_of_ble_eq_true rfl, Nat.le_of_ble_eq_true rfl⟩) hS (fun q _ h => hFc q h) hFc (fun r12 u13 t H1 locs ht hvm hp14 hB hz1 hk1 hS => ?_)
            obtain ⟨hP1, hD1⟩ := hB
            rw [ht] at hP1
            have hD1 := hD1.weaken (fun _ _ _ h => hFc _ h)
            generalize H1 = H at hP1 hS ⊢
            have hP := hP1
            have hD := hD1
            have hP : va_P D xcl (moW h mm kA v g) H := hP
            have hD : va_D A (moW h mm kA v g) := hD
            rcases hp14 with ⟨rfl, z15⟩ | ⟨rfl, z16, z17⟩
            · refine xz_ne (a := 1) (tgt := 261) hx hb xd_Mo_newRequire_247 (by decide) (by omega) (fun _ => ?_) (fun hc18 => absurd hc18 (by omega))
              refine lv_bipush (v := (-2)) hx hb xd_Mo_newRequire_261 (by decide) ?_
              exact W.iret (v := (-2)) hx hb hr (fun t ht hW => ⟨⟨(-2), (v, g), rfl, ⟨hMI, rfl, Or.inr (Or.inl rfl), congrArg (Prod.mk v) (lR_no (fun q => absurd q.2.2.1 (by omega)))⟩, by rw [ht]; exact hP, hD⟩, hS.F ht⟩) hS.2.2 xd_Mo_newRequire_263
            · exact absurd hz z16
          · have hnn : wN (g 0) wl (rqB (g 0) wl) = nV (g 0) (wb wl w2) (we wl w2) := by rw [hB9]; exact wN_in (by omega)
            refine lv_aload_n hx hb xd_Mo_newRequire_146 rfl (lv_at hl 4 rfl) ?_
            refine va_get (D := D) (ci := 4) (v := .int (v 4)) (C := xR_Mo) (T := xT_Mo) (N := 31) hx hb hT xi_Mo hown hK.1 hP 0 rfl rfl 7 (by decide) (hT _ k4d_6) (fun _ h9 => h9) rfl xd_Mo_newRequire_147 ?_
            refine xn_top (x := (v 4)) (y := nI nd) hnd ?_
            refine lv_iconst (v := 1) hx hb xd_Mo_newRequire_150 (by decide) ?_
            refine lv_isub hx hb xd_Mo_newRequire_151 ?_
            refine xn_top (y := nI (nd - 1)) (pk_sub (a := nd) (b := 1) (by omega)) ?_
            refine lv_istore hx hb xd_Mo_newRequire_152 hl (Nat.le_of_ble_eq_true rfl) rfl (fun ls hl => ?_)
            have hl : lv_has ls 8 [(5, .int (nI (nd - 1))), (4, .int (nV (g 0) (wb wl w2) (we wl w2))), (3, .int qt), (1, .int (nI w2)), (2, .int th), (0, .ref h)] := hl
            refine lv_iload hx hb xd_Mo_newRequire_154 (lv_at hl 0 rfl) ?_
            refine xz_lt (a := nd - 1) (tgt := 175) hx hb xd_Mo_newRequire_156 (by decide) (by omega) ?_
            obtain ⟨rq1, hrq1, erq1⟩ := hrq (nd - 1) (by omega)
            have hir : iN (g 12 (nd - 1)) = rq1 := by rw [erq1, iN_nI (by omega)]
            refine lv_aload_n hx hb xd_Mo_newRequire_159 rfl (lv_at hl 5 rfl) ?_
            refine va_get (D := D) (ci := 4) (v := .ref (mm 4)) (C := xR_Mo) (T := xT_Mo) (N := 31) hx hb hT xi_Mo hown hK.1 hP 0 rfl rfl 9 (by decide) (hT _ k4d_11) (fun _ h9 => h9) rfl xd_Mo_newRequire_160 ?_
            refine lv_iload hx hb xd_Mo_newRequire_163 (lv_at hl 0 rfl) ?_
            refine xn_iald (i := nd - 1) hx hb hK.1 hP 5 0 rfl rfl (by omega) (by decide) xd_Mo_newRequire_165 ?_
            refine lv_iload hx hb xd_Mo_newRequire_166 (lv_at hl 1 rfl) ?_
            refine lv_icmp_ne (tgt := 175) hx hb xd_Mo_newRequire_168 (by decide) (fun hc20 => ?_) (fun hc20 => ?_)
            · refine lv_iconst (v := 0) hx hb xd_Mo_newRequire_175 (by decide) ?_
              refine lv_istore hx hb xd_Mo_newRequire_176 hl (Nat.le_of_ble_eq_true rfl) rfl (fun ls hl => ?_)
              have hl : lv_has ls 8 [(6, .int 0), (5, .int (nI (nd - 1))), (4, .int (nV (g 0) (wb wl w2) (we wl w2))), (3, .int qt), (1, .int (nI w2)), (2, .int th), (0, .ref h)] := hl
              refine lv_iconst (v := 5) hx hb xd_Mo_newRequire_178 (by decide) ?_
              refine lv_iload hx hb xd_Mo_newRequire_179 (lv_at hl 1 rfl) ?_
              refine lv_imul hx hb xd_Mo_newRequire_181 ?_
              refine xn_top (y := nI (5 * (nd - 1))) (pk_mul 5 (nd - 1)) ?_
              refine lv_istore hx hb xd_Mo_newRequire_182 hl (Nat.le_of_ble_eq_true rfl) rfl (fun ls hl => ?_)
              have hl : lv_has ls 8 [(7, .int (nI (5 * (nd - 1)))), (6, .int 0), (5, .int (nI (nd - 1))), (4, .int (nV (g 0) (wb wl w2) (we wl w2))), (3, .int qt), (1, .int (nI w2)), (2, .int th), (0, .ref h)] := hl
              refine xlab (σ := Nat × Int32) (ml := 8) 184 (fun (i, tw) => [(7, .int (nI i)), (6, .int tw), (0, .ref h), (2, .int th), (3, .int qt), (4, .int (nV (g 0) (wb wl w2) (we wl w2))), (5, .int (nI (nd - 1)))]) (fun (i, tw) => []) (fun (i, tw) => moW h mm kA v g) (fun (i, tw) => (5 * (nd - 1) ≤ i) ∧ (i ≤ 5 * (nd - 1) + rq1) ∧ ((¬ tw = 0 ∧ (g 4 (nd - 1) = nV (g 0) (wb wl w2) (we wl w2) ∨ ∃ j, 5 * (nd - 1) ≤ j ∧ j < i ∧ g 13 j = nV (g 0) (wb wl w2) (we wl w2))) ∨ (tw = 0 ∧ ¬ g 4 (nd - 1) = nV (g 0) (wb wl w2) (we wl w2) ∧ ∀ j, 5 * (nd - 1) ≤ j → j < i → ¬ g 13 j = nV (g 0) (wb wl w2) (we wl w2)))) (fun (i, tw) => 5 * (nd - 1) + rq1 - i) ?_ (5 * (nd - 1), 0) _ _ _ (lv_sub hl [0, 1, 7, 6, 4, 3, 2] rfl) hP hD hS ⟨(show 5 * (nd - 1) ≤ (5 * (nd - 1)) from by first | assumption | omega), (show (5 * (nd - 1)) ≤ 5 * (nd - 1) + rq1 from by first | assumption | omega), (show (¬ 0 = 0 ∧ (g 4 (nd - 1) = nV (g 0) (wb wl w2) (we wl w2) ∨ ∃ j, 5 * (nd - 1) ≤ j ∧ j < (5 * (nd - 1)) ∧ g 13 j = nV (g 0) (wb wl w2) (we wl w2))) ∨ (0 = 0 ∧ ¬ g 4 (nd - 1) = nV (g 0) (wb wl w2) (we wl w2) ∧ ∀ j, 5 * (nd - 1) ≤ j → j < (5 * (nd - 1)) → ¬ g 13 j = nV (g 0) (wb wl w2) (we wl w2)) from Or.inr ⟨rfl, hc20, fun j a9 b9 => absurd b9 (by omega)⟩)⟩
              intro n9 ih21 a9 ls H locs hμ hl hP hD hS hI
              subst hμ
              obtain ⟨i, tw⟩ := a9
              obtain ⟨hi1, hi2, htw⟩ := hI
              have hi1 : 5 * (nd - 1) ≤ i := hi1
              have hi2 : i ≤ 5 * (nd - 1) + rq1 := hi2
              have htw : (¬ tw = 0 ∧ (g 4 (nd - 1) = nV (g 0) (wb wl w2) (we wl w2) ∨ ∃ j, 5 * (nd - 1) ≤ j ∧ j < i ∧ g 13 j = nV (g 0) (wb wl w2) (we wl w2))) ∨ (tw = 0 ∧ ¬ g 4 (nd - 1) = nV (g 0) (wb wl w2) (we wl w2) ∧ ∀ j, 5 * (nd - 1) ≤ j → j < i → ¬ g 13 j = nV (g 0) (wb wl w2) (we wl w2)) := htw
              have hl : lv_has ls 8 [(7, .int (nI i)), (6, .int tw), (0, .ref h), (2, .int th), (3, .int qt), (4, .int (nV (g 0) (wb wl w2) (we wl w2))), (5, .int (nI (nd - 1)))] := hl
              have hP : va_P D xcl (moW h mm kA v g) H := hP
              have hD : va_D A (moW h mm kA v g) := hD
              refine lv_iload hx hb xd_Mo_newRequire_184 (lv_at hl 6 rfl) ?_
              refine xz_lt (a := nd - 1) (tgt := 236) hx hb xd_Mo_newRequire_186 (by decide) (by omega) ?_
              refine lv_iload hx hb xd_Mo_newRequire_189 (lv_at hl 0 rfl) ?_
              refine lv_iconst (v := 5) hx hb xd_Mo_newRequire_191 (by decide) ?_
              refine lv_iload hx hb xd_Mo_newRequire_192 (lv_at hl 6 rfl) ?_
              refine lv_imul hx hb xd_Mo_newRequire_194 ?_
              refine xn_top (y := nI (5 * (nd - 1))) (pk_mul 5 (nd - 1)) ?_
              refine lv_aload_n hx hb xd_Mo_newRequire_195 rfl (lv_at hl 2 rfl) ?_
              refine va_get (D := D) (ci := 4) (v := .ref (mm 12)) (C := xR_Mo) (T := xT_Mo) (N := 31) hx hb hT xi_Mo hown hK.1 hP 0 rfl rfl 17 (by decide) (hT _ k4d_12) (fun _ h9 => h9) rfl xd_Mo_newRequire_196 ?_
              refine lv_iload hx hb xd_Mo_newRequire_199 (lv_at hl 6 rfl) ?_
              refine xn_iald (i := nd - 1) hx hb hK.1 hP 13 0 rfl rfl (by omega) (by decide) xd_Mo_newRequire_201 ?_
              refine xn_top (x := (g 12 (nd - 1))) (y := nI rq1) erq1 ?_
              refine lv_iadd hx hb xd_Mo_newRequire_202 ?_
              refine xn_top (y := nI ((5 * (nd - 1)) + rq1)) (nI_add (5 * (nd - 1)) rq1) ?_
              refine xn_ge (a := i) (b := (5 * (nd - 1)) + rq1) (tgt := 236) hx hb xd_Mo_newRequire_203 (by decide) (by omega) (by omega) (fun hc23 => ?_) (fun hc23 => ?_)
              · refine lv_iload hx hb xd_Mo_newRequire_236 (lv_at hl 1 rfl) ?_
                refine lv_if_eq (tgt := 243) hx hb xd_Mo_newRequire_238 (by decide) (fun hc24 => ?_) (fun hc24 => ?_)
                · refine lv_aload_n hx hb xd_Mo_newRequire_243 rfl (lv_at hl 2 rfl) ?_
                  have hFc := va_free (wc := (moW h mm kA v g)) hD hS hA [0, 1, 2, 3, 4, 5, 6, 7, 8, 9, 10, 11, 12, 13, 14, 15, 16, 17, 18, 19, 20, 21, 22, 23, 24, 25] rfl
                  refine va_calli (va_runV (As := []) (rest := []) ⟨hx, hb, hml, hown, hT⟩ (xc_Mo_isShut l D kA H.size h mm v g nd (by first | assumption | omega) (by first | assumption | omega)) (cwV 0 hT (wT_V k4d_8 k4d_9 k4d_10 k4d_5 k4d_7) rfl rfl rfl (by decide +kernel) ⟨Nat.le_of_ble_eq_true rfl, Nat.le_of_ble_eq_true rfl⟩) (x_preV hK hP hD 0 rfl rfl) rfl rfl hl.1 rfl (lv_room (Nat.le_of_ble_eq_true rfl)) xd_Mo_newRequire_244 ⟨Nat.le_of_ble_eq_true rfl, Nat.le_of_ble_eq_true rfl⟩) hS (fun q _ h => hFc q h) hFc (fun r25 u26 t H1 locs ht hvm hp27 hB hz1 hk1 hS => ?_)
                  obtain ⟨hP1, hD1⟩ := hB
                  rw [ht] at hP1
                  have hD1 := hD1.weaken (fun _ _ _ h => hFc _ h)
                  generalize H1 = H at hP1 hS ⊢
                  have hP := hP1
                  have hD := hD1
                  have hP : va_P D xcl (moW h mm kA v g) H := hP
                  have hD : va_D A (moW h mm kA v g) := hD
                  rcases hp27 with ⟨rfl, z28⟩ | ⟨rfl, z29, z30⟩
                  · refine xz_ne (a := 1) (tgt := 261) hx hb xd_Mo_newRequire_247 (by decide) (by omega) (fun _ => ?_) (fun hc31 => absurd hc31 (by omega))
                    refine lv_bipush (v := (-2)) hx hb xd_Mo_newRequire_261 (by decide) ?_
                    exact W.iret (v := (-2)) hx hb hr (fun t ht hW => ⟨⟨(-2), (v, g), rfl, ⟨hMI, rfl, Or.inr (Or.inl rfl), congrArg (Prod.mk v) (lR_no (fun q => z28.elim (fun z => absurd q.2.2.1 (by omega)) (fun z => z q.2.2.2.2.2.1)))⟩, by rw [ht]; exact hP, hD⟩, hS.F ht⟩) hS.2.2 xd_Mo_newRequire_263
                  · refine xz_ne (a := 0) (tgt := 261) hx hb xd_Mo_newRequire_247 (by decide) (by omega) (fun hc32 => absurd hc32 (by omega)) (fun _ => ?_)
                    refine lv_aload_n hx hb xd_Mo_newRequire_250 rfl (lv_at hl 2 rfl) ?_
                    refine va_get (D := D) (ci := 4) (v := .ref (mm 12)) (C := xR_Mo) (T := xT_Mo) (N := 31) hx hb hT xi_Mo hown hK.1 hP 0 rfl rfl 17 (by decide) (hT _ k4d_12) (fun _ h9 => h9) rfl xd_Mo_newRequire_251 ?_
                    refine lv_iload hx hb xd_Mo_newRequire_254 (lv_at hl 6 rfl) ?_
                    refine xn_iald (i := nd - 1) hx hb hK.1 hP 13 0 rfl rfl (by omega) (by decide) xd_Mo_newRequire_256 ?_
                    refine xn_top (x := (g 12 (nd - 1))) (y := nI rq1) erq1 ?_
                    refine lv_iconst (v := 5) hx hb xd_Mo_newRequire_257 (by decide) ?_
                    refine xn_ne (a := rq1) (b := 5) (tgt := 264) hx hb xd_Mo_newRequire_258 (by decide) (by omega) (by omega) (fun hc33 => ?_) (fun hc33 => ?_)
                    · refine lv_aload_n hx hb xd_Mo_newRequire_264 rfl (lv_at hl 2 rfl) ?_
                      refine va_get (D := D) (ci := 4) (v := .ref (mm 13)) (C := xR_Mo) (T := xT_Mo) (N := 31) hx hb hT xi_Mo hown hK.1 hP 0 rfl rfl 18 (by decide) (hT _ k4d_13) (fun _ h9 => h9) rfl xd_Mo_newRequire_265 ?_
                      refine lv_iconst (v := 5) hx hb xd_Mo_newRequire_268 (by decide) ?_
                      refine lv_iload hx hb xd_Mo_newRequire_269 (lv_at hl 6 rfl) ?_
                      refine lv_imul hx hb xd_Mo_newRequire_271 ?_
                      refine xn_top (y := nI (5 * (nd - 1))) (pk_mul 5 (nd - 1)) ?_
                      refine lv_aload_n hx hb xd_Mo_newRequire_272 rfl (lv_at hl 2 rfl) ?_
                      refine va_get (D := D) (ci := 4) (v := .ref (mm 12)) (C := xR_Mo) (T := xT_Mo) (N := 31) hx hb hT xi_Mo hown hK.1 hP 0 rfl rfl 17 (by decide) (hT _ k4d_12) (fun _ h9 => h9) rfl xd_Mo_newRequire_273 ?_
                      refine lv_iload hx hb xd_Mo_newRequire_276 (lv_at hl 6 rfl) ?_
                      refine xn_iald (i := nd - 1) hx hb hK.1 hP 13 0 rfl rfl (by omega) (by decide) xd_Mo_newRequire_278 ?_
                      refine xn_top (x := (g 12 (nd - 1))) (y := nI rq1) erq1 ?_
                      refine lv_iadd hx hb xd_Mo_newRequire_279 ?_
                      refine xn_top (y := nI ((5 * (nd - 1)) + rq1)) (nI_add (5 * (nd - 1)) rq1) ?_
                      refine lv_iload hx hb xd_Mo_newRequire_280 (lv_at hl 5 rfl) ?_
                      refine xn_iast (i := (5 * (nd - 1)) + rq1) hx hb hK.1 hP hD hS 14 0 rfl rfl (by omega) (by decide) xd_Mo_newRequire_282 (fun H locs hP hD hS => ?_)
                      have hP : va_P D xcl (moW h mm kA v (va_up g 13 (upd (g 13) ((5 * (nd - 1)) + rq1) (nV (g 0) (wb wl w2) (we wl w2))))) H := hP
                      have hD : va_D A (moW h mm kA v (va_up g 13 (upd (g 13) ((5 * (nd - 1)) + rq1) (nV (g 0) (wb wl w2) (we wl w2))))) := hD
                      refine lv_aload_n hx hb xd_Mo_newRequire_283 rfl (lv_at hl 2 rfl) ?_
                      refine va_get (D := D) (ci := 4) (v := .ref (mm 16)) (C := xR_Mo) (T := xT_Mo) (N := 31) hx hb hT xi_Mo hown hK.1 hP 0 rfl rfl 21 (by decide) (hT _ k4d_14) (fun _ h9 => h9) rfl xd_Mo_newRequire_284 ?_
                      refine lv_iconst (v := 5) hx hb xd_Mo_newRequire_287 (by decide) ?_
                      refine lv_iload hx hb xd_Mo_newRequire_288 (lv_at hl 6 rfl) ?_
                      refine lv_imul hx hb xd_Mo_newRequire_290 ?_
                      refine xn_top (y := nI (5 * (nd - 1))) (pk_mul 5 (nd - 1)) ?_
                      refine lv_aload_n hx hb xd_Mo_newRequire_291 rfl (lv_at hl 2 rfl) ?_
                      refine va_get (D := D) (ci := 4) (v := .ref (mm 12)) (C := xR_Mo) (T := xT_Mo) (N := 31) hx hb hT xi_Mo hown hK.1 hP 0 rfl rfl 17 (by decide) (hT _ k4d_12) (fun _ h9 => h9) rfl xd_Mo_newRequire_292 ?_
                      refine lv_iload hx hb xd_Mo_newRequire_295 (lv_at hl 6 rfl) ?_
                      refine xn_iald (i := nd - 1) hx hb hK.1 hP 13 0 rfl rfl (by omega) (by decide) xd_Mo_newRequire_297 ?_
                      refine xn_top (x := (g 12 (nd - 1))) (y := nI rq1) erq1 ?_
                      refine lv_iadd hx hb xd_Mo_newRequire_298 ?_
                      refine xn_top (y := nI ((5 * (nd - 1)) + rq1)) (nI_add (5 * (nd - 1)) rq1) ?_
                      refine lv_iload_n hx hb xd_Mo_newRequire_299 rfl (lv_at hl 3 rfl) ?_
                      refine xn_zast (i := (5 * (nd - 1)) + rq1) hx hb hK.1 hP hD hS 17 2 rfl rfl (by omega) (by decide) xd_Mo_newRequire_300 (fun H locs hP hD hS => ?_)
                      have hP : va_P D xcl (moW h mm kA v (va_up (va_up g 13 (upd (g 13) ((5 * (nd - 1)) + rq1) (nV (g 0) (wb wl w2) (we wl w2)))) 16 (upd (g 16) ((5 * (nd - 1)) + rq1) (vp_nar .boolean th)))) H := hP
                      have hD : va_D A (moW h mm kA v (va_up (va_up g 13 (upd (g 13) ((5 * (nd - 1)) + rq1) (nV (g 0) (wb wl w2) (we wl w2)))) 16 (upd (g 16) ((5 * (nd - 1)) + rq1) (vp_nar .boolean th)))) := hD
                      refine lv_aload_n hx hb xd_Mo_newRequire_301 rfl (lv_at hl 2 rfl) ?_
                      refine va_get (D := D) (ci := 4) (v := .ref (mm 17)) (C := xR_Mo) (T := xT_Mo) (N := 31) hx hb hT xi_Mo hown hK.1 hP 0 rfl rfl 22 (by decide) (hT _ k4d_15) (fun _ h9 => h9) rfl xd_Mo_newRequire_302 ?_
                      refine lv_iconst (v := 5) hx hb xd_Mo_newRequire_305 (by decide) ?_
                      refine lv_iload hx hb xd_Mo_newRequire_306 (lv_at hl 6 rfl) ?_
                      refine lv_imul hx hb xd_Mo_newRequire_308 ?_
                      refine xn_top (y := nI (5 * (nd - 1))) (pk_mul 5 (nd - 1)) ?_
                      refine lv_aload_n hx hb xd_Mo_newRequire_309 rfl (lv_at hl 2 rfl) ?_
                      refine va_get (D := D) (ci := 4) (v := .ref (mm 12)) (C := xR_Mo) (T := xT_Mo) (N := 31) hx hb hT xi_Mo hown hK.1 hP 0 rfl rfl 17 (by decide) (hT _ k4d_12) (fun _ h9 => h9) rfl xd_Mo_newRequire_310 ?_
                      refine lv_iload hx hb xd_Mo_newRequire_313 (lv_at hl 6 rfl) ?_
                      refine xn_iald (i := nd - 1) hx hb hK.1 hP 13 0 rfl rfl (by omega) (by decide) xd_Mo_newRequire_315 ?_
                      refine xn_top (x := (g 12 (nd - 1))) (y := nI rq1) erq1 ?_
                      refine lv_iadd hx hb xd_Mo_newRequire_316 ?_
                      refine xn_top (y := nI ((5 * (nd - 1)) + rq1)) (nI_add (5 * (nd - 1)) rq1) ?_
                      refine lv_iload_n hx hb xd_Mo_newRequire_317 rfl (lv_at hl 4 rfl) ?_
                      refine xn_zast (i := (5 * (nd - 1)) + rq1) hx hb hK.1 hP hD hS 18 2 rfl rfl (by omega) (by decide) xd_Mo_newRequire_318 (fun H locs hP hD hS => ?_)
                      have hP : va_P D xcl (moW h mm kA v (va_up (va_up (va_up g 13 (upd (g 13) ((5 * (nd - 1)) + rq1) (nV (g 0) (wb wl w2) (we wl w2)))) 16 (upd (g 16) ((5 * (nd - 1)) + rq1) (vp_nar .boolean th))) 17 (upd (g 17) ((5 * (nd - 1)) + rq1) (vp_nar .boolean qt)))) H := hP
                      have hD : va_D A (moW h mm kA v (va_up (va_up (va_up g 13 (upd (g 13) ((5 * (nd - 1)) + rq1) (nV (g 0) (wb wl w2) (we wl w2)))) 16 (upd (g 16) ((5 * (nd - 1)) + rq1) (vp_nar .boolean th))) 17 (upd (g 17) ((5 * (nd - 1)) + rq1) (vp_nar .boolean qt)))) := hD
                      refine lv_aload_n hx hb xd_Mo_newRequire_319 rfl (lv_at hl 2 rfl) ?_
                      refine va_get (D := D) (ci := 4) (v := .ref (mm 12)) (C := xR_Mo) (T := xT_Mo) (N := 31) hx hb hT xi_Mo hown hK.1 hP 0 rfl rfl 17 (by decide) (hT _ k4d_12) (fun _ h9 => h9) rfl xd_Mo_newRequire_320 ?_
                      refine lv_iload hx hb xd_Mo_newRequire_323 (lv_at hl 6 rfl) ?_
                      refine lv_dup2_11 hx hb xd_Mo_newRequire_325 rfl rfl ?_
                      refine xn_iald (i := nd - 1) hx hb hK.1 hP 13 0 rfl rfl (by omega) (by decide) xd_Mo_newRequire_326 ?_
                      refine xn_top (x := (g 12 (nd - 1))) (y := nI rq1) erq1 ?_
                      refine lv_iconst (v := 1) hx hb xd_Mo_newRequire_327 (by decide) ?_
                      refine lv_iadd hx hb xd_Mo_newRequire_328 ?_
                      refine xn_top (y := nI (rq1 + 1)) (nI_add rq1 1) ?_
                      refine xn_iast (i := nd - 1) hx hb hK.1 hP hD hS 13 0 rfl rfl (by omega) (by decide) xd_Mo_newRequire_329 (fun H locs hP hD hS => ?_)
                      have hP : va_P D xcl (moW h mm kA v (va_up (va_up (va_up (va_up g 12 (upd (g 12) (nd - 1) (nI (rq1 + 1)))) 13 (upd (g 13) ((5 * (nd - 1)) + rq1) (nV (g 0) (wb wl w2) (we wl w2)))) 16 (upd (g 16) ((5 * (nd - 1)) + rq1) (vp_nar .boolean th))) 17 (upd (g 17) ((5 * (nd - 1)) + rq1) (vp_nar .boolean qt)))) H := hP
                      have hD : va_D A (moW h mm kA v (va_up (va_up (va_up (va_up g 12 (upd (g 12) (nd - 1) (nI (rq1 + 1)))) 13 (upd (g 13) ((5 * (nd - 1)) + rq1) (nV (g 0) (wb wl w2) (we wl w2)))) 16 (upd (g 16) ((5 * (nd - 1)) + rq1) (vp_nar .boolean th))) 17 (upd (g 17) ((5 * (nd - 1)) + rq1) (vp_nar .boolean qt)))) := hD
                      refine lv_iconst (v := 2) hx hb xd_Mo_newRequire_330 (by decide) ?_
                      exact W.iret (v := 2) hx hb hr (fun t ht hW => ⟨⟨2, (v, (va_up (va_up (va_up (va_up g 12 (upd (g 12) (nd - 1) (nI (rq1 + 1)))) 13 (upd (g 13) ((5 * (nd - 1)) + rq1) (nV (g 0) (wb wl w2) (we wl w2)))) 16 (upd (g 16) ((5 * (nd - 1)) + rq1) (vp_nar .boolean th))) 17 (upd (g 17) ((5 * (nd - 1)) + rq1) (vp_nar .boolean qt)))), rfl, ⟨MI_g (g := va_up g 12 (upd (g 12) (nd - 1) (nI (rq1 + 1)))) rfl rfl rfl rfl rfl rfl rfl rfl (MI_rq (by omega) hMI), rfl, Or.inr (Or.inr (Or.inr rfl)), congrArg (Prod.mk v) (by
        have htw2 : ¬ g 4 (nd - 1) = nV (g 0) (wb wl w2) (we wl w2) ∧ ∀ j, 5 * (nd - 1) ≤ j → j < i → ¬ g 13 j = nV (g 0) (wb wl w2) (we wl w2) := (by
        rcases htw with ⟨q, q1⟩ | ⟨q, q1, q2⟩
        · exact absurd hc24 q
        · exact ⟨q1, q2⟩)
        exact lR_ok erq1 (by omega) ⟨by rw [hB9]; omega, fun q => hc8 (hnn.symm.trans q), by omega, fun q => htw2.1 (q.trans hnn), fun j a9 b9 q => htw2.2 j a9 (by rw [hir] at b9; omega) (q.trans hnn), z30, by rw [hir]; omega⟩ hnn.symm hthb hqtb)⟩, by rw [ht]; exact hP, hD⟩, hS.F ht⟩) hS.2.2 xd_Mo_newRequire_331
                    · refine lv_bipush (v := (-2)) hx hb xd_Mo_newRequire_261 (by decide) ?_
                      exact W.iret (v := (-2)) hx hb hr (fun t ht hW => ⟨⟨(-2), (v, g), rfl, ⟨hMI, rfl, Or.inr (Or.inl rfl), congrArg (Prod.mk v) (lR_no (fun q => absurd q.2.2.2.2.2.2 (by rw [hir]; omega)))⟩, by rw [ht]; exact hP, hD⟩, hS.F ht⟩) hS.2.2 xd_Mo_newRequire_263
                · refine lv_iconst (v := (-1)) hx hb xd_Mo_newRequire_241 (by decide) ?_
                  exact W.iret (v := (-1)) hx hb hr (fun t ht hW => ⟨⟨(-1), (v, g), rfl, ⟨hMI, rfl, Or.inl rfl, congrArg (Prod.mk v) (lR_no (fun q => by
        rcases htw with ⟨_, q1 | ⟨j, a9, b9, c9⟩⟩ | ⟨q1, _⟩
        · exact q.2.2.2.1 (q1.trans hnn.symm)
        · exact q.2.2.2.2.1 j a9 (by rw [hir]; omega) (c9.trans hnn.symm)
        · exact hc24 q1))⟩, by rw [ht]; exact hP, hD⟩, hS.F ht⟩) hS.2.2 xd_Mo_newRequire_242
              · refine lv_iload hx hb xd_Mo_newRequire_206 (lv_at hl 1 rfl) ?_
                refine lv_if_ne (tgt := 223) hx hb xd_Mo_newRequire_208 (by decide) (fun hc34 => ?_) (fun hc34 => ?_)
                · refine lv_iconst (v := 1) hx hb xd_Mo_newRequire_223 (by decide) ?_
                  refine lv_goto (tgt := 228) hx hb xd_Mo_newRequire_224 (by decide) ?_
                  refine lv_istore hx hb xd_Mo_newRequire_228 hl (Nat.le_of_ble_eq_true rfl) rfl (fun ls hl => ?_)
                  have hl : lv_has ls 8 [(6, .int 1), (7, .int (nI i)), (0, .ref h), (2, .int th), (3, .int qt), (4, .int (nV (g 0) (wb wl w2) (we wl w2))), (5, .int (nI (nd - 1)))] := hl
                  refine lv_iinc (k := 1) (x := (nI i)) (v := (nI (i + 1))) hx hb xd_Mo_newRequire_230 hl rfl (xb_inc i 1) (Nat.le_of_ble_eq_true rfl) rfl (fun ls hl => ?_)
                  have hl : lv_has ls 8 [(7, .int (nI (i + 1))), (6, .int 1), (0, .ref h), (2, .int th), (3, .int qt), (4, .int (nV (g 0) (wb wl w2) (we wl w2))), (5, .int (nI (nd - 1)))] := hl
                  refine lv_goto (tgt := 184) hx hb xd_Mo_newRequire_233 (by decide) ?_
                  exact ih21 (i + 1, 1) _ _ _ (show 5 * (nd - 1) + rq1 - (i + 1) < 5 * (nd - 1) + rq1 - i by omega) (lv_sub hl [0, 1, 2, 3, 4, 5, 6] rfl) hP hD hS ⟨(show 5 * (nd - 1) ≤ (i + 1) from by first | assumption | omega), (show (i + 1) ≤ 5 * (nd - 1) + rq1 from by first | assumption | omega), (show (¬ 1 = 0 ∧ (g 4 (nd - 1) = nV (g 0) (wb wl w2) (we wl w2) ∨ ∃ j, 5 * (nd - 1) ≤ j ∧ j < (i + 1) ∧ g 13 j = nV (g 0) (wb wl w2) (we wl w2))) ∨ (1 = 0 ∧ ¬ g 4 (nd - 1) = nV (g 0) (wb wl w2) (we wl w2) ∧ ∀ j, 5 * (nd - 1) ≤ j → j < (i + 1) → ¬ g 13 j = nV (g 0) (wb wl w2) (we wl w2)) from by
        rcases htw with ⟨q, q1⟩ | ⟨q, q1⟩
        · exact Or.inl ⟨by decide, q1.imp id (fun ⟨j, a9, b9, c9⟩ => ⟨j, a9, by omega, c9⟩)⟩
        · exact absurd q hc34)⟩
                · refine lv_aload_n hx hb xd_Mo_newRequire_211 rfl (lv_at hl 2 rfl) ?_
                  refine va_get (D := D) (ci := 4) (v := .ref (mm 13)) (C := xR_Mo) (T := xT_Mo) (N := 31) hx hb hT xi_Mo hown hK.1 hP 0 rfl rfl 18 (by decide) (hT _ k4d_13) (fun _ h9 => h9) rfl xd_Mo_newRequire_212 ?_
                  refine lv_iload hx hb xd_Mo_newRequire_215 (lv_at hl 0 rfl) ?_
                  refine xn_iald (i := i) hx hb hK.1 hP 14 0 rfl rfl (by omega) (by decide) xd_Mo_newRequire_217 ?_
                  refine lv_iload hx hb xd_Mo_newRequire_218 (lv_at hl 5 rfl) ?_
                  refine lv_icmp_ne (tgt := 227) hx hb xd_Mo_newRequire_220 (by decide) (fun hc35 => ?_) (fun hc35 => ?_)
                  · refine lv_iconst (v := 0) hx hb xd_Mo_newRequire_227 (by decide) ?_
                    refine lv_istore hx hb xd_Mo_newRequire_228 hl (Nat.le_of_ble_eq_true rfl) rfl (fun ls hl => ?_)
                    have hl : lv_has ls 8 [(6, .int 0), (7, .int (nI i)), (0, .ref h), (2, .int th), (3, .int qt), (4, .int (nV (g 0) (wb wl w2) (we wl w2))), (5, .int (nI (nd - 1)))] := hl
                    refine lv_iinc (k := 1) (x := (nI i)) (v := (nI (i + 1))) hx hb xd_Mo_newRequire_230 hl rfl (xb_inc i 1) (Nat.le_of_ble_eq_true rfl) rfl (fun ls hl => ?_)
                    have hl : lv_has ls 8 [(7, .int (nI (i + 1))), (6, .int 0), (0, .ref h), (2, .int th), (3, .int qt), (4, .int (nV (g 0) (wb wl w2) (we wl w2))), (5, .int (nI (nd - 1)))] := hl
                    refine lv_goto (tgt := 184) hx hb xd_Mo_newRequire_233 (by decide) ?_
                    exact ih21 (i + 1, 0) _ _ _ (show 5 * (nd - 1) + rq1 - (i + 1) < 5 * (nd - 1) + rq1 - i by omega) (lv_sub hl [0, 1, 2, 3, 4, 5, 6] rfl) hP hD hS ⟨(show 5 * (nd - 1) ≤ (i + 1) from by first | assumption | omega), (show (i + 1) ≤ 5 * (nd - 1) + rq1 from by first | assumption | omega), (show (¬ 0 = 0 ∧ (g 4 (nd - 1) = nV (g 0) (wb wl w2) (we wl w2) ∨ ∃ j, 5 * (nd - 1) ≤ j ∧ j < (i + 1) ∧ g 13 j = nV (g 0) (wb wl w2) (we wl w2))) ∨ (0 = 0 ∧ ¬ g 4 (nd - 1) = nV (g 0) (wb wl w2) (we wl w2) ∧ ∀ j, 5 * (nd - 1) ≤ j → j < (i + 1) → ¬ g 13 j = nV (g 0) (wb wl w2) (we wl w2)) from by
        rcases htw with ⟨q, q1⟩ | ⟨q, q1, q2⟩
        · exact absurd hc34 q
        · refine Or.inr ⟨rfl, q1, fun j a9 b9 => ?_⟩
          rcases Nat.lt_or_ge j i with z | z
          · exact q2 j a9 z
          · rw [show j = i by omega]; exact hc35)⟩
                  · refine lv_iconst (v := 1) hx hb xd_Mo_newRequire_223 (by decide) ?_
                    refine lv_goto (tgt := 228) hx hb xd_Mo_newRequire_224 (by decide) ?_
                    refine lv_istore hx hb xd_Mo_newRequire_228 hl (Nat.le_of_ble_eq_true rfl) rfl (fun ls hl => ?_)
                    have hl : lv_has ls 8 [(6, .int 1), (7, .int (nI i)), (0, .ref h), (2, .int th), (3, .int qt), (4, .int (nV (g 0) (wb wl w2) (we wl w2))), (5, .int (nI (nd - 1)))] := hl
                    refine lv_iinc (k := 1) (x := (nI i)) (v := (nI (i + 1))) hx hb xd_Mo_newRequire_230 hl rfl (xb_inc i 1) (Nat.le_of_ble_eq_true rfl) rfl (fun ls hl => ?_)
                    have hl : lv_has ls 8 [(7, .int (nI (i + 1))), (6, .int 1), (0, .ref h), (2, .int th), (3, .int qt), (4, .int (nV (g 0) (wb wl w2) (we wl w2))), (5, .int (nI (nd - 1)))] := hl
                    refine lv_goto (tgt := 184) hx hb xd_Mo_newRequire_233 (by decide) ?_
                    exact ih21 (i + 1, 1) _ _ _ (show 5 * (nd - 1) + rq1 - (i + 1) < 5 * (nd - 1) + rq1 - i by omega) (lv_sub hl [0, 1, 2, 3, 4, 5, 6] rfl) hP hD hS ⟨(show 5 * (nd - 1) ≤ (i + 1) from by first | assumption | omega), (show (i + 1) ≤ 5 * (nd - 1) + rq1 from by first | assumption | omega), (show (¬ 1 = 0 ∧ (g 4 (nd - 1) = nV (g 0) (wb wl w2) (we wl w2) ∨ ∃ j, 5 * (nd - 1) ≤ j ∧ j < (i + 1) ∧ g 13 j = nV (g 0) (wb wl w2) (we wl w2))) ∨ (1 = 0 ∧ ¬ g 4 (nd - 1) = nV (g 0) (wb wl w2) (we wl w2) ∧ ∀ j, 5 * (nd - 1) ≤ j → j < (i + 1) → ¬ g 13 j = nV (g 0) (wb wl w2) (we wl w2)) from Or.inl ⟨by decide, Or.inr ⟨i, by omega, by omega, hc35⟩⟩)⟩
            · refine lv_iconst (v := 1) hx hb xd_Mo_newRequire_171 (by decide) ?_
              refine lv_goto (tgt := 176) hx hb xd_Mo_newRequire_172 (by decide) ?_
              refine lv_istore hx hb xd_Mo_newRequire_176 hl (Nat.le_of_ble_eq_true rfl) rfl (fun ls hl => ?_)
              have hl : lv_has ls 8 [(6, .int 1), (5, .int (nI (nd - 1))), (4, .int (nV (g 0) (wb wl w2) (we wl w2))), (3, .int qt), (1, .int (nI w2)), (2, .int th), (0, .ref h)] := hl
              refine lv_iconst (v := 5) hx hb xd_Mo_newRequire_178 (by decide) ?_
              refine lv_iload hx hb xd_Mo_newRequire_179 (lv_at hl 1 rfl) ?_
              refine lv_imul hx hb xd_Mo_newRequire_181 ?_
              refine xn_top (y := nI (5 * (nd - 1))) (pk_mul 5 (nd - 1)) ?_
              refine lv_istore hx hb xd_Mo_newRequire_182 hl (Nat.le_of_ble_eq_true rfl) rfl (fun ls hl => ?_)
              have hl : lv_has ls 8 [(7, .int (nI (5 * (nd - 1)))), (6, .int 1), (5, .int (nI (nd - 1))), (4, .int (nV (g 0) (wb wl w2) (we wl w2))), (3, .int qt), (1, .int (nI w2)), (2, .int th), (0, .ref h)] := hl
              refine xlab (σ := Nat × Int32) (ml := 8) 184 (fun (i, tw) => [(7, .int (nI i)), (6, .int tw), (0, .ref h), (2, .int th), (3, .int qt), (4, .int (nV (g 0) (wb wl w2) (we wl w2))), (5, .int (nI (nd - 1)))]) (fun (i, tw) => []) (fun (i, tw) => moW h mm kA v g) (fun (i, tw) => (5 * (nd - 1) ≤ i) ∧ (i ≤ 5 * (nd - 1) + rq1) ∧ ((¬ tw = 0 ∧ (g 4 (nd - 1) = nV (g 0) (wb wl w2) (we wl w2) ∨ ∃ j, 5 * (nd - 1) ≤ j ∧ j < i ∧ g 13 j = nV (g 0) (wb wl w2) (we wl w2))) ∨ (tw = 0 ∧ ¬ g 4 (nd - 1) = nV (g 0) (wb wl w2) (we wl w2) ∧ ∀ j, 5 * (nd - 1) ≤ j → j < i → ¬ g 13 j = nV (g 0) (wb wl w2) (we wl w2)))) (fun (i, tw) => 5 * (nd - 1) + rq1 - i) ?_ (5 * (nd - 1), 1) _ _ _ (lv_sub hl [0, 1, 7, 6, 4, 3, 2] rfl) hP hD hS ⟨(show 5 * (nd - 1) ≤ (5 * (nd - 1)) from by first | assumption | omega), (show (5 * (nd - 1)) ≤ 5 * (nd - 1) + rq1 from by first | assumption | omega), (show (¬ 1 = 0 ∧ (g 4 (nd - 1) = nV (g 0) (wb wl w2) (we wl w2) ∨ ∃ j, 5 * (nd - 1) ≤ j ∧ j < (5 * (nd - 1)) ∧ g 13 j = nV (g 0) (wb wl w2) (we wl w2))) ∨ (1 = 0 ∧ ¬ g 4 (nd - 1) = nV (g 0) (wb wl w2) (we wl w2) ∧ ∀ j, 5 * (nd - 1) ≤ j → j < (5 * (nd - 1)) → ¬ g 13 j = nV (g 0) (wb wl w2) (we wl w2)) from Or.inl ⟨by decide, Or.inl hc20⟩)⟩
              intro n9 ih36 a9 ls H locs hμ hl hP hD hS hI
              subst hμ
              obtain ⟨i, tw⟩ := a9
              obtain ⟨hi1, hi2, htw⟩ := hI
              have hi1 : 5 * (nd - 1) ≤ i := hi1
              have hi2 : i ≤ 5 * (nd - 1) + rq1 := hi2
              have htw : (¬ tw = 0 ∧ (g 4 (nd - 1) = nV (g 0) (wb wl w2) (we wl w2) ∨ ∃ j, 5 * (nd - 1) ≤ j ∧ j < i ∧ g 13 j = nV (g 0) (wb wl w2) (we wl w2))) ∨ (tw = 0 ∧ ¬ g 4 (nd - 1) = nV (g 0) (wb wl w2) (we wl w2) ∧ ∀ j, 5 * (nd - 1) ≤ j → j < i → ¬ g 13 j = nV (g 0) (wb wl w2) (we wl w2)) := htw
              have hl : lv_has ls 8 [(7, .int (nI i)), (6, .int tw), (0, .ref h), (2, .int th), (3, .int qt), (4, .int (nV (g 0) (wb wl w2) (we wl w2))), (5, .int (nI (nd - 1)))] := hl
              have hP : va_P D xcl (moW h mm kA v g) H := hP
              have hD : va_D A (moW h mm kA v g) := hD
              refine lv_iload hx hb xd_Mo_newRequire_184 (lv_at hl 6 rfl) ?_
              refine xz_lt (a := nd - 1) (tgt := 236) hx hb xd_Mo_newRequire_186 (by decide) (by omega) ?_
              refine lv_iload hx hb xd_Mo_newRequire_189 (lv_at hl 0 rfl) ?_
              refine lv_iconst (v := 5) hx hb xd_Mo_newRequire_191 (by decide) ?_
              refine lv_iload hx hb xd_Mo_newRequire_192 (lv_at hl 6 rfl) ?_
              refine lv_imul hx hb xd_Mo_newRequire_194 ?_
              refine xn_top (y := nI (5 * (nd - 1))) (pk_mul 5 (nd - 1)) ?_
              refine lv_aload_n hx hb xd_Mo_newRequire_195 rfl (lv_at hl 2 rfl) ?_
              refine va_get (D := D) (ci := 4) (v := .ref (mm 12)) (C := xR_Mo) (T := xT_Mo) (N := 31) hx hb hT xi_Mo hown hK.1 hP 0 rfl rfl 17 (by decide) (hT _ k4d_12) (fun _ h9 => h9) rfl xd_Mo_newRequire_196 ?_
              refine lv_iload hx hb xd_Mo_newRequire_199 (lv_at hl 6 rfl) ?_
              refine xn_iald (i := nd - 1) hx hb hK.1 hP 13 0 rfl rfl (by omega) (by decide) xd_Mo_newRequire_201 ?_
              refine xn_top (x := (g 12 (nd - 1))) (y := nI rq1) erq1 ?_
              refine lv_iadd hx hb xd_Mo_newRequire_202 ?_
              refine xn_top (y := nI ((5 * (nd - 1)) + rq1)) (nI_add (5 * (nd - 1)) rq1) ?_
              refine xn_ge (a := i) (b := (5 * (nd - 1)) + rq1) (tgt := 236) hx hb xd_Mo_newRequire_203 (by decide) (by omega) (by omega) (fun hc38 => ?_) (fun hc38 => ?_)
              · refine lv_iload hx hb xd_Mo_newRequire_236 (lv_at hl 1 rfl) ?_
                refine lv_if_eq (tgt := 243) hx hb xd_Mo_newRequire_238 (by decide) (fun hc39 => ?_) (fun hc39 => ?_)
                · refine lv_aload_n hx hb xd_Mo_newRequire_243 rfl (lv_at hl 2 rfl) ?_
                  have hFc := va_free (wc := (moW h mm kA v g)) hD hS hA [0, 1, 2, 3, 4, 5, 6, 7, 8, 9, 10, 11, 12, 13, 14, 15, 16, 17, 18, 19, 20, 21, 22, 23, 24, 25] rfl
                  refine va_calli (va_runV (As := []) (rest := []) ⟨hx, hb, hml, hown, hT⟩ (xc_Mo_isShut l D kA H.size h mm v g nd (by first | assumption | omega) (by first | assumption | omega)) (cwV 0 hT (wT_V k4d_8 k4d_9 k4d_10 k4d_5 k4d_7) rfl rfl rfl (by decide +kernel) ⟨Nat.le_of_ble_eq_true rfl, Nat.le_of_ble_eq_true rfl⟩) (x_preV hK hP hD 0 rfl rfl) rfl rfl hl.1 rfl (lv_room (Nat.le_of_ble_eq_true rfl)) xd_Mo_newRequire_244 ⟨Nat.le_of_ble_eq_true rfl, Nat.le_of_ble_eq_true rfl⟩) hS (fun q _ h => hFc q h) hFc (fun r40 u41 t H1 locs ht hvm hp42 hB hz1 hk1 hS => ?_)
                  obtain ⟨hP1, hD1⟩ := hB
                  rw [ht] at hP1
                  have hD1 := hD1.weaken (fun _ _ _ h => hFc _ h)
                  generalize H1 = H at hP1 hS ⊢
                  have hP := hP1
                  have hD := hD1
                  have hP : va_P D xcl (moW h mm kA v g) H := hP
                  have hD : va_D A (moW h mm kA v g) := hD
                  rcases hp42 with ⟨rfl, z43⟩ | ⟨rfl, z44, z45⟩
                  · refine xz_ne (a := 1) (tgt := 261) hx hb xd_Mo_newRequire_247 (by decide) (by omega) (fun _ => ?_) (fun hc46 => absurd hc46 (by omega))
                    refine lv_bipush (v := (-2)) hx hb xd_Mo_newRequire_261 (by decide) ?_
                    exact W.iret (v := (-2)) hx hb hr (fun t ht hW => ⟨⟨(-2), (v, g), rfl, ⟨hMI, rfl, Or.inr (Or.inl rfl), congrArg (Prod.mk v) (lR_no (fun q => z43.elim (fun z => absurd q.2.2.1 (by omega)) (fun z => z q.2.2.2.2.2.1)))⟩, by rw [ht]; exact hP, hD⟩, hS.F ht⟩) hS.2.2 xd_Mo_newRequire_263
                  · refine xz_ne (a := 0) (tgt := 261) hx hb xd_Mo_newRequire_247 (by decide) (by omega) (fun hc47 => absurd hc47 (by omega)) (fun _ => ?_)
                    refine lv_aload_n hx hb xd_Mo_newRequire_250 rfl (lv_at hl 2 rfl) ?_
                    refine va_get (D := D) (ci := 4) (v := .ref (mm 12)) (C := xR_Mo) (T := xT_Mo) (N := 31) hx hb hT xi_Mo hown hK.1 hP 0 rfl rfl 17 (by decide) (hT _ k4d_12) (fun _ h9 => h9) rfl xd_Mo_newRequire_251 ?_
                    refine lv_iload hx hb xd_Mo_newRequire_254 (lv_at hl 6 rfl) ?_
                    refine xn_iald (i := nd - 1) hx hb hK.1 hP 13 0 rfl rfl (by omega) (by decide) xd_Mo_newRequire_256 ?_
                    refine xn_top (x := (g 12 (nd - 1))) (y := nI rq1) erq1 ?_
                    refine lv_iconst (v := 5) hx hb xd_Mo_newRequire_257 (by decide) ?_
                    refine xn_ne (a := rq1) (b := 5) (tgt := 264) hx hb xd_Mo_newRequire_258 (by decide) (by omega) (by omega) (fun hc48 => ?_) (fun hc48 => ?_)
                    · refine lv_aload_n hx hb xd_Mo_newRequire_264 rfl (lv_at hl 2 rfl) ?_
                      refine va_get (D := D) (ci := 4) (v := .ref (mm 13)) (C := xR_Mo) (T := xT_Mo) (N := 31) hx hb hT xi_Mo hown hK.1 hP 0 rfl rfl 18 (by decide) (hT _ k4d_13) (fun _ h9 => h9) rfl xd_Mo_newRequire_265 ?_
                      refine lv_iconst (v := 5) hx hb xd_Mo_newRequire_268 (by decide) ?_
                      refine lv_iload hx hb xd_Mo_newRequire_269 (lv_at hl 6 rfl) ?_
                      refine lv_imul hx hb xd_Mo_newRequire_271 ?_
                      refine xn_top (y := nI (5 * (nd - 1))) (pk_mul 5 (nd - 1)) ?_
                      refine lv_aload_n hx hb xd_Mo_newRequire_272 rfl (lv_at hl 2 rfl) ?_
                      refine va_get (D := D) (ci := 4) (v := .ref (mm 12)) (C := xR_Mo) (T := xT_Mo) (N := 31) hx hb hT xi_Mo hown hK.1 hP 0 rfl rfl 17 (by decide) (hT _ k4d_12) (fun _ h9 => h9) rfl xd_Mo_newRequire_273 ?_
                      refine lv_iload hx hb xd_Mo_newRequire_276 (lv_at hl 6 rfl) ?_
                      refine xn_iald (i := nd - 1) hx hb hK.1 hP 13 0 rfl rfl (by omega) (by decide) xd_Mo_newRequire_278 ?_
                      refine xn_top (x := (g 12 (nd - 1))) (y := nI rq1) erq1 ?_
                      refine lv_iadd hx hb xd_Mo_newRequire_279 ?_
                      refine xn_top (y := nI ((5 * (nd - 1)) + rq1)) (nI_add (5 * (nd - 1)) rq1) ?_
                      refine lv_iload hx hb xd_Mo_newRequire_280 (lv_at hl 5 rfl) ?_
                      refine xn_iast (i := (5 * (nd - 1)) + rq1) hx hb hK.1 hP hD hS 14 0 rfl rfl (by omega) (by decide) xd_Mo_newRequire_282 (fun H locs hP hD hS => ?_)
                      have hP : va_P D xcl (moW h mm kA v (va_up g 13 (upd (g 13) ((5 * (nd - 1)) + rq1) (nV (g 0) (wb wl w2) (we wl w2))))) H := hP
                      have hD : va_D A (moW h mm kA v (va_up g 13 (upd (g 13) ((5 * (nd - 1)) + rq1) (nV (g 0) (wb wl w2) (we wl w2))))) := hD
                      refine lv_aload_n hx hb xd_Mo_newRequire_283 rfl (lv_at hl 2 rfl) ?_
                      refine va_get (D := D) (ci := 4) (v := .ref (mm 16)) (C := xR_Mo) (T := xT_Mo) (N := 31) hx hb hT xi_Mo hown hK.1 hP 0 rfl rfl 21 (by decide) (hT _ k4d_14) (fun _ h9 => h9) rfl xd_Mo_newRequire_284 ?_
                      refine lv_iconst (v := 5) hx hb xd_Mo_newRequire_287 (by decide) ?_
                      refine lv_iload hx hb xd_Mo_newRequire_288 (lv_at hl 6 rfl) ?_
                      refine lv_imul hx hb xd_Mo_newRequire_290 ?_
                      refine xn_top (y := nI (5 * (nd - 1))) (pk_mul 5 (nd - 1)) ?_
                      refine lv_aload_n hx hb xd_Mo_newRequire_291 rfl (lv_at hl 2 rfl) ?_
                      refine va_get (D := D) (ci := 4) (v := .ref (mm 12)) (C := xR_Mo) (T := xT_Mo) (N := 31) hx hb hT xi_Mo hown hK.1 hP 0 rfl rfl 17 (by decide) (hT _ k4d_12) (fun _ h9 => h9) rfl xd_Mo_newRequire_292 ?_
                      refine lv_iload hx hb xd_Mo_newRequire_295 (lv_at hl 6 rfl) ?_
                      refine xn_iald (i := nd - 1) hx hb hK.1 hP 13 0 rfl rfl (by omega) (by decide) xd_Mo_newRequire_297 ?_
                      refine xn_top (x := (g 12 (nd - 1))) (y := nI rq1) erq1 ?_
                      refine lv_iadd hx hb xd_Mo_newRequire_298 ?_
                      refine xn_top (y := nI ((5 * (nd - 1)) + rq1)) (nI_add (5 * (nd - 1)) rq1) ?_
                      refine lv_iload_n hx hb xd_Mo_newRequire_299 rfl (lv_at hl 3 rfl) ?_
                      refine xn_zast (i := (5 * (nd - 1)) + rq1) hx hb hK.1 hP hD hS 17 2 rfl rfl (by omega) (by decide) xd_Mo_newRequire_300 (fun H locs hP hD hS => ?_)
                      have hP : va_P D xcl (moW h mm kA v (va_up (va_up g 13 (upd (g 13) ((5 * (nd - 1)) + rq1) (nV (g 0) (wb wl w2) (we wl w2)))) 16 (upd (g 16) ((5 * (nd - 1)) + rq1) (vp_nar .boolean th)))) H := hP
                      have hD : va_D A (moW h mm kA v (va_up (va_up g 13 (upd (g 13) ((5 * (nd - 1)) + rq1) (nV (g 0) (wb wl w2) (we wl w2)))) 16 (upd (g 16) ((5 * (nd - 1)) + rq1) (vp_nar .boolean th)))) := hD
                      refine lv_aload_n hx hb xd_Mo_newRequire_301 rfl (lv_at hl 2 rfl) ?_
                      refine va_get (D := D) (ci := 4) (v := .ref (mm 17)) (C := xR_Mo) (T := xT_Mo) (N := 31) hx hb hT xi_Mo hown hK.1 hP 0 rfl rfl 22 (by decide) (hT _ k4d_15) (fun _ h9 => h9) rfl xd_Mo_newRequire_302 ?_
                      refine lv_iconst (v := 5) hx hb xd_Mo_newRequire_305 (by decide) ?_
                      refine lv_iload hx hb xd_Mo_newRequire_306 (lv_at hl 6 rfl) ?_
                      refine lv_imul hx hb xd_Mo_newRequire_308 ?_
                      refine xn_top (y := nI (5 * (nd - 1))) (pk_mul 5 (nd - 1)) ?_
                      refine lv_aload_n hx hb xd_Mo_newRequire_309 rfl (lv_at hl 2 rfl) ?_
                      refine va_get (D := D) (ci := 4) (v := .ref (mm 12)) (C := xR_Mo) (T := xT_Mo) (N := 31) hx hb hT xi_Mo hown hK.1 hP 0 rfl rfl 17 (by decide) (hT _ k4d_12) (fun _ h9 => h9) rfl xd_Mo_newRequire_310 ?_
                      refine lv_iload hx hb xd_Mo_newRequire_313 (lv_at hl 6 rfl) ?_
                      refine xn_iald (i := nd - 1) hx hb hK.1 hP 13 0 rfl rfl (by omega) (by decide) xd_Mo_newRequire_315 ?_
                      refine xn_top (x := (g 12 (nd - 1))) (y := nI rq1) erq1 ?_
                      refine lv_iadd hx hb xd_Mo_newRequire_316 ?_
                      refine xn_top (y := nI ((5 * (nd - 1)) + rq1)) (nI_add (5 * (nd - 1)) rq1) ?_
                      refine lv_iload_n hx hb xd_Mo_newRequire_317 rfl (lv_at hl 4 rfl) ?_
                      refine xn_zast (i := (5 * (nd - 1)) + rq1) hx hb hK.1 hP hD hS 18 2 rfl rfl (by omega) (by decide) xd_Mo_newRequire_318 (fun H locs hP hD hS => ?_)
                      have hP : va_P D xcl (moW h mm kA v (va_up (va_up (va_up g 13 (upd (g 13) ((5 * (nd - 1)) + rq1) (nV (g 0) (wb wl w2) (we wl w2)))) 16 (upd (g 16) ((5 * (nd - 1)) + rq1) (vp_nar .boolean th))) 17 (upd (g 17) ((5 * (nd - 1)) + rq1) (vp_nar .boolean qt)))) H := hP
                      have hD : va_D A (moW h mm kA v (va_up (va_up (va_up g 13 (upd (g 13) ((5 * (nd - 1)) + rq1) (nV (g 0) (wb wl w2) (we wl w2)))) 16 (upd (g 16) ((5 * (nd - 1)) + rq1) (vp_nar .boolean th))) 17 (upd (g 17) ((5 * (nd - 1)) + rq1) (vp_nar .boolean qt)))) := hD
                      refine lv_aload_n hx hb xd_Mo_newRequire_319 rfl (lv_at hl 2 rfl) ?_
                      refine va_get (D := D) (ci := 4) (v := .ref (mm 12)) (C := xR_Mo) (T := xT_Mo) (N := 31) hx hb hT xi_Mo hown hK.1 hP 0 rfl rfl 17 (by decide) (hT _ k4d_12) (fun _ h9 => h9) rfl xd_Mo_newRequire_320 ?_
                      refine lv_iload hx hb xd_Mo_newRequire_323 (lv_at hl 6 rfl) ?_
                      refine lv_dup2_11 hx hb xd_Mo_newRequire_325 rfl rfl ?_
                      refine xn_iald (i := nd - 1) hx hb hK.1 hP 13 0 rfl rfl (by omega) (by decide) xd_Mo_newRequire_326 ?_
                      refine xn_top (x := (g 12 (nd - 1))) (y := nI rq1) erq1 ?_
                      refine lv_iconst (v := 1) hx hb xd_Mo_newRequire_327 (by decide) ?_
                      refine lv_iadd hx hb xd_Mo_newRequire_328 ?_
                      refine xn_top (y := nI (rq1 + 1)) (nI_add rq1 1) ?_
                      refine xn_iast (i := nd - 1) hx hb hK.1 hP hD hS 13 0 rfl rfl (by omega) (by decide) xd_Mo_newRequire_329 (fun H locs hP hD hS => ?_)
                      have hP : va_P D xcl (moW h mm kA v (va_up (va_up (va_up (va_up g 12 (upd (g 12) (nd - 1) (nI (rq1 + 1)))) 13 (upd (g 13) ((5 * (nd - 1)) + rq1) (nV (g 0) (wb wl w2) (we wl w2)))) 16 (upd (g 16) ((5 * (nd - 1)) + rq1) (vp_nar .boolean th))) 17 (upd (g 17) ((5 * (nd - 1)) + rq1) (vp_nar .boolean qt)))) H := hP
                      have hD : va_D A (moW h mm kA v (va_up (va_up (va_up (va_up g 12 (upd (g 12) (nd - 1) (nI (rq1 + 1)))) 13 (upd (g 13) ((5 * (nd - 1)) + rq1) (nV (g 0) (wb wl w2) (we wl w2)))) 16 (upd (g 16) ((5 * (nd - 1)) + rq1) (vp_nar .boolean th))) 17 (upd (g 17) ((5 * (nd - 1)) + rq1) (vp_nar .boolean qt)))) := hD
                      refine lv_iconst (v := 2) hx hb xd_Mo_newRequire_330 (by decide) ?_
                      exact W.iret (v := 2) hx hb hr (fun t ht hW => ⟨⟨2, (v, (va_up (va_up (va_up (va_up g 12 (upd (g 12) (nd - 1) (nI (rq1 + 1)))) 13 (upd (g 13) ((5 * (nd - 1)) + rq1) (nV (g 0) (wb wl w2) (we wl w2)))) 16 (upd (g 16) ((5 * (nd - 1)) + rq1) (vp_nar .boolean th))) 17 (upd (g 17) ((5 * (nd - 1)) + rq1) (vp_nar .boolean qt)))), rfl, ⟨MI_g (g := va_up g 12 (upd (g 12) (nd - 1) (nI (rq1 + 1)))) rfl rfl rfl rfl rfl rfl rfl rfl (MI_rq (by omega) hMI), rfl, Or.inr (Or.inr (Or.inr rfl)), congrArg (Prod.mk v) (by
        have htw2 : ¬ g 4 (nd - 1) = nV (g 0) (wb wl w2) (we wl w2) ∧ ∀ j, 5 * (nd - 1) ≤ j → j < i → ¬ g 13 j = nV (g 0) (wb wl w2) (we wl w2) := (by
        rcases htw with ⟨q, q1⟩ | ⟨q, q1, q2⟩
        · exact absurd hc39 q
        · exact ⟨q1, q2⟩)
        exact lR_ok erq1 (by omega) ⟨by rw [hB9]; omega, fun q => hc8 (hnn.symm.trans q), by omega, fun q => htw2.1 (q.trans hnn), fun j a9 b9 q => htw2.2 j a9 (by rw [hir] at b9; omega) (q.trans hnn), z45, by rw [hir]; omega⟩ hnn.symm hthb hqtb)⟩, by rw [ht]; exact hP, hD⟩, hS.F ht⟩) hS.2.2 xd_Mo_newRequire_331
                    · refine lv_bipush (v := (-2)) hx hb xd_Mo_newRequire_261 (by decide) ?_
                      exact W.iret (v := (-2)) hx hb hr (fun t ht hW => ⟨⟨(-2), (v, g), rfl, ⟨hMI, rfl, Or.inr (Or.inl rfl), congrArg (Prod.mk v) (lR_no (fun q => absurd q.2.2.2.2.2.2 (by rw [hir]; omega)))⟩, by rw [ht]; exact hP, hD⟩, hS.F ht⟩) hS.2.2 xd_Mo_newRequire_263
                · refine lv_iconst (v := (-1)) hx hb xd_Mo_newRequire_241 (by decide) ?_
                  exact W.iret (v := (-1)) hx hb hr (fun t ht hW => ⟨⟨(-1), (v, g), rfl, ⟨hMI, rfl, Or.inl rfl, congrArg (Prod.mk v) (lR_no (fun q => by
        rcases htw with ⟨_, q1 | ⟨j, a9, b9, c9⟩⟩ | ⟨q1, _⟩
        · exact q.2.2.2.1 (q1.trans hnn.symm)
        · exact q.2.2.2.2.1 j a9 (by rw [hir]; omega) (c9.trans hnn.symm)
        · exact hc39 q1))⟩, by rw [ht]; exact hP, hD⟩, hS.F ht⟩) hS.2.2 xd_Mo_newRequire_242
              · refine lv_iload hx hb xd_Mo_newRequire_206 (lv_at hl 1 rfl) ?_
                refine lv_if_ne (tgt := 223) hx hb xd_Mo_newRequire_208 (by decide) (fun hc49 => ?_) (fun hc49 => ?_)
                · refine lv_iconst (v := 1) hx hb xd_Mo_newRequire_223 (by decide) ?_
                  refine lv_goto (tgt := 228) hx hb xd_Mo_newRequire_224 (by decide) ?_
                  refine lv_istore hx hb xd_Mo_newRequire_228 hl (Nat.le_of_ble_eq_true rfl) rfl (fun ls hl => ?_)
                  have hl : lv_has ls 8 [(6, .int 1), (7, .int (nI i)), (0, .ref h), (2, .int th), (3, .int qt), (4, .int (nV (g 0) (wb wl w2) (we wl w2))), (5, .int (nI (nd - 1)))] := hl
                  refine lv_iinc (k := 1) (x := (nI i)) (v := (nI (i + 1))) hx hb xd_Mo_newRequire_230 hl rfl (xb_inc i 1) (Nat.le_of_ble_eq_true rfl) rfl (fun ls hl => ?_)
                  have hl : lv_has ls 8 [(7, .int (nI (i + 1))), (6, .int 1), (0, .ref h), (2, .int th), (3, .int qt), (4, .int (nV (g 0) (wb wl w2) (we wl w2))), (5, .int (nI (nd - 1)))] := hl
                  refine lv_goto (tgt := 184) hx hb xd_Mo_newRequire_233 (by decide) ?_
                  exact ih36 (i + 1, 1) _ _ _ (show 5 * (nd - 1) + rq1 - (i + 1) < 5 * (nd - 1) + rq1 - i by omega) (lv_sub hl [0, 1, 2, 3, 4, 5, 6] rfl) hP hD hS ⟨(show 5 * (nd - 1) ≤ (i + 1) from by first | assumption | omega), (show (i + 1) ≤ 5 * (nd - 1) + rq1 from by first | assumption | omega), (show (¬ 1 = 0 ∧ (g 4 (nd - 1) = nV (g 0) (wb wl w2) (we wl w2) ∨ ∃ j, 5 * (nd - 1) ≤ j ∧ j < (i + 1) ∧ g 13 j = nV (g 0) (wb wl w2) (we wl w2))) ∨ (1 = 0 ∧ ¬ g 4 (nd - 1) = nV (g 0) (wb wl w2) (we wl w2) ∧ ∀ j, 5 * (nd - 1) ≤ j → j < (i + 1) → ¬ g 13 j = nV (g 0) (wb wl w2) (we wl w2)) from by
        rcases htw with ⟨q, q1⟩ | ⟨q, q1⟩
        · exact Or.inl ⟨by decide, q1.imp id (fun ⟨j, a9, b9, c9⟩ => ⟨j, a9, by omega, c9⟩)⟩
        · exact absurd q hc49)⟩
                · refine lv_aload_n hx hb xd_Mo_newRequire_211 rfl (lv_at hl 2 rfl) ?_
                  refine va_get (D := D) (ci := 4) (v := .ref (mm 13)) (C := xR_Mo) (T := xT_Mo) (N := 31) hx hb hT xi_Mo hown hK.1 hP 0 rfl rfl 18 (by decide) (hT _ k4d_13) (fun _ h9 => h9) rfl xd_Mo_newRequire_212 ?_
                  refine lv_iload hx hb xd_Mo_newRequire_215 (lv_at hl 0 rfl) ?_
                  refine xn_iald (i := i) hx hb hK.1 hP 14 0 rfl rfl (by omega) (by decide) xd_Mo_newRequire_217 ?_
                  refine lv_iload hx hb xd_Mo_newRequire_218 (lv_at hl 5 rfl) ?_
                  refine lv_icmp_ne (tgt := 227) hx hb xd_Mo_newRequire_220 (by decide) (fun hc50 => ?_) (fun hc50 => ?_)
                  · refine lv_iconst (v := 0) hx hb xd_Mo_newRequire_227 (by decide) ?_
                    refine lv_istore hx hb xd_Mo_newRequire_228 hl (Nat.le_of_ble_eq_true rfl) rfl (fun ls hl => ?_)
                    have hl : lv_has ls 8 [(6, .int 0), (7, .int (nI i)), (0, .ref h), (2, .int th), (3, .int qt), (4, .int (nV (g 0) (wb wl w2) (we wl w2))), (5, .int (nI (nd - 1)))] := hl
                    refine lv_iinc (k := 1) (x := (nI i)) (v := (nI (i + 1))) hx hb xd_Mo_newRequire_230 hl rfl (xb_inc i 1) (Nat.le_of_ble_eq_true rfl) rfl (fun ls hl => ?_)
                    have hl : lv_has ls 8 [(7, .int (nI (i + 1))), (6, .int 0), (0, .ref h), (2, .int th), (3, .int qt), (4, .int (nV (g 0) (wb wl w2) (we wl w2))), (5, .int (nI (nd - 1)))] := hl
                    refine lv_goto (tgt := 184) hx hb xd_Mo_newRequire_233 (by decide) ?_
                    exact ih36 (i + 1, 0) _ _ _ (show 5 * (nd - 1) + rq1 - (i + 1) < 5 * (nd - 1) + rq1 - i by omega) (lv_sub hl [0, 1, 2, 3, 4, 5, 6] rfl) hP hD hS ⟨(show 5 * (nd - 1) ≤ (i + 1) from by first | assumption | omega), (show (i + 1) ≤ 5 * (nd - 1) + rq1 from by first | assumption | omega), (show (¬ 0 = 0 ∧ (g 4 (nd - 1) = nV (g 0) (wb wl w2) (we wl w2) ∨ ∃ j, 5 * (nd - 1) ≤ j ∧ j < (i + 1) ∧ g 13 j = nV (g 0) (wb wl w2) (we wl w2))) ∨ (0 = 0 ∧ ¬ g 4 (nd - 1) = nV (g 0) (wb wl w2) (we wl w2) ∧ ∀ j, 5 * (nd - 1) ≤ j → j < (i + 1) → ¬ g 13 j = nV (g 0) (wb wl w2) (we wl w2)) from by
        rcases htw with ⟨q, q1⟩ | ⟨q, q1, q2⟩
        · exact absurd hc49 q
        · refine Or.inr ⟨rfl, q1, fun j a9 b9 => ?_⟩
          rcases Nat.lt_or_ge j i with z | z
          · exact q2 j a9 z
          · rw [show j = i by omega]; exact hc50)⟩
                  · refine lv_iconst (v := 1) hx hb xd_Mo_newRequire_223 (by decide) ?_
                    refine lv_goto (tgt := 228) hx hb xd_Mo_newRequire_224 (by decide) ?_
                    refine lv_istore hx hb xd_Mo_newRequire_228 hl (Nat.le_of_ble_eq_true rfl) rfl (fun ls hl => ?_)
                    have hl : lv_has ls 8 [(6, .int 1), (7, .int (nI i)), (0, .ref h), (2, .int th), (3, .int qt), (4, .int (nV (g 0) (wb wl w2) (we wl w2))), (5, .int (nI (nd - 1)))] := hl
                    refine lv_iinc (k := 1) (x := (nI i)) (v := (nI (i + 1))) hx hb xd_Mo_newRequire_230 hl rfl (xb_inc i 1) (Nat.le_of_ble_eq_true rfl) rfl (fun ls hl => ?_)
                    have hl : lv_has ls 8 [(7, .int (nI (i + 1))), (6, .int 1), (0, .ref h), (2, .int th), (3, .int qt), (4, .int (nV (g 0) (wb wl w2) (we wl w2))), (5, .int (nI (nd - 1)))] := hl
                    refine lv_goto (tgt := 184) hx hb xd_Mo_newRequire_233 (by decide) ?_
                    exact ih36 (i + 1, 1) _ _ _ (show 5 * (nd - 1) + rq1 - (i + 1) < 5 * (nd - 1) + rq1 - i by omega) (lv_sub hl [0, 1, 2, 3, 4, 5, 6] rfl) hP hD hS ⟨(show 5 * (nd - 1) ≤ (i + 1) from by first | assumption | omega), (show (i + 1) ≤ 5 * (nd - 1) + rq1 from by first | assumption | omega), (show (¬ 1 = 0 ∧ (g 4 (nd - 1) = nV (g 0) (wb wl w2) (we wl w2) ∨ ∃ j, 5 * (nd - 1) ≤ j ∧ j < (i + 1) ∧ g 13 j = nV (g 0) (wb wl w2) (we wl w2))) ∨ (1 = 0 ∧ ¬ g 4 (nd - 1) = nV (g 0) (wb wl w2) (we wl w2) ∧ ∀ j, 5 * (nd - 1) ≤ j → j < (i + 1) → ¬ g 13 j = nV (g 0) (wb wl w2) (we wl w2)) from Or.inl ⟨by decide, Or.inr ⟨i, by omega, by omega, hc50⟩⟩)⟩
        · refine lv_iconst (v := (-1)) hx hb xd_Mo_newRequire_144 (by decide) ?_
          exact W.iret (v := (-1)) hx hb hr (fun t ht hW => ⟨⟨(-1), (v, g), rfl, ⟨hMI, rfl, Or.inl rfl, congrArg (Prod.mk v) (lR_no (fun q => q.2.1 ((by rw [hB9]; exact wN_in (by omega) : wN (g 0) wl (rqB (g 0) wl) = nV (g 0) (wb wl w2) (we wl w2)).trans hc8)))⟩, by rw [ht]; exact hP, hD⟩, hS.F ht⟩) hS.2.2 xd_Mo_newRequire_145
    refine lv_aload_n hx hb xd_Mo_newRequire_60 rfl (lv_at hl 2 rfl) ?_
    refine va_get (D := D) (ci := 4) (v := .int (v 3)) (C := xR_Mo) (T := xT_Mo) (N := 31) hx hb hT xi_Mo hown hK.1 hP 0 rfl rfl 4 (by decide) (hT _ k4d_0) (fun _ h9 => h9) rfl xd_Mo_newRequire_61 ?_
    refine xn_top (x := (v 3)) (y := nI wl.length) hwn ?_
    refine lv_iload_n hx hb xd_Mo_newRequire_64 rfl (lv_at hl 1 rfl) ?_
    refine lv_iconst (v := 1) hx hb xd_Mo_newRequire_65 (by decide) ?_
    refine lv_iadd hx hb xd_Mo_newRequire_66 ?_
    refine xn_top (y := nI (w1 + 1)) (nI_add w1 1) ?_
    refine xn_le (a := wl.length) (b := w1 + 1) (tgt := 104) hx hb xd_Mo_newRequire_67 (by decide) (by omega) (by omega) (fun hc51 => ?_) (fun hc51 => ?_)
    · refine lv_iconst (v := 0) hx hb xd_Mo_newRequire_104 (by decide) ?_
      refine lv_istore_n hx hb xd_Mo_newRequire_105 rfl hl (Nat.le_of_ble_eq_true rfl) rfl (fun ls hl => ?_)
      have hl : lv_has ls 8 [(3, .int 0), (2, .int th), (1, .int (nI w1)), (0, .ref h)] := hl
      refine lv_iload_n hx hb xd_Mo_newRequire_106 rfl (lv_at hl 0 rfl) ?_
      refine xz_eq (a := 0) (tgt := 116) hx hb xd_Mo_newRequire_107 (by decide) (by omega) (fun _ => ?_) (fun hc52 => absurd hc52 (by omega))
      refine lv_iload_n hx hb xd_Mo_newRequire_116 rfl (lv_at hl 2 rfl) ?_
      refine lv_istore_n hx hb xd_Mo_newRequire_117 rfl hl (Nat.le_of_ble_eq_true rfl) rfl (fun ls hl => ?_)
      have hl : lv_has ls 8 [(1, .int (nI w1)), (3, .int 0), (2, .int th), (0, .ref h)] := hl
      exact jn2 (0, w1) _ _ _ (lv_sub hl [1, 0, 2, 3] rfl) hP hD hS (show (0 = 1 ∧ rqO (g 0) wl ∧ w1 = w1 + 1) ∨ (0 = 0 ∧ ¬ rqO (g 0) wl ∧ w1 = w1) from Or.inr ⟨rfl, by unfold rqO; rw [hA9]; exact fun q => absurd q.1 (by omega), rfl⟩)
    · have hbew1 := (hwlr w1 (by omega)).1
      have hew1 := (hwlr w1 (by omega)).2
      have ebw1 := (hws w1 (by omega)).1
      have eew1 := (hws w1 (by omega)).2
      refine lv_aload_n hx hb xd_Mo_newRequire_70 rfl (lv_at hl 2 rfl) ?_
      refine lv_iload_n hx hb xd_Mo_newRequire_71 rfl (lv_at hl 1 rfl) ?_
      refine lv_bipush (v := 115) hx hb xd_Mo_newRequire_72 (by decide) ?_
      refine lv_bipush (v := 116) hx hb xd_Mo_newRequire_74 (by decide) ?_
      refine lv_bipush (v := 97) hx hb xd_Mo_newRequire_76 (by decide) ?_
      refine lv_bipush (v := 116) hx hb xd_Mo_newRequire_78 (by decide) ?_
      refine lv_bipush (v := 105) hx hb xd_Mo_newRequire_80 (by decide) ?_
      have hFc := va_free (wc := (moW h mm kA v g)) hD hS hA [0, 1, 2, 3, 4, 5, 6, 7, 8, 9, 10, 11, 12, 13, 14, 15, 16, 17, 18, 19, 20, 21, 22, 23, 24, 25] rfl
      refine va_calli (va_runS (As := [.int 115, .int 116, .int 97, .int 116, .int 105]) (rest := [.int (nI w1), .ref h]) ⟨hx, hb, hml, hown, hT⟩ (xc_Mo_codeX l D kA H.size h mm v g 115 116 97 116 105) (cwS 5 hT (wT_S0 k4d_17 k4d_18 k4d_5 k4d_16) rfl rfl rfl (by decide +kernel) ⟨Nat.le_of_ble_eq_true rfl, Nat.le_of_ble_eq_true rfl⟩) (x_preS hK hP hD) rfl rfl hl.1 rfl (lv_room (Nat.le_of_ble_eq_true rfl)) xd_Mo_newRequire_82 ⟨Nat.le_of_ble_eq_true rfl, Nat.le_of_ble_eq_true rfl⟩) hS (fun q _ h => hFc q h) hFc (fun r53 u54 t H1 locs ht hvm hp55 hB hz1 hk1 hS => ?_)
      obtain ⟨hP1, hD1⟩ := hB
      rw [ht] at hP1
      have hD1 := hD1.weaken (fun _ _ _ h => hFc _ h)
      generalize H1 = H at hP1 hS ⊢
      have hP := hP1
      have hD := hD1
      have hP : va_P D xcl (moW h mm kA v g) H := hP
      have hD : va_D A (moW h mm kA v g) := hD
      have hp55 : r53 = cdV 115 116 97 116 105 := hp55
      subst hp55
      have hP : va_P D xcl (moW h mm kA v g) H := hP
      have hD : va_D A (moW h mm kA v g) := hD
      refine lv_bipush (v := 99) hx hb xd_Mo_newRequire_85 (by decide) ?_
      refine lv_iconst (v := 0) hx hb xd_Mo_newRequire_87 (by decide) ?_
      refine lv_iconst (v := 0) hx hb xd_Mo_newRequire_88 (by decide) ?_
      refine lv_iconst (v := 0) hx hb xd_Mo_newRequire_89 (by decide) ?_
      refine lv_iconst (v := 0) hx hb xd_Mo_newRequire_90 (by decide) ?_
      have hFc := va_free (wc := (moW h mm kA v g)) hD hS hA [0, 1, 2, 3, 4, 5, 6, 7, 8, 9, 10, 11, 12, 13, 14, 15, 16, 17, 18, 19, 20, 21, 22, 23, 24, 25] rfl
      refine va_calli (va_runS (As := [.int 99, .int 0, .int 0, .int 0, .int 0]) (rest := [.int (cdV 115 116 97 116 105), .int (nI w1), .ref h]) ⟨hx, hb, hml, hown, hT⟩ (xc_Mo_codeX l D kA H.size h mm v g 99 0 0 0 0) (cwS 5 hT (wT_S0 k4d_17 k4d_18 k4d_5 k4d_16) rfl rfl rfl (by decide +kernel) ⟨Nat.le_of_ble_eq_true rfl, Nat.le_of_ble_eq_true rfl⟩) (x_preS hK hP hD) rfl rfl hl.1 rfl (lv_room (Nat.le_of_ble_eq_true rfl)) xd_Mo_newRequire_91 ⟨Nat.le_of_ble_eq_true rfl, Nat.le_of_ble_eq_true rfl⟩) hS (fun q _ h => hFc q h) hFc (fun r56 u57 t H1 locs ht hvm hp58 hB hz1 hk1 hS => ?_)
      obtain ⟨hP1, hD1⟩ := hB
      rw [ht] at hP1
      have hD1 := hD1.weaken (fun _ _ _ h => hFc _ h)
      generalize H1 = H at hP1 hS ⊢
      have hP := hP1
      have hD := hD1
      have hP : va_P D xcl (moW h mm kA v g) H := hP
      have hD : va_D A (moW h mm kA v g) := hD
      have hp58 : r56 = cdV 99 0 0 0 0 := hp58
      subst hp58
      have hP : va_P D xcl (moW h mm kA v g) H := hP
      have hD : va_D A (moW h mm kA v g) := hD
      have hFc := va_free (wc := (moW h mm kA v g)) hD hS hA [0, 1, 2, 3, 4, 5, 6, 7, 8, 9, 10, 11, 12, 13, 14, 15, 16, 17, 18, 19, 20, 21, 22, 23, 24, 25] rfl
      refine va_calli (va_runV (As := [.int (nI w1), .int (cdV 115 116 97 116 105), .int (cdV 99 0 0 0 0)]) (rest := []) ⟨hx, hb, hml, hown, hT⟩ (xc_Mo_saysX l D kA H.size h mm v g w1 (wb wl w1) (we wl w1) (cdV 115 116 97 116 105) (cdV 99 0 0 0 0) (by first | assumption | omega) (by first | assumption | omega) (by first | assumption | omega) (by first | assumption | omega) (by first | assumption | omega) (by first | assumption | omega)) (cwV 3 hT (wT_V k4d_20 k4d_21 k4d_22 k4d_5 k4d_19) rfl rfl rfl (by decide +kernel) ⟨Nat.le_of_ble_eq_true rfl, Nat.le_of_ble_eq_true rfl⟩) (x_preV hK hP hD 0 rfl rfl) rfl rfl hl.1 rfl (lv_room (Nat.le_of_ble_eq_true rfl)) xd_Mo_newRequire_94 ⟨Nat.le_of_ble_eq_true rfl, Nat.le_of_ble_eq_true rfl⟩) hS (fun q _ h => hFc q h) hFc (fun r59 u60 t H1 locs ht hvm hp61 hB hz1 hk1 hS => ?_)
      obtain ⟨hP1, hD1⟩ := hB
      rw [ht] at hP1
      have hD1 := hD1.weaken (fun _ _ _ h => hFc _ h)
      generalize H1 = H at hP1 hS ⊢
      have hP := hP1
      have hD := hD1
      have hP : va_P D xcl (moW h mm kA v g) H := hP
      have hD : va_D A (moW h mm kA v g) := hD
      rcases hp61 with ⟨rfl, z62⟩ | ⟨rfl, z63⟩
      · refine xz_eq (a := 1) (tgt := 104) hx hb xd_Mo_newRequire_97 (by decide) (by omega) (fun hc64 => absurd hc64 (by omega)) (fun _ => ?_)
        refine lv_iconst (v := 1) hx hb xd_Mo_newRequire_100 (by decide) ?_
        refine lv_goto (tgt := 105) hx hb xd_Mo_newRequire_101 (by decide) ?_
        refine lv_istore_n hx hb xd_Mo_newRequire_105 rfl hl (Nat.le_of_ble_eq_true rfl) rfl (fun ls hl => ?_)
        have hl : lv_has ls 8 [(3, .int 1), (2, .int th), (1, .int (nI w1)), (0, .ref h)] := hl
        refine lv_iload_n hx hb xd_Mo_newRequire_106 rfl (lv_at hl 0 rfl) ?_
        refine xz_eq (a := 1) (tgt := 116) hx hb xd_Mo_newRequire_107 (by decide) (by omega) (fun hc65 => absurd hc65 (by omega)) (fun _ => ?_)
        refine lv_iload_n hx hb xd_Mo_newRequire_110 rfl (lv_at hl 2 rfl) ?_
        refine lv_iconst (v := 1) hx hb xd_Mo_newRequire_111 (by decide) ?_
        refine lv_iadd hx hb xd_Mo_newRequire_112 ?_
        refine xn_top (y := nI (w1 + 1)) (nI_add w1 1) ?_
        refine lv_goto (tgt := 117) hx hb xd_Mo_newRequire_113 (by decide) ?_
        refine lv_istore_n hx hb xd_Mo_newRequire_117 rfl hl (Nat.le_of_ble_eq_true rfl) rfl (fun ls hl => ?_)
        have hl : lv_has ls 8 [(1, .int (nI (w1 + 1))), (3, .int 1), (2, .int th), (0, .ref h)] := hl
        exact jn2 (1, w1 + 1) _ _ _ (lv_sub hl [1, 0, 2, 3] rfl) hP hD hS (show (1 = 1 ∧ rqO (g 0) wl ∧ (w1 + 1) = w1 + 1) ∨ (1 = 0 ∧ ¬ rqO (g 0) wl ∧ (w1 + 1) = w1) from Or.inl ⟨rfl, by unfold rqO; rw [hA9]; exact ⟨by omega, by omega, (q_St (by omega)).mp z62⟩, rfl⟩)
      · refine xz_eq (a := 0) (tgt := 104) hx hb xd_Mo_newRequire_97 (by decide) (by omega) (fun _ => ?_) (fun hc66 => absurd hc66 (by omega))
        refine lv_iconst (v := 0) hx hb xd_Mo_newRequire_104 (by decide) ?_
        refine lv_istore_n hx hb xd_Mo_newRequire_105 rfl hl (Nat.le_of_ble_eq_true rfl) rfl (fun ls hl => ?_)
        have hl : lv_has ls 8 [(3, .int 0), (2, .int th), (1, .int (nI w1)), (0, .ref h)] := hl
        refine lv_iload_n hx hb xd_Mo_newRequire_106 rfl (lv_at hl 0 rfl) ?_
        refine xz_eq (a := 0) (tgt := 116) hx hb xd_Mo_newRequire_107 (by decide) (by omega) (fun _ => ?_) (fun hc67 => absurd hc67 (by omega))
        refine lv_iload_n hx hb xd_Mo_newRequire_116 rfl (lv_at hl 2 rfl) ?_
        refine lv_istore_n hx hb xd_Mo_newRequire_117 rfl hl (Nat.le_of_ble_eq_true rfl) rfl (fun ls hl => ?_)
        have hl : lv_has ls 8 [(1, .int (nI w1)), (3, .int 0), (2, .int th), (0, .ref h)] := hl
        exact jn2 (0, w1) _ _ _ (lv_sub hl [1, 0, 2, 3] rfl) hP hD hS (show (0 = 1 ∧ rqO (g 0) wl ∧ w1 = w1 + 1) ∨ (0 = 0 ∧ ¬ rqO (g 0) wl ∧ w1 = w1) from Or.inr ⟨rfl, by unfold rqO; rw [hA9]; exact fun q => z63 ((q_St (by omega)).mpr q.2.2), rfl⟩)
  refine lv_aload_n hx hb xd_Mo_newRequire_2 rfl (lv_at hl 1 rfl) ?_
  refine va_get (D := D) (ci := 4) (v := .int (v 3)) (C := xR_Mo) (T := xT_Mo) (N := 31) hx hb hT xi_Mo hown hK.1 hP 0 rfl rfl 4 (by decide) (hT _ k4d_0) (fun _ h9 => h9) rfl xd_Mo_newRequire_3 ?_
  refine xn_top (x := (v 3)) (y := nI wl.length) hwn ?_
  refine lv_iconst (v := 2) hx hb xd_Mo_newRequire_6 (by decide) ?_
  refine xn_le (a := wl.length) (b := 2) (tgt := 48) hx hb xd_Mo_newRequire_7 (by decide) (by omega) (by omega) (fun hc68 => ?_) (fun hc68 => ?_)
  · refine lv_iconst (v := 0) hx hb xd_Mo_newRequire_48 (by decide) ?_
    refine lv_istore_n hx hb xd_Mo_newRequire_49 rfl hl (Nat.le_of_ble_eq_true rfl) rfl (fun ls hl => ?_)
    have hl : lv_has ls 8 [(2, .int 0), (1, .int 1), (0, .ref h)] := hl
    refine lv_iload_n hx hb xd_Mo_newRequire_50 rfl (lv_at hl 0 rfl) ?_
    refine xz_eq (a := 0) (tgt := 58) hx hb xd_Mo_newRequire_51 (by decide) (by omega) (fun _ => ?_) (fun hc69 => absurd hc69 (by omega))
    refine lv_iconst (v := 1) hx hb xd_Mo_newRequire_58 (by decide) ?_
    refine lv_istore_n hx hb xd_Mo_newRequire_59 rfl hl (Nat.le_of_ble_eq_true rfl) rfl (fun ls hl => ?_)
    have hl : lv_has ls 8 [(1, .int 1), (2, .int 0), (0, .ref h)] := hl
    exact jn1 (0, 1) _ _ _ (lv_sub hl [1, 0, 2] rfl) hP hD hS (show (0 = 1 ∧ rqT (g 0) wl ∧ 1 = 2) ∨ (0 = 0 ∧ ¬ rqT (g 0) wl ∧ 1 = 1) from Or.inr ⟨rfl, fun q => absurd q.1 (by omega), rfl⟩)
  · have hbe1 := (hwlr 1 (by omega)).1
    have he1 := (hwlr 1 (by omega)).2
    have eb1 := (hws 1 (by omega)).1
    have ee1 := (hws 1 (by omega)).2
    refine lv_aload_n hx hb xd_Mo_newRequire_10 rfl (lv_at hl 1 rfl) ?_
    refine lv_iconst (v := 1) hx hb xd_Mo_newRequire_11 (by decide) ?_
    refine lv_bipush (v := 116) hx hb xd_Mo_newRequire_12 (by decide) ?_
    refine lv_bipush (v := 114) hx hb xd_Mo_newRequire_14 (by decide) ?_
    refine lv_bipush (v := 97) hx hb xd_Mo_newRequire_16 (by decide) ?_
    refine lv_bipush (v := 110) hx hb xd_Mo_newRequire_18 (by decide) ?_
    refine lv_bipush (v := 115) hx hb xd_Mo_newRequire_20 (by decide) ?_
    have hFc := va_free (wc := (moW h mm kA v g)) hD hS hA [0, 1, 2, 3, 4, 5, 6, 7, 8, 9, 10, 11, 12, 13, 14, 15, 16, 17, 18, 19, 20, 21, 22, 23, 24, 25] rfl
    refine va_calli (va_runS (As := [.int 116, .int 114, .int 97, .int 110, .int 115]) (rest := [.int 1, .ref h]) ⟨hx, hb, hml, hown, hT⟩ (xc_Mo_codeX l D kA s.heap.size h mm v g 116 114 97 110 115) (cwS 5 hT (wT_S0 k4d_17 k4d_18 k4d_5 k4d_16) rfl rfl rfl (by decide +kernel) ⟨Nat.le_of_ble_eq_true rfl, Nat.le_of_ble_eq_true rfl⟩) (x_preS hK hP hD) rfl rfl hl.1 rfl (lv_room (Nat.le_of_ble_eq_true rfl)) xd_Mo_newRequire_22 ⟨Nat.le_of_ble_eq_true rfl, Nat.le_of_ble_eq_true rfl⟩) hS (fun q _ h => hFc q h) hFc (fun r70 u71 t H1 locs ht hvm hp72 hB hz1 hk1 hS => ?_)
    obtain ⟨hP1, hD1⟩ := hB
    rw [ht] at hP1
    have hD1 := hD1.weaken (fun _ _ _ h => hFc _ h)
    generalize H1 = H at hP1 hS ⊢
    have hP := hP1
    have hD := hD1
    have hP : va_P D xcl (moW h mm kA v g) H := hP
    have hD : va_D A (moW h mm kA v g) := hD
    have hp72 : r70 = cdV 116 114 97 110 115 := hp72
    subst hp72
    have hP : va_P D xcl (moW h mm kA v g) H := hP
    have hD : va_D A (moW h mm kA v g) := hD
    refine lv_bipush (v := 105) hx hb xd_Mo_newRequire_25 (by decide) ?_
    refine lv_bipush (v := 116) hx hb xd_Mo_newRequire_27 (by decide) ?_
    refine lv_bipush (v := 105) hx hb xd_Mo_newRequire_29 (by decide) ?_
    refine lv_bipush (v := 118) hx hb xd_Mo_newRequire_31 (by decide) ?_
    refine lv_bipush (v := 101) hx hb xd_Mo_newRequire_33 (by decide) ?_
    have hFc := va_free (wc := (moW h mm kA v g)) hD hS hA [0, 1, 2, 3, 4, 5, 6, 7, 8, 9, 10, 11, 12, 13, 14, 15, 16, 17, 18, 19, 20, 21, 22, 23, 24, 25] rfl
    refine va_calli (va_runS (As := [.int 105, .int 116, .int 105, .int 118, .int 101]) (rest := [.int (cdV 116 114 97 110 115), .int 1, .ref h]) ⟨hx, hb, hml, hown, hT⟩ (xc_Mo_codeX l D kA H.size h mm v g 105 116 105 118 101) (cwS 5 hT (wT_S0 k4d_17 k4d_18 k4d_5 k4d_16) rfl rfl rfl (by decide +kernel) ⟨Nat.le_of_ble_eq_true rfl, Nat.le_of_ble_eq_true rfl⟩) (x_preS hK hP hD) rfl rfl hl.1 rfl (lv_room (Nat.le_of_ble_eq_true rfl)) xd_Mo_newRequire_35 ⟨Nat.le_of_ble_eq_true rfl, Nat.le_of_ble_eq_true rfl⟩) hS (fun q _ h => hFc q h) hFc (fun r73 u74 t H1 locs ht hvm hp75 hB hz1 hk1 hS => ?_)
    obtain ⟨hP1, hD1⟩ := hB
    rw [ht] at hP1
    have hD1 := hD1.weaken (fun _ _ _ h => hFc _ h)
    generalize H1 = H at hP1 hS ⊢
    have hP := hP1
    have hD := hD1
    have hP : va_P D xcl (moW h mm kA v g) H := hP
    have hD : va_D A (moW h mm kA v g) := hD
    have hp75 : r73 = cdV 105 116 105 118 101 := hp75
    subst hp75
    have hP : va_P D xcl (moW h mm kA v g) H := hP
    have hD : va_D A (moW h mm kA v g) := hD
    have hFc := va_free (wc := (moW h mm kA v g)) hD hS hA [0, 1, 2, 3, 4, 5, 6, 7, 8, 9, 10, 11, 12, 13, 14, 15, 16, 17, 18, 19, 20, 21, 22, 23, 24, 25] rfl
    refine va_calli (va_runV (As := [.int 1, .int (cdV 116 114 97 110 115), .int (cdV 105 116 105 118 101)]) (rest := []) ⟨hx, hb, hml, hown, hT⟩ (xc_Mo_saysX l D kA H.size h mm v g 1 (wb wl 1) (we wl 1) (cdV 116 114 97 110 115) (cdV 105 116 105 118 101) (by first | assumption | omega) (by first | assumption | omega) (by first | assumption | omega) (by first | assumption | omega) (by first | assumption | omega) (by first | assumption | omega)) (cwV 3 hT (wT_V k4d_20 k4d_21 k4d_22 k4d_5 k4d_19) rfl rfl rfl (by decide +kernel) ⟨Nat.le_of_ble_eq_true rfl, Nat.le_of_ble_eq_true rfl⟩) (x_preV hK hP hD 0 rfl rfl) rfl rfl hl.1 rfl (lv_room (Nat.le_of_ble_eq_true rfl)) xd_Mo_newRequire_38 ⟨Nat.le_of_ble_eq_true rfl, Nat.le_of_ble_eq_true rfl⟩) hS (fun q _ h => hFc q h) hFc (fun r76 u77 t H1 locs ht hvm hp78 hB hz1 hk1 hS => ?_)
    obtain ⟨hP1, hD1⟩ := hB
    rw [ht] at hP1
    have hD1 := hD1.weaken (fun _ _ _ h => hFc _ h)
    generalize H1 = H at hP1 hS ⊢
    have hP := hP1
    have hD := hD1
    have hP : va_P D xcl (moW h mm kA v g) H := hP
    have hD : va_D A (moW h mm kA v g) := hD
    rcases hp78 with ⟨rfl, z79⟩ | ⟨rfl, z80⟩
    · refine xz_eq (a := 1) (tgt := 48) hx hb xd_Mo_newRequire_41 (by decide) (by omega) (fun hc81 => absurd hc81 (by omega)) (fun _ => ?_)
      refine lv_iconst (v := 1) hx hb xd_Mo_newRequire_44 (by decide) ?_
      refine lv_goto (tgt := 49) hx hb xd_Mo_newRequire_45 (by decide) ?_
      refine lv_istore_n hx hb xd_Mo_newRequire_49 rfl hl (Nat.le_of_ble_eq_true rfl) rfl (fun ls hl => ?_)
      have hl : lv_has ls 8 [(2, .int 1), (1, .int 1), (0, .ref h)] := hl
      refine lv_iload_n hx hb xd_Mo_newRequire_50 rfl (lv_at hl 0 rfl) ?_
      refine xz_eq (a := 1) (tgt := 58) hx hb xd_Mo_newRequire_51 (by decide) (by omega) (fun hc82 => absurd hc82 (by omega)) (fun _ => ?_)
      refine lv_iconst (v := 2) hx hb xd_Mo_newRequire_54 (by decide) ?_
      refine lv_goto (tgt := 59) hx hb xd_Mo_newRequire_55 (by decide) ?_
      refine lv_istore_n hx hb xd_Mo_newRequire_59 rfl hl (Nat.le_of_ble_eq_true rfl) rfl (fun ls hl => ?_)
      have hl : lv_has ls 8 [(1, .int 2), (2, .int 1), (0, .ref h)] := hl
      exact jn1 (1, 2) _ _ _ (lv_sub hl [1, 0, 2] rfl) hP hD hS (show (1 = 1 ∧ rqT (g 0) wl ∧ 2 = 2) ∨ (1 = 0 ∧ ¬ rqT (g 0) wl ∧ 2 = 1) from Or.inl ⟨rfl, ⟨by omega, by omega, (q_Tr (by omega)).mp z79⟩, rfl⟩)
    · refine xz_eq (a := 0) (tgt := 48) hx hb xd_Mo_newRequire_41 (by decide) (by omega) (fun _ => ?_) (fun hc83 => absurd hc83 (by omega))
      refine lv_iconst (v := 0) hx hb xd_Mo_newRequire_48 (by decide) ?_
      refine lv_istore_n hx hb xd_Mo_newRequire_49 rfl hl (Nat.le_of_ble_eq_true rfl) rfl (fun ls hl => ?_)
      have hl : lv_has ls 8 [(2, .int 0), (1, .int 1), (0, .ref h)] := hl
      refine lv_iload_n hx hb xd_Mo_newRequire_50 rfl (lv_at hl 0 rfl) ?_
      refine xz_eq (a := 0) (tgt := 58) hx hb xd_Mo_newRequire_51 (by decide) (by omega) (fun _ => ?_) (fun hc84 => absurd hc84 (by omega))
      refine lv_iconst (v := 1) hx hb xd_Mo_newRequire_58 (by decide) ?_
      refine lv_istore_n hx hb xd_Mo_newRequire_59 rfl hl (Nat.le_of_ble_eq_true rfl) rfl (fun ls hl => ?_)
      have hl : lv_has ls 8 [(1, .int 1), (2, .int 0), (0, .ref h)] := hl
      exact jn1 (0, 1) _ _ _ (lv_sub hl [1, 0, 2] rfl) hP hD hS (show (0 = 1 ∧ rqT (g 0) wl ∧ 1 = 2) ∨ (0 = 0 ∧ ¬ rqT (g 0) wl ∧ 1 = 1) from Or.inr ⟨rfl, fun q => z80 ((q_Tr (by omega)).mpr q.2.2), rfl⟩)
