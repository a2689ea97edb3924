theorem k7a_0 : (Cond.code xy_Mo_split xb_Mo_split 2 none) ∈ wT := wT_t (List.mem_append_right _ (List.mem_append_right _ (List.mem_append_right _ (List.mem_append_left _ (List.mem_of_getElem? (i := 193) rfl))))) rfl
theorem k7a_1 : (Cond.methodLink "LayerDeskModel" 101 xy_Mo_split) ∈ wT := wT_t (List.mem_append_right _ (List.mem_append_right _ (List.mem_append_right _ (List.mem_append_left _ (List.mem_of_getElem? (i := 190) rfl))))) rfl
theorem k7a_2 : (Cond.instanceMethod xy_Mo_split) ∈ wT := wT_t (List.mem_append_right _ (List.mem_append_right _ (List.mem_append_right _ (List.mem_append_left _ (List.mem_of_getElem? (i := 192) rfl))))) rfl
theorem k7a_3 : (Cond.selects "LayerDeskModel" xy_Mo_split xy_Mo_split) ∈ wT := wT_s (q := (xy_Mo_split, 31)) (by decide +kernel) rfl
theorem k7a_4 : (Cond.initialized "LayerDeskModel") ∈ wT := wT_t (List.mem_append_left _ (List.mem_of_getElem? (i := 5) rfl)) rfl
theorem k7a_5 : (Cond.fieldLink "LayerDeskModel" 94 "LayerDeskModel" "words" "I") ∈ wT := wT_t (List.mem_append_right _ (List.mem_append_right _ (List.mem_append_right _ (List.mem_append_left _ (List.mem_of_getElem? (i := 88) rfl))))) rfl
theorem k7a_6 : (Cond.code xy_Mo_nameOf xb_Mo_nameOf 4 (some .int)) ∈ wT := wT_t (List.mem_append_right _ (List.mem_append_right _ (List.mem_append_right _ (List.mem_append_left _ (List.mem_of_getElem? (i := 212) rfl))))) rfl
theorem k7a_7 : (Cond.methodLink "LayerDeskModel" 133 xy_Mo_nameOf) ∈ wT := wT_t (List.mem_append_right _ (List.mem_append_right _ (List.mem_append_right _ (List.mem_append_left _ (List.mem_of_getElem? (i := 209) rfl))))) rfl
theorem k7a_8 : (Cond.instanceMethod xy_Mo_nameOf) ∈ wT := wT_t (List.mem_append_right _ (List.mem_append_right _ (List.mem_append_right _ (List.mem_append_left _ (List.mem_of_getElem? (i := 211) rfl))))) rfl
theorem k7a_9 : (Cond.selects "LayerDeskModel" xy_Mo_nameOf xy_Mo_nameOf) ∈ wT := wT_s (q := (xy_Mo_nameOf, 31)) (by decide +kernel) rfl
theorem k7a_10 : (Cond.fieldLink "LayerDeskModel" 87 "LayerDeskModel" "fault" "I") ∈ wT := wT_t (List.mem_append_right _ (List.mem_append_right _ (List.mem_append_right _ (List.mem_append_left _ (List.mem_of_getElem? (i := 84) rfl))))) rfl
theorem k7a_11 : (Cond.code xy_Mo_oneName xb_Mo_oneName 1 (some .int)) ∈ wT := wT_t (List.mem_append_right _ (List.mem_append_right _ (List.mem_append_right _ (List.mem_append_right _ (List.mem_of_getElem? (i := 100) rfl))))) rfl
theorem k7a_12 : (Cond.methodLink "LayerDeskModel" 205 xy_Mo_oneName) ∈ wT := wT_t (List.mem_append_right _ (List.mem_append_right _ (List.mem_append_right _ (List.mem_append_right _ (List.mem_of_getElem? (i := 97) rfl))))) rfl
theorem k7a_13 : (Cond.instanceMethod xy_Mo_oneName) ∈ wT := wT_t (List.mem_append_right _ (List.mem_append_right _ (List.mem_append_right _ (List.mem_append_right _ (List.mem_of_getElem? (i := 99) rfl))))) rfl
theorem k7a_14 : (Cond.selects "LayerDeskModel" xy_Mo_oneName xy_Mo_oneName) ∈ wT := wT_s (q := (xy_Mo_oneName, 31)) (by decide +kernel) rfl
theorem k7a_15 : (Cond.code xy_Mo_moduleOf xb_Mo_moduleOf 3 (some .int)) ∈ wT := wT_t (List.mem_append_right _ (List.mem_append_right _ (List.mem_append_right _ (List.mem_append_right _ (List.mem_of_getElem? (i := 84) rfl))))) rfl
theorem k7a_16 : (Cond.methodLink "LayerDeskModel" 199 xy_Mo_moduleOf) ∈ wT := wT_t (List.mem_append_right _ (List.mem_append_right _ (List.mem_append_right _ (List.mem_append_right _ (List.mem_of_getElem? (i := 81) rfl))))) rfl
theorem k7a_17 : (Cond.instanceMethod xy_Mo_moduleOf) ∈ wT := wT_t (List.mem_append_right _ (List.mem_append_right _ (List.mem_append_right _ (List.mem_append_right _ (List.mem_of_getElem? (i := 83) rfl))))) rfl
theorem k7a_18 : (Cond.selects "LayerDeskModel" xy_Mo_moduleOf xy_Mo_moduleOf) ∈ wT := wT_s (q := (xy_Mo_moduleOf, 31)) (by decide +kernel) rfl
theorem k7a_19 : (Cond.code xy_Mo_fails xb_Mo_fails 2 (some .int)) ∈ wT := wT_t (List.mem_append_right _ (List.mem_append_right _ (List.mem_append_right _ (List.mem_append_right _ (List.mem_of_getElem? (i := 4) rfl))))) rfl
theorem k7a_20 : (Cond.methodLink "LayerDeskModel" 129 xy_Mo_fails) ∈ wT := wT_t (List.mem_append_right _ (List.mem_append_right _ (List.mem_append_right _ (List.mem_append_right _ (List.mem_of_getElem? (i := 1) rfl))))) rfl
theorem k7a_21 : (Cond.instanceMethod xy_Mo_fails) ∈ wT := wT_t (List.mem_append_right _ (List.mem_append_right _ (List.mem_append_right _ (List.mem_append_right _ (List.mem_of_getElem? (i := 3) rfl))))) rfl
theorem k7a_22 : (Cond.selects "LayerDeskModel" xy_Mo_fails xy_Mo_fails) ∈ wT := wT_s (q := (xy_Mo_fails, 31)) (by decide +kernel) rfl
theorem k7a_23 : (Cond.code xy_Mo_packageOf xb_Mo_packageOf 4 (some .int)) ∈ wT := wT_t (List.mem_append_right _ (List.mem_append_right _ (List.mem_append_right _ (List.mem_append_left _ (List.mem_of_getElem? (i := 224) rfl))))) rfl
theorem k7a_24 : (Cond.methodLink "LayerDeskModel" 143 xy_Mo_packageOf) ∈ wT := wT_t (List.mem_append_right _ (List.mem_append_right _ (List.mem_append_right _ (List.mem_append_left _ (List.mem_of_getElem? (i := 221) rfl))))) rfl
theorem k7a_25 : (Cond.instanceMethod xy_Mo_packageOf) ∈ wT := wT_t (List.mem_append_right _ (List.mem_append_right _ (List.mem_append_right _ (List.mem_append_left _ (List.mem_of_getElem? (i := 223) rfl))))) rfl
theorem k7a_26 : (Cond.selects "LayerDeskModel" xy_Mo_packageOf xy_Mo_packageOf) ∈ wT := wT_s (q := (xy_Mo_packageOf, 31)) (by decide +kernel) rfl
theorem k7a_27 : (Cond.code xy_Mo_reading xb_Mo_reading 7 none) ∈ wT := wT_t (List.mem_append_right _ (List.mem_append_right _ (List.mem_append_right _ (List.mem_append_right _ (List.mem_of_getElem? (i := 48) rfl))))) rfl
theorem k7a_28 : (Cond.methodLink "LayerDeskModel" 171 xy_Mo_reading) ∈ wT := wT_t (List.mem_append_right _ (List.mem_append_right _ (List.mem_append_right _ (List.mem_append_right _ (List.mem_of_getElem? (i := 45) rfl))))) rfl
theorem k7a_29 : (Cond.instanceMethod xy_Mo_reading) ∈ wT := wT_t (List.mem_append_right _ (List.mem_append_right _ (List.mem_append_right _ (List.mem_append_right _ (List.mem_of_getElem? (i := 47) rfl))))) rfl
theorem k7a_30 : (Cond.selects "LayerDeskModel" xy_Mo_reading xy_Mo_reading) ∈ wT := wT_s (q := (xy_Mo_reading, 31)) (by decide +kernel) rfl
theorem k7a_31 : (Cond.fieldLink "LayerDeskModel" 84 "LayerDeskModel" "seen" "[Z") ∈ wT := wT_t (List.mem_append_right _ (List.mem_append_right _ (List.mem_append_right _ (List.mem_append_left _ (List.mem_of_getElem? (i := 114) rfl))))) rfl
theorem k7a_32 : (Cond.fieldLink "LayerDeskModel" 23 "LayerDeskModel" "name" "[I") ∈ wT := wT_t (List.mem_append_right _ (List.mem_append_right _ (List.mem_append_right _ (List.mem_append_left _ (List.mem_of_getElem? (i := 93) rfl))))) rfl
theorem k7a_33 : (Cond.code xy_Mo_exports xb_Mo_exports 3 (some .boolean)) ∈ wT := wT_t (List.mem_append_right _ (List.mem_append_right _ (List.mem_append_right _ (List.mem_append_right _ (List.mem_of_getElem? (i := 52) rfl))))) rfl
theorem k7a_34 : (Cond.methodLink "LayerDeskModel" 175 xy_Mo_exports) ∈ wT := wT_t (List.mem_append_right _ (List.mem_append_right _ (List.mem_append_right _ (List.mem_append_right _ (List.mem_of_getElem? (i := 49) rfl))))) rfl
theorem k7a_35 : (Cond.instanceMethod xy_Mo_exports) ∈ wT := wT_t (List.mem_append_right _ (List.mem_append_right _ (List.mem_append_right _ (List.mem_append_right _ (List.mem_of_getElem? (i := 51) rfl))))) rfl
theorem k7a_36 : (Cond.selects "LayerDeskModel" xy_Mo_exports xy_Mo_exports) ∈ wT := wT_s (q := (xy_Mo_exports, 31)) (by decide +kernel) rfl
set_option maxHeartbeats 4000000 in
set_option maxRecDepth 100000 in
theorem xc_Mo_oneNameA (l : Launch) (D : va_G) (kA : Nat → ClassId) (sz h : Nat) (mm : Nat → Nat) (v : Nat → Int32) (g : Nat → Nat → Int32) (wr : Nat) (hwr : v 2 = nI wr) (hwr40 : wr ≤ 40) : Met l xy_Mo_oneName (.code xy_Mo_oneName xb_Mo_oneName 1 (some .int) :: wT) { frames := 1, cells := 0, slots := 0, locals := 23 } (va_Pc [.ref h] (xPre D kA sz (moW h mm kA v g))) (va_Qi (fun (r : Int32) (u : (Nat → Int32) × (Nat → Nat → Int32)) => u.1 = va_up (va_up v 2 0) 3 (nI (w_all (g 0) wr).length) ∧ (∀ j, j ≠ 1 → j ≠ 2 → u.2 j = g j) ∧ r = n1 (g 0) (w_all (g 0) wr)) (fun (u : (Nat → Int32) × (Nat → Nat → Int32)) t => va_P D xcl (moW h mm kA u.1 u.2) t.heap ∧ va_D (va_A (moW h mm kA v g) sz) (moW h mm kA u.1 u.2)) (va_A (moW h mm kA v g) sz)) 0 0 (va_A (moW h mm kA v g) sz) := by
  refine Met.ofW (cc := xb_Mo_oneName) (maxL := 1) (ret := (some .int)) (by decide) rfl ?_
  intro p e s m args below meth c s₁ B hml hv
  obtain ⟨rfl, hsz, hP, hK, hD0⟩ := hv
  have hx := B.exec
  have hb := B.bytes
  have hr := B.returns
  have hT := x_hT B.pre
  have hown : s.vm.findClass xR_Mo = some m.cls := findClass_of_methodNamed B.named
  have hlocks := B.notSynchronized
  subst hsz
  have hD := hD0.self (sz := s.heap.size)
  generalize hAe : va_A (moW h mm kA v g) s.heap.size = A at hD ⊢
  have hA : ∀ q : Nat, s.heap.size ≤ q → A q := fun q h => by rw [← hAe]; exact Or.inr h
  have hS : va_S A s.heap s.heap [] := va_S.rf
  have hl := lv_entry ([.ref h]) (n := 1) (Nat.le_of_ble_eq_true rfl)
  rw [lg_entry_eq]
  generalize (lg_sl ([.ref h]) ++ List.replicate (1 - (lg_sl ([.ref h])).length) Slot.unset).toArray = ls at hl ⊢
  have hl : lv_has ls 1 [(0, .ref h)] := hl
  have hP : va_P D xcl (moW h mm kA v g) s.heap := hP
  refine lv_aload_n hx hb xd_Mo_oneName_0 rfl (lv_at hl 0 rfl) ?_
  have hFc := va_free (wc := (moW h mm kA v g)) hD hS hA [0, 1, 2, 3, 4, 5, 6, 7, 8, 9, 10, 11, 12, 13, 14, 15, 16, 17, 18, 19, 20, 21, 22, 23, 24, 25] rfl
  refine va_callv (va_runV (As := []) (rest := []) ⟨hx, hb, hml, hown, hT⟩ (xc_Mo_splitX l D kA s.heap.size h mm v g wr (by first | assumption | omega) (by first | assumption | omega)) (cwV 0 hT (wT_V k7a_1 k7a_2 k7a_3 k7a_4 k7a_0) rfl rfl rfl (by decide +kernel) ⟨Nat.le_of_ble_eq_true rfl, Nat.le_of_ble_eq_true rfl⟩) (x_preV hK hP hD 0 rfl rfl) rfl rfl hl.1 rfl (lv_room (Nat.le_of_ble_eq_true rfl)) xd_Mo_oneName_1 ⟨Nat.le_of_ble_eq_true rfl, Nat.le_of_ble_eq_true rfl⟩) hS (fun q _ h => hFc q h) hFc (fun u2 t H1 locs ht hvm hp3 hB hz1 hk1 hS => ?_)
  obtain ⟨hP1, hD1⟩ := hB
  rw [ht] at hP1
  have hD1 := hD1.weaken (fun _ _ _ h => hFc _ h)
  obtain ⟨v4, g5⟩ := u2
  generalize H1 = H at hP1 hS ⊢
  have hP := hP1
  have hD := hD1
  have hP : va_P D xcl (moW h mm kA v4 g5) H := hP
  have hD : va_D A (moW h mm kA v4 g5) := hD
  obtain ⟨hv9, hgk, hfT⟩ := hp3
  obtain ⟨wl, hwl⟩ : ∃ z, z = w_all (g 0) wr := ⟨_, rfl⟩
  have hv9 : v4 = (va_up (va_up v 2 0) 3 (nI (wl.length))) := by rw [hwl]; exact hv9
  subst hv9
  have hgk : ∀ j, j ≠ 1 → j ≠ 2 → g5 j = g j := hgk
  have hws : ∀ i, i < wl.length → g5 1 i = nI (wb wl i) ∧ g5 2 i = nI (we wl i) := by rw [hwl]; exact hfT
  have hwlr0 : WL wl := by rw [hwl]; exact WL_all _ hwr40
  obtain ⟨hwn20, hwlr⟩ := id hwlr0
  have hP : va_P D xcl (moW h mm kA (va_up (va_up v 2 0) 3 (nI (wl.length))) g5) H := hP
  have hD : va_D A (moW h mm kA (va_up (va_up v 2 0) 3 (nI (wl.length))) g5) := hD
  refine lv_aload_n hx hb xd_Mo_oneName_4 rfl (lv_at hl 0 rfl) ?_
  refine va_get (D := D) (ci := 4) (v := .int (nI (wl.length))) (C := xR_Mo) (T := xT_Mo) (N := 31) hx hb hT xi_Mo hown hK.1 hP 0 rfl rfl 4 (by decide) (hT _ k7a_5) (fun _ h9 => h9) rfl xd_Mo_oneName_5 ?_
  refine lv_iconst (v := 1) hx hb xd_Mo_oneName_8 (by decide) ?_
  refine xn_ne (a := wl.length) (b := 1) (tgt := 20) hx hb xd_Mo_oneName_9 (by decide) (by omega) (by omega) (fun hc6 => ?_) (fun hc6 => ?_)
  · refine lv_iconst (v := 0) hx hb xd_Mo_oneName_20 (by decide) ?_
    exact W.iret (v := 0) hx hb hr (fun t ht hW => ⟨⟨0, ((va_up (va_up v 2 0) 3 (nI (wl.length))), g5), rfl, ⟨by rw [← hwl], hgk, by rw [← hwl]; exact (by unfold n1; rw [cif_neg (by omega)])⟩, by rw [ht]; exact hP, hD⟩, hS.F ht⟩) hS.2.2 xd_Mo_oneName_21
  · have hbe0 := (hwlr 0 (by omega)).1
    have hee0 := (hwlr 0 (by omega)).2
    have heb0 := (hws 0 (by omega)).1
    have hew0 := (hws 0 (by omega)).2
    refine lv_aload_n hx hb xd_Mo_oneName_12 rfl (lv_at hl 0 rfl) ?_
    refine lv_iconst (v := 0) hx hb xd_Mo_oneName_13 (by decide) ?_
    have hFc := va_free (wc := (moW h mm kA (va_up (va_up v 2 0) 3 (nI (wl.length))) g5)) hD hS hA [0, 1, 2, 3, 4, 5, 6, 7, 8, 9, 10, 11, 12, 13, 14, 15, 16, 17, 18, 19, 20, 21, 22, 23, 24, 25] rfl
    refine va_calli (va_runV (As := [.int 0]) (rest := []) ⟨hx, hb, hml, hown, hT⟩ (xc_Mo_nameOfX l D kA H.size h mm (va_up (va_up v 2 0) 3 (nI (wl.length))) g5 0 (wb wl 0) (we wl 0) (by first | assumption | omega) (by first | assumption | omega) (by first | assumption | omega) (by first | assumption | omega) (by first | assumption | omega)) (cwV 1 hT (wT_V k7a_7 k7a_8 k7a_9 k7a_4 k7a_6) rfl rfl rfl (by decide +kernel) ⟨Nat.le_of_ble_eq_true rfl, Nat.le_of_ble_eq_true rfl⟩) (x_preV hK hP hD 0 rfl rfl) rfl rfl hl.1 rfl (lv_room (Nat.le_of_ble_eq_true rfl)) xd_Mo_oneName_14 ⟨Nat.le_of_ble_eq_true rfl, Nat.le_of_ble_eq_true rfl⟩) hS (fun q _ h => hFc q h) hFc (fun r7 u8 t H1 locs ht hvm hp9 hB hz1 hk1 hS => ?_)
    obtain ⟨hP1, hD1⟩ := hB
    rw [ht] at hP1
    have hD1 := hD1.weaken (fun _ _ _ h => hFc _ h)
    generalize H1 = H at hP1 hS ⊢
    have hP := hP1
    have hD := hD1
    have hP : va_P D xcl (moW h mm kA (va_up (va_up v 2 0) 3 (nI (wl.length))) g5) H := hP
    have hD : va_D A (moW h mm kA (va_up (va_up v 2 0) 3 (nI (wl.length))) g5) := hD
    refine lv_goto (tgt := 21) hx hb xd_Mo_oneName_17 (by decide) ?_
    exact W.iret (v := r7) hx hb hr (fun t ht hW => ⟨⟨r7, ((va_up (va_up v 2 0) 3 (nI (wl.length))), g5), rfl, ⟨by rw [← hwl], hgk, by rw [← hwl]; exact hp9.trans (by unfold n1; rw [cif_pos (by omega), wN_in (by omega), hgk 0 (by decide) (by decide)])⟩, by rw [ht]; exact hP, hD⟩, hS.F ht⟩) hS.2.2 xd_Mo_oneName_21
set_option maxHeartbeats 4000000 in
set_option maxRecDepth 100000 in
theorem xc_Mo_loadA (l : Launch) (D : va_G) (kA : Nat → ClassId) (sz h : Nat) (mm : Nat → Nat) (v : Nat → Int32) (g : Nat → Nat → Int32) (ly : Int32) (kx : Int32) (nd : Nat) (nl : Nat) (wr : Nat) (hMI : MI v g) (hnd : v 4 = nI nd) (hnd12 : nd ≤ 12) (hnl : v 5 = nI nl) (hnl5 : nl ≤ 5) (hwr : v 2 = nI wr) (hwr40 : wr ≤ 40) : Met l xy_Mo_load (.code xy_Mo_load xb_Mo_load 7 (some .int) :: wT) { frames := 2, cells := 0, slots := 0, locals := 50 } (va_Pc [.ref h, .int ly, .int kx] (xPre D kA sz (moW h mm kA v g))) (va_Qi (fun (r : Int32) (u : (Nat → Int32) × (Nat → Nat → Int32)) => (ldA g nl (n1 (g 0) (w_all (g 0) wr)) ly kx (u.1 0) r) ∧ MI u.1 u.2 ∧ u.1 2 = 0 ∧ u.1 1 = v 1 ∧ u.1 4 = v 4 ∧ u.1 5 = v 5 ∧ ∀ j, j ≠ 1 → j ≠ 2 → j ≠ 24 → u.2 j = g j) (fun (u : (Nat → Int32) × (Nat → Nat → Int32)) t => va_P D xcl (moW h mm kA u.1 u.2) t.heap ∧ va_D (va_A (moW h mm kA v g) sz) (moW h mm kA u.1 u.2)) (va_A (moW h mm kA v g) sz)) 0 0 (va_A (moW h mm kA v g) sz) := by
  refine Met.ofW (cc := xb_Mo_load) (maxL := 7) (ret := (some .int)) (by decide) rfl ?_
  intro p e s m args below meth c s₁ B hml hv
  obtain ⟨rfl, hsz, hP, hK, hD0⟩ := hv
  have hx := B.exec
  have hb := B.bytes
  have hr := B.returns
  have hT := x_hT B.pre
  have hown : s.vm.findClass xR_Mo = some m.cls := findClass_of_methodNamed B.named
  have hlocks := B.notSynchronized
  subst hsz
  have hD := hD0.self (sz := s.heap.size)
  generalize hAe : va_A (moW h mm kA v g) s.heap.size = A at hD ⊢
  have hA : ∀ q : Nat, s.heap.size ≤ q → A q := fun q h => by rw [← hAe]; exact Or.inr h
  have hS : va_S A s.heap s.heap [] := va_S.rf
  have hl := lv_entry ([.ref h, .int ly, .int kx]) (n := 7) (Nat.le_of_ble_eq_true rfl)
  rw [lg_entry_eq]
  generalize (lg_sl ([.ref h, .int ly, .int kx]) ++ List.replicate (7 - (lg_sl ([.ref h, .int ly, .int kx])).length) Slot.unset).toArray = ls at hl ⊢
  have hl : lv_has ls 7 [(0, .ref h), (1, .int ly), (2, .int kx)] := hl
  have hP : va_P D xcl (moW h mm kA v g) s.heap := hP
  obtain ⟨-, ⟨nl0, hnl05, hnl0, hpar0⟩, hch, hpk, hrq, hmd, huq⟩ := id hMI
  have enl : nl0 = nl := nI_inj (by omega) (by omega) (hnl0.symm.trans hnl)
  have hpar : ∀ la, la < nl → ∃ lq, lq ≤ la ∧ g 19 la = nI lq - 1 := by rw [← enl]; exact hpar0
  refine lv_aload_n hx hb xd_Mo_load_0 rfl (lv_at hl 0 rfl) ?_
  refine lv_iconst (v := 0) hx hb xd_Mo_load_1 (by decide) ?_
  refine va_put (D := D) (ci := 4) (v := .int 0) (ty := .int) (C := xR_Mo) (T := xT_Mo) (N := 31) hx hb hT xi_Mo xt_Mo xt_Mo_ok xn_Mo hown hK.1 hP hD hS 0 rfl rfl 0 (by decide) (hT _ k7a_10) (fun _ h9 => h9) rfl (by decide +kernel) rfl rfl (Nat.le_of_ble_eq_true rfl) xd_Mo_load_2 (fun H locs hP hD hS => ?_)
  have hP : va_P D xcl (moW h mm kA (va_up v 0 0) g) H := hP
  have hD : va_D A (moW h mm kA (va_up v 0 0) g) := hD
  refine lv_aload_n hx hb xd_Mo_load_5 rfl (lv_at hl 0 rfl) ?_
  have hFc := va_free (wc := (moW h mm kA (va_up v 0 0) g)) hD hS hA [0, 1, 2, 3, 4, 5, 6, 7, 8, 9, 10, 11, 12, 13, 14, 15, 16, 17, 18, 19, 20, 21, 22, 23, 24, 25] rfl
  refine va_calli (va_runV (As := []) (rest := []) ⟨hx, hb, hml, hown, hT⟩ (xc_Mo_oneNameA l D kA H.size h mm (va_up v 0 0) g wr hwr (by first | assumption | omega)) (cwV 0 hT (wT_V k7a_12 k7a_13 k7a_14 k7a_4 k7a_11) rfl rfl rfl (by decide +kernel) ⟨Nat.le_of_ble_eq_true rfl, Nat.le_of_ble_eq_true rfl⟩) (x_preV hK hP hD 0 rfl rfl) rfl rfl hl.1 rfl (lv_room (Nat.le_of_ble_eq_true rfl)) xd_Mo_load_6 ⟨Nat.le_of_ble_eq_true rfl, Nat.le_of_ble_eq_true rfl⟩) hS (fun q _ h => hFc q h) hFc (fun r1 u2 t H1 locs ht hvm hp3 hB hz1 hk1 hS => ?_)
  obtain ⟨hP1, hD1⟩ := hB
  rw [ht] at hP1
  have hD1 := hD1.weaken (fun _ _ _ h => hFc _ h)
  obtain ⟨v4, g5⟩ := u2
  generalize H1 = H at hP1 hS ⊢
  have hP := hP1
  have hD := hD1
  have hP : va_P D xcl (moW h mm kA v4 g5) H := hP
  have hD : va_D A (moW h mm kA v4 g5) := hD
  obtain ⟨hv9, hgk, hnm⟩ := hp3
  obtain ⟨wn8, hwn9⟩ : ∃ z, z = (w_all (g 0) wr).length := ⟨_, rfl⟩
  have hv9 : v4 = (va_up (va_up (va_up v 0 0) 2 0) 3 (nI wn8)) := by rw [hwn9]; exact hv9
  subst hv9
  have hgk : ∀ j, j ≠ 1 → j ≠ 2 → g5 j = g j := hgk
  have hnm : r1 = n1 (g 0) (w_all (g 0) wr) := hnm
  obtain ⟨fa6, fb7, hge⟩ : ∃ z1 z2, g5 = va_up (va_up g 1 z1) 2 z2 := ⟨_, _, gX12 hgk⟩
  subst hge
  have hP : va_P D xcl (moW h mm kA (va_up (va_up (va_up v 0 0) 2 0) 3 (nI wn8)) (va_up (va_up g 1 fa6) 2 fb7)) H := hP
  have hD : va_D A (moW h mm kA (va_up (va_up (va_up v 0 0) 2 0) 3 (nI wn8)) (va_up (va_up g 1 fa6) 2 fb7)) := hD
  refine lv_istore_n hx hb xd_Mo_load_9 rfl hl (Nat.le_of_ble_eq_true rfl) rfl (fun ls hl => ?_)
  have hl : lv_has ls 7 [(3, .int r1), (0, .ref h), (1, .int ly), (2, .int kx)] := hl
  refine lv_aload_n hx hb xd_Mo_load_10 rfl (lv_at hl 1 rfl) ?_
  refine lv_iload_n hx hb xd_Mo_load_11 rfl (lv_at hl 2 rfl) ?_
  refine lv_iload_n hx hb xd_Mo_load_12 rfl (lv_at hl 3 rfl) ?_
  have hFc := va_free (wc := (moW h mm kA (va_up (va_up (va_up v 0 0) 2 0) 3 (nI wn8)) (va_up (va_up g 1 fa6) 2 fb7))) hD hS hA [0, 1, 2, 3, 4, 5, 6, 7, 8, 9, 10, 11, 12, 13, 14, 15, 16, 17, 18, 19, 20, 21, 22, 23, 24, 25] rfl
  refine va_calli (va_runV (As := [.int ly, .int kx]) (rest := []) ⟨hx, hb, hml, hown, hT⟩ (xc_Mo_moduleOfA l D kA H.size h mm (va_up (va_up (va_up v 0 0) 2 0) 3 (nI wn8)) (va_up (va_up g 1 fa6) 2 fb7) ly kx nl hnl hnl5 hmd) (cwV 2 hT (wT_V k7a_16 k7a_17 k7a_18 k7a_4 k7a_15) rfl rfl rfl (by decide +kernel) ⟨Nat.le_of_ble_eq_true rfl, Nat.le_of_ble_eq_true rfl⟩) (x_preV hK hP hD 0 rfl rfl) rfl rfl hl.1 rfl (lv_room (Nat.le_of_ble_eq_true rfl)) xd_Mo_load_13 ⟨Nat.le_of_ble_eq_true rfl, Nat.le_of_ble_eq_true rfl⟩) hS (fun q _ h => hFc q h) hFc (fun r9 u10 t H1 locs ht hvm hp11 hB hz1 hk1 hS => ?_)
  obtain ⟨hP1, hD1⟩ := hB
  rw [ht] at hP1
  have hD1 := hD1.weaken (fun _ _ _ h => hFc _ h)
  generalize H1 = H at hP1 hS ⊢
  have hP := hP1
  have hD := hD1
  have hP : va_P D xcl (moW h mm kA (va_up (va_up (va_up v 0 0) 2 0) 3 (nI wn8)) (va_up (va_up g 1 fa6) 2 fb7)) H := hP
  have hD : va_D A (moW h mm kA (va_up (va_up (va_up v 0 0) 2 0) 3 (nI wn8)) (va_up (va_up g 1 fa6) 2 fb7)) := hD
  rcases hp11 with ⟨rfl, z12⟩ | ⟨z13, z14, z15, rfl, z16⟩
  · refine lv_istore hx hb xd_Mo_load_16 hl (Nat.le_of_ble_eq_true rfl) rfl (fun ls hl => ?_)
    have hl : lv_has ls 7 [(4, .int (-1)), (3, .int r1), (0, .ref h), (1, .int ly), (2, .int kx)] := hl
    refine lv_iload_n hx hb xd_Mo_load_18 rfl (lv_at hl 1 rfl) ?_
    refine lv_if_eq (tgt := 27) hx hb xd_Mo_load_19 (by decide) (fun hc17 => ?_) (fun hc17 => ?_)
    · refine lv_aload_n hx hb xd_Mo_load_27 rfl (lv_at hl 2 rfl) ?_
      refine lv_iconst (v := 1) hx hb xd_Mo_load_28 (by decide) ?_
      have hFc := va_free (wc := (moW h mm kA (va_up (va_up (va_up v 0 0) 2 0) 3 (nI wn8)) (va_up (va_up g 1 fa6) 2 fb7))) hD hS hA [0, 1, 2, 3, 4, 5, 6, 7, 8, 9, 10, 11, 12, 13, 14, 15, 16, 17, 18, 19, 20, 21, 22, 23, 24, 25] rfl
      refine va_calli (va_runV (As := [.int 1]) (rest := []) ⟨hx, hb, hml, hown, hT⟩ (xc_Mo_fails l D kA H.size h mm (va_up (va_up (va_up v 0 0) 2 0) 3 (nI wn8)) (va_up (va_up g 1 fa6) 2 fb7) 1) (cwV 1 hT (wT_V k7a_20 k7a_21 k7a_22 k7a_4 k7a_19) rfl rfl rfl (by decide +kernel) ⟨Nat.le_of_ble_eq_true rfl, Nat.le_of_ble_eq_true rfl⟩) (x_preV hK hP hD 0 rfl rfl) rfl rfl hl.1 rfl (lv_room (Nat.le_of_ble_eq_true rfl)) xd_Mo_load_29 ⟨Nat.le_of_ble_eq_true rfl, Nat.le_of_ble_eq_true rfl⟩) hS (fun q _ h => hFc q h) hFc (fun r18 u19 t H1 locs ht hvm hp20 hB hz1 hk1 hS => ?_)
      obtain ⟨hP1, hD1⟩ := hB
      rw [ht] at hP1
      have hD1 := hD1.weaken (fun _ _ _ h => hFc _ h)
      obtain ⟨v21, g22⟩ := u19
      generalize H1 = H at hP1 hS ⊢
      have hP := hP1
      have hD := hD1
      have hP : va_P D xcl (moW h mm kA v21 g22) H := hP
      have hD : va_D A (moW h mm kA v21 g22) := hD
      obtain ⟨hr9, hu9⟩ := hp20
      subst hr9
      obtain ⟨hu1, hu2⟩ := Prod.mk.inj hu9
      subst hu1
      have hu2 := hu2.symm
      subst hu2
      have hP : va_P D xcl (moW h mm kA (va_up (va_up (va_up v 0 1) 2 0) 3 (nI wn8)) (va_up (va_up g 1 fa6) 2 fb7)) H := hP
      have hD : va_D A (moW h mm kA (va_up (va_up (va_up v 0 1) 2 0) 3 (nI wn8)) (va_up (va_up g 1 fa6) 2 fb7)) := hD
      exact W.iret (v := 0) hx hb hr (fun t ht hW => ⟨⟨0, ((va_up (va_up (va_up v 0 1) 2 0) 3 (nI wn8)), (va_up (va_up g 1 fa6) 2 fb7)), rfl, ⟨Or.inl ⟨rfl, Or.inl (by rw [← hnm]; exact hc17)⟩, MI_g rfl rfl rfl rfl rfl rfl rfl rfl (MI_v rfl rfl hMI), rfl, rfl, rfl, rfl, fun j h1 h2 h3 => by simp [va_up, h1, h2, h3]⟩, by rw [ht]; exact hP, hD⟩, hS.F ht⟩) hS.2.2 xd_Mo_load_32
    · refine lv_iload hx hb xd_Mo_load_22 (lv_at hl 0 rfl) ?_
      refine lv_if_ge (tgt := 33) hx hb xd_Mo_load_24 (by decide) (fun hc23 => absurd hc23 (by decide)) (fun _ => ?_)
      refine lv_aload_n hx hb xd_Mo_load_27 rfl (lv_at hl 2 rfl) ?_
      refine lv_iconst (v := 1) hx hb xd_Mo_load_28 (by decide) ?_
      have hFc := va_free (wc := (moW h mm kA (va_up (va_up (va_up v 0 0) 2 0) 3 (nI wn8)) (va_up (va_up g 1 fa6) 2 fb7))) hD hS hA [0, 1, 2, 3, 4, 5, 6, 7, 8, 9, 10, 11, 12, 13, 14, 15, 16, 17, 18, 19, 20, 21, 22, 23, 24, 25] rfl
      refine va_calli (va_runV (As := [.int 1]) (rest := []) ⟨hx, hb, hml, hown, hT⟩ (xc_Mo_fails l D kA H.size h mm (va_up (va_up (va_up v 0 0) 2 0) 3 (nI wn8)) (va_up (va_up g 1 fa6) 2 fb7) 1) (cwV 1 hT (wT_V k7a_20 k7a_21 k7a_22 k7a_4 k7a_19) rfl rfl rfl (by decide +kernel) ⟨Nat.le_of_ble_eq_true rfl, Nat.le_of_ble_eq_true rfl⟩) (x_preV hK hP hD 0 rfl rfl) rfl rfl hl.1 rfl (lv_room (Nat.le_of_ble_eq_true rfl)) xd_Mo_load_29 ⟨Nat.le_of_ble_eq_true rfl, Nat.le_of_ble_eq_true rfl⟩) hS (fun q _ h => hFc q h) hFc (fun r24 u25 t H1 locs ht hvm hp26 hB hz1 hk1 hS => ?_)
      obtain ⟨hP1, hD1⟩ := hB
      rw [ht] at hP1
      have hD1 := hD1.weaken (fun _ _ _ h => hFc _ h)
      obtain ⟨v27, g28⟩ := u25
      generalize H1 = H at hP1 hS ⊢
      have hP := hP1
      have hD := hD1
      have hP : va_P D xcl (moW h mm kA v27 g28) H := hP
      have hD : va_D A (moW h mm kA v27 g28) := hD
      obtain ⟨hr9, hu9⟩ := hp26
      subst hr9
      obtain ⟨hu1, hu2⟩ := Prod.mk.inj hu9
      subst hu1
      have hu2 := hu2.symm
      subst hu2
      have hP : va_P D xcl (moW h mm kA (va_up (va_up (va_up v 0 1) 2 0) 3 (nI wn8)) (va_up (va_up g 1 fa6) 2 fb7)) H := hP
      have hD : va_D A (moW h mm kA (va_up (va_up (va_up v 0 1) 2 0) 3 (nI wn8)) (va_up (va_up g 1 fa6) 2 fb7)) := hD
      exact W.iret (v := 0) hx hb hr (fun t ht hW => ⟨⟨0, ((va_up (va_up (va_up v 0 1) 2 0) 3 (nI wn8)), (va_up (va_up g 1 fa6) 2 fb7)), rfl, ⟨Or.inl ⟨rfl, Or.inr z12⟩, MI_g rfl rfl rfl rfl rfl rfl rfl rfl (MI_v rfl rfl hMI), rfl, rfl, rfl, rfl, fun j h1 h2 h3 => by simp [va_up, h1, h2, h3]⟩, by rw [ht]; exact hP, hD⟩, hS.F ht⟩) hS.2.2 xd_Mo_load_32
  · have hla9 := z15.1
    rw [z15.2.1] at hl
    have hl : lv_has ls 7 [(3, .int r1), (0, .ref h), (1, .int (nI z13)), (2, .int kx)] := hl
    obtain ⟨d9, hd9e⟩ : ∃ z, z = mdv g z13 z14 := ⟨_, rfl⟩
    have hd9 : d9 < 12 := by rw [hd9e]; exact z16
    refine xn_top (x := (nI (mdv g z13 z14))) (y := nI d9) (by rw [hd9e]) ?_
    refine lv_istore hx hb xd_Mo_load_16 hl (Nat.le_of_ble_eq_true rfl) rfl (fun ls hl => ?_)
    have hl : lv_has ls 7 [(4, .int (nI d9)), (3, .int r1), (0, .ref h), (1, .int (nI z13)), (2, .int kx)] := hl
    refine lv_iload_n hx hb xd_Mo_load_18 rfl (lv_at hl 1 rfl) ?_
    refine lv_if_eq (tgt := 27) hx hb xd_Mo_load_19 (by decide) (fun hc29 => ?_) (fun hc29 => ?_)
    · refine lv_aload_n hx hb xd_Mo_load_27 rfl (lv_at hl 2 rfl) ?_
      refine lv_iconst (v := 1) hx hb xd_Mo_load_28 (by decide) ?_
      have hFc := va_free (wc := (moW h mm kA (va_up (va_up (va_up v 0 0) 2 0) 3 (nI wn8)) (va_up (va_up g 1 fa6) 2 fb7))) hD hS hA [0, 1, 2, 3, 4, 5, 6, 7, 8, 9, 10, 11, 12, 13, 14, 15, 16, 17, 18, 19, 20, 21, 22, 23, 24, 25] rfl
      refine va_calli (va_runV (As := [.int 1]) (rest := []) ⟨hx, hb, hml, hown, hT⟩ (xc_Mo_fails l D kA H.size h mm (va_up (va_up (va_up v 0 0) 2 0) 3 (nI wn8)) (va_up (va_up g 1 fa6) 2 fb7) 1) (cwV 1 hT (wT_V k7a_20 k7a_21 k7a_22 k7a_4 k7a_19) rfl rfl rfl (by decide +kernel) ⟨Nat.le_of_ble_eq_true rfl, Nat.le_of_ble_eq_true rfl⟩) (x_preV hK hP hD 0 rfl rfl) rfl rfl hl.1 rfl (lv_room (Nat.le_of_ble_eq_true rfl)) xd_Mo_load_29 ⟨Nat.le_of_ble_eq_true rfl, Nat.le_of_ble_eq_true rfl⟩) hS (fun q _ h => hFc q h) hFc (fun r30 u31 t H1 locs ht hvm hp32 hB hz1 hk1 hS => ?_)
      obtain ⟨hP1, hD1⟩ := hB
      rw [ht] at hP1
      have hD1 := hD1.weaken (fun _ _ _ h => hFc _ h)
      obtain ⟨v33, g34⟩ := u31
      generalize H1 = H at hP1 hS ⊢
      have hP := hP1
      have hD := hD1
      have hP : va_P D xcl (moW h mm kA v33 g34) H := hP
      have hD : va_D A (moW h mm kA v33 g34) := hD
      obtain ⟨hr9, hu9⟩ := hp32
      subst hr9
      obtain ⟨hu1, hu2⟩ := Prod.mk.inj hu9
      subst hu1
      have hu2 := hu2.symm
      subst hu2
      have hP : va_P D xcl (moW h mm kA (va_up (va_up (va_up v 0 1) 2 0) 3 (nI wn8)) (va_up (va_up g 1 fa6) 2 fb7)) H := hP
      have hD : va_D A (moW h mm kA (va_up (va_up (va_up v 0 1) 2 0) 3 (nI wn8)) (va_up (va_up g 1 fa6) 2 fb7)) := hD
      exact W.iret (v := 0) hx hb hr (fun t ht hW => ⟨⟨0, ((va_up (va_up (va_up v 0 1) 2 0) 3 (nI wn8)), (va_up (va_up g 1 fa6) 2 fb7)), rfl, ⟨Or.inl ⟨rfl, Or.inl (by rw [← hnm]; exact hc29)⟩, MI_g rfl rfl rfl rfl rfl rfl rfl rfl (MI_v rfl rfl hMI), rfl, rfl, rfl, rfl, fun j h1 h2 h3 => by simp [va_up, h1, h2, h3]⟩, by rw [ht]; exact hP, hD⟩, hS.F ht⟩) hS.2.2 xd_Mo_load_32
    · refine lv_iload hx hb xd_Mo_load_22 (lv_at hl 0 rfl) ?_
      refine xz_ge (a := d9) (tgt := 33) hx hb xd_Mo_load_24 (by decide) (by omega) ?_
      obtain ⟨pke, hpke, epke⟩ := hpk d9 (by omega)
      refine lv_aload_n hx hb xd_Mo_load_33 rfl (lv_at hl 2 rfl) ?_
      refine lv_iload hx hb xd_Mo_load_34 (lv_at hl 0 rfl) ?_
      refine lv_iload_n hx hb xd_Mo_load_36 rfl (lv_at hl 1 rfl) ?_
      have hFc := va_free (wc := (moW h mm kA (va_up (va_up (va_up v 0 0) 2 0) 3 (nI wn8)) (va_up (va_up g 1 fa6) 2 fb7))) hD hS hA [0, 1, 2, 3, 4, 5, 6, 7, 8, 9, 10, 11, 12, 13, 14, 15, 16, 17, 18, 19, 20, 21, 22, 23, 24, 25] rfl
      refine va_calli (va_runV (As := [.int (nI d9), .int r1]) (rest := []) ⟨hx, hb, hml, hown, hT⟩ (xc_Mo_packageOfX l D kA H.size h mm (va_up (va_up (va_up v 0 0) 2 0) 3 (nI wn8)) (va_up (va_up g 1 fa6) 2 fb7) d9 r1 pke (by first | assumption | omega) (by first | assumption | omega) (by first | assumption | omega)) (cwV 2 hT (wT_V k7a_24 k7a_25 k7a_26 k7a_4 k7a_23) rfl rfl rfl (by decide +kernel) ⟨Nat.le_of_ble_eq_true rfl, Nat.le_of_ble_eq_true rfl⟩) (x_preV hK hP hD 0 rfl rfl) rfl rfl hl.1 rfl (lv_room (Nat.le_of_ble_eq_true rfl)) xd_Mo_load_37 ⟨Nat.le_of_ble_eq_true rfl, Nat.le_of_ble_eq_true rfl⟩) hS (fun q _ h => hFc q h) hFc (fun r36 u37 t H1 locs ht hvm hp38 hB hz1 hk1 hS => ?_)
      obtain ⟨hP1, hD1⟩ := hB
      rw [ht] at hP1
      have hD1 := hD1.weaken (fun _ _ _ h => hFc _ h)
      generalize H1 = H at hP1 hS ⊢
      have hP := hP1
      have hD := hD1
      have hP : va_P D xcl (moW h mm kA (va_up (va_up (va_up v 0 0) 2 0) 3 (nI wn8)) (va_up (va_up g 1 fa6) 2 fb7)) H := hP
      have hD : va_D A (moW h mm kA (va_up (va_up (va_up v 0 0) 2 0) 3 (nI wn8)) (va_up (va_up g 1 fa6) 2 fb7)) := hD
      rcases hp38 with ⟨z39, z40, z41, rfl, z42, z43⟩ | ⟨rfl, z44⟩
      · refine xz_lt (a := z39) (tgt := 51) hx hb xd_Mo_load_40 (by decide) (by omega) ?_
        refine lv_bipush (v := 16) hx hb xd_Mo_load_43 (by decide) ?_
        refine lv_iload_n hx hb xd_Mo_load_45 rfl (lv_at hl 3 rfl) ?_
        refine lv_imul hx hb xd_Mo_load_46 ?_
        refine xn_top (y := nI (16 * z13)) (pk_mul 16 z13) ?_
        refine lv_iload hx hb xd_Mo_load_47 (lv_at hl 0 rfl) ?_
        refine lv_iadd hx hb xd_Mo_load_49 ?_
        refine xn_top (y := nI ((16 * z13) + d9)) (nI_add (16 * z13) d9) ?_
        exact W.iret (v := (nI ((16 * z13) + d9))) hx hb hr (fun t ht hW => ⟨⟨(nI ((16 * z13) + d9)), ((va_up (va_up (va_up v 0 0) 2 0) 3 (nI wn8)), (va_up (va_up g 1 fa6) 2 fb7)), rfl, ⟨Or.inr ⟨(by rw [← hnm]; exact hc29), z13, z14, z15, by
        rw [← hd9e, ← hnm]
        exact Or.inl ⟨rfl, ⟨_, (pI_some epke (by omega) z40 z41 z42 z43)⟩, rfl⟩⟩, MI_g rfl rfl rfl rfl rfl rfl rfl rfl (MI_v rfl rfl hMI), rfl, rfl, rfl, rfl, fun j h1 h2 h3 => by simp [va_up, h1, h2, h3]⟩, by rw [ht]; exact hP, hD⟩, hS.F ht⟩) hS.2.2 xd_Mo_load_50
      · refine lv_if_lt (tgt := 51) hx hb xd_Mo_load_40 (by decide) (fun _ => ?_) (fun hc46 => absurd hc46 (by decide))
        refine lv_aload_n hx hb xd_Mo_load_51 rfl (lv_at hl 2 rfl) ?_
        refine lv_iload_n hx hb xd_Mo_load_52 rfl (lv_at hl 3 rfl) ?_
        refine lv_iload hx hb xd_Mo_load_53 (lv_at hl 0 rfl) ?_
        have hFc := va_free (wc := (moW h mm kA (va_up (va_up (va_up v 0 0) 2 0) 3 (nI wn8)) (va_up (va_up g 1 fa6) 2 fb7))) hD hS hA [0, 1, 2, 3, 4, 5, 6, 7, 8, 9, 10, 11, 12, 13, 14, 15, 16, 17, 18, 19, 20, 21, 22, 23, 24, 25] rfl
        refine va_callv (va_runV (As := [.int (nI z13), .int (nI d9)]) (rest := []) ⟨hx, hb, hml, hown, hT⟩ (xc_Mo_readingX l D kA H.size h mm (va_up (va_up (va_up v 0 0) 2 0) 3 (nI wn8)) (va_up (va_up g 1 fa6) 2 fb7) z13 d9 nl (MI_g rfl rfl rfl rfl rfl rfl rfl rfl (MI_v rfl rfl hMI)) (by first | assumption | omega) hpar (by first | assumption | omega) (by first | assumption | omega)) (cwV 2 hT (wT_V k7a_28 k7a_29 k7a_30 k7a_4 k7a_27) rfl rfl rfl (by decide +kernel) ⟨Nat.le_of_ble_eq_true rfl, Nat.le_of_ble_eq_true rfl⟩) (x_preV hK hP hD 0 rfl rfl) rfl rfl hl.1 rfl (lv_room (Nat.le_of_ble_eq_true rfl)) xd_Mo_load_55 ⟨Nat.le_of_ble_eq_true rfl, Nat.le_of_ble_eq_true rfl⟩) hS (fun q _ h => hFc q h) hFc (fun u48 t H1 locs ht hvm hp49 hB hz1 hk1 hS => ?_)
        obtain ⟨hP1, hD1⟩ := hB
        rw [ht] at hP1
        have hD1 := hD1.weaken (fun _ _ _ h => hFc _ h)
        obtain ⟨v50, g51⟩ := u48
        generalize H1 = H at hP1 hS ⊢
        have hP := hP1
        have hD := hD1
        have hP : va_P D xcl (moW h mm kA v50 g51) H := hP
        have hD : va_D A (moW h mm kA v50 g51) := hD
        obtain ⟨hu9, hfr9, hbz9, hsn9, hrd9⟩ := hp49
        have hu9 : v50 = (va_up (va_up (va_up v 0 0) 2 0) 3 (nI wn8)) := hu9
        subst hu9
        obtain ⟨fs52, hge⟩ : ∃ z, g51 = va_up (va_up (va_up g 1 fa6) 2 fb7) 24 z := ⟨_, gX24 hfr9⟩
        subst hge
        have hbz9 : bz fs52 := hbz9
        have hrd9 : ∀ b, b < 72 → (¬ fs52 b = 0 ↔ rdQ g z13 d9 b) := hrd9
        have hP : va_P D xcl (moW h mm kA (va_up (va_up (va_up v 0 0) 2 0) 3 (nI wn8)) (va_up (va_up (va_up g 1 fa6) 2 fb7) 24 fs52)) H := hP
        have hD : va_D A (moW h mm kA (va_up (va_up (va_up v 0 0) 2 0) 3 (nI wn8)) (va_up (va_up (va_up g 1 fa6) 2 fb7) 24 fs52)) := hD
        refine lv_iconst (v := 0) hx hb xd_Mo_load_58 (by decide) ?_
        refine lv_istore hx hb xd_Mo_load_59 hl (Nat.le_of_ble_eq_true rfl) rfl (fun ls hl => ?_)
        have hl : lv_has ls 7 [(5, .int 0), (4, .int (nI d9)), (3, .int r1), (0, .ref h), (1, .int (nI z13)), (2, .int kx)] := hl
        refine xlab (σ := Nat) (ml := 7) 61 (fun (m5 : Nat) => [(5, .int (nI m5)), (0, .ref h), (3, .int r1), (4, .int (nI d9))]) (fun (m5 : Nat) => []) (fun (m5 : Nat) => moW h mm kA (va_up (va_up (va_up v 0 0) 2 0) 3 (nI wn8)) (va_up (va_up (va_up g 1 fa6) 2 fb7) 24 fs52)) (fun (m5 : Nat) => (m5 ≤ 72) ∧ (∀ m, m < m5 → ¬ srQ g z13 d9 r1 m)) (fun (m5 : Nat) => 72 - m5) ?_ 0 _ _ _ (lv_sub hl [0, 3, 2, 1] rfl) hP hD hS ⟨(show 0 ≤ 72 from by first | assumption | omega), (show ∀ m, m < 0 → ¬ srQ g z13 d9 r1 m from fun m h => absurd h (by omega))⟩
        intro n9 ih53 a9 ls H locs hμ hl hP hD hS hI
        subst hμ
        obtain ⟨m5, rfl⟩ : ∃ z, z = a9 := ⟨_, rfl⟩
        obtain ⟨hm5, hno5⟩ := hI
        have hm5 : m5 ≤ 72 := hm5
        have hno5 : ∀ m, m < m5 → ¬ srQ g z13 d9 r1 m := hno5
        have hl : lv_has ls 7 [(5, .int (nI m5)), (0, .ref h), (3, .int r1), (4, .int (nI d9))] := hl
        have hP : va_P D xcl (moW h mm kA (va_up (va_up (va_up v 0 0) 2 0) 3 (nI wn8)) (va_up (va_up (va_up g 1 fa6) 2 fb7) 24 fs52)) H := hP
        have hD : va_D A (moW h mm kA (va_up (va_up (va_up v 0 0) 2 0) 3 (nI wn8)) (va_up (va_up (va_up g 1 fa6) 2 fb7) 24 fs52)) := hD
        refine lv_iload hx hb xd_Mo_load_61 (lv_at hl 0 rfl) ?_
        refine lv_bipush (v := 72) hx hb xd_Mo_load_63 (by decide) ?_
        refine xn_ge (a := m5) (b := 72) (tgt := 136) hx hb xd_Mo_load_65 (by decide) (by omega) (by omega) (fun hc54 => ?_) (fun hc54 => ?_)
        · refine lv_aload_n hx hb xd_Mo_load_136 rfl (lv_at hl 1 rfl) ?_
          refine lv_iconst (v := 2) hx hb xd_Mo_load_137 (by decide) ?_
          have hFc := va_free (wc := (moW h mm kA (va_up (va_up (va_up v 0 0) 2 0) 3 (nI wn8)) (va_up (va_up (va_up g 1 fa6) 2 fb7) 24 fs52))) hD hS hA [0, 1, 2, 3, 4, 5, 6, 7, 8, 9, 10, 11, 12, 13, 14, 15, 16, 17, 18, 19, 20, 21, 22, 23, 24, 25] rfl
          refine va_calli (va_runV (As := [.int 2]) (rest := []) ⟨hx, hb, hml, hown, hT⟩ (xc_Mo_fails l D kA H.size h mm (va_up (va_up (va_up v 0 0) 2 0) 3 (nI wn8)) (va_up (va_up (va_up g 1 fa6) 2 fb7) 24 fs52) 2) (cwV 1 hT (wT_V k7a_20 k7a_21 k7a_22 k7a_4 k7a_19) rfl rfl rfl (by decide +kernel) ⟨Nat.le_of_ble_eq_true rfl, Nat.le_of_ble_eq_true rfl⟩) (x_preV hK hP hD 0 rfl rfl) rfl rfl hl.1 rfl (lv_room (Nat.le_of_ble_eq_true rfl)) xd_Mo_load_138 ⟨Nat.le_of_ble_eq_true rfl, Nat.le_of_ble_eq_true rfl⟩) hS (fun q _ h => hFc q h) hFc (fun r55 u56 t H1 locs ht hvm hp57 hB hz1 hk1 hS => ?_)
          obtain ⟨hP1, hD1⟩ := hB
          rw [ht] at hP1
          have hD1 := hD1.weaken (fun _ _ _ h => hFc _ h)
          obtain ⟨v58, g59⟩ := u56
          generalize H1 = H at hP1 hS ⊢
          have hP := hP1
          have hD := hD1
          have hP : va_P D xcl (moW h mm kA v58 g59) H := hP
          have hD : va_D A (moW h mm kA v58 g59) := hD
          obtain ⟨hr9, hu9⟩ := hp57
          subst hr9
          obtain ⟨hu1, hu2⟩ := Prod.mk.inj hu9
          subst hu1
          have hu2 := hu2.symm
          subst hu2
          have hP : va_P D xcl (moW h mm kA (va_up (va_up (va_up v 0 2) 2 0) 3 (nI wn8)) (va_up (va_up (va_up g 1 fa6) 2 fb7) 24 fs52)) H := hP
          have hD : va_D A (moW h mm kA (va_up (va_up (va_up v 0 2) 2 0) 3 (nI wn8)) (va_up (va_up (va_up g 1 fa6) 2 fb7) 24 fs52)) := hD
          exact W.iret (v := 0) hx hb hr (fun t ht hW => ⟨⟨0, ((va_up (va_up (va_up v 0 2) 2 0) 3 (nI wn8)), (va_up (va_up (va_up g 1 fa6) 2 fb7) 24 fs52)), rfl, ⟨Or.inr ⟨(by rw [← hnm]; exact hc29), z13, z14, z15, by
        rw [← hd9e, ← hnm]
        exact Or.inr ⟨(fun ⟨i9, q9⟩ => by rw [pI_none epke (by omega) z44] at q9; cases q9), Or.inl ⟨rfl, fun ⟨m9, q9⟩ => hno5 m9 (by have := q9.1; omega) q9⟩⟩⟩, MI_g rfl rfl rfl rfl rfl rfl rfl rfl (MI_v rfl rfl hMI), rfl, rfl, rfl, rfl, fun j h1 h2 h3 => by simp [va_up, h1, h2, h3]⟩, by rw [ht]; exact hP, hD⟩, hS.F ht⟩) hS.2.2 xd_Mo_load_141
        · refine lv_aload_n hx hb xd_Mo_load_68 rfl (lv_at hl 1 rfl) ?_
          refine va_get (D := D) (ci := 4) (v := .ref (mm 24)) (C := xR_Mo) (T := xT_Mo) (N := 31) hx hb hT xi_Mo hown hK.1 hP 0 rfl rfl 30 (by decide) (hT _ k7a_31) (fun _ h9 => h9) rfl xd_Mo_load_69 ?_
          refine lv_iload hx hb xd_Mo_load_72 (lv_at hl 0 rfl) ?_
          refine xn_zald (i := m5) hx hb hK.1 hP 25 2 rfl rfl (by omega) (by decide) xd_Mo_load_74 ?_
          refine lv_if_eq (tgt := 91) hx hb xd_Mo_load_75 (by decide) (fun hc60 => ?_) (fun hc60 => ?_)
          · refine lv_iconst (v := (-1)) hx hb xd_Mo_load_91 (by decide) ?_
            refine lv_istore hx hb xd_Mo_load_92 hl (Nat.le_of_ble_eq_true rfl) rfl (fun ls hl => ?_)
            have hl : lv_has ls 7 [(6, .int (-1)), (5, .int (nI m5)), (0, .ref h), (3, .int r1), (4, .int (nI d9))] := hl
            refine lv_iload hx hb xd_Mo_load_94 (lv_at hl 0 rfl) ?_
            refine lv_if_lt (tgt := 130) hx hb xd_Mo_load_96 (by decide) (fun _ => ?_) (fun hc61 => absurd hc61 (by decide))
            refine lv_iinc (k := 1) (x := (nI m5)) (v := (nI (m5 + 1))) hx hb xd_Mo_load_130 hl rfl (xb_inc m5 1) (Nat.le_of_ble_eq_true rfl) rfl (fun ls hl => ?_)
            have hl : lv_has ls 7 [(5, .int (nI (m5 + 1))), (6, .int (-1)), (0, .ref h), (3, .int r1), (4, .int (nI d9))] := hl
            refine lv_goto (tgt := 61) hx hb xd_Mo_load_133 (by decide) ?_
            exact ih53 (m5 + 1) _ _ _ (show 72 - (m5 + 1) < 72 - m5 by omega) (lv_sub hl [0, 2, 3, 4] rfl) hP hD hS ⟨(show (m5 + 1) ≤ 72 from by first | assumption | omega), (show ∀ m, m < (m5 + 1) → ¬ srQ g z13 d9 r1 m from fun m h q9 => by
        rcases Nat.lt_or_ge m m5 with z | z
        · exact hno5 m z q9
        · rw [show m = m5 by omega] at q9; exact absurd hc60 ((hrd9 m5 (by omega)).mpr q9.2.1))⟩
          · obtain ⟨pkf, hpkf, epkf⟩ := hpk (m5 % 12) (by omega)
            refine lv_aload_n hx hb xd_Mo_load_78 rfl (lv_at hl 1 rfl) ?_
            refine lv_iload hx hb xd_Mo_load_79 (lv_at hl 0 rfl) ?_
            refine lv_bipush (v := 12) hx hb xd_Mo_load_81 (by decide) ?_
            refine lv_irem hx hb xd_Mo_load_83 (by decide) ?_
            refine xn_top (y := nI (m5 % 12)) (pk_rem (a := m5) (d := 12) (by omega) (by decide) (by decide)) ?_
            refine lv_iload_n hx hb xd_Mo_load_84 rfl (lv_at hl 2 rfl) ?_
            have hFc := va_free (wc := (moW h mm kA (va_up (va_up (va_up v 0 0) 2 0) 3 (nI wn8)) (va_up (va_up (va_up g 1 fa6) 2 fb7) 24 fs52))) hD hS hA [0, 1, 2, 3, 4, 5, 6, 7, 8, 9, 10, 11, 12, 13, 14, 15, 16, 17, 18, 19, 20, 21, 22, 23, 24, 25] rfl
            refine va_calli (va_runV (As := [.int (nI (m5 % 12)), .int r1]) (rest := []) ⟨hx, hb, hml, hown, hT⟩ (xc_Mo_packageOfX l D kA H.size h mm (va_up (va_up (va_up v 0 0) 2 0) 3 (nI wn8)) (va_up (va_up (va_up g 1 fa6) 2 fb7) 24 fs52) (m5 % 12) r1 pkf (by first | assumption | omega) (by first | assumption | omega) (by first | assumption | omega)) (cwV 2 hT (wT_V k7a_24 k7a_25 k7a_26 k7a_4 k7a_23) rfl rfl rfl (by decide +kernel) ⟨Nat.le_of_ble_eq_true rfl, Nat.le_of_ble_eq_true rfl⟩) (x_preV hK hP hD 0 rfl rfl) rfl rfl hl.1 rfl (lv_room (Nat.le_of_ble_eq_true rfl)) xd_Mo_load_85 ⟨Nat.le_of_ble_eq_true rfl, Nat.le_of_ble_eq_true rfl⟩) hS (fun q _ h => hFc q h) hFc (fun r62 u63 t H1 locs ht hvm hp64 hB hz1 hk1 hS => ?_)
            obtain ⟨hP1, hD1⟩ := hB
            rw [ht] at hP1
            have hD1 := hD1.weaken (fun _ _ _ h => hFc _ h)
            generalize H1 = H at hP1 hS ⊢
            have hP := hP1
            have hD := hD1
            have hP : va_P D xcl (moW h mm kA (va_up (va_up (va_up v 0 0) 2 0) 3 (nI wn8)) (va_up (va_up (va_up g 1 fa6) 2 fb7) 24 fs52)) H := hP
            have hD : va_D A (moW h mm kA (va_up (va_up (va_up v 0 0) 2 0) 3 (nI wn8)) (va_up (va_up (va_up g 1 fa6) 2 fb7) 24 fs52)) := hD
            rcases hp64 with ⟨z65, z66, z67, rfl, z68, z69⟩ | ⟨rfl, z70⟩
            · refine lv_goto (tgt := 92) hx hb xd_Mo_load_88 (by decide) ?_
              refine lv_istore hx hb xd_Mo_load_92 hl (Nat.le_of_ble_eq_true rfl) rfl (fun ls hl => ?_)
              have hl : lv_has ls 7 [(6, .int (nI z65)), (5, .int (nI m5)), (0, .ref h), (3, .int r1), (4, .int (nI d9))] := hl
              refine lv_iload hx hb xd_Mo_load_94 (lv_at hl 0 rfl) ?_
              refine xz_lt (a := z65) (tgt := 130) hx hb xd_Mo_load_96 (by decide) (by omega) ?_
              refine lv_aload_n hx hb xd_Mo_load_99 rfl (lv_at hl 2 rfl) ?_
              refine lv_iload hx hb xd_Mo_load_100 (lv_at hl 0 rfl) ?_
              refine lv_aload_n hx hb xd_Mo_load_102 rfl (lv_at hl 2 rfl) ?_
              refine va_get (D := D) (ci := 4) (v := .ref (mm 4)) (C := xR_Mo) (T := xT_Mo) (N := 31) hx hb hT xi_Mo hown hK.1 hP 0 rfl rfl 9 (by decide) (hT _ k7a_32) (fun _ h9 => h9) rfl xd_Mo_load_103 ?_
              refine lv_iload hx hb xd_Mo_load_106 (lv_at hl 4 rfl) ?_
              refine xn_iald (i := d9) hx hb hK.1 hP 5 0 rfl rfl (by omega) (by decide) xd_Mo_load_108 ?_
              have hFc := va_free (wc := (moW h mm kA (va_up (va_up (va_up v 0 0) 2 0) 3 (nI wn8)) (va_up (va_up (va_up g 1 fa6) 2 fb7) 24 fs52))) hD hS hA [0, 1, 2, 3, 4, 5, 6, 7, 8, 9, 10, 11, 12, 13, 14, 15, 16, 17, 18, 19, 20, 21, 22, 23, 24, 25] rfl
              refine va_calli (va_runV (As := [.int (nI z65), .int (g 4 d9)]) (rest := []) ⟨hx, hb, hml, hown, hT⟩ (xc_Mo_exportsX l D kA H.size h mm (va_up (va_up (va_up v 0 0) 2 0) 3 (nI wn8)) (va_up (va_up (va_up g 1 fa6) 2 fb7) 24 fs52) z65 (g 4 d9) (by first | assumption | omega)) (cwV 2 hT (wT_V k7a_34 k7a_35 k7a_36 k7a_4 k7a_33) rfl rfl rfl (by decide +kernel) ⟨Nat.le_of_ble_eq_true rfl, Nat.le_of_ble_eq_true rfl⟩) (x_preV hK hP hD 0 rfl rfl) rfl rfl hl.1 rfl (lv_room (Nat.le_of_ble_eq_true rfl)) xd_Mo_load_109 ⟨Nat.le_of_ble_eq_true rfl, Nat.le_of_ble_eq_true rfl⟩) hS (fun q _ h => hFc q h) hFc (fun r72 u73 t H1 locs ht hvm hp74 hB hz1 hk1 hS => ?_)
              obtain ⟨hP1, hD1⟩ := hB
              rw [ht] at hP1
              have hD1 := hD1.weaken (fun _ _ _ h => hFc _ h)
              generalize H1 = H at hP1 hS ⊢
              have hP := hP1
              have hD := hD1
              have hP : va_P D xcl (moW h mm kA (va_up (va_up (va_up v 0 0) 2 0) 3 (nI wn8)) (va_up (va_up (va_up g 1 fa6) 2 fb7) 24 fs52)) H := hP
              have hD : va_D A (moW h mm kA (va_up (va_up (va_up v 0 0) 2 0) 3 (nI wn8)) (va_up (va_up (va_up g 1 fa6) 2 fb7) 24 fs52)) := hD
              rcases hp74 with ⟨rfl, z75⟩ | ⟨rfl, z76⟩
              · have hsr9 : srQ g z13 d9 r1 m5 := ⟨by omega, (hrd9 m5 (by omega)).mp hc60, z65 - 6 * (m5 % 12), (pI_some epkf (by omega) z66 z67 z68 z69), by rw [show 6 * (m5 % 12) + (z65 - 6 * (m5 % 12)) = z65 by omega]; exact z75⟩
                refine xz_eq (a := 1) (tgt := 130) hx hb xd_Mo_load_112 (by decide) (by omega) (fun hc77 => absurd hc77 (by omega)) (fun _ => ?_)
                refine lv_bipush (v := 16) hx hb xd_Mo_load_115 (by decide) ?_
                refine lv_iload hx hb xd_Mo_load_117 (lv_at hl 1 rfl) ?_
                refine lv_bipush (v := 12) hx hb xd_Mo_load_119 (by decide) ?_
                refine lv_idiv hx hb xd_Mo_load_121 (by decide) ?_
                refine xn_top (y := nI (m5 / 12)) (pk_div (a := m5) (d := 12) (by omega) (by decide) (by decide)) ?_
                refine lv_imul hx hb xd_Mo_load_122 ?_
                refine xn_top (y := nI (16 * (m5 / 12))) (pk_mul 16 (m5 / 12)) ?_
                refine lv_iload hx hb xd_Mo_load_123 (lv_at hl 1 rfl) ?_
                refine lv_bipush (v := 12) hx hb xd_Mo_load_125 (by decide) ?_
                refine lv_irem hx hb xd_Mo_load_127 (by decide) ?_
                refine xn_top (y := nI (m5 % 12)) (pk_rem (a := m5) (d := 12) (by omega) (by decide) (by decide)) ?_
                refine lv_iadd hx hb xd_Mo_load_128 ?_
                refine xn_top (y := nI ((16 * (m5 / 12)) + (m5 % 12))) (nI_add (16 * (m5 / 12)) (m5 % 12)) ?_
                exact W.iret (v := (nI ((16 * (m5 / 12)) + (m5 % 12)))) hx hb hr (fun t ht hW => ⟨⟨(nI ((16 * (m5 / 12)) + (m5 % 12))), ((va_up (va_up (va_up v 0 0) 2 0) 3 (nI wn8)), (va_up (va_up (va_up g 1 fa6) 2 fb7) 24 fs52)), rfl, ⟨Or.inr ⟨(by rw [← hnm]; exact hc29), z13, z14, z15, by
        rw [← hd9e, ← hnm]
        exact Or.inr ⟨(fun ⟨i9, q9⟩ => by rw [pI_none epke (by omega) z44] at q9; cases q9), Or.inr ⟨rfl, m5, hsr9, rfl⟩⟩⟩, MI_g rfl rfl rfl rfl rfl rfl rfl rfl (MI_v rfl rfl hMI), rfl, rfl, rfl, rfl, fun j h1 h2 h3 => by simp [va_up, h1, h2, h3]⟩, by rw [ht]; exact hP, hD⟩, hS.F ht⟩) hS.2.2 xd_Mo_load_129
              · have hns9 : ¬ srQ g z13 d9 r1 m5 := fun ⟨_, _, i9, q1, q2⟩ => by
                  rw [(pI_some epkf (by omega) z66 z67 z68 z69)] at q1
                  rw [← Option.some.inj q1, show 6 * (m5 % 12) + (z65 - 6 * (m5 % 12)) = z65 by omega] at q2
                  exact z76 q2
                refine xz_eq (a := 0) (tgt := 130) hx hb xd_Mo_load_112 (by decide) (by omega) (fun _ => ?_) (fun hc78 => absurd hc78 (by omega))
                refine lv_iinc (k := 1) (x := (nI m5)) (v := (nI (m5 + 1))) hx hb xd_Mo_load_130 hl rfl (xb_inc m5 1) (Nat.le_of_ble_eq_true rfl) rfl (fun ls hl => ?_)
                have hl : lv_has ls 7 [(5, .int (nI (m5 + 1))), (6, .int (nI z65)), (0, .ref h), (3, .int r1), (4, .int (nI d9))] := hl
                refine lv_goto (tgt := 61) hx hb xd_Mo_load_133 (by decide) ?_
                exact ih53 (m5 + 1) _ _ _ (show 72 - (m5 + 1) < 72 - m5 by omega) (lv_sub hl [0, 2, 3, 4] rfl) hP hD hS ⟨(show (m5 + 1) ≤ 72 from by first | assumption | omega), (show ∀ m, m < (m5 + 1) → ¬ srQ g z13 d9 r1 m from fun m h q9 => by
        rcases Nat.lt_or_ge m m5 with z | z
        · exact hno5 m z q9
        · rw [show m = m5 by omega] at q9; exact hns9 q9)⟩
            · refine lv_goto (tgt := 92) hx hb xd_Mo_load_88 (by decide) ?_
              refine lv_istore hx hb xd_Mo_load_92 hl (Nat.le_of_ble_eq_true rfl) rfl (fun ls hl => ?_)
              have hl : lv_has ls 7 [(6, .int (-1)), (5, .int (nI m5)), (0, .ref h), (3, .int r1), (4, .int (nI d9))] := hl
              refine lv_iload hx hb xd_Mo_load_94 (lv_at hl 0 rfl) ?_
              refine lv_if_lt (tgt := 130) hx hb xd_Mo_load_96 (by decide) (fun _ => ?_) (fun hc79 => absurd hc79 (by decide))
              refine lv_iinc (k := 1) (x := (nI m5)) (v := (nI (m5 + 1))) hx hb xd_Mo_load_130 hl rfl (xb_inc m5 1) (Nat.le_of_ble_eq_true rfl) rfl (fun ls hl => ?_)
              have hl : lv_has ls 7 [(5, .int (nI (m5 + 1))), (6, .int (-1)), (0, .ref h), (3, .int r1), (4, .int (nI d9))] := hl
              refine lv_goto (tgt := 61) hx hb xd_Mo_load_133 (by decide) ?_
              exact ih53 (m5 + 1) _ _ _ (show 72 - (m5 + 1) < 72 - m5 by omega) (lv_sub hl [0, 2, 3, 4] rfl) hP hD hS ⟨(show (m5 + 1) ≤ 72 from by first | assumption | omega), (show ∀ m, m < (m5 + 1) → ¬ srQ g z13 d9 r1 m from fun m h q9 => by
        rcases Nat.lt_or_ge m m5 with z | z
        · exact hno5 m z q9
        · rw [show m = m5 by omega] at q9; exact (by
            obtain ⟨_, _, i9, q1, _⟩ := q9
            rw [pI_none epkf (by omega) z70] at q1; cases q1))⟩
def eI (e : va_E) (k : Nat) : Int32 := match e with
  | .inr (_, fs) => (match fs[k]? with
    | some (.int x) => x
    | _ => 0)
  | _ => 0
def eV (e : va_E) (k : Nat) : Value := match e with
  | .inr (_, fs) => (fs[k]?).getD .null
  | _ => .null
def eA (e : va_E) : Nat → Int32 := match e with
  | .inl (_, _, .inl f) => f
  | _ => fun _ => 0
def eL (e : va_E) : Nat := match e with
  | .inl (_, n, _) => n
  | _ => 0
def NT (n : Nat) (f to : Nat → Int32) : Prop := ∀ j, j < 3 → (j < n → f j = to j ∧ 0 < to j) ∧ (n ≤ j → to j = 0)
def TG (a b c : va_E) (all : Int32) (to : Nat → Int32) : Prop := eI a 1 = all ∧ (all = 0 → NT (iN (eI b 1)) (eA c) to)
def TD (g : gT) (e : Nat → va_E) (d : Nat) : Prop := eI (e 0) 1 = g 3 d ∧ eI (e 0) 2 = g 4 d ∧ eI (e 0) 11 = g 11 d ∧ eI (e 1) 1 = g 5 d ∧ (∀ i, i < iN (g 5 d) → eA (e 5) i = g 6 (6 * d + i)) ∧ eI (e 2) 1 = g 12 d ∧ (∀ i, i < iN (g 12 d) → eA (e 6) i = g 13 (5 * d + i) ∧ eA (e 11) i = g 16 (5 * d + i) ∧ eA (e 12) i = g 17 (5 * d + i)) ∧ NT (iN (eI (e 3) 1)) (eA (e 7)) (fun i => g 14 (3 * d + i)) ∧ NT (iN (eI (e 4) 1)) (eA (e 8)) (fun i => g 15 (3 * d + i)) ∧ ∀ i, i < iN (g 5 d) → TG (e (20 + 3 * i)) (e (21 + 3 * i)) (e (22 + 3 * i)) (g 9 (6 * d + i)) (fun j => g 7 (3 * (6 * d + i) + j)) ∧ TG (e (38 + 3 * i)) (e (39 + 3 * i)) (e (40 + 3 * i)) (g 10 (6 * d + i)) (fun j => g 8 (3 * (6 * d + i) + j))
def TDs (g : gT) (E : Nat → Nat → va_E) (nd : Nat) : Prop := ∀ d, d < nd → TD g (E (1 + d)) d
theorem TDs_same {g : gT} {E E' : Nat → Nat → va_E} {nd : Nat} (h : ∀ d, d < nd → E' (1 + d) = E (1 + d)) (ht : TDs g E nd) : TDs g E' nd := fun d hd => by rw [h d hd]; exact ht d hd
def ZI (g : gT) (nd : Nat) : Prop := ∀ d, d < 12 → (nd ≤ d → g 5 d = 0 ∧ g 12 d = 0 ∧ g 11 d = 0 ∧ ∀ i, i < 3 → g 14 (3 * d + i) = 0 ∧ g 15 (3 * d + i) = 0) ∧ ∀ i, i < 6 → (nd ≤ d ∨ iN (g 5 d) ≤ i) → g 9 (6 * d + i) = 0 ∧ g 10 (6 * d + i) = 0 ∧ ∀ j, j < 3 → g 7 (3 * (6 * d + i) + j) = 0 ∧ g 8 (3 * (6 * d + i) + j) = 0
def LW (g : gT) (E : Nat → Nat → va_E) (lt : Nat) (wl : List (Nat × Nat)) : Prop := WL wl ∧ lt ≤ 40 ∧ (∀ i, i < wl.length → eA (E 0 3) i = nI (wb wl i) ∧ eA (E 0 4) i = nI (we wl i) ∧ we wl i ≤ lt) ∧ ∀ i, i < lt → eA (E 0 2) i = g 0 i
theorem nV_congr {t t2 : Nat → Int32} {b e : Nat} (h : ∀ j, b ≤ j → j < e → t j = t2 j) : nV t b e = nV t2 b e := by
  unfold nV
  have h3 : n_small t b (e - b) ↔ n_small t2 b (e - b) := n_small_congr fun j h1 h2 => h j h1 (by omega)
  rw [n_fold_congr (t := t) (t2 := t2) (fun j h1 h2 => h j h1 (by omega)), h3]
theorem wE_congr {t t2 : Nat → Int32} {b e : Nat} {s : List Nat} (h : ∀ j, b ≤ j → j < e → t j = t2 j) : wE t b e s ↔ wE t2 b e s := by
  unfold wE
  constructor
  · intro ⟨h1, h2⟩
    exact ⟨h1, fun p hp => by rw [← h (b + p) (by omega) (by omega)]; exact h2 p hp⟩
  · intro ⟨h1, h2⟩
    exact ⟨h1, fun p hp => by rw [h (b + p) (by omega) (by omega)]; exact h2 p hp⟩
def zW (si : Nat) : List Nat := (List.range (zL.getD si 0)).map (fun k => iN ((zB.getD si []).getD k 0))
theorem zW_len : ∀ si, si < 12 → (zW si).length = zL.getD si 0 := by decide +kernel
theorem zW_chr : ∀ si, si < 12 → ∀ k, k < zL.getD si 0 → ((zB.getD si []).getD k 0 &&& 255) = nI ((zW si).getD k 0) := by decide +kernel
theorem zW_all : zW 0 = zMo ∧ zW 1 = zPa ∧ zW 2 = zEx ∧ zW 3 = zOp ∧ zW 4 = zRe ∧ zW 5 = zUs ∧ zW 6 = zPr ∧ zW 7 = [48] ∧ zW 8 = [49] ∧ zW 9 = zTo ∧ zW 10 = zTr ∧ zW 11 = zSt := by decide +kernel
abbrev xb_La_law : ByteArray := code
abbrev xb_Mo_thrown : ByteArray := prog_12_method_2_code
def xy_Mo_thrown : MethodName := ⟨"LayerDeskModel", "thrown", "()I"⟩
theorem xd_La_law_23 : decode xb_La_law 23 = .ok (.iload 4, 2) := by decide +kernel
theorem xd_La_law_25 : decode xb_La_law 25 = .ok (.aload_n 0, 1) := by decide +kernel
theorem xd_La_law_26 : decode xb_La_law 26 = .ok (.arraylength, 1) := by decide +kernel
theorem xd_La_law_27 : decode xb_La_law 27 = .ok (.iconst 5, 1) := by decide +kernel
theorem xd_La_law_28 : decode xb_La_law 28 = .ok (.isub, 1) := by decide +kernel
theorem xd_La_law_29 : decode xb_La_law 29 = .ok (.if_icmp .gt 546, 3) := by decide +kernel
theorem xd_La_law_32 : decode xb_La_law 32 = .ok (.aload_n 0, 1) := by decide +kernel
theorem xd_La_law_33 : decode xb_La_law 33 = .ok (.iload 4, 2) := by decide +kernel
theorem xd_La_law_35 : decode xb_La_law 35 = .ok (.iaload, 1) := by decide +kernel
theorem xd_La_law_36 : decode xb_La_law 36 = .ok (.bipush 15, 2) := by decide +kernel
theorem xd_La_law_38 : decode xb_La_law 38 = .ok (.iand, 1) := by decide +kernel
theorem xd_La_law_39 : decode xb_La_law 39 = .ok (.tableswitch 530 0 11 #[61, 88, 104, 172, 185, 210, 235, 260, 297, 358, 426, 490], 61) := by decide +kernel
theorem xd_La_law_100 : decode xb_La_law 100 = .ok (.aload_n 1, 1) := by decide +kernel
theorem xd_La_law_101 : decode xb_La_law 101 = .ok (.aload_n 0, 1) := by decide +kernel
theorem xd_La_law_102 : decode xb_La_law 102 = .ok (.iload 4, 2) := by decide +kernel
theorem xd_La_law_104 : decode xb_La_law 104 = .ok (.iconst 1, 1) := by decide +kernel
theorem xd_La_law_105 : decode xb_La_law 105 = .ok (.iadd, 1) := by decide +kernel
theorem xd_La_law_106 : decode xb_La_law 106 = .ok (.iaload, 1) := by decide +kernel
theorem xd_La_law_107 : decode xb_La_law 107 = .ok (.i2c, 1) := by decide +kernel
theorem xd_La_law_108 : decode xb_La_law 108 = .ok (.invokevirtual 38, 3) := by decide +kernel
theorem xd_La_law_111 : decode xb_La_law 111 = .ok (.pop, 1) := by decide +kernel
theorem xd_La_law_112 : decode xb_La_law 112 = .ok (.aload_n 2, 1) := by decide +kernel
theorem xd_La_law_113 : decode xb_La_law 113 = .ok (.aload_n 0, 1) := by decide +kernel
theorem xd_La_law_114 : decode xb_La_law 114 = .ok (.iload 4, 2) := by decide +kernel
theorem xd_La_law_116 : decode xb_La_law 116 = .ok (.iconst 1, 1) := by decide +kernel
theorem xd_La_law_117 : decode xb_La_law 117 = .ok (.iadd, 1) := by decide +kernel
theorem xd_La_law_118 : decode xb_La_law 118 = .ok (.iaload, 1) := by decide +kernel
theorem xd_La_law_119 : decode xb_La_law 119 = .ok (.i2c, 1) := by decide +kernel
theorem xd_La_law_120 : decode xb_La_law 120 = .ok (.invokevirtual 42, 3) := by decide +kernel
theorem xd_La_law_123 : decode xb_La_law 123 = .ok (.pop, 1) := by decide +kernel
theorem xd_La_law_124 : decode xb_La_law 124 = .ok (.goto 445, 3) := by decide +kernel
theorem xd_La_law_127 : decode xb_La_law 127 = .ok (.aload_n 1, 1) := by decide +kernel
theorem xd_La_law_128 : decode xb_La_law 128 = .ok (.aload_n 3, 1) := by decide +kernel
theorem xd_La_law_129 : decode xb_La_law 129 = .ok (.invokestatic 43, 3) := by decide +kernel
theorem xd_La_law_132 : decode xb_La_law 132 = .ok (.istore 5, 2) := by decide +kernel
theorem xd_La_law_134 : decode xb_La_law 134 = .ok (.aload_n 2, 1) := by decide +kernel
theorem xd_La_law_135 : decode xb_La_law 135 = .ok (.invokevirtual 48, 3) := by decide +kernel
theorem xd_La_law_138 : decode xb_La_law 138 = .ok (.istore 6, 2) := by decide +kernel
theorem xd_La_law_140 : decode xb_La_law 140 = .ok (.goto 429, 3) := by decide +kernel
theorem xd_La_law_143 : decode xb_La_law 143 = .ok (.aload_n 1, 1) := by decide +kernel
theorem xd_La_law_144 : decode xb_La_law 144 = .ok (.aload_n 0, 1) := by decide +kernel
theorem xd_La_law_145 : decode xb_La_law 145 = .ok (.iload 4, 2) := by decide +kernel
theorem xd_La_law_147 : decode xb_La_law 147 = .ok (.iconst 1, 1) := by decide +kernel
theorem xd_La_law_148 : decode xb_La_law 148 = .ok (.iadd, 1) := by decide +kernel
theorem xd_La_law_149 : decode xb_La_law 149 = .ok (.iaload, 1) := by decide +kernel
theorem xd_La_law_150 : decode xb_La_law 150 = .ok (.aload_n 0, 1) := by decide +kernel
theorem xd_La_law_151 : decode xb_La_law 151 = .ok (.iload 4, 2) := by decide +kernel
theorem xd_La_law_153 : decode xb_La_law 153 = .ok (.iconst 2, 1) := by decide +kernel
theorem xd_La_law_154 : decode xb_La_law 154 = .ok (.iadd, 1) := by decide +kernel
theorem xd_La_law_155 : decode xb_La_law 155 = .ok (.iaload, 1) := by decide +kernel
theorem xd_La_law_156 : decode xb_La_law 156 = .ok (.aload_n 0, 1) := by decide +kernel
theorem xd_La_law_157 : decode xb_La_law 157 = .ok (.iload 4, 2) := by decide +kernel
theorem xd_La_law_159 : decode xb_La_law 159 = .ok (.iconst 3, 1) := by decide +kernel
theorem xd_La_law_160 : decode xb_La_law 160 = .ok (.iadd, 1) := by decide +kernel
theorem xd_La_law_161 : decode xb_La_law 161 = .ok (.iaload, 1) := by decide +kernel
theorem xd_La_law_162 : decode xb_La_law 162 = .ok (.ifCond .eq 7, 3) := by decide +kernel
theorem xd_La_law_165 : decode xb_La_law 165 = .ok (.iconst 1, 1) := by decide +kernel
theorem xd_La_law_166 : decode xb_La_law 166 = .ok (.goto 4, 3) := by decide +kernel
theorem xd_La_law_169 : decode xb_La_law 169 = .ok (.iconst 0, 1) := by decide +kernel
theorem xd_La_law_170 : decode xb_La_law 170 = .ok (.aload_n 3, 1) := by decide +kernel
theorem xd_La_law_171 : decode xb_La_law 171 = .ok (.invokestatic 49, 3) := by decide +kernel
theorem xd_La_law_174 : decode xb_La_law 174 = .ok (.istore 5, 2) := by decide +kernel
theorem xd_La_law_176 : decode xb_La_law 176 = .ok (.aload_n 2, 1) := by decide +kernel
theorem xd_La_law_177 : decode xb_La_law 177 = .ok (.aload_n 0, 1) := by decide +kernel
theorem xd_La_law_178 : decode xb_La_law 178 = .ok (.iload 4, 2) := by decide +kernel
theorem xd_La_law_180 : decode xb_La_law 180 = .ok (.iconst 1, 1) := by decide +kernel
theorem xd_La_law_181 : decode xb_La_law 181 = .ok (.iadd, 1) := by decide +kernel
theorem xd_La_law_182 : decode xb_La_law 182 = .ok (.iaload, 1) := by decide +kernel
theorem xd_La_law_183 : decode xb_La_law 183 = .ok (.aload_n 0, 1) := by decide +kernel
theorem xd_La_law_184 : decode xb_La_law 184 = .ok (.iload 4, 2) := by decide +kernel
theorem xd_La_law_186 : decode xb_La_law 186 = .ok (.iconst 2, 1) := by decide +kernel
theorem xd_La_law_187 : decode xb_La_law 187 = .ok (.iadd, 1) := by decide +kernel
theorem xd_La_law_188 : decode xb_La_law 188 = .ok (.iaload, 1) := by decide +kernel
theorem xd_La_law_189 : decode xb_La_law 189 = .ok (.aload_n 0, 1) := by decide +kernel
theorem xd_La_law_190 : decode xb_La_law 190 = .ok (.iload 4, 2) := by decide +kernel
theorem xd_La_law_192 : decode xb_La_law 192 = .ok (.iconst 3, 1) := by decide +kernel
theorem xd_La_law_193 : decode xb_La_law 193 = .ok (.iadd, 1) := by decide +kernel
theorem xd_La_law_194 : decode xb_La_law 194 = .ok (.iaload, 1) := by decide +kernel
theorem xd_La_law_195 : decode xb_La_law 195 = .ok (.ifCond .eq 7, 3) := by decide +kernel
theorem xd_La_law_198 : decode xb_La_law 198 = .ok (.iconst 1, 1) := by decide +kernel
theorem xd_La_law_199 : decode xb_La_law 199 = .ok (.goto 4, 3) := by decide +kernel
theorem xd_La_law_202 : decode xb_La_law 202 = .ok (.iconst 0, 1) := by decide +kernel
theorem xd_La_law_203 : decode xb_La_law 203 = .ok (.invokevirtual 52, 3) := by decide +kernel
theorem xd_La_law_206 : decode xb_La_law 206 = .ok (.istore 6, 2) := by decide +kernel
theorem xd_La_law_208 : decode xb_La_law 208 = .ok (.goto 361, 3) := by decide +kernel
theorem xd_La_law_211 : decode xb_La_law 211 = .ok (.aload_n 1, 1) := by decide +kernel
theorem xd_La_law_212 : decode xb_La_law 212 = .ok (.invokevirtual 53, 3) := by decide +kernel
theorem xd_La_law_215 : decode xb_La_law 215 = .ok (.pop, 1) := by decide +kernel
theorem xd_La_law_216 : decode xb_La_law 216 = .ok (.aload_n 2, 1) := by decide +kernel
theorem xd_La_law_217 : decode xb_La_law 217 = .ok (.invokevirtual 56, 3) := by decide +kernel
theorem xd_La_law_220 : decode xb_La_law 220 = .ok (.pop, 1) := by decide +kernel
theorem xd_La_law_221 : decode xb_La_law 221 = .ok (.goto 348, 3) := by decide +kernel
theorem xd_La_law_224 : decode xb_La_law 224 = .ok (.aload_n 1, 1) := by decide +kernel
theorem xd_La_law_225 : decode xb_La_law 225 = .ok (.aload_n 0, 1) := by decide +kernel
theorem xd_La_law_226 : decode xb_La_law 226 = .ok (.iload 4, 2) := by decide +kernel
theorem xd_La_law_228 : decode xb_La_law 228 = .ok (.iconst 1, 1) := by decide +kernel
theorem xd_La_law_229 : decode xb_La_law 229 = .ok (.iadd, 1) := by decide +kernel
theorem xd_La_law_230 : decode xb_La_law 230 = .ok (.iaload, 1) := by decide +kernel
theorem xd_La_law_231 : decode xb_La_law 231 = .ok (.invokevirtual 57, 3) := by decide +kernel
theorem xd_La_law_234 : decode xb_La_law 234 = .ok (.pop, 1) := by decide +kernel
theorem xd_La_law_235 : decode xb_La_law 235 = .ok (.aload_n 2, 1) := by decide +kernel
theorem xd_La_law_236 : decode xb_La_law 236 = .ok (.aload_n 0, 1) := by decide +kernel
theorem xd_La_law_237 : decode xb_La_law 237 = .ok (.iload 4, 2) := by decide +kernel
theorem xd_La_law_239 : decode xb_La_law 239 = .ok (.iconst 1, 1) := by decide +kernel
theorem xd_La_law_240 : decode xb_La_law 240 = .ok (.iadd, 1) := by decide +kernel
theorem xd_La_law_241 : decode xb_La_law 241 = .ok (.iaload, 1) := by decide +kernel
theorem xd_La_law_242 : decode xb_La_law 242 = .ok (.invokevirtual 61, 3) := by decide +kernel
theorem xd_La_law_245 : decode xb_La_law 245 = .ok (.pop, 1) := by decide +kernel
theorem xd_La_law_246 : decode xb_La_law 246 = .ok (.goto 323, 3) := by decide +kernel
theorem xd_La_law_249 : decode xb_La_law 249 = .ok (.aload_n 1, 1) := by decide +kernel
theorem xd_La_law_250 : decode xb_La_law 250 = .ok (.aload_n 0, 1) := by decide +kernel
theorem xd_La_law_251 : decode xb_La_law 251 = .ok (.iload 4, 2) := by decide +kernel
theorem xd_La_law_253 : decode xb_La_law 253 = .ok (.iconst 1, 1) := by decide +kernel
theorem xd_La_law_254 : decode xb_La_law 254 = .ok (.iadd, 1) := by decide +kernel
theorem xd_La_law_255 : decode xb_La_law 255 = .ok (.iaload, 1) := by decide +kernel
theorem xd_La_law_256 : decode xb_La_law 256 = .ok (.invokevirtual 62, 3) := by decide +kernel
theorem xd_La_law_259 : decode xb_La_law 259 = .ok (.pop, 1) := by decide +kernel
theorem xd_La_law_260 : decode xb_La_law 260 = .ok (.aload_n 2, 1) := by decide +kernel
theorem xd_La_law_261 : decode xb_La_law 261 = .ok (.aload_n 0, 1) := by decide +kernel
theorem xd_La_law_262 : decode xb_La_law 262 = .ok (.iload 4, 2) := by decide +kernel
theorem xd_La_law_264 : decode xb_La_law 264 = .ok (.iconst 1, 1) := by decide +kernel
theorem xd_La_law_265 : decode xb_La_law 265 = .ok (.iadd, 1) := by decide +kernel
theorem xd_La_law_266 : decode xb_La_law 266 = .ok (.iaload, 1) := by decide +kernel
theorem xd_La_law_267 : decode xb_La_law 267 = .ok (.invokevirtual 66, 3) := by decide +kernel
theorem xd_La_law_270 : decode xb_La_law 270 = .ok (.pop, 1) := by decide +kernel
theorem xd_La_law_271 : decode xb_La_law 271 = .ok (.goto 298, 3) := by decide +kernel
theorem xd_La_law_274 : decode xb_La_law 274 = .ok (.aload_n 1, 1) := by decide +kernel
theorem xd_La_law_275 : decode xb_La_law 275 = .ok (.aload_n 0, 1) := by decide +kernel
theorem xd_La_law_276 : decode xb_La_law 276 = .ok (.iload 4, 2) := by decide +kernel
theorem xd_La_law_278 : decode xb_La_law 278 = .ok (.iconst 1, 1) := by decide +kernel
theorem xd_La_law_279 : decode xb_La_law 279 = .ok (.iadd, 1) := by decide +kernel
theorem xd_La_law_280 : decode xb_La_law 280 = .ok (.iaload, 1) := by decide +kernel
theorem xd_La_law_281 : decode xb_La_law 281 = .ok (.invokevirtual 67, 3) := by decide +kernel
theorem xd_La_law_284 : decode xb_La_law 284 = .ok (.pop, 1) := by decide +kernel
theorem xd_La_law_285 : decode xb_La_law 285 = .ok (.aload_n 2, 1) := by decide +kernel
theorem xd_La_law_286 : decode xb_La_law 286 = .ok (.aload_n 0, 1) := by decide +kernel
theorem xd_La_law_287 : decode xb_La_law 287 = .ok (.iload 4, 2) := by decide +kernel
theorem xd_La_law_289 : decode xb_La_law 289 = .ok (.iconst 1, 1) := by decide +kernel
theorem xd_La_law_290 : decode xb_La_law 290 = .ok (.iadd, 1) := by decide +kernel
theorem xd_La_law_291 : decode xb_La_law 291 = .ok (.iaload, 1) := by decide +kernel
theorem xd_La_law_292 : decode xb_La_law 292 = .ok (.invokevirtual 70, 3) := by decide +kernel
theorem xd_La_law_295 : decode xb_La_law 295 = .ok (.pop, 1) := by decide +kernel
theorem xd_La_law_296 : decode xb_La_law 296 = .ok (.goto 273, 3) := by decide +kernel
theorem xd_La_law_299 : decode xb_La_law 299 = .ok (.aload_n 1, 1) := by decide +kernel
theorem xd_La_law_300 : decode xb_La_law 300 = .ok (.aload_n 0, 1) := by decide +kernel
theorem xd_La_law_301 : decode xb_La_law 301 = .ok (.iload 4, 2) := by decide +kernel
theorem xd_La_law_303 : decode xb_La_law 303 = .ok (.iconst 1, 1) := by decide +kernel
theorem xd_La_law_304 : decode xb_La_law 304 = .ok (.iadd, 1) := by decide +kernel
theorem xd_La_law_305 : decode xb_La_law 305 = .ok (.iaload, 1) := by decide +kernel
theorem xd_La_law_306 : decode xb_La_law 306 = .ok (.aload_n 0, 1) := by decide +kernel
theorem xd_La_law_307 : decode xb_La_law 307 = .ok (.iload 4, 2) := by decide +kernel
theorem xd_La_law_309 : decode xb_La_law 309 = .ok (.iconst 2, 1) := by decide +kernel
theorem xd_La_law_310 : decode xb_La_law 310 = .ok (.iadd, 1) := by decide +kernel
theorem xd_La_law_311 : decode xb_La_law 311 = .ok (.iaload, 1) := by decide +kernel
theorem xd_La_law_312 : decode xb_La_law 312 = .ok (.invokevirtual 71, 3) := by decide +kernel
theorem xd_La_law_315 : decode xb_La_law 315 = .ok (.pop, 1) := by decide +kernel
theorem xd_La_law_316 : decode xb_La_law 316 = .ok (.aload_n 2, 1) := by decide +kernel
theorem xd_La_law_317 : decode xb_La_law 317 = .ok (.aload_n 0, 1) := by decide +kernel
theorem xd_La_law_318 : decode xb_La_law 318 = .ok (.iload 4, 2) := by decide +kernel
theorem xd_La_law_320 : decode xb_La_law 320 = .ok (.iconst 1, 1) := by decide +kernel
theorem xd_La_law_321 : decode xb_La_law 321 = .ok (.iadd, 1) := by decide +kernel
theorem xd_La_law_322 : decode xb_La_law 322 = .ok (.iaload, 1) := by decide +kernel
theorem xd_La_law_323 : decode xb_La_law 323 = .ok (.aload_n 0, 1) := by decide +kernel
theorem xd_La_law_324 : decode xb_La_law 324 = .ok (.iload 4, 2) := by decide +kernel
theorem xd_La_law_326 : decode xb_La_law 326 = .ok (.iconst 2, 1) := by decide +kernel
theorem xd_La_law_327 : decode xb_La_law 327 = .ok (.iadd, 1) := by decide +kernel
theorem xd_La_law_328 : decode xb_La_law 328 = .ok (.iaload, 1) := by decide +kernel
theorem xd_La_law_329 : decode xb_La_law 329 = .ok (.invokevirtual 74, 3) := by decide +kernel
theorem xd_La_law_332 : decode xb_La_law 332 = .ok (.pop, 1) := by decide +kernel
theorem xd_La_law_333 : decode xb_La_law 333 = .ok (.goto 236, 3) := by decide +kernel
theorem xd_La_law_336 : decode xb_La_law 336 = .ok (.aload_n 1, 1) := by decide +kernel
theorem xd_La_law_337 : decode xb_La_law 337 = .ok (.aload_n 0, 1) := by decide +kernel
theorem xd_La_law_338 : decode xb_La_law 338 = .ok (.iload 4, 2) := by decide +kernel
theorem xd_La_law_340 : decode xb_La_law 340 = .ok (.iconst 1, 1) := by decide +kernel
theorem xd_La_law_341 : decode xb_La_law 341 = .ok (.iadd, 1) := by decide +kernel
theorem xd_La_law_342 : decode xb_La_law 342 = .ok (.iaload, 1) := by decide +kernel
theorem xd_La_law_343 : decode xb_La_law 343 = .ok (.aload_n 0, 1) := by decide +kernel
theorem xd_La_law_344 : decode xb_La_law 344 = .ok (.iload 4, 2) := by decide +kernel
theorem xd_La_law_346 : decode xb_La_law 346 = .ok (.iconst 2, 1) := by decide +kernel
theorem xd_La_law_347 : decode xb_La_law 347 = .ok (.iadd, 1) := by decide +kernel
theorem xd_La_law_348 : decode xb_La_law 348 = .ok (.iaload, 1) := by decide +kernel
theorem xd_La_law_349 : decode xb_La_law 349 = .ok (.aload_n 0, 1) := by decide +kernel
theorem xd_La_law_350 : decode xb_La_law 350 = .ok (.iload 4, 2) := by decide +kernel
theorem xd_La_law_352 : decode xb_La_law 352 = .ok (.iconst 3, 1) := by decide +kernel
theorem xd_La_law_353 : decode xb_La_law 353 = .ok (.iadd, 1) := by decide +kernel
theorem xd_La_law_354 : decode xb_La_law 354 = .ok (.iaload, 1) := by decide +kernel
theorem xd_La_law_355 : decode xb_La_law 355 = .ok (.aload_n 0, 1) := by decide +kernel
theorem xd_La_law_356 : decode xb_La_law 356 = .ok (.iload 4, 2) := by decide +kernel
theorem xd_La_law_358 : decode xb_La_law 358 = .ok (.iconst 4, 1) := by decide +kernel
theorem xd_La_law_359 : decode xb_La_law 359 = .ok (.iadd, 1) := by decide +kernel
theorem xd_La_law_360 : decode xb_La_law 360 = .ok (.iaload, 1) := by decide +kernel
theorem xd_La_law_361 : decode xb_La_law 361 = .ok (.invokevirtual 75, 3) := by decide +kernel
theorem xd_La_law_364 : decode xb_La_law 364 = .ok (.pop, 1) := by decide +kernel
theorem xd_La_law_365 : decode xb_La_law 365 = .ok (.aload_n 2, 1) := by decide +kernel
theorem xd_La_law_366 : decode xb_La_law 366 = .ok (.aload_n 0, 1) := by decide +kernel
theorem xd_La_law_367 : decode xb_La_law 367 = .ok (.iload 4, 2) := by decide +kernel
theorem xd_La_law_369 : decode xb_La_law 369 = .ok (.iconst 1, 1) := by decide +kernel
theorem xd_La_law_370 : decode xb_La_law 370 = .ok (.iadd, 1) := by decide +kernel
theorem xd_La_law_371 : decode xb_La_law 371 = .ok (.iaload, 1) := by decide +kernel
theorem xd_La_law_372 : decode xb_La_law 372 = .ok (.aload_n 0, 1) := by decide +kernel
theorem xd_La_law_373 : decode xb_La_law 373 = .ok (.iload 4, 2) := by decide +kernel
theorem xd_La_law_375 : decode xb_La_law 375 = .ok (.iconst 2, 1) := by decide +kernel
theorem xd_La_law_376 : decode xb_La_law 376 = .ok (.iadd, 1) := by decide +kernel
theorem xd_La_law_377 : decode xb_La_law 377 = .ok (.iaload, 1) := by decide +kernel
theorem xd_La_law_378 : decode xb_La_law 378 = .ok (.aload_n 0, 1) := by decide +kernel
theorem xd_La_law_379 : decode xb_La_law 379 = .ok (.iload 4, 2) := by decide +kernel
theorem xd_La_law_381 : decode xb_La_law 381 = .ok (.iconst 3, 1) := by decide +kernel
theorem xd_La_law_382 : decode xb_La_law 382 = .ok (.iadd, 1) := by decide +kernel
theorem xd_La_law_383 : decode xb_La_law 383 = .ok (.iaload, 1) := by decide +kernel
theorem xd_La_law_384 : decode xb_La_law 384 = .ok (.aload_n 0, 1) := by decide +kernel
theorem xd_La_law_385 : decode xb_La_law 385 = .ok (.iload 4, 2) := by decide +kernel
theorem xd_La_law_387 : decode xb_La_law 387 = .ok (.iconst 4, 1) := by decide +kernel
theorem xd_La_law_388 : decode xb_La_law 388 = .ok (.iadd, 1) := by decide +kernel
theorem xd_La_law_389 : decode xb_La_law 389 = .ok (.iaload, 1) := by decide +kernel
theorem xd_La_law_390 : decode xb_La_law 390 = .ok (.invokevirtual 78, 3) := by decide +kernel
theorem xd_La_law_393 : decode xb_La_law 393 = .ok (.pop, 1) := by decide +kernel
theorem xd_La_law_394 : decode xb_La_law 394 = .ok (.goto 175, 3) := by decide +kernel
theorem xd_La_law_397 : decode xb_La_law 397 = .ok (.aload_n 1, 1) := by decide +kernel
theorem xd_La_law_398 : decode xb_La_law 398 = .ok (.aload_n 0, 1) := by decide +kernel
theorem xd_La_law_399 : decode xb_La_law 399 = .ok (.iload 4, 2) := by decide +kernel
theorem xd_La_law_401 : decode xb_La_law 401 = .ok (.iconst 1, 1) := by decide +kernel
theorem xd_La_law_402 : decode xb_La_law 402 = .ok (.iadd, 1) := by decide +kernel
theorem xd_La_law_403 : decode xb_La_law 403 = .ok (.iaload, 1) := by decide +kernel
theorem xd_La_law_404 : decode xb_La_law 404 = .ok (.aload_n 0, 1) := by decide +kernel
theorem xd_La_law_405 : decode xb_La_law 405 = .ok (.iload 4, 2) := by decide +kernel
theorem xd_La_law_407 : decode xb_La_law 407 = .ok (.iconst 2, 1) := by decide +kernel
theorem xd_La_law_408 : decode xb_La_law 408 = .ok (.iadd, 1) := by decide +kernel
theorem xd_La_law_409 : decode xb_La_law 409 = .ok (.iaload, 1) := by decide +kernel
theorem xd_La_law_410 : decode xb_La_law 410 = .ok (.aload_n 3, 1) := by decide +kernel
theorem xd_La_law_411 : decode xb_La_law 411 = .ok (.invokestatic 79, 3) := by decide +kernel
theorem xd_La_law_414 : decode xb_La_law 414 = .ok (.istore 5, 2) := by decide +kernel
theorem xd_La_law_416 : decode xb_La_law 416 = .ok (.aload_n 2, 1) := by decide +kernel
theorem xd_La_law_417 : decode xb_La_law 417 = .ok (.aload_n 0, 1) := by decide +kernel
theorem xd_La_law_418 : decode xb_La_law 418 = .ok (.iload 4, 2) := by decide +kernel
theorem xd_La_law_420 : decode xb_La_law 420 = .ok (.iconst 1, 1) := by decide +kernel
theorem xd_La_law_421 : decode xb_La_law 421 = .ok (.iadd, 1) := by decide +kernel
theorem xd_La_law_422 : decode xb_La_law 422 = .ok (.iaload, 1) := by decide +kernel
theorem xd_La_law_423 : decode xb_La_law 423 = .ok (.aload_n 0, 1) := by decide +kernel
theorem xd_La_law_424 : decode xb_La_law 424 = .ok (.iload 4, 2) := by decide +kernel
theorem xd_La_law_426 : decode xb_La_law 426 = .ok (.iconst 2, 1) := by decide +kernel
theorem xd_La_law_427 : decode xb_La_law 427 = .ok (.iadd, 1) := by decide +kernel
theorem xd_La_law_428 : decode xb_La_law 428 = .ok (.iaload, 1) := by decide +kernel
theorem xd_La_law_429 : decode xb_La_law 429 = .ok (.invokevirtual 82, 3) := by decide +kernel
theorem xd_La_law_432 : decode xb_La_law 432 = .ok (.istore 6, 2) := by decide +kernel
theorem xd_La_law_434 : decode xb_La_law 434 = .ok (.aload_n 2, 1) := by decide +kernel
theorem xd_La_law_435 : decode xb_La_law 435 = .ok (.invokevirtual 83, 3) := by decide +kernel
theorem xd_La_law_438 : decode xb_La_law 438 = .ok (.iload 5, 2) := by decide +kernel
theorem xd_La_law_440 : decode xb_La_law 440 = .ok (.if_icmp .eq 5, 3) := by decide +kernel
theorem xd_La_law_445 : decode xb_La_law 445 = .ok (.iload 5, 2) := by decide +kernel
theorem xd_La_law_447 : decode xb_La_law 447 = .ok (.ifCond .ne 15, 3) := by decide +kernel
theorem xd_La_law_450 : decode xb_La_law 450 = .ok (.aload_n 3, 1) := by decide +kernel
theorem xd_La_law_451 : decode xb_La_law 451 = .ok (.iconst 0, 1) := by decide +kernel
theorem xd_La_law_452 : decode xb_La_law 452 = .ok (.laload, 1) := by decide +kernel
theorem xd_La_law_462 : decode xb_La_law 462 = .ok (.goto 107, 3) := by decide +kernel
theorem xd_La_law_569 : decode xb_La_law 569 = .ok (.iinc 4 5, 3) := by decide +kernel
theorem xd_La_law_572 : decode xb_La_law 572 = .ok (.goto (-549), 3) := by decide +kernel
theorem xd_La_law_575 : decode xb_La_law 575 = .ok (.iconst 1, 1) := by decide +kernel
theorem xd_La_law_576 : decode xb_La_law 576 = .ok (.ireturn, 1) := by decide +kernel
theorem k5a_0 : (Cond.code xy_JS_checkIndex xb_JS_checkIndex 2 none) ∈ wT := wT_t (List.mem_append_left _ (List.mem_of_getElem? (i := 223) rfl)) rfl
theorem k5a_1 : (Cond.methodLink "java/lang/StringLatin1" 9 xy_JS_checkIndex) ∈ wT := wT_t (List.mem_append_left _ (List.mem_of_getElem? (i := 221) rfl)) rfl
theorem k5a_2 : (Cond.static xy_JS_checkIndex) ∈ wT := wT_t (List.mem_append_left _ (List.mem_of_getElem? (i := 222) rfl)) rfl
theorem k5a_3 : (Cond.initialized "java/lang/String") ∈ wT := wT_t (List.mem_append_left _ (List.mem_of_getElem? (i := 6) rfl)) rfl
theorem k5a_4 : (Cond.code xy_JS_isLatin1 xb_JS_isLatin1 1 (some .boolean)) ∈ wT := wT_t (List.mem_append_left _ (List.mem_of_getElem? (i := 217) rfl)) rfl
theorem k5a_5 : (Cond.methodLink "java/lang/String" 492 xy_JS_isLatin1) ∈ wT := wT_t (List.mem_append_left _ (List.mem_of_getElem? (i := 214) rfl)) rfl
theorem k5a_6 : (Cond.instanceMethod xy_JS_isLatin1) ∈ wT := wT_t (List.mem_append_left _ (List.mem_of_getElem? (i := 215) rfl)) rfl
theorem k5a_7 : (Cond.selects "java/lang/String" xy_JS_isLatin1 xy_JS_isLatin1) ∈ wT := wT_t (List.mem_append_left _ (List.mem_of_getElem? (i := 216) rfl)) rfl
theorem k5a_8 : (Cond.fieldLink "java/lang/String" 9 "java/lang/String" "value" "[B") ∈ wT := wT_t (List.mem_append_right _ (List.mem_append_right _ (List.mem_append_right _ (List.mem_append_right _ (List.mem_of_getElem? (i := 111) rfl))))) rfl
theorem k5a_9 : (Cond.code xy_JL_charAt xb_JL_charAt 2 (some .char)) ∈ wT := wT_t (List.mem_append_left _ (List.mem_of_getElem? (i := 220) rfl)) rfl
theorem k5a_10 : (Cond.methodLink "java/lang/String" 495 xy_JL_charAt) ∈ wT := wT_t (List.mem_append_left _ (List.mem_of_getElem? (i := 218) rfl)) rfl
theorem k5a_11 : (Cond.static xy_JL_charAt) ∈ wT := wT_t (List.mem_append_left _ (List.mem_of_getElem? (i := 219) rfl)) rfl
theorem k5a_12 : (Cond.initialized "java/lang/StringLatin1") ∈ wT := wT_t (List.mem_append_left _ (List.mem_of_getElem? (i := 7) rfl)) rfl
theorem k5a_13 : (Cond.fieldLink "LayerDesk$Line" 20 "LayerDesk$Line" "length" "I") ∈ wT := wT_t (List.mem_append_left _ (List.mem_of_getElem? (i := 39) rfl)) rfl
theorem k5a_14 : (Cond.fieldLink "LayerDesk$Line" 9 "LayerDesk$Line" "text" "[C") ∈ wT := wT_t (List.mem_append_left _ (List.mem_of_getElem? (i := 36) rfl)) rfl
theorem k5a_15 : (Cond.fieldLink "LayerDesk$Line" 24 "LayerDesk$Line" "words" "I") ∈ wT := wT_t (List.mem_append_left _ (List.mem_of_getElem? (i := 40) rfl)) rfl
theorem k5a_16 : (Cond.fieldLink "LayerDesk$Line" 13 "LayerDesk$Line" "starts" "[I") ∈ wT := wT_t (List.mem_append_left _ (List.mem_of_getElem? (i := 37) rfl)) rfl
theorem k5a_17 : (Cond.fieldLink "LayerDesk$Line" 17 "LayerDesk$Line" "ends" "[I") ∈ wT := wT_t (List.mem_append_left _ (List.mem_of_getElem? (i := 38) rfl)) rfl
set_option maxHeartbeats 4000000 in
set_option maxRecDepth 100000 in
theorem xc_JL_charAtX (l : Launch) (D : va_G) (kA : Nat → ClassId) (sz : Nat) (ad : Nat → Nat → Nat) (E : Nat → Nat → va_E) (RL : List (Nat × Nat)) (Z : zT) (si : Nat) (k : Nat) (hsi : si < 12) (hk : k < zL.getD si 0) : Met l xy_JL_charAt (.code xy_JL_charAt xb_JL_charAt 2 (some .char) :: wT) { frames := 2, cells := 0, slots := 0, locals := 43 } (va_Pc [.ref (Z.2.1 si), .int (nI k)] (xPreZ D kA sz (rp ad E RL) Z)) (va_Qi (fun (r : Int32) (u : Unit) => r = ((zB.getD si []).getD k 0 &&& 255)) (fun (u : Unit) t => va_P D xcl (rp ad E RL) t.heap ∧ va_D (va_A (rp ad E RL) sz) (rp ad E RL)) (va_A (rp ad E RL) sz)) 0 0 (va_A (rp ad E RL) sz) := by
  refine Met.ofW (cc := xb_JL_charAt) (maxL := 2) (ret := (some .char)) (by decide) rfl ?_
  intro p e s m args below meth c s₁ B hml hv
  obtain ⟨rfl, ⟨hsz, hP, hK, hD0⟩, hZ⟩ := hv
  have hx := B.exec
  have hb := B.bytes
  have hr := B.returns
  have hT := x_hT B.pre
  have hown : s.vm.findClass xR_JL = some m.cls := findClass_of_methodNamed B.named
  have hlocks := B.notSynchronized
  subst hsz
  have hD := hD0.self (sz := s.heap.size)
  generalize hAe : va_A (rp ad E RL) s.heap.size = A at hD hZ ⊢
  have hA : ∀ q : Nat, s.heap.size ≤ q → A q := fun q h => by rw [← hAe]; exact Or.inr h
  have hS : va_S A s.heap s.heap [] := va_S.rf
  have hl := lv_entry ([.ref (Z.2.1 si), .int (nI k)]) (n := 2) (Nat.le_of_ble_eq_true rfl)
  rw [lg_entry_eq]
  generalize (lg_sl ([.ref (Z.2.1 si), .int (nI k)]) ++ List.replicate (2 - (lg_sl ([.ref (Z.2.1 si), .int (nI k)])).length) Slot.unset).toArray = ls at hl ⊢
  have hl : lv_has ls 2 [(0, .ref (Z.2.1 si)), (1, .int (nI k))] := hl
  have hP : va_P D xcl (rp ad E RL) s.heap := hP
  have hz9 := z_len si hsi
  refine lv_iload_n hx hb xd_JL_charAt_0 rfl (lv_at hl 1 rfl) ?_
  refine lv_aload_n hx hb xd_JL_charAt_1 rfl (lv_at hl 0 rfl) ?_
  refine va_tlen (v := nI (zL.getD si 0)) hx hb (hZ.2.1.1 si hsi).2.2.2 hS rfl xd_JL_charAt_2 ?_
  have hFc := px_free hD hS hA
  refine va_callv (va_runS (As := [.int (nI k), .int (nI ((zL.getD si 0)))]) (rest := []) ⟨hx, hb, hml, hown, hT⟩ (xc_JS_checkIndex l D kA s.heap.size ad E RL Z k (zL.getD si 0) (by first | assumption | omega) (by first | assumption | omega)) (va_cwS 2 hT (wT_S k5a_1 k5a_2 k5a_3 k5a_0) rfl rfl rfl (by decide +kernel) ⟨Nat.le_of_ble_eq_true rfl, Nat.le_of_ble_eq_true rfl⟩) (x_preSZ hK hP hD hFc (hZ.kept hS)) rfl rfl hl.1 rfl (lv_room (Nat.le_of_ble_eq_true rfl)) xd_JL_charAt_3 ⟨(Nat.le_of_ble_eq_true rfl), (Nat.le_of_ble_eq_true rfl)⟩) hS (fun q _ h => hFc q h) hFc (fun u2 t H1 locs ht hvm hp3 hB hz1 hk1 hS => ?_)
  obtain ⟨hP1, hD1⟩ := hB
  rw [ht] at hP1
  have hD1 := hD1.weaken (fun _ _ _ h => hFc _ h)
  generalize H1 = H at hP1 hS ⊢
  have hP := hP1
  have hD := hD1
  have hP : va_P D xcl (rp ad E RL) H := hP
  have hD : va_D A (rp ad E RL) := hD
  refine lv_aload_n hx hb xd_JL_charAt_6 rfl (lv_at hl 0 rfl) ?_
  refine lv_iload_n hx hb xd_JL_charAt_7 rfl (lv_at hl 1 rfl) ?_
  refine va_tb (i := nI k) (v := .int ((zB.getD si []).getD k 0)) hx hb (hZ.2.1.1 si hsi).2.2.2 hS (vp_in_nI (by omega) (by have := z_len si hsi; omega)) (by rw [nI_clamp (by have := z_len si hsi; omega)]) xd_JL_charAt_8 ?_
  refine lv_sipush (v := 255) hx hb xd_JL_charAt_9 (by decide) ?_
  refine lv_iand hx hb xd_JL_charAt_12 ?_
  refine lv_i2c (v := ((zB.getD si []).getD k 0 &&& 255)) hx hb xd_JL_charAt_13 (sc_c2 _) ?_
  exact W.zret (v := ((zB.getD si []).getD k 0 &&& 255)) hx hb hr (sc_nar _) (fun t ht hW => ⟨⟨((zB.getD si []).getD k 0 &&& 255), (), rfl, rfl, by rw [ht]; exact hP, hD⟩, hS.F ht⟩) hS.2.2 xd_JL_charAt_14
set_option maxHeartbeats 4000000 in
set_option maxRecDepth 100000 in
theorem xc_JS_charAtX (l : Launch) (D : va_G) (kA : Nat → ClassId) (sz : Nat) (ad : Nat → Nat → Nat) (E : Nat → Nat → va_E) (RL : List (Nat × Nat)) (Z : zT) (si : Nat) (k : Nat) (hsi : si < 12) (hk : k < zL.getD si 0) : Met l xy_JS_charAt (.code xy_JS_charAt xb_JS_charAt 2 (some .char) :: wT) { frames := 3, cells := 0, slots := 0, locals := 64 } (va_Pc [.ref (Z.1 si), .int (nI k)] (xPreZ D kA sz (rp ad E RL) Z)) (va_Qi (fun (r : Int32) (u : Unit) => r = ((zB.getD si []).getD k 0 &&& 255)) (fun (u : Unit) t => va_P D xcl (rp ad E RL) t.heap ∧ va_D (va_A (rp ad E RL) sz) (rp ad E RL)) (va_A (rp ad E RL) sz)) 0 0 (va_A (rp ad E RL) sz) := by
  refine Met.ofW (cc := xb_JS_charAt) (maxL := 2) (ret := (some .char)) (by decide) rfl ?_
  intro p e s m args below meth c s₁ B hml hv
  obtain ⟨rfl, ⟨hsz, hP, hK, hD0⟩, hZ⟩ := hv
  have hx := B.exec
  have hb := B.bytes
  have hr := B.returns
  have hT := x_hT B.pre
  have hown : s.vm.findClass xR_JS = some m.cls := findClass_of_methodNamed B.named
  have hlocks := B.notSynchronized
  subst hsz
  have hD := hD0.self (sz := s.heap.size)
  generalize hAe : va_A (rp ad E RL) s.heap.size = A at hD hZ ⊢
  have hA : ∀ q : Nat, s.heap.size ≤ q → A q := fun q h => by rw [← hAe]; exact Or.inr h
  have hS : va_S A s.heap s.heap [] := va_S.rf
  have hl := lv_entry ([.ref (Z.1 si), .int (nI k)]) (n := 2) (Nat.le_of_ble_eq_true rfl)
  rw [lg_entry_eq]
  generalize (lg_sl ([.ref (Z.1 si), .int (nI k)]) ++ List.replicate (2 - (lg_sl ([.ref (Z.1 si), .int (nI k)])).length) Slot.unset).toArray = ls at hl ⊢
  have hl : lv_has ls 2 [(0, .ref (Z.1 si)), (1, .int (nI k))] := hl
  have hP : va_P D xcl (rp ad E RL) s.heap := hP
  refine lv_aload_n hx hb xd_JS_charAt_0 rfl (lv_at hl 0 rfl) ?_
  have hFc := px_free hD hS hA
  refine va_calli (va_runV (As := []) (rest := []) ⟨hx, hb, hml, hown, hT⟩ (xc_JS_isLatin1 l D kA s.heap.size ad E RL Z si (by first | assumption | omega)) (cwV 0 hT (wT_V k5a_5 k5a_6 k5a_7 k5a_3 k5a_4) rfl rfl rfl (by decide +kernel) ⟨Nat.le_of_ble_eq_true rfl, Nat.le_of_ble_eq_true rfl⟩) (x_preTZ (vk_recv hZ.2.1 hsi hS) hK hP hD hFc (hZ.kept hS)) rfl rfl hl.1 rfl (lv_room (Nat.le_of_ble_eq_true rfl)) xd_JS_charAt_1 ⟨(Nat.le_of_ble_eq_true rfl), (Nat.le_of_ble_eq_true rfl)⟩) hS (fun q _ h => hFc q h) hFc (fun r1 u2 t H1 locs ht hvm hp3 hB hz1 hk1 hS => ?_)
  obtain ⟨hP1, hD1⟩ := hB
  rw [ht] at hP1
  have hD1 := hD1.weaken (fun _ _ _ h => hFc _ h)
  generalize H1 = H at hP1 hS ⊢
  have hP := hP1
  have hD := hD1
  have hP : va_P D xcl (rp ad E RL) H := hP
  have hD : va_D A (rp ad E RL) := hD
  rcases hp3 with rfl
  · refine W.eq (g2 := F0 m 4 ls [.int 1]) rfl ?_
    refine lv_if_eq (tgt := 16) hx hb xd_JS_charAt_4 (by decide) (fun hc4 => absurd hc4 (by decide)) (fun _ => ?_)
    refine lv_aload_n hx hb xd_JS_charAt_7 rfl (lv_at hl 0 rfl) ?_
    refine vk_getf (o := "java/lang/String") (n := "value") (d := "[B") (ref := "java/lang/String") hx hb (hZ.2.1.1 si hsi).2.2.1 hS hown (hT _ k5a_8) (fun _ h9 => h9) xd_JS_charAt_8 ?_
    refine lv_iload_n hx hb xd_JS_charAt_11 rfl (lv_at hl 1 rfl) ?_
    have hFc := px_free hD hS hA
    refine va_calli (va_runS (As := [.ref (Z.2.1 si), .int (nI k)]) (rest := []) ⟨hx, hb, hml, hown, hT⟩ (xc_JL_charAtX l D kA H.size ad E RL Z si k (by first | assumption | omega) (by first | assumption | omega)) (va_cwS 2 hT (wT_S k5a_10 k5a_11 k5a_12 k5a_9) rfl rfl rfl (by decide +kernel) ⟨Nat.le_of_ble_eq_true rfl, Nat.le_of_ble_eq_true rfl⟩) (x_preSZ hK hP hD hFc (hZ.kept hS)) rfl rfl hl.1 rfl (lv_room (Nat.le_of_ble_eq_true rfl)) xd_JS_charAt_12 ⟨(Nat.le_of_ble_eq_true rfl), (Nat.le_of_ble_eq_true rfl)⟩) hS (fun q _ h => hFc q h) hFc (fun r5 u6 t H1 locs ht hvm hp7 hB hz1 hk1 hS => ?_)
    obtain ⟨hP1, hD1⟩ := hB
    rw [ht] at hP1
    have hD1 := hD1.weaken (fun _ _ _ h => hFc _ h)
    generalize H1 = H at hP1 hS ⊢
    have hP := hP1
    have hD := hD1
    have hP : va_P D xcl (rp ad E RL) H := hP
    have hD : va_D A (rp ad E RL) := hD
    have hb8 := hp7
    exact W.zret (v := r5) hx hb hr (by rw [hb8]; exact sc_nar _) (fun t ht hW => ⟨⟨r5, (), rfl, hb8, by rw [ht]; exact hP, hD⟩, hS.F ht⟩) hS.2.2 xd_JS_charAt_15
set_option maxHeartbeats 4000000 in
set_option maxRecDepth 100000 in
theorem xc_Li_appendX (l : Launch) (D : va_G) (kA : Nat → ClassId) (sz : Nat) (ad : Nat → Nat → Nat) (E : Nat → Nat → va_E) (RL : List (Nat × Nat)) (len : Nat) (wn : Nat) (tx : Nat → Int32) (cc9 : Int32) (ym0 : (0, 1) ∈ RL) (yc0 : E 0 1 = .inr (1, [.ref (ad 0 2), .ref (ad 0 3), .ref (ad 0 4), .int (nI len), .int (nI wn)])) (ym1 : (0, 2) ∈ RL) (yc1 : E 0 2 = .inl (kA 1, 40, .inl tx)) (hl40 : len ≤ 40) : Met l xy_Li_append (.code xy_Li_append xb_Li_append 2 (some .boolean) :: wT) { frames := 0, cells := 0, slots := 0, locals := 0 } (va_Pc [.ref (ad 0 1), .int cc9] (xPre D kA sz (rp ad E RL))) (va_Qi (fun (r : Int32) (u : Nat → Nat → va_E) => ∃ len2 : Nat, ∃ tx2 : Nat → Int32, ((r = 0 ∧ len2 = len ∧ tx2 = tx ∧ (cc9 < 32 ∨ 126 < cc9 ∨ len = 40)) ∨ (r = 1 ∧ len2 = len + 1 ∧ tx2 = upd tx len (vp_nar .char cc9) ∧ len < 40 ∧ ¬ cc9 < 32 ∧ ¬ 126 < cc9)) ∧ (u 0 1 = .inr (1, [.ref (ad 0 2), .ref (ad 0 3), .ref (ad 0 4), .int (nI len2), .int (nI wn)])) ∧ (u 0 2 = .inl (kA 1, 40, .inl tx2)) ∧ ((∀ b2 o2, ¬ (b2 = 0 ∧ o2 = 1) → ¬ (b2 = 0 ∧ o2 = 2) → u b2 o2 = E b2 o2))) (fun (u : Nat → Nat → va_E) t => va_P D xcl (rp ad u RL) t.heap ∧ va_D (va_A (rp ad E RL) sz) (rp ad u RL)) (va_A (rp ad E RL) sz)) 0 0 (va_A (rp ad E RL) sz) := by
  refine Met.ofW (cc := xb_Li_append) (maxL := 2) (ret := (some .boolean)) (by decide) rfl ?_
  intro p e s m args below meth c s₁ B hml hv
  obtain ⟨rfl, hsz, hP, hK, hD0⟩ := hv
  have hx := B.exec
  have hb := B.bytes
  have hr := B.returns
  have hT := x_hT B.pre
  have hown : s.vm.findClass xR_Li = some m.cls := findClass_of_methodNamed B.named
  have hlocks := B.notSynchronized
  subst hsz
  have hD := hD0.self (sz := s.heap.size)
  generalize hAe : va_A (rp ad E RL) s.heap.size = A at hD ⊢
  have hA : ∀ q : Nat, s.heap.size ≤ q → A q := fun q h => by rw [← hAe]; exact Or.inr h
  have hS : va_S A s.heap s.heap [] := va_S.rf
  have hl := lv_entry ([.ref (ad 0 1), .int cc9]) (n := 2) (Nat.le_of_ble_eq_true rfl)
  rw [lg_entry_eq]
  generalize (lg_sl ([.ref (ad 0 1), .int cc9]) ++ List.replicate (2 - (lg_sl ([.ref (ad 0 1), .int cc9])).length) Slot.unset).toArray = ls at hl ⊢
  have hl : lv_has ls 2 [(0, .ref (ad 0 1)), (1, .int cc9)] := hl
  have hP : va_P D xcl (rp ad E RL) s.heap := hP
  refine lv_aload_n hx hb xd_Li_append_0 rfl (lv_at hl 0 rfl) ?_
  refine px_get (D := D) (ci := 1) (v := .int (nI len)) (C := xR_Li) (T := xT_Li) (N := 5) hx hb hT xi_Li hown hK.1 hP ym0 yc0 rfl 3 (by decide) (hT _ k5a_13) (fun _ h9 => h9) rfl xd_Li_append_1 ?_
  refine lv_bipush (v := 40) hx hb xd_Li_append_4 (by decide) ?_
  refine xn_ge (a := len) (b := 40) (tgt := 21) hx hb xd_Li_append_6 (by decide) (by omega) (by omega) (fun hc1 => ?_) (fun hc1 => ?_)
  · refine lv_iconst (v := 0) hx hb xd_Li_append_21 (by decide) ?_
    exact W.zret (v := 0) hx hb hr rfl (fun t ht hW => ⟨⟨0, E, rfl, ⟨len, tx, (Or.inl ⟨rfl, rfl, rfl, Or.inr (Or.inr (by omega))⟩), yc0, yc1, (fun b2 o2 h09 h19 => rfl)⟩, by rw [ht]; exact hP, hD⟩, hS.F ht⟩) hS.2.2 xd_Li_append_22
  · refine lv_iload_n hx hb xd_Li_append_9 rfl (lv_at hl 1 rfl) ?_
    refine lv_bipush (v := 32) hx hb xd_Li_append_10 (by decide) ?_
    refine lv_icmp_lt (tgt := 21) hx hb xd_Li_append_12 (by decide) (fun hc2 => ?_) (fun hc2 => ?_)
    · refine lv_iconst (v := 0) hx hb xd_Li_append_21 (by decide) ?_
      exact W.zret (v := 0) hx hb hr rfl (fun t ht hW => ⟨⟨0, E, rfl, ⟨len, tx, (Or.inl ⟨rfl, rfl, rfl, Or.inl hc2⟩), yc0, yc1, (fun b2 o2 h09 h19 => rfl)⟩, by rw [ht]; exact hP, hD⟩, hS.F ht⟩) hS.2.2 xd_Li_append_22
    · refine lv_iload_n hx hb xd_Li_append_15 rfl (lv_at hl 1 rfl) ?_
      refine lv_bipush (v := 126) hx hb xd_Li_append_16 (by decide) ?_
      refine lv_icmp_le (tgt := 23) hx hb xd_Li_append_18 (by decide) (fun hc3 => ?_) (fun hc3 => ?_)
      · refine lv_aload_n hx hb xd_Li_append_23 rfl (lv_at hl 0 rfl) ?_
        refine px_get (D := D) (ci := 1) (v := .ref (ad 0 2)) (C := xR_Li) (T := xT_Li) (N := 5) hx hb hT xi_Li hown hK.1 hP ym0 yc0 rfl 0 (by decide) (hT _ k5a_14) (fun _ h9 => h9) rfl xd_Li_append_24 ?_
        refine lv_aload_n hx hb xd_Li_append_27 rfl (lv_at hl 0 rfl) ?_
        refine px_get (D := D) (ci := 1) (v := .int (nI len)) (C := xR_Li) (T := xT_Li) (N := 5) hx hb hT xi_Li hown hK.1 hP ym0 yc0 rfl 3 (by decide) (hT _ k5a_13) (fun _ h9 => h9) rfl xd_Li_append_28 ?_
        refine lv_iload_n hx hb xd_Li_append_31 rfl (lv_at hl 1 rfl) ?_
        refine px_cast (i := len) hx hb hK.1 hP hD hS ym1 yc1 1 rfl (by omega) (by decide) xd_Li_append_32 (fun H locs hP hD hS => ?_)
        have hP : va_P D xcl (rp ad (up2 E 0 2 (.inl (kA 1, 40, .inl (upd tx len (vp_nar .char cc9))))) RL) H := hP
        have hD : va_D A (rp ad (up2 E 0 2 (.inl (kA 1, 40, .inl (upd tx len (vp_nar .char cc9))))) RL) := hD
        generalize hE5 : up2 E 0 2 (.inl (kA 1, 40, .inl (upd tx len (vp_nar .char cc9)))) = E4 at hP hD
        have fE6 : ∀ b2 o2, ¬ (b2 = 0 ∧ o2 = 2) → E4 b2 o2 = E b2 o2 := fun b2 o2 h9 => by rw [← hE5]; exact up2_ne (nr_or h9)
        have c_7 : E4 0 2 = .inl (kA 1, 40, .inl (upd tx len (vp_nar .char cc9))) := by rw [← hE5]; exact up2_eq
        have c_8 : E4 0 1 = .inr (1, [.ref (ad 0 2), .ref (ad 0 3), .ref (ad 0 4), .int (nI len), .int (nI wn)]) := (fE6 0 1 (fun q9 => absurd q9.2 (by decide))).trans yc0
        refine lv_aload_n hx hb xd_Li_append_33 rfl (lv_at hl 0 rfl) ?_
        refine lv_dup hx hb xd_Li_append_34 rfl ?_
        refine px_get (D := D) (ci := 1) (v := .int (nI len)) (C := xR_Li) (T := xT_Li) (N := 5) hx hb hT xi_Li hown hK.1 hP ym0 c_8 rfl 3 (by decide) (hT _ k5a_13) (fun _ h9 => h9) rfl xd_Li_append_35 ?_
        refine lv_iconst (v := 1) hx hb xd_Li_append_38 (by decide) ?_
        refine lv_iadd hx hb xd_Li_append_39 ?_
        refine xn_top (y := nI (len + 1)) (nI_add len 1) ?_
        refine px_put (D := D) (ci := 1) (v := .int (nI (len + 1))) (ty := .int) (C := xR_Li) (T := xT_Li) (N := 5) hx hb hT xi_Li xt_Li xt_Li_ok xn_Li hown hK.1 hP hD hS ym0 c_8 rfl 3 (by decide) (hT _ k5a_13) (fun _ h9 => h9) rfl (by decide +kernel) rfl rfl (Nat.le_of_ble_eq_true rfl) xd_Li_append_40 (fun H locs hP hD hS => ?_)
        have hP : va_P D xcl (rp ad (up2 E4 0 1 (.inr (1, [.ref (ad 0 2), .ref (ad 0 3), .ref (ad 0 4), .int (nI (len + 1)), .int (nI wn)]))) RL) H := hP
        have hD : va_D A (rp ad (up2 E4 0 1 (.inr (1, [.ref (ad 0 2), .ref (ad 0 3), .ref (ad 0 4), .int (nI (len + 1)), .int (nI wn)]))) RL) := hD
        generalize hE10 : up2 E4 0 1 (.inr (1, [.ref (ad 0 2), .ref (ad 0 3), .ref (ad 0 4), .int (nI (len + 1)), .int (nI wn)])) = E9 at hP hD
        have fE11 : ∀ b2 o2, ¬ (b2 = 0 ∧ o2 = 1) → E9 b2 o2 = E4 b2 o2 := fun b2 o2 h9 => by rw [← hE10]; exact up2_ne (nr_or h9)
        have c_12 : E9 0 1 = .inr (1, [.ref (ad 0 2), .ref (ad 0 3), .ref (ad 0 4), .int (nI (len + 1)), .int (nI wn)]) := by rw [← hE10]; exact up2_eq
        have c_13 : E9 0 2 = .inl (kA 1, 40, .inl (upd tx len (vp_nar .char cc9))) := (fE11 0 2 (fun q9 => absurd q9.2 (by decide))).trans c_7
        refine lv_iconst (v := 1) hx hb xd_Li_append_43 (by decide) ?_
        exact W.zret (v := 1) hx hb hr rfl (fun t ht hW => ⟨⟨1, E9, rfl, ⟨len + 1, (upd tx len (vp_nar .char cc9)), (Or.inr ⟨rfl, rfl, rfl, by omega, hc2, Int32.not_lt.mpr hc3⟩), c_12, c_13, (fun b2 o2 h09 h19 => by show E9 b2 o2 = _; rw [fE11 b2 o2 (by omega), fE6 b2 o2 (by omega)])⟩, by rw [ht]; exact hP, hD⟩, hS.F ht⟩) hS.2.2 xd_Li_append_44
      · refine lv_iconst (v := 0) hx hb xd_Li_append_21 (by decide) ?_
        exact W.zret (v := 0) hx hb hr rfl (fun t ht hW => ⟨⟨0, E, rfl, ⟨len, tx, (Or.inl ⟨rfl, rfl, rfl, Or.inr (Or.inl (Int32.not_le.mp hc3))⟩), yc0, yc1, (fun b2 o2 h09 h19 => rfl)⟩, by rw [ht]; exact hP, hD⟩, hS.F ht⟩) hS.2.2 xd_Li_append_22
set_option maxHeartbeats 4000000 in
set_option maxRecDepth 100000 in
theorem xc_Li_takeX (l : Launch) (D : va_G) (kA : Nat → ClassId) (sz : Nat) (ad : Nat → Nat → Nat) (E : Nat → Nat → va_E) (RL : List (Nat × Nat)) (len : Nat) (wn : Nat) (tx : Nat → Int32) (fb : Nat → Int32) (fe : Nat → Int32) (ym0 : (0, 1) ∈ RL) (yc0 : E 0 1 = .inr (1, [.ref (ad 0 2), .ref (ad 0 3), .ref (ad 0 4), .int (nI len), .int (nI wn)])) (ym1 : (0, 2) ∈ RL) (yc1 : E 0 2 = .inl (kA 1, 40, .inl tx)) (ym2 : (0, 3) ∈ RL) (yc2 : E 0 3 = .inl (kA 0, 20, .inl fb)) (ym3 : (0, 4) ∈ RL) (yc3 : E 0 4 = .inl (kA 0, 20, .inl fe)) (hl40 : len ≤ 40) : Met l xy_Li_take (.code xy_Li_take xb_Li_take 3 none :: wT) { frames := 0, cells := 0, slots := 0, locals := 0 } (va_Pc [.ref (ad 0 1)] (xPre D kA sz (rp ad E RL))) (va_Qv (fun (u : Nat → Nat → va_E) => ∃ wn2 : Nat, ∃ fb2 : Nat → Int32, ∃ fe2 : Nat → Int32, (wn2 ≤ 20 ∧ WP wn2 fb2 fe2 ∧ wn2 = (w_all tx len).length ∧ fT (fun _ _ => 0) fb2 fe2 (w_all tx len)) ∧ (u 0 1 = .inr (1, [.ref (ad 0 2), .ref (ad 0 3), .ref (ad 0 4), .int 0, .int (nI wn2)])) ∧ (u 0 3 = .inl (kA 0, 20, .inl fb2)) ∧ (u 0 4 = .inl (kA 0, 20, .inl fe2)) ∧ ((∀ b2 o2, ¬ (b2 = 0 ∧ o2 = 1) → ¬ (b2 = 0 ∧ o2 = 3) → ¬ (b2 = 0 ∧ o2 = 4) → u b2 o2 = E b2 o2))) (fun (u : Nat → Nat → va_E) t => va_P D xcl (rp ad u RL) t.heap ∧ va_D (va_A (rp ad E RL) sz) (rp ad u RL)) (va_A (rp ad E RL) sz)) 0 0 (va_A (rp ad E RL) sz) := by
  refine Met.ofW (cc := xb_Li_take) (maxL := 3) (ret := none) (by decide) rfl ?_
  intro p e s m args below meth c s₁ B hml hv
  obtain ⟨rfl, hsz, hP, hK, hD0⟩ := hv
  have hx := B.exec
  have hb := B.bytes
  have hr := B.returns
  have hT := x_hT B.pre
  have hown : s.vm.findClass xR_Li = some m.cls := findClass_of_methodNamed B.named
  have hlocks := B.notSynchronized
  subst hsz
  have hD := hD0.self (sz := s.heap.size)
  generalize hAe : va_A (rp ad E RL) s.heap.size = A at hD ⊢
  have hA : ∀ q : Nat, s.heap.size ≤ q → A q := fun q h => by rw [← hAe]; exact Or.inr h
  have hS : va_S A s.heap s.heap [] := va_S.rf
  have hl := lv_entry ([.ref (ad 0 1)]) (n := 3) (Nat.le_of_ble_eq_true rfl)
  rw [lg_entry_eq]
  generalize (lg_sl ([.ref (ad 0 1)]) ++ List.replicate (3 - (lg_sl ([.ref (ad 0 1)])).length) Slot.unset).toArray = ls at hl ⊢
  have hl : lv_has ls 3 [(0, .ref (ad 0 1))] := hl
  have hP : va_P D xcl (rp ad E RL) s.heap := hP
  refine lv_aload_n hx hb xd_Li_take_0 rfl (lv_at hl 0 rfl) ?_
  refine lv_iconst (v := 0) hx hb xd_Li_take_1 (by decide) ?_
  refine px_put (D := D) (ci := 1) (v := .int 0) (ty := .int) (C := xR_Li) (T := xT_Li) (N := 5) hx hb hT xi_Li xt_Li xt_Li_ok xn_Li hown hK.1 hP hD hS ym0 yc0 rfl 4 (by decide) (hT _ k5a_15) (fun _ h9 => h9) rfl (by decide +kernel) rfl rfl (Nat.le_of_ble_eq_true rfl) xd_Li_take_2 (fun H locs hP hD hS => ?_)
  have hP : va_P D xcl (rp ad (up2 E 0 1 (.inr (1, [.ref (ad 0 2), .ref (ad 0 3), .ref (ad 0 4), .int (nI len), .int 0]))) RL) H := hP
  have hD : va_D A (rp ad (up2 E 0 1 (.inr (1, [.ref (ad 0 2), .ref (ad 0 3), .ref (ad 0 4), .int (nI len), .int 0]))) RL) := hD
  generalize hE2 : up2 E 0 1 (.inr (1, [.ref (ad 0 2), .ref (ad 0 3), .ref (ad 0 4), .int (nI len), .int 0])) = E1 at hP hD
  have fE3 : ∀ b2 o2, ¬ (b2 = 0 ∧ o2 = 1) → E1 b2 o2 = E b2 o2 := fun b2 o2 h9 => by rw [← hE2]; exact up2_ne (nr_or h9)
  have c_4 : E1 0 1 = .inr (1, [.ref (ad 0 2), .ref (ad 0 3), .ref (ad 0 4), .int (nI len), .int 0]) := by rw [← hE2]; exact up2_eq
  have c_5 : E1 0 2 = .inl (kA 1, 40, .inl tx) := (fE3 0 2 (fun q9 => absurd q9.2 (by decide))).trans yc1
  have c_6 : E1 0 3 = .inl (kA 0, 20, .inl fb) := (fE3 0 3 (fun q9 => absurd q9.2 (by decide))).trans yc2
  have c_7 : E1 0 4 = .inl (kA 0, 20, .inl fe) := (fE3 0 4 (fun q9 => absurd q9.2 (by decide))).trans yc3
  refine lv_iconst (v := 0) hx hb xd_Li_take_5 (by decide) ?_
  refine lv_istore_n hx hb xd_Li_take_6 rfl hl (Nat.le_of_ble_eq_true rfl) rfl (fun ls hl => ?_)
  have hl : lv_has ls 3 [(1, .int 0), (0, .ref (ad 0 1))] := hl
  refine lv_iconst (v := 0) hx hb xd_Li_take_7 (by decide) ?_
  refine lv_istore_n hx hb xd_Li_take_8 rfl hl (Nat.le_of_ble_eq_true rfl) rfl (fun ls hl => ?_)
  have hl : lv_has ls 3 [(2, .int 0), (1, .int 0), (0, .ref (ad 0 1))] := hl
  refine xlab (σ := Nat × Nat × (Nat → Nat → va_E) × Nat × (Nat → Int32) × (Nat → Int32)) (ml := 3) 9 (fun (i, stt, E1, wn1, fb1, fe1) => [(2, .int (nI i)), (1, .int (nI stt)), (0, .ref (ad 0 1))]) (fun (i, stt, E1, wn1, fb1, fe1) => []) (fun (i, stt, E1, wn1, fb1, fe1) => rp ad E1 RL) (fun (i, stt, E1, wn1, fb1, fe1) => (i ≤ len + 1) ∧ (stt ≤ i) ∧ (wn1 ≤ 20) ∧ ((i ≤ len ∧ (wn1 = (w_l tx i).length ∧ fT (fun _ _ => 0) fb1 fe1 (w_l tx i)) ∧ stt = w_st tx i) ∨ (i = len + 1 ∧ wn1 = (w_all tx len).length ∧ fT (fun _ _ => 0) fb1 fe1 (w_all tx len))) ∧ (E1 0 1 = .inr (1, [.ref (ad 0 2), .ref (ad 0 3), .ref (ad 0 4), .int (nI len), .int (nI wn1)])) ∧ (E1 0 3 = .inl (kA 0, 20, .inl fb1)) ∧ (E1 0 4 = .inl (kA 0, 20, .inl fe1)) ∧ (∀ b2 o2, ¬ (b2 = 0 ∧ o2 = 1) → ¬ (b2 = 0 ∧ o2 = 3) → ¬ (b2 = 0 ∧ o2 = 4) → E1 b2 o2 = E b2 o2)) (fun (i, stt, E1, wn1, fb1, fe1) => len + 1 - i) ?_ (0, 0, E1, 0, fb, fe) _ _ _ (lv_sub hl [0, 1, 2] rfl) hP hD hS ⟨(show 0 ≤ len + 1 from by first | assumption | omega), (show 0 ≤ 0 from by first | assumption | omega), (show 0 ≤ 20 from by first | assumption | omega), (show (0 ≤ len ∧ (0 = (w_l tx 0).length ∧ fT (fun _ _ => 0) fb fe (w_l tx 0)) ∧ 0 = w_st tx 0) ∨ (0 = len + 1 ∧ 0 = (w_all tx len).length ∧ fT (fun _ _ => 0) fb fe (w_all tx len)) from Or.inl ⟨by omega, ⟨rfl, fun i hi => absurd hi (Nat.not_lt_zero i)⟩, rfl⟩), (show E1 0 1 = .inr (1, [.ref (ad 0 2), .ref (ad 0 3), .ref (ad 0 4), .int (nI len), .int (nI 0)]) from c_4), (show E1 0 3 = .inl (kA 0, 20, .inl fb) from c_6), (show E1 0 4 = .inl (kA 0, 20, .inl fe) from c_7), (show ∀ b2 o2, ¬ (b2 = 0 ∧ o2 = 1) → ¬ (b2 = 0 ∧ o2 = 3) → ¬ (b2 = 0 ∧ o2 = 4) → E1 b2 o2 = E b2 o2 from fun b2 o2 h09 h19 h29 => by rw [fE3 b2 o2 (by omega)])⟩
  intro n9 ih8 a9 ls H locs hμ hl hP hD hS hI
  subst hμ
  obtain ⟨i, stt, E1, wn1, fb1, fe1⟩ := a9
  obtain ⟨hi, hst, hwn, hTw, hc1, hc3, hc4, hfr⟩ := hI
  have hi : i ≤ len + 1 := hi
  have hst : stt ≤ i := hst
  have hwn : wn1 ≤ 20 := hwn
  have hTw : (i ≤ len ∧ (wn1 = (w_l tx i).length ∧ fT (fun _ _ => 0) fb1 fe1 (w_l tx i)) ∧ stt = w_st tx i) ∨ (i = len + 1 ∧ wn1 = (w_all tx len).length ∧ fT (fun _ _ => 0) fb1 fe1 (w_all tx len)) := hTw
  have hc1 : E1 0 1 = .inr (1, [.ref (ad 0 2), .ref (ad 0 3), .ref (ad 0 4), .int (nI len), .int (nI wn1)]) := hc1
  have hc3 : E1 0 3 = .inl (kA 0, 20, .inl fb1) := hc3
  have hc4 : E1 0 4 = .inl (kA 0, 20, .inl fe1) := hc4
  have hfr : ∀ b2 o2, ¬ (b2 = 0 ∧ o2 = 1) → ¬ (b2 = 0 ∧ o2 = 3) → ¬ (b2 = 0 ∧ o2 = 4) → E1 b2 o2 = E b2 o2 := hfr
  have hl : lv_has ls 3 [(2, .int (nI i)), (1, .int (nI stt)), (0, .ref (ad 0 1))] := hl
  have hP : va_P D xcl (rp ad E1 RL) H := hP
  have hD : va_D A (rp ad E1 RL) := hD
  have c_9 : E1 0 2 = .inl (kA 1, 40, .inl tx) := (hfr 0 2 (by omega) (by omega) (by omega)).trans yc1
  refine lv_iload_n hx hb xd_Li_take_9 rfl (lv_at hl 0 rfl) ?_
  refine lv_aload_n hx hb xd_Li_take_10 rfl (lv_at hl 2 rfl) ?_
  refine px_get (D := D) (ci := 1) (v := .int (nI len)) (C := xR_Li) (T := xT_Li) (N := 5) hx hb hT xi_Li hown hK.1 hP ym0 hc1 rfl 3 (by decide) (hT _ k5a_13) (fun _ h9 => h9) rfl xd_Li_take_11 ?_
  refine xn_gt (a := i) (b := len) (tgt := 90) hx hb xd_Li_take_14 (by decide) (by omega) (by omega) (fun hc10 => ?_) (fun hc10 => ?_)
  · refine lv_aload_n hx hb xd_Li_take_90 rfl (lv_at hl 2 rfl) ?_
    refine lv_iconst (v := 0) hx hb xd_Li_take_91 (by decide) ?_
    refine px_put (D := D) (ci := 1) (v := .int 0) (ty := .int) (C := xR_Li) (T := xT_Li) (N := 5) hx hb hT xi_Li xt_Li xt_Li_ok xn_Li hown hK.1 hP hD hS ym0 hc1 rfl 3 (by decide) (hT _ k5a_13) (fun _ h9 => h9) rfl (by decide +kernel) rfl rfl (Nat.le_of_ble_eq_true rfl) xd_Li_take_92 (fun H locs hP hD hS => ?_)
    have hP : va_P D xcl (rp ad (up2 E1 0 1 (.inr (1, [.ref (ad 0 2), .ref (ad 0 3), .ref (ad 0 4), .int 0, .int (nI wn1)]))) RL) H := hP
    have hD : va_D A (rp ad (up2 E1 0 1 (.inr (1, [.ref (ad 0 2), .ref (ad 0 3), .ref (ad 0 4), .int 0, .int (nI wn1)]))) RL) := hD
    generalize hE12 : up2 E1 0 1 (.inr (1, [.ref (ad 0 2), .ref (ad 0 3), .ref (ad 0 4), .int 0, .int (nI wn1)])) = E11 at hP hD
    have fE13 : ∀ b2 o2, ¬ (b2 = 0 ∧ o2 = 1) → E11 b2 o2 = E1 b2 o2 := fun b2 o2 h9 => by rw [← hE12]; exact up2_ne (nr_or h9)
    have c_14 : E11 0 1 = .inr (1, [.ref (ad 0 2), .ref (ad 0 3), .ref (ad 0 4), .int 0, .int (nI wn1)]) := by rw [← hE12]; exact up2_eq
    have c_15 : E11 0 3 = .inl (kA 0, 20, .inl fb1) := (fE13 0 3 (fun q9 => absurd q9.2 (by decide))).trans hc3
    have c_16 : E11 0 4 = .inl (kA 0, 20, .inl fe1) := (fE13 0 4 (fun q9 => absurd q9.2 (by decide))).trans hc4
    have c_17 : E11 0 2 = .inl (kA 1, 40, .inl tx) := (fE13 0 2 (fun q9 => absurd q9.2 (by decide))).trans c_9
    exact W.vret hx hb hr (fun t ht hW => ⟨⟨E11, rfl, ⟨wn1, fb1, fe1, (by
        have hT9 : wn1 = (w_all tx len).length ∧ fT (fun _ _ => 0) fb1 fe1 (w_all tx len) := by
          rcases hTw with ⟨q, _⟩ | ⟨_, q⟩
          · omega
          · exact q
        have hw := WL_all tx hl40
        exact ⟨by rw [hT9.1]; exact hw.1, fun w hw9 => ⟨wb (w_all tx len) w, we (w_all tx len) w, (hw.2 w (by rw [← hT9.1]; exact hw9)).1, (hw.2 w (by rw [← hT9.1]; exact hw9)).2, (hT9.2 w (by rw [← hT9.1]; exact hw9)).1, (hT9.2 w (by rw [← hT9.1]; exact hw9)).2⟩, hT9.1, hT9.2⟩), c_14, c_15, c_16, (fun b2 o2 h09 h19 h29 => by show E11 b2 o2 = _; rw [fE13 b2 o2 (by omega), hfr b2 o2 (by omega) (by omega) (by omega)])⟩, by rw [ht]; exact hP, hD⟩, hS.F ht⟩) hS.2.2 xd_Li_take_95
  · have hT9 : (wn1 = (w_l tx i).length ∧ fT (fun _ _ => 0) fb1 fe1 (w_l tx i)) ∧ stt = w_st tx i := by
      rcases hTw with ⟨_, q1, q2⟩ | ⟨q, _⟩
      · exact ⟨q1, q2⟩
      · omega
    have hwll := w_l_len tx i
    have hwst := w_st_le tx i
    obtain ⟨⟨hT1, hT2⟩, hT3⟩ := id hT9
    rw [← hT1, ← hT3] at hwll
    refine lv_iload_n hx hb xd_Li_take_17 rfl (lv_at hl 0 rfl) ?_
    refine lv_aload_n hx hb xd_Li_take_18 rfl (lv_at hl 2 rfl) ?_
    refine px_get (D := D) (ci := 1) (v := .int (nI len)) (C := xR_Li) (T := xT_Li) (N := 5) hx hb hT xi_Li hown hK.1 hP ym0 hc1 rfl 3 (by decide) (hT _ k5a_13) (fun _ h9 => h9) rfl xd_Li_take_19 ?_
    refine xn_eq (a := i) (b := len) (tgt := 36) hx hb xd_Li_take_22 (by decide) (by omega) (by omega) (fun hc18 => ?_) (fun hc18 => ?_)
    · refine lv_iload_n hx hb xd_Li_take_36 rfl (lv_at hl 0 rfl) ?_
      refine lv_iload_n hx hb xd_Li_take_37 rfl (lv_at hl 1 rfl) ?_
      refine xn_le (a := i) (b := stt) (tgt := 80) hx hb xd_Li_take_38 (by decide) (by omega) (by omega) (fun hc19 => ?_) (fun hc19 => ?_)
      · refine lv_iload_n hx hb xd_Li_take_80 rfl (lv_at hl 0 rfl) ?_
        refine lv_iconst (v := 1) hx hb xd_Li_take_81 (by decide) ?_
        refine lv_iadd hx hb xd_Li_take_82 ?_
        refine xn_top (y := nI (i + 1)) (nI_add i 1) ?_
        refine lv_istore_n hx hb xd_Li_take_83 rfl hl (Nat.le_of_ble_eq_true rfl) rfl (fun ls hl => ?_)
        have hl : lv_has ls 3 [(1, .int (nI (i + 1))), (2, .int (nI i)), (0, .ref (ad 0 1))] := hl
        refine lv_iinc (k := 1) (x := (nI i)) (v := (nI (i + 1))) hx hb xd_Li_take_84 hl rfl (xb_inc i 1) (Nat.le_of_ble_eq_true rfl) rfl (fun ls hl => ?_)
        have hl : lv_has ls 3 [(2, .int (nI (i + 1))), (1, .int (nI (i + 1))), (0, .ref (ad 0 1))] := hl
        refine lv_goto (tgt := 9) hx hb xd_Li_take_87 (by decide) ?_
        exact ih8 (i + 1, i + 1, E1, wn1, fb1, fe1) _ _ _ (show len + 1 - (i + 1) < len + 1 - i by omega) (lv_sub hl [0, 1, 2] rfl) hP hD hS ⟨(show (i + 1) ≤ len + 1 from by first | assumption | omega), (show (i + 1) ≤ (i + 1) from by first | assumption | omega), (show wn1 ≤ 20 from by first | assumption | omega), (show ((i + 1) ≤ len ∧ (wn1 = (w_l tx (i + 1)).length ∧ fT (fun _ _ => 0) fb1 fe1 (w_l tx (i + 1))) ∧ (i + 1) = w_st tx (i + 1)) ∨ ((i + 1) = len + 1 ∧ wn1 = (w_all tx len).length ∧ fT (fun _ _ => 0) fb1 fe1 (w_all tx len)) from Or.inr ⟨by omega, by rw [← show i = len by omega, w_all_st (by omega)]; exact ⟨hT1, hT2⟩⟩), (show E1 0 1 = .inr (1, [.ref (ad 0 2), .ref (ad 0 3), .ref (ad 0 4), .int (nI len), .int (nI wn1)]) from hc1), (show E1 0 3 = .inl (kA 0, 20, .inl fb1) from hc3), (show E1 0 4 = .inl (kA 0, 20, .inl fe1) from hc4), (show ∀ b2 o2, ¬ (b2 = 0 ∧ o2 = 1) → ¬ (b2 = 0 ∧ o2 = 3) → ¬ (b2 = 0 ∧ o2 = 4) → E1 b2 o2 = E b2 o2 from fun b2 o2 h09 h19 h29 => by rw [hfr b2 o2 (by omega) (by omega) (by omega)])⟩
      · refine lv_aload_n hx hb xd_Li_take_41 rfl (lv_at hl 2 rfl) ?_
        refine px_get (D := D) (ci := 1) (v := .int (nI wn1)) (C := xR_Li) (T := xT_Li) (N := 5) hx hb hT xi_Li hown hK.1 hP ym0 hc1 rfl 4 (by decide) (hT _ k5a_15) (fun _ h9 => h9) rfl xd_Li_take_42 ?_
        refine lv_bipush (v := 20) hx hb xd_Li_take_45 (by decide) ?_
        refine xn_ge (a := wn1) (b := 20) (tgt := 80) hx hb xd_Li_take_47 (by decide) (by omega) (by omega) (fun hc20 => absurd hc20 (by omega)) (fun _ => ?_)
        refine lv_aload_n hx hb xd_Li_take_50 rfl (lv_at hl 2 rfl) ?_
        refine px_get (D := D) (ci := 1) (v := .ref (ad 0 3)) (C := xR_Li) (T := xT_Li) (N := 5) hx hb hT xi_Li hown hK.1 hP ym0 hc1 rfl 1 (by decide) (hT _ k5a_16) (fun _ h9 => h9) rfl xd_Li_take_51 ?_
        refine lv_aload_n hx hb xd_Li_take_54 rfl (lv_at hl 2 rfl) ?_
        refine px_get (D := D) (ci := 1) (v := .int (nI wn1)) (C := xR_Li) (T := xT_Li) (N := 5) hx hb hT xi_Li hown hK.1 hP ym0 hc1 rfl 4 (by decide) (hT _ k5a_15) (fun _ h9 => h9) rfl xd_Li_take_55 ?_
        refine lv_iload_n hx hb xd_Li_take_58 rfl (lv_at hl 1 rfl) ?_
        refine px_iast (i := wn1) hx hb hK.1 hP hD hS ym2 hc3 0 rfl (by omega) (by decide) xd_Li_take_59 (fun H locs hP hD hS => ?_)
        have hP : va_P D xcl (rp ad (up2 E1 0 3 (.inl (kA 0, 20, .inl (upd fb1 wn1 (nI stt))))) RL) H := hP
        have hD : va_D A (rp ad (up2 E1 0 3 (.inl (kA 0, 20, .inl (upd fb1 wn1 (nI stt))))) RL) := hD
        generalize hE22 : up2 E1 0 3 (.inl (kA 0, 20, .inl (upd fb1 wn1 (nI stt)))) = E21 at hP hD
        have fE23 : ∀ b2 o2, ¬ (b2 = 0 ∧ o2 = 3) → E21 b2 o2 = E1 b2 o2 := fun b2 o2 h9 => by rw [← hE22]; exact up2_ne (nr_or h9)
        have c_24 : E21 0 3 = .inl (kA 0, 20, .inl (upd fb1 wn1 (nI stt))) := by rw [← hE22]; exact up2_eq
        have c_25 : E21 0 1 = .inr (1, [.ref (ad 0 2), .ref (ad 0 3), .ref (ad 0 4), .int (nI len), .int (nI wn1)]) := (fE23 0 1 (fun q9 => absurd q9.2 (by decide))).trans hc1
        have c_26 : E21 0 4 = .inl (kA 0, 20, .inl fe1) := (fE23 0 4 (fun q9 => absurd q9.2 (by decide))).trans hc4
        have c_27 : E21 0 2 = .inl (kA 1, 40, .inl tx) := (fE23 0 2 (fun q9 => absurd q9.2 (by decide))).trans c_9
        refine lv_aload_n hx hb xd_Li_take_60 rfl (lv_at hl 2 rfl) ?_
        refine px_get (D := D) (ci := 1) (v := .ref (ad 0 4)) (C := xR_Li) (T := xT_Li) (N := 5) hx hb hT xi_Li hown hK.1 hP ym0 c_25 rfl 2 (by decide) (hT _ k5a_17) (fun _ h9 => h9) rfl xd_Li_take_61 ?_
        refine lv_aload_n hx hb xd_Li_take_64 rfl (lv_at hl 2 rfl) ?_
        refine px_get (D := D) (ci := 1) (v := .int (nI wn1)) (C := xR_Li) (T := xT_Li) (N := 5) hx hb hT xi_Li hown hK.1 hP ym0 c_25 rfl 4 (by decide) (hT _ k5a_15) (fun _ h9 => h9) rfl xd_Li_take_65 ?_
        refine lv_iload_n hx hb xd_Li_take_68 rfl (lv_at hl 0 rfl) ?_
        refine px_iast (i := wn1) hx hb hK.1 hP hD hS ym3 c_26 0 rfl (by omega) (by decide) xd_Li_take_69 (fun H locs hP hD hS => ?_)
        have hP : va_P D xcl (rp ad (up2 E21 0 4 (.inl (kA 0, 20, .inl (upd fe1 wn1 (nI i))))) RL) H := hP
        have hD : va_D A (rp ad (up2 E21 0 4 (.inl (kA 0, 20, .inl (upd fe1 wn1 (nI i))))) RL) := hD
        generalize hE29 : up2 E21 0 4 (.inl (kA 0, 20, .inl (upd fe1 wn1 (nI i)))) = E28 at hP hD
        have fE30 : ∀ b2 o2, ¬ (b2 = 0 ∧ o2 = 4) → E28 b2 o2 = E21 b2 o2 := fun b2 o2 h9 => by rw [← hE29]; exact up2_ne (nr_or h9)
        have c_31 : E28 0 4 = .inl (kA 0, 20, .inl (upd fe1 wn1 (nI i))) := by rw [← hE29]; exact up2_eq
        have c_32 : E28 0 3 = .inl (kA 0, 20, .inl (upd fb1 wn1 (nI stt))) := (fE30 0 3 (fun q9 => absurd q9.2 (by decide))).trans c_24
        have c_33 : E28 0 1 = .inr (1, [.ref (ad 0 2), .ref (ad 0 3), .ref (ad 0 4), .int (nI len), .int (nI wn1)]) := (fE30 0 1 (fun q9 => absurd q9.2 (by decide))).trans c_25
        have c_34 : E28 0 2 = .inl (kA 1, 40, .inl tx) := (fE30 0 2 (fun q9 => absurd q9.2 (by decide))).trans c_27
        refine lv_aload_n hx hb xd_Li_take_70 rfl (lv_at hl 2 rfl) ?_
        refine lv_dup hx hb xd_Li_take_71 rfl ?_
        refine px_get (D := D) (ci := 1) (v := .int (nI wn1)) (C := xR_Li) (T := xT_Li) (N := 5) hx hb hT xi_Li hown hK.1 hP ym0 c_33 rfl 4 (by decide) (hT _ k5a_15) (fun _ h9 => h9) rfl xd_Li_take_72 ?_
        refine lv_iconst (v := 1) hx hb xd_Li_take_75 (by decide) ?_
        refine lv_iadd hx hb xd_Li_take_76 ?_
        refine xn_top (y := nI (wn1 + 1)) (nI_add wn1 1) ?_
        refine px_put (D := D) (ci := 1) (v := .int (nI (wn1 + 1))) (ty := .int) (C := xR_Li) (T := xT_Li) (N := 5) hx hb hT xi_Li xt_Li xt_Li_ok xn_Li hown hK.1 hP hD hS ym0 c_33 rfl 4 (by decide) (hT _ k5a_15) (fun _ h9 => h9) rfl (by decide +kernel) rfl rfl (Nat.le_of_ble_eq_true rfl) xd_Li_take_77 (fun H locs hP hD hS => ?_)
        have hP : va_P D xcl (rp ad (up2 E28 0 1 (.inr (1, [.ref (ad 0 2), .ref (ad 0 3), .ref (ad 0 4), .int (nI len), .int (nI (wn1 + 1))]))) RL) H := hP
        have hD : va_D A (rp ad (up2 E28 0 1 (.inr (1, [.ref (ad 0 2), .ref (ad 0 3), .ref (ad 0 4), .int (nI len), .int (nI (wn1 + 1))]))) RL) := hD
        generalize hE36 : up2 E28 0 1 (.inr (1, [.ref (ad 0 2), .ref (ad 0 3), .ref (ad 0 4), .int (nI len), .int (nI (wn1 + 1))])) = E35 at hP hD
        have fE37 : ∀ b2 o2, ¬ (b2 = 0 ∧ o2 = 1) → E35 b2 o2 = E28 b2 o2 := fun b2 o2 h9 => by rw [← hE36]; exact up2_ne (nr_or h9)
        have c_38 : E35 0 1 = .inr (1, [.ref (ad 0 2), .ref (ad 0 3), .ref (ad 0 4), .int (nI len), .int (nI (wn1 + 1))]) := by rw [← hE36]; exact up2_eq
        have c_39 : E35 0 4 = .inl (kA 0, 20, .inl (upd fe1 wn1 (nI i))) := (fE37 0 4 (fun q9 => absurd q9.2 (by decide))).trans c_31
        have c_40 : E35 0 3 = .inl (kA 0, 20, .inl (upd fb1 wn1 (nI stt))) := (fE37 0 3 (fun q9 => absurd q9.2 (by decide))).trans c_32
        have c_41 : E35 0 2 = .inl (kA 1, 40, .inl tx) := (fE37 0 2 (fun q9 => absurd q9.2 (by decide))).trans c_34
        refine lv_iload_n hx hb xd_Li_take_80 rfl (lv_at hl 0 rfl) ?_
        refine lv_iconst (v := 1) hx hb xd_Li_take_81 (by decide) ?_
        refine lv_iadd hx hb xd_Li_take_82 ?_
        refine xn_top (y := nI (i + 1)) (nI_add i 1) ?_
        refine lv_istore_n hx hb xd_Li_take_83 rfl hl (Nat.le_of_ble_eq_true rfl) rfl (fun ls hl => ?_)
        have hl : lv_has ls 3 [(1, .int (nI (i + 1))), (2, .int (nI i)), (0, .ref (ad 0 1))] := hl
        refine lv_iinc (k := 1) (x := (nI i)) (v := (nI (i + 1))) hx hb xd_Li_take_84 hl rfl (xb_inc i 1) (Nat.le_of_ble_eq_true rfl) rfl (fun ls hl => ?_)
        have hl : lv_has ls 3 [(2, .int (nI (i + 1))), (1, .int (nI (i + 1))), (0, .ref (ad 0 1))] := hl
        refine lv_goto (tgt := 9) hx hb xd_Li_take_87 (by decide) ?_
        exact ih8 (i + 1, i + 1, E35, wn1 + 1, (upd fb1 wn1 (nI stt)), (upd fe1 wn1 (nI i))) _ _ _ (show len + 1 - (i + 1) < len + 1 - i by omega) (lv_sub hl [0, 1, 2] rfl) hP hD hS ⟨(show (i + 1) ≤ len + 1 from by first | assumption | omega), (show (i + 1) ≤ (i + 1) from by first | assumption | omega), (show (wn1 + 1) ≤ 20 from by first | assumption | omega), (show ((i + 1) ≤ len ∧ ((wn1 + 1) = (w_l tx (i + 1)).length ∧ fT (fun _ _ => 0) (upd fb1 wn1 (nI stt)) (upd fe1 wn1 (nI i)) (w_l tx (i + 1))) ∧ (i + 1) = w_st tx (i + 1)) ∨ ((i + 1) = len + 1 ∧ (wn1 + 1) = (w_all tx len).length ∧ fT (fun _ _ => 0) (upd fb1 wn1 (nI stt)) (upd fe1 wn1 (nI i)) (w_all tx len)) from Or.inr ⟨by omega, by
        have q := (fT_add (g := (fun _ _ => 0)) (b := stt) (e := i) hT2)
        rw [← hT1] at q
        rw [← show i = len by omega, w_all_run (by rw [← hT3]; omega), List.length_append, ← hT1, ← hT3]
        exact ⟨rfl, q⟩⟩), (show E35 0 1 = .inr (1, [.ref (ad 0 2), .ref (ad 0 3), .ref (ad 0 4), .int (nI len), .int (nI (wn1 + 1))]) from c_38), (show E35 0 3 = .inl (kA 0, 20, .inl (upd fb1 wn1 (nI stt))) from c_40), (show E35 0 4 = .inl (kA 0, 20, .inl (upd fe1 wn1 (nI i))) from c_39), (show ∀ b2 o2, ¬ (b2 = 0 ∧ o2 = 1) → ¬ (b2 = 0 ∧ o2 = 3) → ¬ (b2 = 0 ∧ o2 = 4) → E35 b2 o2 = E b2 o2 from fun b2 o2 h09 h19 h29 => by rw [fE37 b2 o2 (by omega), fE30 b2 o2 (by omega), fE23 b2 o2 (by omega), hfr b2 o2 (by omega) (by omega) (by omega)])⟩
    · refine lv_aload_n hx hb xd_Li_take_25 rfl (lv_at hl 2 rfl) ?_
      refine px_get (D := D) (ci := 1) (v := .ref (ad 0 2)) (C := xR_Li) (T := xT_Li) (N := 5) hx hb hT xi_Li hown hK.1 hP ym0 hc1 rfl 0 (by decide) (hT _ k5a_14) (fun _ h9 => h9) rfl xd_Li_take_26 ?_
      refine lv_iload_n hx hb xd_Li_take_29 rfl (lv_at hl 0 rfl) ?_
      refine px_cald (i := i) hx hb hK.1 hP ym1 c_9 1 rfl (by omega) (by decide) xd_Li_take_30 ?_
      refine lv_bipush (v := 32) hx hb xd_Li_take_31 (by decide) ?_
      refine lv_icmp_ne (tgt := 84) hx hb xd_Li_take_33 (by decide) (fun hc42 => ?_) (fun hc42 => ?_)
      · refine lv_iinc (k := 0) (x := (nI i)) (v := (nI (i + 1))) hx hb xd_Li_take_84 hl rfl (xb_inc i 1) (Nat.le_of_ble_eq_true rfl) rfl (fun ls hl => ?_)
        have hl : lv_has ls 3 [(2, .int (nI (i + 1))), (1, .int (nI stt)), (0, .ref (ad 0 1))] := hl
        refine lv_goto (tgt := 9) hx hb xd_Li_take_87 (by decide) ?_
        exact ih8 (i + 1, stt, E1, wn1, fb1, fe1) _ _ _ (show len + 1 - (i + 1) < len + 1 - i by omega) (lv_sub hl [0, 1, 2] rfl) hP hD hS ⟨(show (i + 1) ≤ len + 1 from by first | assumption | omega), (show stt ≤ (i + 1) from by first | assumption | omega), (show wn1 ≤ 20 from by first | assumption | omega), (show ((i + 1) ≤ len ∧ (wn1 = (w_l tx (i + 1)).length ∧ fT (fun _ _ => 0) fb1 fe1 (w_l tx (i + 1))) ∧ stt = w_st tx (i + 1)) ∨ ((i + 1) = len + 1 ∧ wn1 = (w_all tx len).length ∧ fT (fun _ _ => 0) fb1 fe1 (w_all tx len)) from Or.inl ⟨by omega, by rw [(w_ns (t := tx) hc42).1]; exact ⟨hT1, hT2⟩, by rw [(w_ns (t := tx) hc42).2]; exact hT3⟩), (show E1 0 1 = .inr (1, [.ref (ad 0 2), .ref (ad 0 3), .ref (ad 0 4), .int (nI len), .int (nI wn1)]) from hc1), (show E1 0 3 = .inl (kA 0, 20, .inl fb1) from hc3), (show E1 0 4 = .inl (kA 0, 20, .inl fe1) from hc4), (show ∀ b2 o2, ¬ (b2 = 0 ∧ o2 = 1) → ¬ (b2 = 0 ∧ o2 = 3) → ¬ (b2 = 0 ∧ o2 = 4) → E1 b2 o2 = E b2 o2 from fun b2 o2 h09 h19 h29 => by rw [hfr b2 o2 (by omega) (by omega) (by omega)])⟩
      · refine lv_iload_n hx hb xd_Li_take_36 rfl (lv_at hl 0 rfl) ?_
        refine lv_iload_n hx hb xd_Li_take_37 rfl (lv_at hl 1 rfl) ?_
        refine xn_le (a := i) (b := stt) (tgt := 80) hx hb xd_Li_take_38 (by decide) (by omega) (by omega) (fun hc43 => ?_) (fun hc43 => ?_)
        · refine lv_iload_n hx hb xd_Li_take_80 rfl (lv_at hl 0 rfl) ?_
          refine lv_iconst (v := 1) hx hb xd_Li_take_81 (by decide) ?_
          refine lv_iadd hx hb xd_Li_take_82 ?_
          refine xn_top (y := nI (i + 1)) (nI_add i 1) ?_
          refine lv_istore_n hx hb xd_Li_take_83 rfl hl (Nat.le_of_ble_eq_true rfl) rfl (fun ls hl => ?_)
          have hl : lv_has ls 3 [(1, .int (nI (i + 1))), (2, .int (nI i)), (0, .ref (ad 0 1))] := hl
          refine lv_iinc (k := 1) (x := (nI i)) (v := (nI (i + 1))) hx hb xd_Li_take_84 hl rfl (xb_inc i 1) (Nat.le_of_ble_eq_true rfl) rfl (fun ls hl => ?_)
          have hl : lv_has ls 3 [(2, .int (nI (i + 1))), (1, .int (nI (i + 1))), (0, .ref (ad 0 1))] := hl
          refine lv_goto (tgt := 9) hx hb xd_Li_take_87 (by decide) ?_
          exact ih8 (i + 1, i + 1, E1, wn1, fb1, fe1) _ _ _ (show len + 1 - (i + 1) < len + 1 - i by omega) (lv_sub hl [0, 1, 2] rfl) hP hD hS ⟨(show (i + 1) ≤ len + 1 from by first | assumption | omega), (show (i + 1) ≤ (i + 1) from by first | assumption | omega), (show wn1 ≤ 20 from by first | assumption | omega), (show ((i + 1) ≤ len ∧ (wn1 = (w_l tx (i + 1)).length ∧ fT (fun _ _ => 0) fb1 fe1 (w_l tx (i + 1))) ∧ (i + 1) = w_st tx (i + 1)) ∨ ((i + 1) = len + 1 ∧ wn1 = (w_all tx len).length ∧ fT (fun _ _ => 0) fb1 fe1 (w_all tx len)) from Or.inl ⟨by omega, by rw [(w_sp (t := tx) hc42).1, w_all_st (by omega)]; exact ⟨hT1, hT2⟩, by rw [(w_sp (t := tx) hc42).2]⟩), (show E1 0 1 = .inr (1, [.ref (ad 0 2), .ref (ad 0 3), .ref (ad 0 4), .int (nI len), .int (nI wn1)]) from hc1), (show E1 0 3 = .inl (kA 0, 20, .inl fb1) from hc3), (show E1 0 4 = .inl (kA 0, 20, .inl fe1) from hc4), (show ∀ b2 o2, ¬ (b2 = 0 ∧ o2 = 1) → ¬ (b2 = 0 ∧ o2 = 3) → ¬ (b2 = 0 ∧ o2 = 4) → E1 b2 o2 = E b2 o2 from fun b2 o2 h09 h19 h29 => by rw [hfr b2 o2 (by omega) (by omega) (by omega)])⟩
        · refine lv_aload_n hx hb xd_Li_take_41 rfl (lv_at hl 2 rfl) ?_
          refine px_get (D := D) (ci := 1) (v := .int (nI wn1)) (C := xR_Li) (T := xT_Li) (N := 5) hx hb hT xi_Li hown hK.1 hP ym0 hc1 rfl 4 (by decide) (hT _ k5a_15) (fun _ h9 => h9) rfl xd_Li_take_42 ?_
          refine lv_bipush (v := 20) hx hb xd_Li_take_45 (by decide) ?_
          refine xn_ge (a := wn1) (b := 20) (tgt := 80) hx hb xd_Li_take_47 (by decide) (by omega) (by omega) (fun hc44 => absurd hc44 (by omega)) (fun _ => ?_)
          refine lv_aload_n hx hb xd_Li_take_50 rfl (lv_at hl 2 rfl) ?_
          refine px_get (D := D) (ci := 1) (v := .ref (ad 0 3)) (C := xR_Li) (T := xT_Li) (N := 5) hx hb hT xi_Li hown hK.1 hP ym0 hc1 rfl 1 (by decide) (hT _ k5a_16) (fun _ h9 => h9) rfl xd_Li_take_51 ?_
          refine lv_aload_n hx hb xd_Li_take_54 rfl (lv_at hl 2 rfl) ?_
          refine px_get (D := D) (ci := 1) (v := .int (nI wn1)) (C := xR_Li) (T := xT_Li) (N := 5) hx hb hT xi_Li hown hK.1 hP ym0 hc1 rfl 4 (by decide) (hT _ k5a_15) (fun _ h9 => h9) rfl xd_Li_take_55 ?_
          refine lv_iload_n hx hb xd_Li_take_58 rfl (lv_at hl 1 rfl) ?_
          refine px_iast (i := wn1) hx hb hK.1 hP hD hS ym2 hc3 0 rfl (by omega) (by decide) xd_Li_take_59 (fun H locs hP hD hS => ?_)
          have hP : va_P D xcl (rp ad (up2 E1 0 3 (.inl (kA 0, 20, .inl (upd fb1 wn1 (nI stt))))) RL) H := hP
          have hD : va_D A (rp ad (up2 E1 0 3 (.inl (kA 0, 20, .inl (upd fb1 wn1 (nI stt))))) RL) := hD
          generalize hE46 : up2 E1 0 3 (.inl (kA 0, 20, .inl (upd fb1 wn1 (nI stt)))) = E45 at hP hD
          have fE47 : ∀ b2 o2, ¬ (b2 = 0 ∧ o2 = 3) → E45 b2 o2 = E1 b2 o2 := fun b2 o2 h9 => by rw [← hE46]; exact up2_ne (nr_or h9)
          have c_48 : E45 0 3 = .inl (kA 0, 20, .inl (upd fb1 wn1 (nI stt))) := by rw [← hE46]; exact up2_eq
          have c_49 : E45 0 1 = .inr (1, [.ref (ad 0 2), .ref (ad 0 3), .ref (ad 0 4), .int (nI len), .int (nI wn1)]) := (fE47 0 1 (fun q9 => absurd q9.2 (by decide))).trans hc1
          have c_50 : E45 0 4 = .inl (kA 0, 20, .inl fe1) := (fE47 0 4 (fun q9 => absurd q9.2 (by decide))).trans hc4
          have c_51 : E45 0 2 = .inl (kA 1, 40, .inl tx) := (fE47 0 2 (fun q9 => absurd q9.2 (by decide))).trans c_9
          refine lv_aload_n hx hb xd_Li_take_60 rfl (lv_at hl 2 rfl) ?_
          refine px_get (D := D) (ci := 1) (v := .ref (ad 0 4)) (C := xR_Li) (T := xT_Li) (N := 5) hx hb hT xi_Li hown hK.1 hP ym0 c_49 rfl 2 (by decide) (hT _ k5a_17) (fun _ h9 => h9) rfl xd_Li_take_61 ?_
          refine lv_aload_n hx hb xd_Li_take_64 rfl (lv_at hl 2 rfl) ?_
          refine px_get (D := D) (ci := 1) (v := .int (nI wn1)) (C := xR_Li) (T := xT_Li) (N := 5) hx hb hT xi_Li hown hK.1 hP ym0 c_49 rfl 4 (by decide) (hT _ k5a_15) (fun _ h9 => h9) rfl xd_Li_take_65 ?_
          refine lv_iload_n hx hb xd_Li_take_68 rfl (lv_at hl 0 rfl) ?_
          refine px_iast (i := wn1) hx hb hK.1 hP hD hS ym3 c_50 0 rfl (by omega) (by decide) xd_Li_take_69 (fun H locs hP hD hS => ?_)
          have hP : va_P D xcl (rp ad (up2 E45 0 4 (.inl (kA 0, 20, .inl (upd fe1 wn1 (nI i))))) RL) H := hP
          have hD : va_D A (rp ad (up2 E45 0 4 (.inl (kA 0, 20, .inl (upd fe1 wn1 (nI i))))) RL) := hD
          generalize hE53 : up2 E45 0 4 (.inl (kA 0, 20, .inl (upd fe1 wn1 (nI i)))) = E52 at hP hD
          have fE54 : ∀ b2 o2, ¬ (b2 = 0 ∧ o2 = 4) → E52 b2 o2 = E45 b2 o2 := fun b2 o2 h9 => by rw [← hE53]; exact up2_ne (nr_or h9)
          have c_55 : E52 0 4 = .inl (kA 0, 20, .inl (upd fe1 wn1 (nI i))) := by rw [← hE53]; exact up2_eq
          have c_56 : E52 0 3 = .inl (kA 0, 20, .inl (upd fb1 wn1 (nI stt))) := (fE54 0 3 (fun q9 => absurd q9.2 (by decide))).trans c_48
          have c_57 : E52 0 1 = .inr (1, [.ref (ad 0 2), .ref (ad 0 3), .ref (ad 0 4), .int (nI len), .int (nI wn1)]) := (fE54 0 1 (fun q9 => absurd q9.2 (by decide))).trans c_49
          have c_58 : E52 0 2 = .inl (kA 1, 40, .inl tx) := (fE54 0 2 (fun q9 => absurd q9.2 (by decide))).trans c_51
          refine lv_aload_n hx hb xd_Li_take_70 rfl (lv_at hl 2 rfl) ?_
          refine lv_dup hx hb xd_Li_take_71 rfl ?_
          refine px_get (D := D) (ci := 1) (v := .int (nI wn1)) (C := xR_Li) (T := xT_Li) (N := 5) hx hb hT xi_Li hown hK.1 hP ym0 c_57 rfl 4 (by decide) (hT _ k5a_15) (fun _ h9 => h9) rfl xd_Li_take_72 ?_
          refine lv_iconst (v := 1) hx hb xd_Li_take_75 (by decide) ?_
          refine lv_iadd hx hb xd_Li_take_76 ?_
          refine xn_top (y := nI (wn1 + 1)) (nI_add wn1 1) ?_
          refine px_put (D := D) (ci := 1) (v := .int (nI (wn1 + 1))) (ty := .int) (C := xR_Li) (T := xT_Li) (N := 5) hx hb hT xi_Li xt_Li xt_Li_ok xn_Li hown hK.1 hP hD hS ym0 c_57 rfl 4 (by decide) (hT _ k5a_15) (fun _ h9 => h9) rfl (by decide +kernel) rfl rfl (Nat.le_of_ble_eq_true rfl) xd_Li_take_77 (fun H locs hP hD hS => ?_)
          have hP : va_P D xcl (rp ad (up2 E52 0 1 (.inr (1, [.ref (ad 0 2), .ref (ad 0 3), .ref (ad 0 4), .int (nI len), .int (nI (wn1 + 1))]))) RL) H := hP
          have hD : va_D A (rp ad (up2 E52 0 1 (.inr (1, [.ref (ad 0 2), .ref (ad 0 3), .ref (ad 0 4), .int (nI len), .int (nI (wn1 + 1))]))) RL) := hD
          generalize hE60 : up2 E52 0 1 (.inr (1, [.ref (ad 0 2), .ref (ad 0 3), .ref (ad 0 4), .int (nI len), .int (nI (wn1 + 1))])) = E59 at hP hD
          have fE61 : ∀ b2 o2, ¬ (b2 = 0 ∧ o2 = 1) → E59 b2 o2 = E52 b2 o2 := fun b2 o2 h9 => by rw [← hE60]; exact up2_ne (nr_or h9)
          have c_62 : E59 0 1 = .inr (1, [.ref (ad 0 2), .ref (ad 0 3), .ref (ad 0 4), .int (nI len), .int (nI (wn1 + 1))]) := by rw [← hE60]; exact up2_eq
          have c_63 : E59 0 4 = .inl (kA 0, 20, .inl (upd fe1 wn1 (nI i))) := (fE61 0 4 (fun q9 => absurd q9.2 (by decide))).trans c_55
          have c_64 : E59 0 3 = .inl (kA 0, 20, .inl (upd fb1 wn1 (nI stt))) := (fE61 0 3 (fun q9 => absurd q9.2 (by decide))).trans c_56
          have c_65 : E59 0 2 = .inl (kA 1, 40, .inl tx) := (fE61 0 2 (fun q9 => absurd q9.2 (by decide))).trans c_58
          refine lv_iload_n hx hb xd_Li_take_80 rfl (lv_at hl 0 rfl) ?_
          refine lv_iconst (v := 1) hx hb xd_Li_take_81 (by decide) ?_
          refine lv_iadd hx hb xd_Li_take_82 ?_
          refine xn_top (y := nI (i + 1)) (nI_add i 1) ?_
          refine lv_istore_n hx hb xd_Li_take_83 rfl hl (Nat.le_of_ble_eq_true rfl) rfl (fun ls hl => ?_)
          have hl : lv_has ls 3 [(1, .int (nI (i + 1))), (2, .int (nI i)), (0, .ref (ad 0 1))] := hl
          refine lv_iinc (k := 1) (x := (nI i)) (v := (nI (i + 1))) hx hb xd_Li_take_84 hl rfl (xb_inc i 1) (Nat.le_of_ble_eq_true rfl) rfl (fun ls hl => ?_)
          have hl : lv_has ls 3 [(2, .int (nI (i + 1))), (1, .int (nI (i + 1))), (0, .ref (ad 0 1))] := hl
          refine lv_goto (tgt := 9) hx hb xd_Li_take_87 (by decide) ?_
          exact ih8 (i + 1, i + 1, E59, wn1 + 1, (upd fb1 wn1 (nI stt)), (upd fe1 wn1 (nI i))) _ _ _ (show len + 1 - (i + 1) < len + 1 - i by omega) (lv_sub hl [0, 1, 2] rfl) hP hD hS ⟨(show (i + 1) ≤ len + 1 from by first | assumption | omega), (show (i + 1) ≤ (i + 1) from by first | assumption | omega), (show (wn1 + 1) ≤ 20 from by first | assumption | omega), (show ((i + 1) ≤ len ∧ ((wn1 + 1) = (w_l tx (i + 1)).length ∧ fT (fun _ _ => 0) (upd fb1 wn1 (nI stt)) (upd fe1 wn1 (nI i)) (w_l tx (i + 1))) ∧ (i + 1) = w_st tx (i + 1)) ∨ ((i + 1) = len + 1 ∧ (wn1 + 1) = (w_all tx len).length ∧ fT (fun _ _ => 0) (upd fb1 wn1 (nI stt)) (upd fe1 wn1 (nI i)) (w_all tx len)) from Or.inl ⟨by omega, by
        have q := (fT_add (g := (fun _ _ => 0)) (b := stt) (e := i) hT2)
        rw [← hT1] at q
        rw [(w_sp (t := tx) hc42).1, w_all_run (by rw [← hT3]; omega), List.length_append, ← hT1, ← hT3]
        exact ⟨rfl, q⟩, by rw [(w_sp (t := tx) hc42).2]⟩), (show E59 0 1 = .inr (1, [.ref (ad 0 2), .ref (ad 0 3), .ref (ad 0 4), .int (nI len), .int (nI (wn1 + 1))]) from c_62), (show E59 0 3 = .inl (kA 0, 20, .inl (upd fb1 wn1 (nI stt))) from c_64), (show E59 0 4 = .inl (kA 0, 20, .inl (upd fe1 wn1 (nI i))) from c_63), (show ∀ b2 o2, ¬ (b2 = 0 ∧ o2 = 1) → ¬ (b2 = 0 ∧ o2 = 3) → ¬ (b2 = 0 ∧ o2 = 4) → E59 b2 o2 = E b2 o2 from fun b2 o2 h09 h19 h29 => by rw [fE61 b2 o2 (by omega), fE54 b2 o2 (by omega), fE47 b2 o2 (by omega), hfr b2 o2 (by omega) (by omega) (by omega)])⟩
theorem k5b_0 : (Cond.fieldLink "LayerDesk$Line" 24 "LayerDesk$Line" "words" "I") ∈ wT := wT_t (List.mem_append_left _ (List.mem_of_getElem? (i := 40) rfl)) rfl
theorem k5b_1 : (Cond.fieldLink "LayerDesk$Line" 17 "LayerDesk$Line" "ends" "[I") ∈ wT := wT_t (List.mem_append_left _ (List.mem_of_getElem? (i := 38) rfl)) rfl
theorem k5b_2 : (Cond.fieldLink "LayerDesk$Line" 13 "LayerDesk$Line" "starts" "[I") ∈ wT := wT_t (List.mem_append_left _ (List.mem_of_getElem? (i := 37) rfl)) rfl
theorem k5b_3 : (Cond.fieldLink "LayerDesk$Line" 9 "LayerDesk$Line" "text" "[C") ∈ wT := wT_t (List.mem_append_left _ (List.mem_of_getElem? (i := 36) rfl)) rfl
theorem k5b_4 : (Cond.code xy_JS_length xb_JS_length 1 (some .int)) ∈ wT := wT_t (List.mem_append_left _ (List.mem_of_getElem? (i := 203) rfl)) rfl
theorem k5b_5 : (Cond.methodLink "LayerDesk$Line" 34 xy_JS_length) ∈ wT := wT_t (List.mem_append_left _ (List.mem_of_getElem? (i := 200) rfl)) rfl
theorem k5b_6 : (Cond.instanceMethod xy_JS_length) ∈ wT := wT_t (List.mem_append_left _ (List.mem_of_getElem? (i := 201) rfl)) rfl
theorem k5b_7 : (Cond.selects "java/lang/String" xy_JS_length xy_JS_length) ∈ wT := wT_t (List.mem_append_left _ (List.mem_of_getElem? (i := 202) rfl)) rfl
theorem k5b_8 : (Cond.initialized "java/lang/String") ∈ wT := wT_t (List.mem_append_left _ (List.mem_of_getElem? (i := 6) rfl)) rfl
theorem k5b_9 : (Cond.code xy_JS_charAt xb_JS_charAt 2 (some .char)) ∈ wT := wT_t (List.mem_append_left _ (List.mem_of_getElem? (i := 213) rfl)) rfl
theorem k5b_10 : (Cond.methodLink "LayerDesk$Line" 39 xy_JS_charAt) ∈ wT := wT_t (List.mem_append_left _ (List.mem_of_getElem? (i := 210) rfl)) rfl
theorem k5b_11 : (Cond.instanceMethod xy_JS_charAt) ∈ wT := wT_t (List.mem_append_left _ (List.mem_of_getElem? (i := 211) rfl)) rfl
theorem k5b_12 : (Cond.selects "java/lang/String" xy_JS_charAt xy_JS_charAt) ∈ wT := wT_t (List.mem_append_left _ (List.mem_of_getElem? (i := 212) rfl)) rfl
set_option maxHeartbeats 4000000 in
set_option maxRecDepth 100000 in
theorem xc_Li_nameAtX (l : Launch) (D : va_G) (kA : Nat → ClassId) (sz : Nat) (ad : Nat → Nat → Nat) (E : Nat → Nat → va_E) (RL : List (Nat × Nat)) (g : Nat → Nat → Int32) (ml : Nat) (nd : Nat) (len : Nat) (lt : Nat) (wl : List (Nat × Nat)) (cs : Nat) (iw : Nat) (hCI : CI kA ad E RL ml nd len wl.length cs) (hLW : LW g E lt wl) (hiw : iw ≤ 100) : Met l xy_Li_nameAt (.code xy_Li_nameAt xb_Li_nameAt 4 (some .int) :: wT) { frames := 0, cells := 0, slots := 0, locals := 0 } (va_Pc [.ref (ad 0 1), .int (nI iw)] (xPre D kA sz (rp ad E RL))) (va_Qi (fun (r : Int32) (u : Unit) => r = wN (g 0) wl iw) (fun (u : Unit) t => va_P D xcl (rp ad E RL) t.heap ∧ va_D (va_A (rp ad E RL) sz) (rp ad E RL)) (va_A (rp ad E RL) sz)) 0 0 (va_A (rp ad E RL) sz) := by
  refine Met.ofW (cc := xb_Li_nameAt) (maxL := 4) (ret := (some .int)) (by decide) rfl ?_
  intro p e s m args below meth c s₁ B hml hv
  obtain ⟨rfl, hsz, hP, hK, hD0⟩ := hv
  have hx := B.exec
  have hb := B.bytes
  have hr := B.returns
  have hT := x_hT B.pre
  have hown : s.vm.findClass xR_Li = some m.cls := findClass_of_methodNamed B.named
  have hlocks := B.notSynchronized
  subst hsz
  have hD := hD0.self (sz := s.heap.size)
  generalize hAe : va_A (rp ad E RL) s.heap.size = A at hD ⊢
  have hA : ∀ q : Nat, s.heap.size ≤ q → A q := fun q h => by rw [← hAe]; exact Or.inr h
  have hS : va_S A s.heap s.heap [] := va_S.rf
  have hl := lv_entry ([.ref (ad 0 1), .int (nI iw)]) (n := 4) (Nat.le_of_ble_eq_true rfl)
  rw [lg_entry_eq]
  generalize (lg_sl ([.ref (ad 0 1), .int (nI iw)]) ++ List.replicate (4 - (lg_sl ([.ref (ad 0 1), .int (nI iw)])).length) Slot.unset).toArray = ls at hl ⊢
  have hl : lv_has ls 4 [(0, .ref (ad 0 1)), (1, .int (nI iw))] := hl
  have hP : va_P D xcl (rp ad E RL) s.heap := hP
  obtain ⟨hmB, hDk, hLi, hSh, hCh, hLa, hDIs, hLIs⟩ := id hCI
  obtain ⟨hWL, hlt40, hLwd, hLtx⟩ := id hLW
  obtain ⟨tx_1, fb_1, fe_1, hl1_1, hw2_1, q1_1, q2_1, q3_1, q4_1, hws_1⟩ := id (hLi)
  have c_2 : E 0 1 = .inr (1, [.ref (ad 0 2), .ref (ad 0 3), .ref (ad 0 4), .int (nI len), .int (nI (wl.length))]) := q1_1
  have m_3 : (0, 1) ∈ RL := hmB 1 (by decide)
  have c_4 : E 0 2 = .inl (kA 1, 40, .inl tx_1) := q2_1
  have m_5 : (0, 2) ∈ RL := hmB 2 (by decide)
  have c_6 : E 0 3 = .inl (kA 0, 20, .inl fb_1) := q3_1
  have m_7 : (0, 3) ∈ RL := hmB 3 (by decide)
  have c_8 : E 0 4 = .inl (kA 0, 20, .inl fe_1) := q4_1
  have m_9 : (0, 4) ∈ RL := hmB 4 (by decide)
  refine lv_iload_n hx hb xd_Li_nameAt_0 rfl (lv_at hl 1 rfl) ?_
  refine xz_lt (a := iw) (tgt := 29) hx hb xd_Li_nameAt_1 (by decide) (by omega) ?_
  refine lv_iload_n hx hb xd_Li_nameAt_4 rfl (lv_at hl 1 rfl) ?_
  refine lv_aload_n hx hb xd_Li_nameAt_5 rfl (lv_at hl 0 rfl) ?_
  refine px_get (D := D) (ci := 1) (v := .int (nI (wl.length))) (C := xR_Li) (T := xT_Li) (N := 5) hx hb hT xi_Li hown hK.1 hP m_3 c_2 rfl 4 (by decide) (hT _ k5b_0) (fun _ h9 => h9) rfl xd_Li_nameAt_6 ?_
  refine xn_ge (a := iw) (b := wl.length) (tgt := 29) hx hb xd_Li_nameAt_9 (by decide) (by omega) (by omega) (fun hc11 => ?_) (fun hc11 => ?_)
  · refine lv_iconst (v := 0) hx hb xd_Li_nameAt_29 (by decide) ?_
    exact W.iret (v := 0) hx hb hr (fun t ht hW => ⟨⟨0, (), rfl, (wN_out (by omega)).symm, by rw [ht]; exact hP, hD⟩, hS.F ht⟩) hS.2.2 xd_Li_nameAt_30
  · have hbe9 := (hWL.2 iw (by omega)).1
    have he40 := (hWL.2 iw (by omega)).2
    have helt := (hLwd iw (by omega)).2.2
    have hfb9 : fb_1 iw = nI (wb wl iw) := by have q := (hLwd iw (by omega)).1; rw [c_6] at q; exact q
    have hfe9 : fe_1 iw = nI (we wl iw) := by have q := (hLwd iw (by omega)).2.1; rw [c_8] at q; exact q
    have htx9 : ∀ j, j < lt → tx_1 j = g 0 j := fun j hj => by have q := hLtx j hj; rw [c_4] at q; exact q
    refine lv_aload_n hx hb xd_Li_nameAt_12 rfl (lv_at hl 0 rfl) ?_
    refine px_get (D := D) (ci := 1) (v := .ref (ad 0 4)) (C := xR_Li) (T := xT_Li) (N := 5) hx hb hT xi_Li hown hK.1 hP m_3 c_2 rfl 2 (by decide) (hT _ k5b_1) (fun _ h9 => h9) rfl xd_Li_nameAt_13 ?_
    refine lv_iload_n hx hb xd_Li_nameAt_16 rfl (lv_at hl 1 rfl) ?_
    refine px_iald (i := iw) hx hb hK.1 hP m_9 c_8 0 rfl (by omega) (by decide) xd_Li_nameAt_17 ?_
    refine xn_top (x := (fe_1 iw)) (y := nI (we wl iw)) hfe9 ?_
    refine lv_aload_n hx hb xd_Li_nameAt_18 rfl (lv_at hl 0 rfl) ?_
    refine px_get (D := D) (ci := 1) (v := .ref (ad 0 3)) (C := xR_Li) (T := xT_Li) (N := 5) hx hb hT xi_Li hown hK.1 hP m_3 c_2 rfl 1 (by decide) (hT _ k5b_2) (fun _ h9 => h9) rfl xd_Li_nameAt_19 ?_
    refine lv_iload_n hx hb xd_Li_nameAt_22 rfl (lv_at hl 1 rfl) ?_
    refine px_iald (i := iw) hx hb hK.1 hP m_7 c_6 0 rfl (by omega) (by decide) xd_Li_nameAt_23 ?_
    refine xn_top (x := (fb_1 iw)) (y := nI (wb wl iw)) hfb9 ?_
    refine lv_isub hx hb xd_Li_nameAt_24 ?_
    refine xn_top (y := nI ((we wl iw) - (wb wl iw))) (pk_sub (a := (we wl iw)) (b := (wb wl iw)) (by omega)) ?_
    refine lv_iconst (v := 4) hx hb xd_Li_nameAt_25 (by decide) ?_
    refine xn_le (a := (we wl iw) - (wb wl iw)) (b := 4) (tgt := 31) hx hb xd_Li_nameAt_26 (by decide) (by omega) (by omega) (fun hc12 => ?_) (fun hc12 => ?_)
    · refine lv_iconst (v := 0) hx hb xd_Li_nameAt_31 (by decide) ?_
      refine lv_istore_n hx hb xd_Li_nameAt_32 rfl hl (Nat.le_of_ble_eq_true rfl) rfl (fun ls hl => ?_)
      have hl : lv_has ls 4 [(2, .int 0), (0, .ref (ad 0 1)), (1, .int (nI iw))] := hl
      refine lv_aload_n hx hb xd_Li_nameAt_33 rfl (lv_at hl 1 rfl) ?_
      refine px_get (D := D) (ci := 1) (v := .ref (ad 0 3)) (C := xR_Li) (T := xT_Li) (N := 5) hx hb hT xi_Li hown hK.1 hP m_3 c_2 rfl 1 (by decide) (hT _ k5b_2) (fun _ h9 => h9) rfl xd_Li_nameAt_34 ?_
      refine lv_iload_n hx hb xd_Li_nameAt_37 rfl (lv_at hl 2 rfl) ?_
      refine px_iald (i := iw) hx hb hK.1 hP m_7 c_6 0 rfl (by omega) (by decide) xd_Li_nameAt_38 ?_
      refine xn_top (x := (fb_1 iw)) (y := nI (wb wl iw)) hfb9 ?_
      refine lv_istore_n hx hb xd_Li_nameAt_39 rfl hl (Nat.le_of_ble_eq_true rfl) rfl (fun ls hl => ?_)
      have hl : lv_has ls 4 [(3, .int (nI ((wb wl iw)))), (2, .int 0), (0, .ref (ad 0 1)), (1, .int (nI iw))] := hl
      refine xlab (σ := Nat × Int32) (ml := 4) 40 (fun (pp9, nm9) => [(3, .int (nI pp9)), (2, .int nm9), (0, .ref (ad 0 1)), (1, .int (nI iw))]) (fun (pp9, nm9) => []) (fun (pp9, nm9) => rp ad E RL) (fun (pp9, nm9) => (wb wl iw ≤ pp9) ∧ (pp9 ≤ we wl iw) ∧ (nm9 = n_fold tx_1 (wb wl iw) (pp9 - wb wl iw) 0) ∧ (n_small tx_1 (wb wl iw) (pp9 - wb wl iw))) (fun (pp9, nm9) => we wl iw - pp9) ?_ ((wb wl iw), 0) _ _ _ (lv_sub hl [0, 1, 2, 3] rfl) hP hD hS ⟨(show wb wl iw ≤ (wb wl iw) from by first | assumption | omega), (show (wb wl iw) ≤ we wl iw from by first | assumption | omega), (show 0 = n_fold tx_1 (wb wl iw) ((wb wl iw) - wb wl iw) 0 from by rw [Nat.sub_self]; rfl), (show n_small tx_1 (wb wl iw) ((wb wl iw) - wb wl iw) from by rw [Nat.sub_self]; trivial)⟩
      intro n9 ih13 a9 ls H locs hμ hl hP hD hS hI
      subst hμ
      obtain ⟨pp9, nm9⟩ := a9
      obtain ⟨hp1, hp2, hnm9, hsm9⟩ := hI
      have hp1 : wb wl iw ≤ pp9 := hp1
      have hp2 : pp9 ≤ we wl iw := hp2
      have hnm9 : nm9 = n_fold tx_1 (wb wl iw) (pp9 - wb wl iw) 0 := hnm9
      have hsm9 : n_small tx_1 (wb wl iw) (pp9 - wb wl iw) := hsm9
      have hl : lv_has ls 4 [(3, .int (nI pp9)), (2, .int nm9), (0, .ref (ad 0 1)), (1, .int (nI iw))] := hl
      have hP : va_P D xcl (rp ad E RL) H := hP
      have hD : va_D A (rp ad E RL) := hD
      refine lv_iload_n hx hb xd_Li_nameAt_40 rfl (lv_at hl 0 rfl) ?_
      refine lv_aload_n hx hb xd_Li_nameAt_41 rfl (lv_at hl 2 rfl) ?_
      refine px_get (D := D) (ci := 1) (v := .ref (ad 0 4)) (C := xR_Li) (T := xT_Li) (N := 5) hx hb hT xi_Li hown hK.1 hP m_3 c_2 rfl 2 (by decide) (hT _ k5b_1) (fun _ h9 => h9) rfl xd_Li_nameAt_42 ?_
      refine lv_iload_n hx hb xd_Li_nameAt_45 rfl (lv_at hl 3 rfl) ?_
      refine px_iald (i := iw) hx hb hK.1 hP m_9 c_8 0 rfl (by omega) (by decide) xd_Li_nameAt_46 ?_
      refine xn_top (x := (fe_1 iw)) (y := nI (we wl iw)) hfe9 ?_
      refine xn_ge (a := pp9) (b := (we wl iw)) (tgt := 97) hx hb xd_Li_nameAt_47 (by decide) (by omega) (by omega) (fun hc14 => ?_) (fun hc14 => ?_)
      · refine lv_iload_n hx hb xd_Li_nameAt_97 rfl (lv_at hl 1 rfl) ?_
        exact W.iret (v := nm9) hx hb hr (fun t ht hW => ⟨⟨nm9, (), rfl, (by
        rw [wN_in (by omega), ← (nV_congr (fun j h1 h2 => htx9 j (by omega)))]
        exact nV_ok (by omega) (by rw [show we wl iw - wb wl iw = pp9 - wb wl iw by omega]; exact hsm9) (by rw [show we wl iw - wb wl iw = pp9 - wb wl iw by omega]; exact hnm9)), by rw [ht]; exact hP, hD⟩, hS.F ht⟩) hS.2.2 xd_Li_nameAt_98
      · refine lv_aload_n hx hb xd_Li_nameAt_50 rfl (lv_at hl 2 rfl) ?_
        refine px_get (D := D) (ci := 1) (v := .ref (ad 0 2)) (C := xR_Li) (T := xT_Li) (N := 5) hx hb hT xi_Li hown hK.1 hP m_3 c_2 rfl 0 (by decide) (hT _ k5b_3) (fun _ h9 => h9) rfl xd_Li_nameAt_51 ?_
        refine lv_iload_n hx hb xd_Li_nameAt_54 rfl (lv_at hl 0 rfl) ?_
        refine px_cald (i := pp9) hx hb hK.1 hP m_5 c_4 1 rfl (by omega) (by decide) xd_Li_nameAt_55 ?_
        refine lv_bipush (v := 97) hx hb xd_Li_nameAt_56 (by decide) ?_
        refine lv_icmp_lt (tgt := 72) hx hb xd_Li_nameAt_58 (by decide) (fun hc15 => ?_) (fun hc15 => ?_)
        · refine lv_iconst (v := 0) hx hb xd_Li_nameAt_72 (by decide) ?_
          exact W.iret (v := 0) hx hb hr (fun t ht hW => ⟨⟨0, (), rfl, (by
        rw [wN_in (by omega), ← (nV_congr (fun j h1 h2 => htx9 j (by omega)))]
        exact nV_no (fun q => (n_small_at q.2 (p := pp9 - wb wl iw) (by omega)).1 (by rw [show wb wl iw + (pp9 - wb wl iw) = pp9 by omega]; exact hc15))), by rw [ht]; exact hP, hD⟩, hS.F ht⟩) hS.2.2 xd_Li_nameAt_73
        · refine lv_aload_n hx hb xd_Li_nameAt_61 rfl (lv_at hl 2 rfl) ?_
          refine px_get (D := D) (ci := 1) (v := .ref (ad 0 2)) (C := xR_Li) (T := xT_Li) (N := 5) hx hb hT xi_Li hown hK.1 hP m_3 c_2 rfl 0 (by decide) (hT _ k5b_3) (fun _ h9 => h9) rfl xd_Li_nameAt_62 ?_
          refine lv_iload_n hx hb xd_Li_nameAt_65 rfl (lv_at hl 0 rfl) ?_
          refine px_cald (i := pp9) hx hb hK.1 hP m_5 c_4 1 rfl (by omega) (by decide) xd_Li_nameAt_66 ?_
          refine lv_bipush (v := 122) hx hb xd_Li_nameAt_67 (by decide) ?_
          refine lv_icmp_le (tgt := 74) hx hb xd_Li_nameAt_69 (by decide) (fun hc16 => ?_) (fun hc16 => ?_)
          · refine lv_iload_n hx hb xd_Li_nameAt_74 rfl (lv_at hl 1 rfl) ?_
            refine lv_bipush (v := 27) hx hb xd_Li_nameAt_75 (by decide) ?_
            refine lv_imul hx hb xd_Li_nameAt_77 ?_
            refine lv_aload_n hx hb xd_Li_nameAt_78 rfl (lv_at hl 2 rfl) ?_
            refine px_get (D := D) (ci := 1) (v := .ref (ad 0 2)) (C := xR_Li) (T := xT_Li) (N := 5) hx hb hT xi_Li hown hK.1 hP m_3 c_2 rfl 0 (by decide) (hT _ k5b_3) (fun _ h9 => h9) rfl xd_Li_nameAt_79 ?_
            refine lv_iload_n hx hb xd_Li_nameAt_82 rfl (lv_at hl 0 rfl) ?_
            refine px_cald (i := pp9) hx hb hK.1 hP m_5 c_4 1 rfl (by omega) (by decide) xd_Li_nameAt_83 ?_
            refine lv_bipush (v := 97) hx hb xd_Li_nameAt_84 (by decide) ?_
            refine lv_isub hx hb xd_Li_nameAt_86 ?_
            refine lv_iconst (v := 1) hx hb xd_Li_nameAt_87 (by decide) ?_
            refine lv_iadd hx hb xd_Li_nameAt_88 ?_
            refine lv_iadd hx hb xd_Li_nameAt_89 ?_
            refine lv_istore_n hx hb xd_Li_nameAt_90 rfl hl (Nat.le_of_ble_eq_true rfl) rfl (fun ls hl => ?_)
            have hl : lv_has ls 4 [(2, .int ((nm9 * 27) + (((tx_1 pp9) - 97) + 1))), (3, .int (nI pp9)), (0, .ref (ad 0 1)), (1, .int (nI iw))] := hl
            refine lv_iinc (k := 1) (x := (nI pp9)) (v := (nI (pp9 + 1))) hx hb xd_Li_nameAt_91 hl rfl (xb_inc pp9 1) (Nat.le_of_ble_eq_true rfl) rfl (fun ls hl => ?_)
            have hl : lv_has ls 4 [(3, .int (nI (pp9 + 1))), (2, .int ((nm9 * 27) + (((tx_1 pp9) - 97) + 1))), (0, .ref (ad 0 1)), (1, .int (nI iw))] := hl
            refine lv_goto (tgt := 40) hx hb xd_Li_nameAt_94 (by decide) ?_
            exact ih13 (pp9 + 1, ((nm9 * 27) + (((tx_1 pp9) - 97) + 1))) _ _ _ (show we wl iw - (pp9 + 1) < we wl iw - pp9 by omega) (lv_sub hl [0, 1, 2, 3] rfl) hP hD hS ⟨(show wb wl iw ≤ (pp9 + 1) from by first | assumption | omega), (show (pp9 + 1) ≤ we wl iw from by first | assumption | omega), (show ((nm9 * 27) + (((tx_1 pp9) - 97) + 1)) = n_fold tx_1 (wb wl iw) ((pp9 + 1) - wb wl iw) 0 from by rw [hnm9, show pp9 + 1 - wb wl iw = pp9 - wb wl iw + 1 by omega, n_fold_r, show wb wl iw + (pp9 - wb wl iw) = pp9 by omega]), (show n_small tx_1 (wb wl iw) ((pp9 + 1) - wb wl iw) from by rw [show pp9 + 1 - wb wl iw = pp9 - wb wl iw + 1 by omega, n_small_r, show wb wl iw + (pp9 - wb wl iw) = pp9 by omega]; exact ⟨hsm9, hc15, Int32.not_lt.mpr hc16⟩)⟩
          · refine lv_iconst (v := 0) hx hb xd_Li_nameAt_72 (by decide) ?_
            exact W.iret (v := 0) hx hb hr (fun t ht hW => ⟨⟨0, (), rfl, (by
        rw [wN_in (by omega), ← (nV_congr (fun j h1 h2 => htx9 j (by omega)))]
        exact nV_no (fun q => (n_small_at q.2 (p := pp9 - wb wl iw) (by omega)).2 (by rw [show wb wl iw + (pp9 - wb wl iw) = pp9 by omega]; exact (Int32.not_le.mp hc16)))), by rw [ht]; exact hP, hD⟩, hS.F ht⟩) hS.2.2 xd_Li_nameAt_73
    · refine lv_iconst (v := 0) hx hb xd_Li_nameAt_29 (by decide) ?_
      exact W.iret (v := 0) hx hb hr (fun t ht hW => ⟨⟨0, (), rfl, (by
        rw [wN_in (by omega)]
        exact nV_no (fun q => absurd q.1 (by omega))), by rw [ht]; exact hP, hD⟩, hS.F ht⟩) hS.2.2 xd_Li_nameAt_30
set_option maxHeartbeats 4000000 in
set_option maxRecDepth 100000 in
theorem xc_Li_wordIsX (l : Launch) (D : va_G) (kA : Nat → ClassId) (sz : Nat) (ad : Nat → Nat → Nat) (E : Nat → Nat → va_E) (RL : List (Nat × Nat)) (Z : zT) (g : Nat → Nat → Int32) (ml : Nat) (nd : Nat) (len : Nat) (lt : Nat) (wl : List (Nat × Nat)) (cs : Nat) (iw : Nat) (si : Nat) (hCI : CI kA ad E RL ml nd len wl.length cs) (hLW : LW g E lt wl) (hiw : iw ≤ 100) (hsi : si < 12) : Met l xy_Li_wordIs (.code xy_Li_wordIs xb_Li_wordIs 4 (some .boolean) :: wT) { frames := 4, cells := 0, slots := 0, locals := 85 } (va_Pc [.ref (ad 0 1), .int (nI iw), .ref (Z.1 si)] (xPreZ D kA sz (rp ad E RL) Z)) (va_Qi (fun (r : Int32) (u : Unit) => (r = 1 ∧ wS (g 0) wl iw (zW si)) ∨ (r = 0 ∧ ¬ wS (g 0) wl iw (zW si))) (fun (u : Unit) t => va_P D xcl (rp ad E RL) t.heap ∧ va_D (va_A (rp ad E RL) sz) (rp ad E RL)) (va_A (rp ad E RL) sz)) 0 0 (va_A (rp ad E RL) sz) := by
  refine Met.ofW (cc := xb_Li_wordIs) (maxL := 4) (ret := (some .boolean)) (by decide) rfl ?_
  intro p e s m args below meth c s₁ B hml hv
  obtain ⟨rfl, ⟨hsz, hP, hK, hD0⟩, hZ⟩ := hv
  have hx := B.exec
  have hb := B.bytes
  have hr := B.returns
  have hT := x_hT B.pre
  have hown : s.vm.findClass xR_Li = some m.cls := findClass_of_methodNamed B.named
  have hlocks := B.notSynchronized
  subst hsz
  have hD := hD0.self (sz := s.heap.size)
  generalize hAe : va_A (rp ad E RL) s.heap.size = A at hD hZ ⊢
  have hA : ∀ q : Nat, s.heap.size ≤ q → A q := fun q h => by rw [← hAe]; exact Or.inr h
  have hS : va_S A s.heap s.heap [] := va_S.rf
  have hl := lv_entry ([.ref (ad 0 1), .int (nI iw), .ref (Z.1 si)]) (n := 4) (Nat.le_of_ble_eq_true rfl)
  rw [lg_entry_eq]
  generalize (lg_sl ([.ref (ad 0 1), .int (nI iw), .ref (Z.1 si)]) ++ List.replicate (4 - (lg_sl ([.ref (ad 0 1), .int (nI iw), .ref (Z.1 si)])).length) Slot.unset).toArray = ls at hl ⊢
  have hl : lv_has ls 4 [(0, .ref (ad 0 1)), (1, .int (nI iw)), (2, .ref (Z.1 si))] := hl
  have hP : va_P D xcl (rp ad E RL) s.heap := hP
  obtain ⟨hmB, hDk, hLi, hSh, hCh, hLa, hDIs, hLIs⟩ := id hCI
  obtain ⟨hWL, hlt40, hLwd, hLtx⟩ := id hLW
  obtain ⟨tx_1, fb_1, fe_1, hl1_1, hw2_1, q1_1, q2_1, q3_1, q4_1, hws_1⟩ := id (hLi)
  have c_2 : E 0 1 = .inr (1, [.ref (ad 0 2), .ref (ad 0 3), .ref (ad 0 4), .int (nI len), .int (nI (wl.length))]) := q1_1
  have m_3 : (0, 1) ∈ RL := hmB 1 (by decide)
  have c_4 : E 0 2 = .inl (kA 1, 40, .inl tx_1) := q2_1
  have m_5 : (0, 2) ∈ RL := hmB 2 (by decide)
  have c_6 : E 0 3 = .inl (kA 0, 20, .inl fb_1) := q3_1
  have m_7 : (0, 3) ∈ RL := hmB 3 (by decide)
  have c_8 : E 0 4 = .inl (kA 0, 20, .inl fe_1) := q4_1
  have m_9 : (0, 4) ∈ RL := hmB 4 (by decide)
  have hz9 := z_len si hsi
  have hzl := zW_len si hsi
  refine lv_iload_n hx hb xd_Li_wordIs_0 rfl (lv_at hl 1 rfl) ?_
  refine xz_lt (a := iw) (tgt := 32) hx hb xd_Li_wordIs_1 (by decide) (by omega) ?_
  refine lv_iload_n hx hb xd_Li_wordIs_4 rfl (lv_at hl 1 rfl) ?_
  refine lv_aload_n hx hb xd_Li_wordIs_5 rfl (lv_at hl 0 rfl) ?_
  refine px_get (D := D) (ci := 1) (v := .int (nI (wl.length))) (C := xR_Li) (T := xT_Li) (N := 5) hx hb hT xi_Li hown hK.1 hP m_3 c_2 rfl 4 (by decide) (hT _ k5b_0) (fun _ h9 => h9) rfl xd_Li_wordIs_6 ?_
  refine xn_ge (a := iw) (b := wl.length) (tgt := 32) hx hb xd_Li_wordIs_9 (by decide) (by omega) (by omega) (fun hc11 => ?_) (fun hc11 => ?_)
  · refine lv_iconst (v := 0) hx hb xd_Li_wordIs_32 (by decide) ?_
    exact W.zret (v := 0) hx hb hr rfl (fun t ht hW => ⟨⟨0, (), rfl, Or.inr ⟨rfl, fun q => absurd q.1 (by omega)⟩, by rw [ht]; exact hP, hD⟩, hS.F ht⟩) hS.2.2 xd_Li_wordIs_33
  · have hbe9 := (hWL.2 iw (by omega)).1
    have he40 := (hWL.2 iw (by omega)).2
    have helt := (hLwd iw (by omega)).2.2
    have hfb9 : fb_1 iw = nI (wb wl iw) := by have q := (hLwd iw (by omega)).1; rw [c_6] at q; exact q
    have hfe9 : fe_1 iw = nI (we wl iw) := by have q := (hLwd iw (by omega)).2.1; rw [c_8] at q; exact q
    have htx9 : ∀ j, j < lt → tx_1 j = g 0 j := fun j hj => by have q := hLtx j hj; rw [c_4] at q; exact q
    refine lv_aload_n hx hb xd_Li_wordIs_12 rfl (lv_at hl 0 rfl) ?_
    refine px_get (D := D) (ci := 1) (v := .ref (ad 0 4)) (C := xR_Li) (T := xT_Li) (N := 5) hx hb hT xi_Li hown hK.1 hP m_3 c_2 rfl 2 (by decide) (hT _ k5b_1) (fun _ h9 => h9) rfl xd_Li_wordIs_13 ?_
    refine lv_iload_n hx hb xd_Li_wordIs_16 rfl (lv_at hl 1 rfl) ?_
    refine px_iald (i := iw) hx hb hK.1 hP m_9 c_8 0 rfl (by omega) (by decide) xd_Li_wordIs_17 ?_
    refine xn_top (x := (fe_1 iw)) (y := nI (we wl iw)) hfe9 ?_
    refine lv_aload_n hx hb xd_Li_wordIs_18 rfl (lv_at hl 0 rfl) ?_
    refine px_get (D := D) (ci := 1) (v := .ref (ad 0 3)) (C := xR_Li) (T := xT_Li) (N := 5) hx hb hT xi_Li hown hK.1 hP m_3 c_2 rfl 1 (by decide) (hT _ k5b_2) (fun _ h9 => h9) rfl xd_Li_wordIs_19 ?_
    refine lv_iload_n hx hb xd_Li_wordIs_22 rfl (lv_at hl 1 rfl) ?_
    refine px_iald (i := iw) hx hb hK.1 hP m_7 c_6 0 rfl (by omega) (by decide) xd_Li_wordIs_23 ?_
    refine xn_top (x := (fb_1 iw)) (y := nI (wb wl iw)) hfb9 ?_
    refine lv_isub hx hb xd_Li_wordIs_24 ?_
    refine xn_top (y := nI ((we wl iw) - (wb wl iw))) (pk_sub (a := (we wl iw)) (b := (wb wl iw)) (by omega)) ?_
    refine lv_aload_n hx hb xd_Li_wordIs_25 rfl (lv_at hl 2 rfl) ?_
    have hFc := px_free hD hS hA
    refine va_calli (va_runV (As := []) (rest := [.int (nI ((we wl iw) - (wb wl iw)))]) ⟨hx, hb, hml, hown, hT⟩ (xc_JS_length l D kA s.heap.size ad E RL Z si (by first | assumption | omega)) (cwV 0 hT (wT_V k5b_5 k5b_6 k5b_7 k5b_8 k5b_4) rfl rfl rfl (by decide +kernel) ⟨Nat.le_of_ble_eq_true rfl, Nat.le_of_ble_eq_true rfl⟩) (x_preTZ (vk_recv hZ.2.1 hsi hS) hK hP hD hFc (hZ.kept hS)) rfl rfl hl.1 rfl (lv_room (Nat.le_of_ble_eq_true rfl)) xd_Li_wordIs_26 ⟨(Nat.le_of_ble_eq_true rfl), (Nat.le_of_ble_eq_true rfl)⟩) hS (fun q _ h => hFc q h) hFc (fun r12 u13 t H1 locs ht hvm hp14 hB hz1 hk1 hS => ?_)
    obtain ⟨hP1, hD1⟩ := hB
    rw [ht] at hP1
    have hD1 := hD1.weaken (fun _ _ _ h => hFc _ h)
    generalize H1 = H at hP1 hS ⊢
    have hP := hP1
    have hD := hD1
    have hP : va_P D xcl (rp ad E RL) H := hP
    have hD : va_D A (rp ad E RL) := hD
    rcases hp14 with rfl
    · refine W.eq (g2 := F0 m 29 ls [.int (nI ((zL.getD si 0))), .int (nI ((we wl iw) - (wb wl iw)))]) rfl ?_
      refine xn_eq (a := (we wl iw) - (wb wl iw)) (b := (zL.getD si 0)) (tgt := 34) hx hb xd_Li_wordIs_29 (by decide) (by omega) (by omega) (fun hc15 => ?_) (fun hc15 => ?_)
      · refine lv_iconst (v := 0) hx hb xd_Li_wordIs_34 (by decide) ?_
        refine lv_istore_n hx hb xd_Li_wordIs_35 rfl hl (Nat.le_of_ble_eq_true rfl) rfl (fun ls hl => ?_)
        have hl : lv_has ls 4 [(3, .int 0), (0, .ref (ad 0 1)), (1, .int (nI iw)), (2, .ref (Z.1 si))] := hl
        refine xlab (σ := Nat) (ml := 4) 36 (fun (pp9 : Nat) => [(3, .int (nI pp9)), (2, .ref (Z.1 si)), (0, .ref (ad 0 1)), (1, .int (nI iw))]) (fun (pp9 : Nat) => []) (fun (pp9 : Nat) => rp ad E RL) (fun (pp9 : Nat) => (pp9 ≤ zL.getD si 0) ∧ (∀ p9, p9 < pp9 → tx_1 (wb wl iw + p9) = nI ((zW si).getD p9 0))) (fun (pp9 : Nat) => zL.getD si 0 - pp9) ?_ 0 _ _ _ (lv_sub hl [0, 3, 1, 2] rfl) hP hD hS ⟨(show 0 ≤ zL.getD si 0 from by first | assumption | omega), (show ∀ p9, p9 < 0 → tx_1 (wb wl iw + p9) = nI ((zW si).getD p9 0) from fun p9 hp9 => absurd hp9 (by omega))⟩
        intro n9 ih16 a9 ls H locs hμ hl hP hD hS hI
        subst hμ
        obtain ⟨pp9, rfl⟩ : ∃ z, z = a9 := ⟨_, rfl⟩
        obtain ⟨hp1, hpq⟩ := hI
        have hp1 : pp9 ≤ zL.getD si 0 := hp1
        have hpq : ∀ p9, p9 < pp9 → tx_1 (wb wl iw + p9) = nI ((zW si).getD p9 0) := hpq
        have hl : lv_has ls 4 [(3, .int (nI pp9)), (2, .ref (Z.1 si)), (0, .ref (ad 0 1)), (1, .int (nI iw))] := hl
        have hP : va_P D xcl (rp ad E RL) H := hP
        have hD : va_D A (rp ad E RL) := hD
        refine lv_iload_n hx hb xd_Li_wordIs_36 rfl (lv_at hl 0 rfl) ?_
        refine lv_aload_n hx hb xd_Li_wordIs_37 rfl (lv_at hl 1 rfl) ?_
        have hFc := px_free hD hS hA
        refine va_calli (va_runV (As := []) (rest := [.int (nI pp9)]) ⟨hx, hb, hml, hown, hT⟩ (xc_JS_length l D kA H.size ad E RL Z si (by first | assumption | omega)) (cwV 0 hT (wT_V k5b_5 k5b_6 k5b_7 k5b_8 k5b_4) rfl rfl rfl (by decide +kernel) ⟨Nat.le_of_ble_eq_true rfl, Nat.le_of_ble_eq_true rfl⟩) (x_preTZ (vk_recv hZ.2.1 hsi hS) hK hP hD hFc (hZ.kept hS)) rfl rfl hl.1 rfl (lv_room (Nat.le_of_ble_eq_true rfl)) xd_Li_wordIs_38 ⟨(Nat.le_of_ble_eq_true rfl), (Nat.le_of_ble_eq_true rfl)⟩) hS (fun q _ h => hFc q h) hFc (fun r17 u18 t H1 locs ht hvm hp19 hB hz1 hk1 hS => ?_)
        obtain ⟨hP1, hD1⟩ := hB
        rw [ht] at hP1
        have hD1 := hD1.weaken (fun _ _ _ h => hFc _ h)
        generalize H1 = H at hP1 hS ⊢
        have hP := hP1
        have hD := hD1
        have hP : va_P D xcl (rp ad E RL) H := hP
        have hD : va_D A (rp ad E RL) := hD
        rcases hp19 with rfl
        · refine W.eq (g2 := F0 m 41 ls [.int (nI ((zL.getD si 0))), .int (nI pp9)]) rfl ?_
          refine xn_ge (a := pp9) (b := (zL.getD si 0)) (tgt := 73) hx hb xd_Li_wordIs_41 (by decide) (by omega) (by omega) (fun hc20 => ?_) (fun hc20 => ?_)
          · refine lv_iconst (v := 1) hx hb xd_Li_wordIs_73 (by decide) ?_
            exact W.zret (v := 1) hx hb hr rfl (fun t ht hW => ⟨⟨1, (), rfl, Or.inl ⟨rfl, by omega, (wE_congr (fun j h1 h2 => htx9 j (by omega))).mp ⟨by rw [hzl]; omega, fun p9 hp9 => hpq p9 (by rw [hzl] at hp9; omega)⟩⟩, by rw [ht]; exact hP, hD⟩, hS.F ht⟩) hS.2.2 xd_Li_wordIs_74
          · refine lv_aload_n hx hb xd_Li_wordIs_44 rfl (lv_at hl 2 rfl) ?_
            refine px_get (D := D) (ci := 1) (v := .ref (ad 0 2)) (C := xR_Li) (T := xT_Li) (N := 5) hx hb hT xi_Li hown hK.1 hP m_3 c_2 rfl 0 (by decide) (hT _ k5b_3) (fun _ h9 => h9) rfl xd_Li_wordIs_45 ?_
            refine lv_aload_n hx hb xd_Li_wordIs_48 rfl (lv_at hl 2 rfl) ?_
            refine px_get (D := D) (ci := 1) (v := .ref (ad 0 3)) (C := xR_Li) (T := xT_Li) (N := 5) hx hb hT xi_Li hown hK.1 hP m_3 c_2 rfl 1 (by decide) (hT _ k5b_2) (fun _ h9 => h9) rfl xd_Li_wordIs_49 ?_
            refine lv_iload_n hx hb xd_Li_wordIs_52 rfl (lv_at hl 3 rfl) ?_
            refine px_iald (i := iw) hx hb hK.1 hP m_7 c_6 0 rfl (by omega) (by decide) xd_Li_wordIs_53 ?_
            refine xn_top (x := (fb_1 iw)) (y := nI (wb wl iw)) hfb9 ?_
            refine lv_iload_n hx hb xd_Li_wordIs_54 rfl (lv_at hl 0 rfl) ?_
            refine lv_iadd hx hb xd_Li_wordIs_55 ?_
            refine xn_top (y := nI ((wb wl iw) + pp9)) (nI_add (wb wl iw) pp9) ?_
            refine px_cald (i := (wb wl iw) + pp9) hx hb hK.1 hP m_5 c_4 1 rfl (by omega) (by decide) xd_Li_wordIs_56 ?_
            refine lv_aload_n hx hb xd_Li_wordIs_57 rfl (lv_at hl 1 rfl) ?_
            refine lv_iload_n hx hb xd_Li_wordIs_58 rfl (lv_at hl 0 rfl) ?_
            have hFc := px_free hD hS hA
            refine va_calli (va_runV (As := [.int (nI pp9)]) (rest := [.int (tx_1 ((wb wl iw) + pp9))]) ⟨hx, hb, hml, hown, hT⟩ (xc_JS_charAtX l D kA H.size ad E RL Z si pp9 (by first | assumption | omega) (by first | assumption | omega)) (cwV 1 hT (wT_V k5b_10 k5b_11 k5b_12 k5b_8 k5b_9) rfl rfl rfl (by decide +kernel) ⟨Nat.le_of_ble_eq_true rfl, Nat.le_of_ble_eq_true rfl⟩) (x_preTZ (vk_recv hZ.2.1 hsi hS) hK hP hD hFc (hZ.kept hS)) rfl rfl hl.1 rfl (lv_room (Nat.le_of_ble_eq_true rfl)) xd_Li_wordIs_59 ⟨(Nat.le_of_ble_eq_true rfl), (Nat.le_of_ble_eq_true rfl)⟩) hS (fun q _ h => hFc q h) hFc (fun r21 u22 t H1 locs ht hvm hp23 hB hz1 hk1 hS => ?_)
            obtain ⟨hP1, hD1⟩ := hB
            rw [ht] at hP1
            have hD1 := hD1.weaken (fun _ _ _ h => hFc _ h)
            generalize H1 = H at hP1 hS ⊢
            have hP := hP1
            have hD := hD1
            have hP : va_P D xcl (rp ad E RL) H := hP
            have hD : va_D A (rp ad E RL) := hD
            have hch9 : r21 = nI ((zW si).getD pp9 0) := by rw [hp23]; exact zW_chr si hsi pp9 (by omega)
            refine lv_icmp_eq (tgt := 67) hx hb xd_Li_wordIs_62 (by decide) (fun hc24 => ?_) (fun hc24 => ?_)
            · refine lv_iinc (k := 0) (x := (nI pp9)) (v := (nI (pp9 + 1))) hx hb xd_Li_wordIs_67 hl rfl (xb_inc pp9 1) (Nat.le_of_ble_eq_true rfl) rfl (fun ls hl => ?_)
              have hl : lv_has ls 4 [(3, .int (nI (pp9 + 1))), (2, .ref (Z.1 si)), (0, .ref (ad 0 1)), (1, .int (nI iw))] := hl
              refine lv_goto (tgt := 36) hx hb xd_Li_wordIs_70 (by decide) ?_
              exact ih16 (pp9 + 1) _ _ _ (show zL.getD si 0 - (pp9 + 1) < zL.getD si 0 - pp9 by omega) (lv_sub hl [0, 1, 2, 3] rfl) hP hD hS ⟨(show (pp9 + 1) ≤ zL.getD si 0 from by first | assumption | omega), (show ∀ p9, p9 < (pp9 + 1) → tx_1 (wb wl iw + p9) = nI ((zW si).getD p9 0) from fun p9 hp9 => by
        rcases Nat.lt_or_ge p9 pp9 with q | q
        · exact hpq p9 q
        · rw [show p9 = pp9 by omega]; exact hc24.trans hch9)⟩
            · refine lv_iconst (v := 0) hx hb xd_Li_wordIs_65 (by decide) ?_
              exact W.zret (v := 0) hx hb hr rfl (fun t ht hW => ⟨⟨0, (), rfl, Or.inr ⟨rfl, fun q => hc24 (by rw [hch9]; have q2 := ((wE_congr (fun j h1 h2 => htx9 j (by omega))).mpr q.2).2 pp9 (by rw [hzl]; omega); exact q2)⟩, by rw [ht]; exact hP, hD⟩, hS.F ht⟩) hS.2.2 xd_Li_wordIs_66
      · refine lv_iconst (v := 0) hx hb xd_Li_wordIs_32 (by decide) ?_
        exact W.zret (v := 0) hx hb hr rfl (fun t ht hW => ⟨⟨0, (), rfl, Or.inr ⟨rfl, fun q => absurd q.2.1 (by rw [hzl]; omega)⟩, by rw [ht]; exact hP, hD⟩, hS.F ht⟩) hS.2.2 xd_Li_wordIs_33
def TT (g : gT) (d : Nat) (fd nm sd : Int32) (k0 k1 k2 k3 : Nat) (f0 f1 f2 f3 tr op : Nat → Int32) : Prop := fd = g 3 d ∧ nm = g 4 d ∧ sd = g 11 d ∧ nI k0 = g 5 d ∧ (∀ i, i < k0 → f0 i = g 6 (6 * d + i)) ∧ nI k1 = g 12 d ∧ (∀ i, i < k1 → f1 i = g 13 (5 * d + i) ∧ tr i = g 16 (5 * d + i) ∧ op i = g 17 (5 * d + i)) ∧ NT k2 f2 (fun i => g 14 (3 * d + i)) ∧ NT k3 f3 (fun i => g 15 (3 * d + i))
theorem TD_get {g : gT} {e : Nat → va_E} {d : Nat} {v0 v3 v4 v5 v6 v7 v8 v9 v10 w1 w2 w3 w4 : Value} {fd nm sd : Int32} {k0 k1 k2 k3 n5 n6 n7 n8 n11 n12 : Nat} {f0 f1 f2 f3 tr op : Nat → Int32} {a5 a6 a7 a8 a11 a12 : ClassId} (b0 : k0 ≤ 6) (b1 : k1 ≤ 5) (b2 : k2 ≤ 3) (b3 : k3 ≤ 3) (c0 : e 0 = .inr (7, [v0, .int fd, .int nm, v3, v4, v5, v6, v7, v8, v9, v10, .int sd])) (c1 : e 1 = .inr (8, [w1, .int (nI k0)])) (c2 : e 2 = .inr (8, [w2, .int (nI k1)])) (c3 : e 3 = .inr (8, [w3, .int (nI k2)])) (c4 : e 4 = .inr (8, [w4, .int (nI k3)])) (c5 : e 5 = .inl (a5, n5, .inl f0)) (c6 : e 6 = .inl (a6, n6, .inl f1)) (c7 : e 7 = .inl (a7, n7, .inl f2)) (c8 : e 8 = .inl (a8, n8, .inl f3)) (c11 : e 11 = .inl (a11, n11, .inl tr)) (c12 : e 12 = .inl (a12, n12, .inl op)) (h : TD g e d) : TT g d fd nm sd k0 k1 k2 k3 f0 f1 f2 f3 tr op ∧ ∀ i, i < k0 → TG (e (20 + 3 * i)) (e (21 + 3 * i)) (e (22 + 3 * i)) (g 9 (6 * d + i)) (fun j => g 7 (3 * (6 * d + i) + j)) ∧ TG (e (38 + 3 * i)) (e (39 + 3 * i)) (e (40 + 3 * i)) (g 10 (6 * d + i)) (fun j => g 8 (3 * (6 * d + i) + j)) := by
  obtain ⟨h1, h2, h3, h4, h5, h6, h7, h8, h9, h10⟩ := h
  rw [c0] at h1 h2 h3
  rw [c1] at h4
  have e4 : nI k0 = g 5 d := h4
  have i4 : iN (g 5 d) = k0 := by rw [← e4, iN_nI (by omega)]
  rw [c2] at h6
  have e6 : nI k1 = g 12 d := h6
  have i6 : iN (g 12 d) = k1 := by rw [← e6, iN_nI (by omega)]
  rw [i4] at h5 h10
  rw [i6] at h7
  rw [c5] at h5
  rw [c6, c11, c12] at h7
  rw [c3, c7] at h8
  rw [c4, c8] at h9
  have i8 : iN (eI (.inr (8, [w3, .int (nI k2)])) 1) = k2 := iN_nI (by omega)
  have i9 : iN (eI (.inr (8, [w4, .int (nI k3)])) 1) = k3 := iN_nI (by omega)
  rw [i8] at h8
  rw [i9] at h9
  exact ⟨⟨h1, h2, h3, e4, h5, e6, h7, h8, h9⟩, h10⟩
theorem TD_mk {g : gT} {e : Nat → va_E} {d : Nat} {v0 v3 v4 v5 v6 v7 v8 v9 v10 w1 w2 w3 w4 : Value} {fd nm sd : Int32} {k0 k1 k2 k3 n5 n6 n7 n8 n11 n12 : Nat} {f0 f1 f2 f3 tr op : Nat → Int32} {a5 a6 a7 a8 a11 a12 : ClassId} (b0 : k0 ≤ 6) (b1 : k1 ≤ 5) (b2 : k2 ≤ 3) (b3 : k3 ≤ 3) (c0 : e 0 = .inr (7, [v0, .int fd, .int nm, v3, v4, v5, v6, v7, v8, v9, v10, .int sd])) (c1 : e 1 = .inr (8, [w1, .int (nI k0)])) (c2 : e 2 = .inr (8, [w2, .int (nI k1)])) (c3 : e 3 = .inr (8, [w3, .int (nI k2)])) (c4 : e 4 = .inr (8, [w4, .int (nI k3)])) (c5 : e 5 = .inl (a5, n5, .inl f0)) (c6 : e 6 = .inl (a6, n6, .inl f1)) (c7 : e 7 = .inl (a7, n7, .inl f2)) (c8 : e 8 = .inl (a8, n8, .inl f3)) (c11 : e 11 = .inl (a11, n11, .inl tr)) (c12 : e 12 = .inl (a12, n12, .inl op)) (h : TT g d fd nm sd k0 k1 k2 k3 f0 f1 f2 f3 tr op) (hg : ∀ i, i < k0 → TG (e (20 + 3 * i)) (e (21 + 3 * i)) (e (22 + 3 * i)) (g 9 (6 * d + i)) (fun j => g 7 (3 * (6 * d + i) + j)) ∧ TG (e (38 + 3 * i)) (e (39 + 3 * i)) (e (40 + 3 * i)) (g 10 (6 * d + i)) (fun j => g 8 (3 * (6 * d + i) + j))) : TD g e d := by
  obtain ⟨h1, h2, h3, h4, h5, h6, h7, h8, h9⟩ := h
  have i4 : iN (g 5 d) = k0 := by rw [← h4, iN_nI (by omega)]
  have i6 : iN (g 12 d) = k1 := by rw [← h6, iN_nI (by omega)]
  refine ⟨by rw [c0]; exact h1, by rw [c0]; exact h2, by rw [c0]; exact h3, by rw [c1]; exact h4, ?_, by rw [c2]; exact h6, ?_, ?_, ?_, ?_⟩
  · rw [i4, c5]; exact h5
  · rw [i6, c6, c11, c12]; exact h7
  · rw [c3, c7, show iN (eI (.inr (8, [w3, .int (nI k2)])) 1) = k2 from iN_nI (by omega)]; exact h8
  · rw [c4, c8, show iN (eI (.inr (8, [w4, .int (nI k3)])) 1) = k3 from iN_nI (by omega)]; exact h9
  · rw [i4]; exact hg
theorem pI_y {g : gT} {d k0 k : Nat} {f0 : Nat → Int32} {n : Int32} (b0 : k0 ≤ 6) (h4 : nI k0 = g 5 d) (h5 : ∀ i, i < k0 → f0 i = g 6 (6 * d + i)) (hk : k < k0) (h : f0 k = n) (hn : ∀ j, j < k → ¬ f0 j = n) : pI g d n = some k := by
  unfold pI
  rw [← h4, iN_nI (by omega)]
  exact ff_some hk (by rw [← h5 k hk]; exact h) (fun j hj q => hn j hj (by rw [h5 j (by omega)]; exact q))
theorem pI_x {g : gT} {d k0 : Nat} {f0 : Nat → Int32} {n : Int32} (b0 : k0 ≤ 6) (h4 : nI k0 = g 5 d) (h5 : ∀ i, i < k0 → f0 i = g 6 (6 * d + i)) (hn : ∀ j, j < k0 → ¬ f0 j = n) : pI g d n = none := by
  unfold pI
  rw [← h4, iN_nI (by omega)]
  exact ff_none (fun j hj q => hn j hj (by rw [h5 j hj]; exact q))
def COV (ta : Int32) (n : Nat) (f : Nat → Int32) (x : Int32) : Prop := ¬ ta = 0 ∨ ∃ k, k < n ∧ f k = x
theorem TG_get {a b c : va_E} {all : Int32} {to : Nat → Int32} {x y : Value} {ta : Int32} {n n3 : Nat} {f : Nat → Int32} {ka : ClassId} (hn : n ≤ 3) (ca : a = .inr (9, [x, .int ta])) (cb : b = .inr (8, [y, .int (nI n)])) (cc : c = .inl (ka, n3, .inl f)) (h : TG a b c all to) : ta = all ∧ (ta = 0 → NT n f to) := by
  obtain ⟨h1, h2⟩ := h
  rw [ca] at h1
  have e1 : ta = all := h1
  rw [cb, cc, show iN (eI (.inr (8, [y, .int (nI n)])) 1) = n from iN_nI (by omega)] at h2
  exact ⟨e1, fun q => h2 (by rw [← e1]; exact q)⟩
theorem TG_mk {a b c : va_E} {all : Int32} {to : Nat → Int32} {x y : Value} {ta : Int32} {n n3 : Nat} {f : Nat → Int32} {ka : ClassId} (hn : n ≤ 3) (ca : a = .inr (9, [x, .int ta])) (cb : b = .inr (8, [y, .int (nI n)])) (cc : c = .inl (ka, n3, .inl f)) (h1 : ta = all) (h2 : ta = 0 → NT n f to) : TG a b c all to := by
  refine ⟨by rw [ca]; exact h1, fun q => ?_⟩
  rw [cb, cc, show iN (eI (.inr (8, [y, .int (nI n)])) 1) = n from iN_nI (by omega)]
  exact h2 (by rw [h1]; exact q)
theorem NT_iff {n : Nat} {f to : Nat → Int32} {x : Int32} (hn : n ≤ 3) (hx : ¬ x = 0) (h : NT n f to) : (∃ k, k < n ∧ f k = x) ↔ (to 0 = x ∨ to 1 = x ∨ to 2 = x) := by
  constructor
  · intro ⟨k, hk, e⟩
    rw [((h k (by omega)).1 hk).1] at e
    rcases (show k = 0 ∨ k = 1 ∨ k = 2 by omega) with q | q | q
    · rw [q] at e; exact Or.inl e
    · rw [q] at e; exact Or.inr (Or.inl e)
    · rw [q] at e; exact Or.inr (Or.inr e)
  · intro q
    have hj : ∀ j, j < 3 → to j = x → ∃ k, k < n ∧ f k = x := fun j hj e => by
      rcases Nat.lt_or_ge j n with z | z
      · exact ⟨j, z, by rw [((h j hj).1 z).1]; exact e⟩
      · rw [(h j hj).2 z] at e; exact absurd e.symm hx
    rcases q with q | q | q
    · exact hj 0 (by omega) q
    · exact hj 1 (by omega) q
    · exact hj 2 (by omega) q
theorem exP_c {g : gT} {p n : Nat} {ta rd : Int32} {f : Nat → Int32} (hn : n ≤ 3) (hr : ¬ rd = 0) (h1 : ta = g 9 p) (h2 : ta = 0 → NT n f (fun j => g 7 (3 * p + j))) : exP g p rd ↔ COV ta n f rd := by
  unfold exP COV
  rw [← h1]
  by_cases q : ta = 0
  · rw [NT_iff hn hr (h2 q)]
    exact Iff.rfl
  · exact ⟨fun _ => Or.inl q, fun _ => Or.inl q⟩
def NZ (g : gT) (nd : Nat) : Prop := ∀ d, d < nd → ¬ g 4 d = 0
theorem k5c_0 : (Cond.fieldLink "LayerDesk$Shelf" 17 "LayerDesk$Shelf" "size" "I") ∈ wT := wT_t (List.mem_append_left _ (List.mem_of_getElem? (i := 66) rfl)) rfl
theorem k5c_1 : (Cond.fieldLink "LayerDesk$Shelf" 11 "LayerDesk$Shelf" "descriptors" "[LLayerDesk$Descriptor;") ∈ wT := wT_t (List.mem_append_left _ (List.mem_of_getElem? (i := 64) rfl)) rfl
theorem k5c_2 : (Cond.fieldLink "LayerDesk$Shelf" 21 "LayerDesk$Descriptor" "finder" "I") ∈ wT := wT_t (List.mem_append_right _ (List.mem_append_left _ (List.mem_of_getElem? (i := 52) rfl))) rfl
theorem k5c_3 : (Cond.fieldLink "LayerDesk$Shelf" 24 "LayerDesk$Descriptor" "name" "I") ∈ wT := wT_t (List.mem_append_right _ (List.mem_append_left _ (List.mem_of_getElem? (i := 56) rfl))) rfl
theorem k5c_4 : (Cond.code xy_Gr_covers xb_Gr_covers 2 (some .boolean)) ∈ wT := wT_t (List.mem_append_right _ (List.mem_append_left _ (List.mem_of_getElem? (i := 179) rfl))) rfl
theorem k5c_5 : (Cond.methodLink "LayerDesk$Grant" 28 xy_Gr_covers) ∈ wT := wT_t (List.mem_append_right _ (List.mem_append_left _ (List.mem_of_getElem? (i := 176) rfl))) rfl
theorem k5c_6 : (Cond.instanceMethod xy_Gr_covers) ∈ wT := wT_t (List.mem_append_right _ (List.mem_append_left _ (List.mem_of_getElem? (i := 177) rfl))) rfl
theorem k5c_7 : (Cond.selects "LayerDesk$Grant" xy_Gr_covers xy_Gr_covers) ∈ wT := wT_t (List.mem_append_right _ (List.mem_append_left _ (List.mem_of_getElem? (i := 178) rfl))) rfl
theorem k5c_8 : (Cond.initialized "LayerDesk$Grant") ∈ wT := wT_t (List.mem_append_left _ (List.mem_of_getElem? (i := 12) rfl)) rfl
theorem k5c_9 : (Cond.fieldLink "LayerDesk$Grant" 16 "LayerDesk$Grant" "names" "LLayerDesk$Names;") ∈ wT := wT_t (List.mem_append_right _ (List.mem_append_left _ (List.mem_of_getElem? (i := 144) rfl))) rfl
theorem k5c_10 : (Cond.code xy_Na_isFull xb_Na_isFull 1 (some .boolean)) ∈ wT := wT_t (List.mem_append_right _ (List.mem_append_left _ (List.mem_of_getElem? (i := 131) rfl))) rfl
theorem k5c_11 : (Cond.methodLink "LayerDesk$Grant" 32 xy_Na_isFull) ∈ wT := wT_t (List.mem_append_right _ (List.mem_append_left _ (List.mem_of_getElem? (i := 181) rfl))) rfl
theorem k5c_12 : (Cond.instanceMethod xy_Na_isFull) ∈ wT := wT_t (List.mem_append_right _ (List.mem_append_left _ (List.mem_of_getElem? (i := 129) rfl))) rfl
theorem k5c_13 : (Cond.selects "LayerDesk$Names" xy_Na_isFull xy_Na_isFull) ∈ wT := wT_t (List.mem_append_right _ (List.mem_append_left _ (List.mem_of_getElem? (i := 130) rfl))) rfl
theorem k5c_14 : (Cond.initialized "LayerDesk$Names") ∈ wT := wT_t (List.mem_append_left _ (List.mem_of_getElem? (i := 11) rfl)) rfl
theorem k5c_15 : (Cond.code xy_Na_append xb_Na_append 2 none) ∈ wT := wT_t (List.mem_append_right _ (List.mem_append_left _ (List.mem_of_getElem? (i := 154) rfl))) rfl
theorem k5c_16 : (Cond.methodLink "LayerDesk$Grant" 36 xy_Na_append) ∈ wT := wT_t (List.mem_append_right _ (List.mem_append_left _ (List.mem_of_getElem? (i := 186) rfl))) rfl
theorem k5c_17 : (Cond.instanceMethod xy_Na_append) ∈ wT := wT_t (List.mem_append_right _ (List.mem_append_left _ (List.mem_of_getElem? (i := 152) rfl))) rfl
theorem k5c_18 : (Cond.selects "LayerDesk$Names" xy_Na_append xy_Na_append) ∈ wT := wT_t (List.mem_append_right _ (List.mem_append_left _ (List.mem_of_getElem? (i := 153) rfl))) rfl
theorem k5c_19 : (Cond.fieldLink "LayerDesk$Grant" 20 "LayerDesk$Grant" "toAll" "Z") ∈ wT := wT_t (List.mem_append_right _ (List.mem_append_left _ (List.mem_of_getElem? (i := 145) rfl))) rfl
theorem k5c_20 : (Cond.fieldLink "LayerDesk$Descriptor" 14 "LayerDesk$Descriptor" "packages" "LLayerDesk$Names;") ∈ wT := wT_t (List.mem_append_right _ (List.mem_append_left _ (List.mem_of_getElem? (i := 60) rfl))) rfl
theorem k5c_21 : (Cond.code xy_Na_indexOf xb_Na_indexOf 3 (some .int)) ∈ wT := wT_t (List.mem_append_right _ (List.mem_append_left _ (List.mem_of_getElem? (i := 127) rfl))) rfl
theorem k5c_22 : (Cond.methodLink "LayerDesk$Descriptor" 68 xy_Na_indexOf) ∈ wT := wT_t (List.mem_append_right _ (List.mem_append_left _ (List.mem_of_getElem? (i := 167) rfl))) rfl
theorem k5c_23 : (Cond.instanceMethod xy_Na_indexOf) ∈ wT := wT_t (List.mem_append_right _ (List.mem_append_left _ (List.mem_of_getElem? (i := 125) rfl))) rfl
theorem k5c_24 : (Cond.selects "LayerDesk$Names" xy_Na_indexOf xy_Na_indexOf) ∈ wT := wT_t (List.mem_append_right _ (List.mem_append_left _ (List.mem_of_getElem? (i := 126) rfl))) rfl
theorem k5c_25 : (Cond.fieldLink "LayerDesk$Descriptor" 20 "LayerDesk$Descriptor" "exported" "[LLayerDesk$Grant;") ∈ wT := wT_t (List.mem_append_right _ (List.mem_append_left _ (List.mem_of_getElem? (i := 64) rfl))) rfl
theorem k5c_26 : (Cond.fieldLink "LayerDesk$Descriptor" 24 "LayerDesk$Descriptor" "opened" "[LLayerDesk$Grant;") ∈ wT := wT_t (List.mem_append_right _ (List.mem_append_left _ (List.mem_of_getElem? (i := 65) rfl))) rfl
theorem k5c_27 : (Cond.methodLink "LayerDesk$Descriptor" 72 xy_Gr_covers) ∈ wT := wT_t (List.mem_append_right _ (List.mem_append_right _ (List.mem_append_right _ (List.mem_append_left _ (List.mem_of_getElem? (i := 21) rfl))))) rfl
set_option maxHeartbeats 4000000 in
set_option maxRecDepth 100000 in
theorem xc_Sh_findX (l : Launch) (D : va_G) (kA : Nat → ClassId) (sz : Nat) (ad : Nat → Nat → Nat) (E : Nat → Nat → va_E) (RL : List (Nat × Nat)) (g : Nat → Nat → Int32) (ml : Nat) (nd : Nat) (len : Nat) (wn : Nat) (cs : Nat) (fi : Int32) (nm : Int32) (hCI : CI kA ad E RL ml nd len wn cs) (hTD : TDs g E nd) : Met l xy_Sh_find (.code xy_Sh_find xb_Sh_find 4 (some (.object "LayerDesk$Descriptor")) :: wT) { frames := 0, cells := 0, slots := 0, locals := 0 } (va_Pc [.ref (ad 0 5), .int fi, .int nm] (xPre D kA sz (rp ad E RL))) (va_Qq (fun (r : Option Nat) (u : Unit) => (r = none ∧ dsG g nd fi nm = none) ∨ ∃ d, d < nd ∧ r = some (ad (1 + d) 0) ∧ dsG g nd fi nm = some d) (fun (u : Unit) t => va_P D xcl (rp ad E RL) t.heap ∧ va_D (va_A (rp ad E RL) sz) (rp ad E RL)) (va_A (rp ad E RL) sz)) 0 0 (va_A (rp ad E RL) sz) := by
  refine Met.ofW (cc := xb_Sh_find) (maxL := 4) (ret := (some (.object "LayerDesk$Descriptor"))) (by decide) rfl ?_
  intro p e s m args below meth c s₁ B hml hv
  obtain ⟨rfl, hsz, hP, hK, hD0⟩ := hv
  have hx := B.exec
  have hb := B.bytes
  have hr := B.returns
  have hT := x_hT B.pre
  have hown : s.vm.findClass xR_Sh = some m.cls := findClass_of_methodNamed B.named
  have hlocks := B.notSynchronized
  subst hsz
  have hD := hD0.self (sz := s.heap.size)
  generalize hAe : va_A (rp ad E RL) s.heap.size = A at hD ⊢
  have hA : ∀ q : Nat, s.heap.size ≤ q → A q := fun q h => by rw [← hAe]; exact Or.inr h
  have hS : va_S A s.heap s.heap [] := va_S.rf
  have hl := lv_entry ([.ref (ad 0 5), .int fi, .int nm]) (n := 4) (Nat.le_of_ble_eq_true rfl)
  rw [lg_entry_eq]
  generalize (lg_sl ([.ref (ad 0 5), .int fi, .int nm]) ++ List.replicate (4 - (lg_sl ([.ref (ad 0 5), .int fi, .int nm])).length) Slot.unset).toArray = ls at hl ⊢
  have hl : lv_has ls 4 [(0, .ref (ad 0 5)), (1, .int fi), (2, .int nm)] := hl
  have hP : va_P D xcl (rp ad E RL) s.heap := hP
  obtain ⟨hmB, hDk, hLi, hSh, hCh, hLa, hDIs, hLIs⟩ := id hCI
  obtain ⟨fd_1, hnd_1, q5_1, q6_1, hds_1⟩ := id (hSh)
  have c_2 : E 0 5 = .inr (2, [.ref (ad 0 6), .int (nI nd)]) := q5_1
  have m_3 : (0, 5) ∈ RL := hmB 5 (by decide)
  have c_4 : E 0 6 = .inl (kA 4, 12, .inr (.inr (.inr (.inr fd_1)))) := q6_1
  have m_5 : (0, 6) ∈ RL := hmB 6 (by decide)
  refine lv_iconst (v := 0) hx hb xd_Sh_find_0 (by decide) ?_
  refine lv_istore_n hx hb xd_Sh_find_1 rfl hl (Nat.le_of_ble_eq_true rfl) rfl (fun ls hl => ?_)
  have hl : lv_has ls 4 [(3, .int 0), (0, .ref (ad 0 5)), (1, .int fi), (2, .int nm)] := hl
  refine xlab (σ := Nat) (ml := 4) 2 (fun (i : Nat) => [(3, .int (nI i)), (0, .ref (ad 0 5)), (1, .int fi), (2, .int nm)]) (fun (i : Nat) => []) (fun (i : Nat) => rp ad E RL) (fun (i : Nat) => (i ≤ nd) ∧ (∀ j, j < i → ¬ (g 3 j = fi ∧ g 4 j = nm))) (fun (i : Nat) => nd - i) ?_ 0 _ _ _ (lv_sub hl [0, 1, 2, 3] rfl) hP hD hS ⟨(show 0 ≤ nd from by first | assumption | omega), (show ∀ j, j < 0 → ¬ (g 3 j = fi ∧ g 4 j = nm) from fun j hj => absurd hj (by omega))⟩
  intro n9 ih6 a9 ls H locs hμ hl hP hD hS hI
  subst hμ
  obtain ⟨i, rfl⟩ : ∃ z, z = a9 := ⟨_, rfl⟩
  obtain ⟨hi, hno⟩ := hI
  have hi : i ≤ nd := hi
  have hno : ∀ j, j < i → ¬ (g 3 j = fi ∧ g 4 j = nm) := hno
  have hl : lv_has ls 4 [(3, .int (nI i)), (0, .ref (ad 0 5)), (1, .int fi), (2, .int nm)] := hl
  have hP : va_P D xcl (rp ad E RL) H := hP
  have hD : va_D A (rp ad E RL) := hD
  refine lv_iload_n hx hb xd_Sh_find_2 rfl (lv_at hl 0 rfl) ?_
  refine lv_aload_n hx hb xd_Sh_find_3 rfl (lv_at hl 1 rfl) ?_
  refine px_get (D := D) (ci := 2) (v := .int (nI nd)) (C := xR_Sh) (T := xT_Sh) (N := 2) hx hb hT xi_Sh hown hK.1 hP m_3 c_2 rfl 1 (by decide) (hT _ k5c_0) (fun _ h9 => h9) rfl xd_Sh_find_4 ?_
  refine xn_ge (a := i) (b := nd) (tgt := 49) hx hb xd_Sh_find_7 (by decide) (by omega) (by omega) (fun hc7 => ?_) (fun hc7 => ?_)
  · refine lv_null hx hb xd_Sh_find_49 ?_
    exact W.aret (v := .null) hx hb hr (Or.inl ⟨_, rfl⟩) (Or.inl rfl) (fun t ht hW => ⟨⟨none, (), rfl, Or.inl ⟨rfl, ff_none (fun j hj => hno j (by omega))⟩, by rw [ht]; exact hP, hD⟩, hS.F ht⟩) hS.2.2 xd_Sh_find_50
  · refine lv_aload_n hx hb xd_Sh_find_10 rfl (lv_at hl 1 rfl) ?_
    refine px_get (D := D) (ci := 2) (v := .ref (ad 0 6)) (C := xR_Sh) (T := xT_Sh) (N := 2) hx hb hT xi_Sh hown hK.1 hP m_3 c_2 rfl 0 (by decide) (hT _ k5c_1) (fun _ h9 => h9) rfl xd_Sh_find_11 ?_
    refine lv_iload_n hx hb xd_Sh_find_14 rfl (lv_at hl 0 rfl) ?_
    refine px_aald (i := i) (x := (some (ad (1 + i) 0))) hx hb hK.1 hP m_5 c_4 4 rfl (hds_1 i (by omega)) (by omega) (by decide) xd_Sh_find_15 ?_
    obtain ⟨hm_8, fd_8, nm_8, sd_8, k0_8, k1_8, k2_8, k3_8, f0_8, f1_8, f2_8, f3_8, fe_8, fo_8, tr_8, op_8, hk0_8, hk1_8, hk2_8, hk3_8, q0_8, q1_8, q2_8, q3_8, q4_8, q5_8, q6_8, q7_8, q8_8, q9_8, q10_8, q11_8, q12_8, hg_8⟩ := id (hDIs i (by omega))
    have c_9 : E (1 + i) 0 = .inr (7, [.int (nI i), .int fd_8, .int nm_8, .ref (ad (1 + i) 1), .ref (ad (1 + i) 9), .ref (ad (1 + i) 10), .ref (ad (1 + i) 2), .ref (ad (1 + i) 11), .ref (ad (1 + i) 12), .ref (ad (1 + i) 3), .ref (ad (1 + i) 4), .int sd_8]) := q0_8
    have m_10 : (1 + i, 0) ∈ RL := hm_8 0 (by decide)
    have c_11 : E (1 + i) 1 = .inr (8, [.ref (ad (1 + i) 5), .int (nI k0_8)]) := q1_8
    have m_12 : (1 + i, 1) ∈ RL := hm_8 1 (by decide)
    have c_13 : E (1 + i) 2 = .inr (8, [.ref (ad (1 + i) 6), .int (nI k1_8)]) := q2_8
    have m_14 : (1 + i, 2) ∈ RL := hm_8 2 (by decide)
    have c_15 : E (1 + i) 3 = .inr (8, [.ref (ad (1 + i) 7), .int (nI k2_8)]) := q3_8
    have m_16 : (1 + i, 3) ∈ RL := hm_8 3 (by decide)
    have c_17 : E (1 + i) 4 = .inr (8, [.ref (ad (1 + i) 8), .int (nI k3_8)]) := q4_8
    have m_18 : (1 + i, 4) ∈ RL := hm_8 4 (by decide)
    have c_19 : E (1 + i) 5 = .inl (kA 0, 6, .inl f0_8) := q5_8
    have m_20 : (1 + i, 5) ∈ RL := hm_8 5 (by decide)
    have c_21 : E (1 + i) 6 = .inl (kA 0, 5, .inl f1_8) := q6_8
    have m_22 : (1 + i, 6) ∈ RL := hm_8 6 (by decide)
    have c_23 : E (1 + i) 7 = .inl (kA 0, 3, .inl f2_8) := q7_8
    have m_24 : (1 + i, 7) ∈ RL := hm_8 7 (by decide)
    have c_25 : E (1 + i) 8 = .inl (kA 0, 3, .inl f3_8) := q8_8
    have m_26 : (1 + i, 8) ∈ RL := hm_8 8 (by decide)
    have c_27 : E (1 + i) 9 = .inl (kA 8, 6, .inr (.inr (.inr (.inr fe_8)))) := q9_8
    have m_28 : (1 + i, 9) ∈ RL := hm_8 9 (by decide)
    have c_29 : E (1 + i) 10 = .inl (kA 8, 6, .inr (.inr (.inr (.inr fo_8)))) := q10_8
    have m_30 : (1 + i, 10) ∈ RL := hm_8 10 (by decide)
    have c_31 : E (1 + i) 11 = .inl (kA 2, 5, .inl tr_8) := q11_8
    have m_32 : (1 + i, 11) ∈ RL := hm_8 11 (by decide)
    have c_33 : E (1 + i) 12 = .inl (kA 2, 5, .inl op_8) := q12_8
    have m_34 : (1 + i, 12) ∈ RL := hm_8 12 (by decide)
    have hg_8 : ∀ w9, w9 < k0_8 → fe_8 w9 = some (ad (1 + i) (20 + 3 * w9)) ∧ fo_8 w9 = some (ad (1 + i) (38 + 3 * w9)) ∧ GI kA (ad (1 + i)) (E (1 + i)) (fun o => (1 + i, o) ∈ RL) (20 + 3 * w9) (21 + 3 * w9) (22 + 3 * w9) ∧ GI kA (ad (1 + i)) (E (1 + i)) (fun o => (1 + i, o) ∈ RL) (38 + 3 * w9) (39 + 3 * w9) (40 + 3 * w9) := hg_8
    obtain ⟨⟨tfd_8, tnm_8, tsd_8, tk0_8, tf0_8, tk1_8, tf1_8, tk2_8, tk3_8⟩, tgr_8⟩ := TD_get hk0_8 hk1_8 hk2_8 hk3_8 c_9 c_11 c_13 c_15 c_17 c_19 c_21 c_23 c_25 c_31 c_33 (hTD i (by omega))
    refine px_get (D := D) (ci := 7) (v := .int fd_8) (C := xR_Ds) (T := xT_Ds) (N := 12) hx hb hT xi_Ds hown hK.1 hP m_10 c_9 rfl 1 (by decide) (hT _ k5c_2) (fun _ h9 => h9) rfl xd_Sh_find_16 ?_
    refine lv_iload_n hx hb xd_Sh_find_19 rfl (lv_at hl 2 rfl) ?_
    refine lv_icmp_ne (tgt := 43) hx hb xd_Sh_find_20 (by decide) (fun hc35 => ?_) (fun hc35 => ?_)
    · refine lv_iinc (k := 0) (x := (nI i)) (v := (nI (i + 1))) hx hb xd_Sh_find_43 hl rfl (xb_inc i 1) (Nat.le_of_ble_eq_true rfl) rfl (fun ls hl => ?_)
      have hl : lv_has ls 4 [(3, .int (nI (i + 1))), (0, .ref (ad 0 5)), (1, .int fi), (2, .int nm)] := hl
      refine lv_goto (tgt := 2) hx hb xd_Sh_find_46 (by decide) ?_
      exact ih6 (i + 1) _ _ _ (show nd - (i + 1) < nd - i by omega) (lv_sub hl [0, 1, 2, 3] rfl) hP hD hS ⟨(show (i + 1) ≤ nd from by first | assumption | omega), (show ∀ j, j < (i + 1) → ¬ (g 3 j = fi ∧ g 4 j = nm) from fun j hj q => by
        rcases Nat.lt_or_ge j i with z | z
        · exact hno j z q
        · rw [show j = i by omega] at q
          exact hc35 (tfd_8.trans q.1))⟩
    · refine lv_aload_n hx hb xd_Sh_find_23 rfl (lv_at hl 1 rfl) ?_
      refine px_get (D := D) (ci := 2) (v := .ref (ad 0 6)) (C := xR_Sh) (T := xT_Sh) (N := 2) hx hb hT xi_Sh hown hK.1 hP m_3 c_2 rfl 0 (by decide) (hT _ k5c_1) (fun _ h9 => h9) rfl xd_Sh_find_24 ?_
      refine lv_iload_n hx hb xd_Sh_find_27 rfl (lv_at hl 0 rfl) ?_
      refine px_aald (i := i) (x := (some (ad (1 + i) 0))) hx hb hK.1 hP m_5 c_4 4 rfl (hds_1 i (by omega)) (by omega) (by decide) xd_Sh_find_28 ?_
      refine px_get (D := D) (ci := 7) (v := .int nm_8) (C := xR_Ds) (T := xT_Ds) (N := 12) hx hb hT xi_Ds hown hK.1 hP m_10 c_9 rfl 2 (by decide) (hT _ k5c_3) (fun _ h9 => h9) rfl xd_Sh_find_29 ?_
      refine lv_iload_n hx hb xd_Sh_find_32 rfl (lv_at hl 3 rfl) ?_
      refine lv_icmp_ne (tgt := 43) hx hb xd_Sh_find_33 (by decide) (fun hc36 => ?_) (fun hc36 => ?_)
      · refine lv_iinc (k := 0) (x := (nI i)) (v := (nI (i + 1))) hx hb xd_Sh_find_43 hl rfl (xb_inc i 1) (Nat.le_of_ble_eq_true rfl) rfl (fun ls hl => ?_)
        have hl : lv_has ls 4 [(3, .int (nI (i + 1))), (0, .ref (ad 0 5)), (1, .int fi), (2, .int nm)] := hl
        refine lv_goto (tgt := 2) hx hb xd_Sh_find_46 (by decide) ?_
        exact ih6 (i + 1) _ _ _ (show nd - (i + 1) < nd - i by omega) (lv_sub hl [0, 1, 2, 3] rfl) hP hD hS ⟨(show (i + 1) ≤ nd from by first | assumption | omega), (show ∀ j, j < (i + 1) → ¬ (g 3 j = fi ∧ g 4 j = nm) from fun j hj q => by
        rcases Nat.lt_or_ge j i with z | z
        · exact hno j z q
        · rw [show j = i by omega] at q
          exact hc36 (tnm_8.trans q.2))⟩
      · refine lv_aload_n hx hb xd_Sh_find_36 rfl (lv_at hl 1 rfl) ?_
        refine px_get (D := D) (ci := 2) (v := .ref (ad 0 6)) (C := xR_Sh) (T := xT_Sh) (N := 2) hx hb hT xi_Sh hown hK.1 hP m_3 c_2 rfl 0 (by decide) (hT _ k5c_1) (fun _ h9 => h9) rfl xd_Sh_find_37 ?_
        refine lv_iload_n hx hb xd_Sh_find_40 rfl (lv_at hl 0 rfl) ?_
        refine px_aald (i := i) (x := (some (ad (1 + i) 0))) hx hb hK.1 hP m_5 c_4 4 rfl (hds_1 i (by omega)) (by omega) (by decide) xd_Sh_find_41 ?_
        exact W.aret (v := .ref (ad (1 + i) 0)) hx hb hr (Or.inl ⟨_, rfl⟩) (Or.inr ⟨_, rfl⟩) (fun t ht hW => ⟨⟨(some (ad (1 + i) 0)), (), rfl, Or.inr ⟨i, by omega, rfl, ff_some (by omega) ⟨tfd_8.symm.trans hc35, tnm_8.symm.trans hc36⟩ hno⟩, by rw [ht]; exact hP, hD⟩, hS.F ht⟩) hS.2.2 xd_Sh_find_42
set_option maxHeartbeats 4000000 in
set_option maxRecDepth 100000 in
theorem xc_Sh_latestX (l : Launch) (D : va_G) (kA : Nat → ClassId) (sz : Nat) (ad : Nat → Nat → Nat) (E : Nat → Nat → va_E) (RL : List (Nat × Nat)) (ml : Nat) (nd : Nat) (len : Nat) (wn : Nat) (cs : Nat) (hCI : CI kA ad E RL ml nd len wn cs) : Met l xy_Sh_latest (.code xy_Sh_latest xb_Sh_latest 1 (some (.object "LayerDesk$Descriptor")) :: wT) { frames := 0, cells := 0, slots := 0, locals := 0 } (va_Pc [.ref (ad 0 5)] (xPre D kA sz (rp ad E RL))) (va_Qq (fun (r : Option Nat) (u : Unit) => (r = none ∧ nd = 0) ∨ (0 < nd ∧ r = some (ad (1 + (nd - 1)) 0))) (fun (u : Unit) t => va_P D xcl (rp ad E RL) t.heap ∧ va_D (va_A (rp ad E RL) sz) (rp ad E RL)) (va_A (rp ad E RL) sz)) 0 0 (va_A (rp ad E RL) sz) := by
  refine Met.ofW (cc := xb_Sh_latest) (maxL := 1) (ret := (some (.object "LayerDesk$Descriptor"))) (by decide) rfl ?_
  intro p e s m args below meth c s₁ B hml hv
  obtain ⟨rfl, hsz, hP, hK, hD0⟩ := hv
  have hx := B.exec
  have hb := B.bytes
  have hr := B.returns
  have hT := x_hT B.pre
  have hown : s.vm.findClass xR_Sh = some m.cls := findClass_of_methodNamed B.named
  have hlocks := B.notSynchronized
  subst hsz
  have hD := hD0.self (sz := s.heap.size)
  generalize hAe : va_A (rp ad E RL) s.heap.size = A at hD ⊢
  have hA : ∀ q : Nat, s.heap.size ≤ q → A q := fun q h => by rw [← hAe]; exact Or.inr h
  have hS : va_S A s.heap s.heap [] := va_S.rf
  have hl := lv_entry ([.ref (ad 0 5)]) (n := 1) (Nat.le_of_ble_eq_true rfl)
  rw [lg_entry_eq]
  generalize (lg_sl ([.ref (ad 0 5)]) ++ List.replicate (1 - (lg_sl ([.ref (ad 0 5)])).length) Slot.unset).toArray = ls at hl ⊢
  have hl : lv_has ls 1 [(0, .ref (ad 0 5))] := hl
  have hP : va_P D xcl (rp ad E RL) s.heap := hP
  obtain ⟨hmB, hDk, hLi, hSh, hCh, hLa, hDIs, hLIs⟩ := id hCI
  obtain ⟨fd_1, hnd_1, q5_1, q6_1, hds_1⟩ := id (hSh)
  have c_2 : E 0 5 = .inr (2, [.ref (ad 0 6), .int (nI nd)]) := q5_1
  have m_3 : (0, 5) ∈ RL := hmB 5 (by decide)
  have c_4 : E 0 6 = .inl (kA 4, 12, .inr (.inr (.inr (.inr fd_1)))) := q6_1
  have m_5 : (0, 6) ∈ RL := hmB 6 (by decide)
  refine lv_aload_n hx hb xd_Sh_latest_0 rfl (lv_at hl 0 rfl) ?_
  refine px_get (D := D) (ci := 2) (v := .int (nI nd)) (C := xR_Sh) (T := xT_Sh) (N := 2) hx hb hT xi_Sh hown hK.1 hP m_3 c_2 rfl 1 (by decide) (hT _ k5c_0) (fun _ h9 => h9) rfl xd_Sh_latest_1 ?_
  refine xz_ne (a := nd) (tgt := 11) hx hb xd_Sh_latest_4 (by decide) (by omega) (fun hc6 => ?_) (fun hc6 => ?_)
  · refine lv_aload_n hx hb xd_Sh_latest_11 rfl (lv_at hl 0 rfl) ?_
    refine px_get (D := D) (ci := 2) (v := .ref (ad 0 6)) (C := xR_Sh) (T := xT_Sh) (N := 2) hx hb hT xi_Sh hown hK.1 hP m_3 c_2 rfl 0 (by decide) (hT _ k5c_1) (fun _ h9 => h9) rfl xd_Sh_latest_12 ?_
    refine lv_aload_n hx hb xd_Sh_latest_15 rfl (lv_at hl 0 rfl) ?_
    refine px_get (D := D) (ci := 2) (v := .int (nI nd)) (C := xR_Sh) (T := xT_Sh) (N := 2) hx hb hT xi_Sh hown hK.1 hP m_3 c_2 rfl 1 (by decide) (hT _ k5c_0) (fun _ h9 => h9) rfl xd_Sh_latest_16 ?_
    refine lv_iconst (v := 1) hx hb xd_Sh_latest_19 (by decide) ?_
    refine lv_isub hx hb xd_Sh_latest_20 ?_
    refine xn_top (y := nI (nd - 1)) (pk_sub (a := nd) (b := 1) (by omega)) ?_
    refine px_aald (i := nd - 1) (x := (some (ad (1 + (nd - 1)) 0))) hx hb hK.1 hP m_5 c_4 4 rfl (hds_1 (nd - 1) (by omega)) (by omega) (by decide) xd_Sh_latest_21 ?_
    exact W.aret (v := .ref (ad (1 + (nd - 1)) 0)) hx hb hr (Or.inl ⟨_, rfl⟩) (Or.inr ⟨_, rfl⟩) (fun t ht hW => ⟨⟨(some (ad (1 + (nd - 1)) 0)), (), rfl, Or.inr ⟨by omega, rfl⟩, by rw [ht]; exact hP, hD⟩, hS.F ht⟩) hS.2.2 xd_Sh_latest_22
  · refine lv_null hx hb xd_Sh_latest_7 ?_
    refine lv_goto (tgt := 22) hx hb xd_Sh_latest_8 (by decide) ?_
    exact W.aret (v := .null) hx hb hr (Or.inl ⟨_, rfl⟩) (Or.inl rfl) (fun t ht hW => ⟨⟨none, (), rfl, Or.inl ⟨rfl, by omega⟩, by rw [ht]; exact hP, hD⟩, hS.F ht⟩) hS.2.2 xd_Sh_latest_22
set_option maxHeartbeats 4000000 in
set_option maxRecDepth 100000 in
theorem xc_Gr_hasRoomForX (l : Launch) (D : va_G) (kA : Nat → ClassId) (sz : Nat) (ad : Nat → Nat → Nat) (E : Nat → Nat → va_E) (RL : List (Nat × Nat)) (b : Nat) (g : Nat) (gn : Nat) (ga : Nat) (ta : Int32) (n : Nat) (f : Nat → Int32) (nm : Int32) (ym0 : (b, g) ∈ RL) (yc0 : E b g = .inr (9, [.ref (ad b gn), .int ta])) (ym1 : (b, gn) ∈ RL) (yc1 : E b gn = .inr (8, [.ref (ad b ga), .int (nI n)])) (ym2 : (b, ga) ∈ RL) (yc2 : E b ga = .inl (kA 0, 3, .inl f)) (hn3 : n ≤ 3) : Met l xy_Gr_hasRoomFor (.code xy_Gr_hasRoomFor xb_Gr_hasRoomFor 2 (some .boolean) :: wT) { frames := 2, cells := 0, slots := 0, locals := 43 } (va_Pc [.ref (ad b g), .int nm] (xPre D kA sz (rp ad E RL))) (va_Qi (fun (r : Int32) (u : Unit) => (r = 1 ∧ (nm = 0 ∨ COV ta n f nm ∨ n < 3)) ∨ (r = 0 ∧ ¬ nm = 0 ∧ ¬ COV ta n f nm ∧ 3 ≤ n)) (fun (u : Unit) t => va_P D xcl (rp ad E RL) t.heap ∧ va_D (va_A (rp ad E RL) sz) (rp ad E RL)) (va_A (rp ad E RL) sz)) 0 0 (va_A (rp ad E RL) sz) := by
  refine Met.ofW (cc := xb_Gr_hasRoomFor) (maxL := 2) (ret := (some .boolean)) (by decide) rfl ?_
  intro p e s m args below meth c s₁ B hml hv
  obtain ⟨rfl, hsz, hP, hK, hD0⟩ := hv
  have hx := B.exec
  have hb := B.bytes
  have hr := B.returns
  have hT := x_hT B.pre
  have hown : s.vm.findClass xR_Gr = some m.cls := findClass_of_methodNamed B.named
  have hlocks := B.notSynchronized
  subst hsz
  have hD := hD0.self (sz := s.heap.size)
  generalize hAe : va_A (rp ad E RL) s.heap.size = A at hD ⊢
  have hA : ∀ q : Nat, s.heap.size ≤ q → A q := fun q h => by rw [← hAe]; exact Or.inr h
  have hS : va_S A s.heap s.heap [] := va_S.rf
  have hl := lv_entry ([.ref (ad b g), .int nm]) (n := 2) (Nat.le_of_ble_eq_true rfl)
  rw [lg_entry_eq]
  generalize (lg_sl ([.ref (ad b g), .int nm]) ++ List.replicate (2 - (lg_sl ([.ref (ad b g), .int nm])).length) Slot.unset).toArray = ls at hl ⊢
  have hl : lv_has ls 2 [(0, .ref (ad b g)), (1, .int nm)] := hl
  have hP : va_P D xcl (rp ad E RL) s.heap := hP
  refine lv_iload_n hx hb xd_Gr_hasRoomFor_0 rfl (lv_at hl 1 rfl) ?_
  refine lv_if_eq (tgt := 22) hx hb xd_Gr_hasRoomFor_1 (by decide) (fun hc1 => ?_) (fun hc1 => ?_)
  · refine lv_iconst (v := 1) hx hb xd_Gr_hasRoomFor_22 (by decide) ?_
    refine lv_goto (tgt := 27) hx hb xd_Gr_hasRoomFor_23 (by decide) ?_
    exact W.zret (v := 1) hx hb hr rfl (fun t ht hW => ⟨⟨1, (), rfl, Or.inl ⟨rfl, Or.inl hc1⟩, by rw [ht]; exact hP, hD⟩, hS.F ht⟩) hS.2.2 xd_Gr_hasRoomFor_27
  · refine lv_aload_n hx hb xd_Gr_hasRoomFor_4 rfl (lv_at hl 0 rfl) ?_
    refine lv_iload_n hx hb xd_Gr_hasRoomFor_5 rfl (lv_at hl 1 rfl) ?_
    have hFc := px_free hD hS hA
    refine va_calli (va_runV (As := [.int nm]) (rest := []) ⟨hx, hb, hml, hown, hT⟩ (xc_Gr_covers l D kA s.heap.size ad E RL b g gn ga ta n f nm ym0 yc0 ym1 yc1 ym2 yc2 (by first | assumption | omega)) (cwV 1 hT (wT_V k5c_5 k5c_6 k5c_7 k5c_8 k5c_4) rfl rfl rfl (by decide +kernel) ⟨Nat.le_of_ble_eq_true rfl, Nat.le_of_ble_eq_true rfl⟩) (px_preV hK hP hD ym0 yc0 rfl) rfl rfl hl.1 rfl (lv_room (Nat.le_of_ble_eq_true rfl)) xd_Gr_hasRoomFor_6 ⟨(Nat.le_of_ble_eq_true rfl), (Nat.le_of_ble_eq_true rfl)⟩) hS (fun q _ h => hFc q h) hFc (fun r2 u3 t H1 locs ht hvm hp4 hB hz1 hk1 hS => ?_)
    obtain ⟨hP1, hD1⟩ := hB
    rw [ht] at hP1
    have hD1 := hD1.weaken (fun _ _ _ h => hFc _ h)
    generalize H1 = H at hP1 hS ⊢
    have hP := hP1
    have hD := hD1
    have hP : va_P D xcl (rp ad E RL) H := hP
    have hD : va_D A (rp ad E RL) := hD
    rcases hp4 with ⟨rfl, z5⟩ | ⟨rfl, z6, z7⟩
    · refine W.eq (g2 := F0 m 9 ls [.int 1]) rfl ?_
      refine lv_if_ne (tgt := 22) hx hb xd_Gr_hasRoomFor_9 (by decide) (fun _ => ?_) (fun hc8 => absurd hc8 (by decide))
      refine lv_iconst (v := 1) hx hb xd_Gr_hasRoomFor_22 (by decide) ?_
      refine lv_goto (tgt := 27) hx hb xd_Gr_hasRoomFor_23 (by decide) ?_
      exact W.zret (v := 1) hx hb hr rfl (fun t ht hW => ⟨⟨1, (), rfl, Or.inl ⟨rfl, Or.inr (Or.inl z5)⟩, by rw [ht]; exact hP, hD⟩, hS.F ht⟩) hS.2.2 xd_Gr_hasRoomFor_27
    · refine W.eq (g2 := F0 m 9 ls [.int 0]) rfl ?_
      refine lv_if_ne (tgt := 22) hx hb xd_Gr_hasRoomFor_9 (by decide) (fun hc9 => absurd (by decide) hc9) (fun _ => ?_)
      refine lv_aload_n hx hb xd_Gr_hasRoomFor_12 rfl (lv_at hl 0 rfl) ?_
      refine px_get (D := D) (ci := 9) (v := .ref (ad b gn)) (C := xR_Gr) (T := xT_Gr) (N := 2) hx hb hT xi_Gr hown hK.1 hP ym0 yc0 rfl 0 (by decide) (hT _ k5c_9) (fun _ h9 => h9) rfl xd_Gr_hasRoomFor_13 ?_
      have hFc := px_free hD hS hA
      refine va_calli (va_runV (As := []) (rest := []) ⟨hx, hb, hml, hown, hT⟩ (xc_Na_isFull l D kA H.size ad E RL b gn ga 3 n f ym1 yc1 ym2 yc2 (by first | assumption | omega) (by first | assumption | omega)) (cwV 0 hT (wT_V k5c_11 k5c_12 k5c_13 k5c_14 k5c_10) rfl rfl rfl (by decide +kernel) ⟨Nat.le_of_ble_eq_true rfl, Nat.le_of_ble_eq_true rfl⟩) (px_preV hK hP hD ym1 yc1 rfl) rfl rfl hl.1 rfl (lv_room (Nat.le_of_ble_eq_true rfl)) xd_Gr_hasRoomFor_16 ⟨(Nat.le_of_ble_eq_true rfl), (Nat.le_of_ble_eq_true rfl)⟩) hS (fun q _ h => hFc q h) hFc (fun r10 u11 t H1 locs ht hvm hp12 hB hz1 hk1 hS => ?_)
      obtain ⟨hP1, hD1⟩ := hB
      rw [ht] at hP1
      have hD1 := hD1.weaken (fun _ _ _ h => hFc _ h)
      generalize H1 = H at hP1 hS ⊢
      have hP := hP1
      have hD := hD1
      have hP : va_P D xcl (rp ad E RL) H := hP
      have hD : va_D A (rp ad E RL) := hD
      rcases hp12 with ⟨rfl, z13⟩ | ⟨rfl, z14⟩
      · refine W.eq (g2 := F0 m 19 ls [.int 1]) rfl ?_
        refine lv_if_ne (tgt := 26) hx hb xd_Gr_hasRoomFor_19 (by decide) (fun _ => ?_) (fun hc15 => absurd hc15 (by decide))
        refine lv_iconst (v := 0) hx hb xd_Gr_hasRoomFor_26 (by decide) ?_
        exact W.zret (v := 0) hx hb hr rfl (fun t ht hW => ⟨⟨0, (), rfl, Or.inr ⟨rfl, hc1, (fun q => q.elim (fun z => z z6) (fun ⟨k9, q1, q2⟩ => z7 k9 q1 q2)), z13⟩, by rw [ht]; exact hP, hD⟩, hS.F ht⟩) hS.2.2 xd_Gr_hasRoomFor_27
      · refine W.eq (g2 := F0 m 19 ls [.int 0]) rfl ?_
        refine lv_if_ne (tgt := 26) hx hb xd_Gr_hasRoomFor_19 (by decide) (fun hc16 => absurd (by decide) hc16) (fun _ => ?_)
        refine lv_iconst (v := 1) hx hb xd_Gr_hasRoomFor_22 (by decide) ?_
        refine lv_goto (tgt := 27) hx hb xd_Gr_hasRoomFor_23 (by decide) ?_
        exact W.zret (v := 1) hx hb hr rfl (fun t ht hW => ⟨⟨1, (), rfl, Or.inl ⟨rfl, Or.inr (Or.inr z14)⟩, by rw [ht]; exact hP, hD⟩, hS.F ht⟩) hS.2.2 xd_Gr_hasRoomFor_27
set_option maxHeartbeats 4000000 in
set_option maxRecDepth 100000 in
theorem xc_Gr_extendToX (l : Launch) (D : va_G) (kA : Nat → ClassId) (sz : Nat) (ad : Nat → Nat → Nat) (E : Nat → Nat → va_E) (RL : List (Nat × Nat)) (b : Nat) (g : Nat) (gn : Nat) (ga : Nat) (ta : Int32) (n : Nat) (f : Nat → Int32) (nm : Int32) (ym0 : (b, g) ∈ RL) (yc0 : E b g = .inr (9, [.ref (ad b gn), .int ta])) (ym1 : (b, gn) ∈ RL) (yc1 : E b gn = .inr (8, [.ref (ad b ga), .int (nI n)])) (ym2 : (b, ga) ∈ RL) (yc2 : E b ga = .inl (kA 0, 3, .inl f)) (hn3 : n ≤ 3) (hgd : g ≠ gn ∧ gn ≠ ga ∧ g ≠ ga) : Met l xy_Gr_extendTo (.code xy_Gr_extendTo xb_Gr_extendTo 2 none :: wT) { frames := 2, cells := 0, slots := 0, locals := 43 } (va_Pc [.ref (ad b g), .int nm] (xPre D kA sz (rp ad E RL))) (va_Qv (fun (u : Nat → Nat → va_E) => ∃ ta2 : Int32, ∃ n2 : Nat, ∃ f2 : Nat → Int32, (n2 ≤ 3 ∧ ((nm = 0 ∧ ta2 = 1 ∧ n2 = n ∧ f2 = f) ∨ (¬ nm = 0 ∧ COV ta n f nm ∧ ta2 = ta ∧ n2 = n ∧ f2 = f) ∨ (¬ nm = 0 ∧ ¬ COV ta n f nm ∧ ta2 = ta ∧ ((n < 3 ∧ n2 = n + 1 ∧ f2 = upd f n nm) ∨ (3 ≤ n ∧ n2 = n ∧ f2 = f))))) ∧ (u b g = .inr (9, [.ref (ad b gn), .int ta2])) ∧ (u b gn = .inr (8, [.ref (ad b ga), .int (nI n2)])) ∧ (u b ga = .inl (kA 0, 3, .inl f2)) ∧ ((∀ b2 o2, ¬ (b2 = b ∧ o2 = g) → ¬ (b2 = b ∧ o2 = gn) → ¬ (b2 = b ∧ o2 = ga) → u b2 o2 = E b2 o2))) (fun (u : Nat → Nat → va_E) t => va_P D xcl (rp ad u RL) t.heap ∧ va_D (va_A (rp ad E RL) sz) (rp ad u RL)) (va_A (rp ad E RL) sz)) 0 0 (va_A (rp ad E RL) sz) := by
  refine Met.ofW (cc := xb_Gr_extendTo) (maxL := 2) (ret := none) (by decide) rfl ?_
  intro p e s m args below meth c s₁ B hml hv
  obtain ⟨rfl, hsz, hP, hK, hD0⟩ := hv
  have hx := B.exec
  have hb := B.bytes
  have hr := B.returns
  have hT := x_hT B.pre
  have hown : s.vm.findClass xR_Gr = some m.cls := findClass_of_methodNamed B.named
  have hlocks := B.notSynchronized
  subst hsz
  have hD := hD0.self (sz := s.heap.size)
  generalize hAe : va_A (rp ad E RL) s.heap.size = A at hD ⊢
  have hA : ∀ q : Nat, s.heap.size ≤ q → A q := fun q h => by rw [← hAe]; exact Or.inr h
  have hS : va_S A s.heap s.heap [] := va_S.rf
  have hl := lv_entry ([.ref (ad b g), .int nm]) (n := 2) (Nat.le_of_ble_eq_true rfl)
  rw [lg_entry_eq]
  generalize (lg_sl ([.ref (ad b g), .int nm]) ++ List.replicate (2 - (lg_sl ([.ref (ad b g), .int nm])).length) Slot.unset).toArray = ls at hl ⊢
  have hl : lv_has ls 2 [(0, .ref (ad b g)), (1, .int nm)] := hl
  have hP : va_P D xcl (rp ad E RL) s.heap := hP
  refine lv_iload_n hx hb xd_Gr_extendTo_0 rfl (lv_at hl 1 rfl) ?_
  refine lv_if_ne (tgt := 12) hx hb xd_Gr_extendTo_1 (by decide) (fun hc1 => ?_) (fun hc1 => ?_)
  · refine lv_aload_n hx hb xd_Gr_extendTo_12 rfl (lv_at hl 0 rfl) ?_
    refine lv_iload_n hx hb xd_Gr_extendTo_13 rfl (lv_at hl 1 rfl) ?_
    have hFc := px_free hD hS hA
    refine va_calli (va_runV (As := [.int nm]) (rest := []) ⟨hx, hb, hml, hown, hT⟩ (xc_Gr_covers l D kA s.heap.size ad E RL b g gn ga ta n f nm ym0 yc0 ym1 yc1 ym2 yc2 (by first | assumption | omega)) (cwV 1 hT (wT_V k5c_5 k5c_6 k5c_7 k5c_8 k5c_4) rfl rfl rfl (by decide +kernel) ⟨Nat.le_of_ble_eq_true rfl, Nat.le_of_ble_eq_true rfl⟩) (px_preV hK hP hD ym0 yc0 rfl) rfl rfl hl.1 rfl (lv_room (Nat.le_of_ble_eq_true rfl)) xd_Gr_extendTo_14 ⟨(Nat.le_of_ble_eq_true rfl), (Nat.le_of_ble_eq_true rfl)⟩) hS (fun q _ h => hFc q h) hFc (fun r2 u3 t H1 locs ht hvm hp4 hB hz1 hk1 hS => ?_)
    obtain ⟨hP1, hD1⟩ := hB
    rw [ht] at hP1
    have hD1 := hD1.weaken (fun _ _ _ h => hFc _ h)
    generalize H1 = H at hP1 hS ⊢
    have hP := hP1
    have hD := hD1
    have hP : va_P D xcl (rp ad E RL) H := hP
    have hD : va_D A (rp ad E RL) := hD
    rcases hp4 with ⟨rfl, z5⟩ | ⟨rfl, z6, z7⟩
    · refine W.eq (g2 := F0 m 17 ls [.int 1]) rfl ?_
      refine lv_if_ne (tgt := 28) hx hb xd_Gr_extendTo_17 (by decide) (fun _ => ?_) (fun hc8 => absurd hc8 (by decide))
      exact W.vret hx hb hr (fun t ht hW => ⟨⟨E, rfl, ⟨ta, n, f, ⟨by omega, Or.inr (Or.inl ⟨hc1, z5, rfl, rfl, rfl⟩)⟩, yc0, yc1, yc2, (fun b2 o2 h09 h19 h29 => rfl)⟩, by rw [ht]; exact hP, hD⟩, hS.F ht⟩) hS.2.2 xd_Gr_extendTo_28
    · refine W.eq (g2 := F0 m 17 ls [.int 0]) rfl ?_
      refine lv_if_ne (tgt := 28) hx hb xd_Gr_extendTo_17 (by decide) (fun hc9 => absurd (by decide) hc9) (fun _ => ?_)
      refine lv_aload_n hx hb xd_Gr_extendTo_20 rfl (lv_at hl 0 rfl) ?_
      refine px_get (D := D) (ci := 9) (v := .ref (ad b gn)) (C := xR_Gr) (T := xT_Gr) (N := 2) hx hb hT xi_Gr hown hK.1 hP ym0 yc0 rfl 0 (by decide) (hT _ k5c_9) (fun _ h9 => h9) rfl xd_Gr_extendTo_21 ?_
      refine lv_iload_n hx hb xd_Gr_extendTo_24 rfl (lv_at hl 1 rfl) ?_
      have hFc := px_free hD hS hA
      refine va_callv (va_runV (As := [.int nm]) (rest := []) ⟨hx, hb, hml, hown, hT⟩ (xc_Na_append l D kA H.size ad E RL b gn ga 3 n f nm ym1 yc1 ym2 yc2 (by first | assumption | omega) (by first | assumption | omega) (by first | assumption | omega)) (cwV 1 hT (wT_V k5c_16 k5c_17 k5c_18 k5c_14 k5c_15) rfl rfl rfl (by decide +kernel) ⟨Nat.le_of_ble_eq_true rfl, Nat.le_of_ble_eq_true rfl⟩) (px_preV hK hP hD ym1 yc1 rfl) rfl rfl hl.1 rfl (lv_room (Nat.le_of_ble_eq_true rfl)) xd_Gr_extendTo_25 ⟨(Nat.le_of_ble_eq_true rfl), (Nat.le_of_ble_eq_true rfl)⟩) hS (fun q _ h => hFc q h) hFc (fun u11 t H1 locs ht hvm hp12 hB hz1 hk1 hS => ?_)
      obtain ⟨hP1, hD1⟩ := hB
      rw [ht] at hP1
      have hD1 := hD1.weaken (fun _ _ _ h => hFc _ h)
      generalize H1 = H at hP1 hS ⊢
      have hP := hP1
      have hD := hD1
      obtain ⟨E13, rfl⟩ : ∃ z, z = u11 := ⟨_, rfl⟩
      obtain ⟨w14, w15, hp19, p_16, p_17, p_18⟩ := hp12
      have p_16 : E13 b gn = .inr (8, [.ref (ad b ga), .int (nI w14)]) := p_16
      have p_17 : E13 b ga = .inl (kA 0, 3, .inl w15) := p_17
      have p_18 : (∀ b2 o2, ¬ (b2 = b ∧ o2 = gn) → ¬ (b2 = b ∧ o2 = ga) → E13 b2 o2 = E b2 o2) := p_18
      have c_20 : E13 b g = .inr (9, [.ref (ad b gn), .int ta]) := (p_18 b g (by omega) (by omega)).trans yc0
      have hP : va_P D xcl (rp ad E13 RL) H := hP
      have hD : va_D A (rp ad E13 RL) := hD
      exact W.vret hx hb hr (fun t ht hW => ⟨⟨E13, rfl, ⟨ta, w14, w15, ⟨by omega, Or.inr (Or.inr ⟨hc1, (fun q => q.elim (fun z => z z6) (fun ⟨k9, q1, q2⟩ => z7 k9 q1 q2)), rfl, hp19.2⟩)⟩, c_20, p_16, p_17, (fun b2 o2 h09 h19 h29 => by show E13 b2 o2 = _; rw [p_18 b2 o2 (by omega) (by omega)])⟩, by rw [ht]; exact hP, hD⟩, hS.F ht⟩) hS.2.2 xd_Gr_extendTo_28
  · refine lv_aload_n hx hb xd_Gr_extendTo_4 rfl (lv_at hl 0 rfl) ?_
    refine lv_iconst (v := 1) hx hb xd_Gr_extendTo_5 (by decide) ?_
    refine px_put (D := D) (ci := 9) (v := .int 1) (ty := .boolean) (C := xR_Gr) (T := xT_Gr) (N := 2) hx hb hT xi_Gr xt_Gr xt_Gr_ok xn_Gr hown hK.1 hP hD hS ym0 yc0 rfl 1 (by decide) (hT _ k5c_19) (fun _ h9 => h9) rfl (by decide +kernel) rfl rfl (Nat.le_of_ble_eq_true rfl) xd_Gr_extendTo_6 (fun H locs hP hD hS => ?_)
    have hP : va_P D xcl (rp ad (up2 E b g (.inr (9, [.ref (ad b gn), .int 1]))) RL) H := hP
    have hD : va_D A (rp ad (up2 E b g (.inr (9, [.ref (ad b gn), .int 1]))) RL) := hD
    generalize hE22 : up2 E b g (.inr (9, [.ref (ad b gn), .int 1])) = E21 at hP hD
    have fE23 : ∀ b2 o2, ¬ (b2 = b ∧ o2 = g) → E21 b2 o2 = E b2 o2 := fun b2 o2 h9 => by rw [← hE22]; exact up2_ne (nr_or h9)
    have c_24 : E21 b g = .inr (9, [.ref (ad b gn), .int 1]) := by rw [← hE22]; exact up2_eq
    have c_25 : E21 b gn = .inr (8, [.ref (ad b ga), .int (nI n)]) := (fE23 b gn (by omega)).trans yc1
    have c_26 : E21 b ga = .inl (kA 0, 3, .inl f) := (fE23 b ga (by omega)).trans yc2
    refine lv_goto (tgt := 28) hx hb xd_Gr_extendTo_9 (by decide) ?_
    exact W.vret hx hb hr (fun t ht hW => ⟨⟨E21, rfl, ⟨1, n, f, ⟨by omega, Or.inl ⟨hc1, rfl, rfl, rfl⟩⟩, c_24, c_25, c_26, (fun b2 o2 h09 h19 h29 => by show E21 b2 o2 = _; rw [fE23 b2 o2 (by omega)])⟩, by rw [ht]; exact hP, hD⟩, hS.F ht⟩) hS.2.2 xd_Gr_extendTo_28
set_option maxHeartbeats 4000000 in
set_option maxRecDepth 100000 in
theorem xc_Ds_exportOfX (l : Launch) (D : va_G) (kA : Nat → ClassId) (sz : Nat) (ad : Nat → Nat → Nat) (E : Nat → Nat → va_E) (RL : List (Nat × Nat)) (g : Nat → Nat → Int32) (nd : Nat) (d : Nat) (pn : Int32) (hDIs : DIs kA ad E RL nd) (hd : d < nd) (hTD : TDs g E nd) : Met l xy_Ds_exportOf (.code xy_Ds_exportOf xb_Ds_exportOf 3 (some (.object "LayerDesk$Grant")) :: wT) { frames := 1, cells := 0, slots := 0, locals := 22 } (va_Pc [.ref (ad (1 + d) 0), .int pn] (xPre D kA sz (rp ad E RL))) (va_Qq (fun (r : Option Nat) (u : Unit) => (r = none ∧ pI g d pn = none) ∨ ∃ i, i < 6 ∧ r = some (ad (1 + d) (20 + 3 * i)) ∧ GI kA (ad (1 + d)) (E (1 + d)) (fun o => (1 + d, o) ∈ RL) (20 + 3 * i) (21 + 3 * i) (22 + 3 * i) ∧ pI g d pn = some i) (fun (u : Unit) t => va_P D xcl (rp ad E RL) t.heap ∧ va_D (va_A (rp ad E RL) sz) (rp ad E RL)) (va_A (rp ad E RL) sz)) 0 0 (va_A (rp ad E RL) sz) := by
  refine Met.ofW (cc := xb_Ds_exportOf) (maxL := 3) (ret := (some (.object "LayerDesk$Grant"))) (by decide) rfl ?_
  intro p e s m args below meth c s₁ B hml hv
  obtain ⟨rfl, hsz, hP, hK, hD0⟩ := hv
  have hx := B.exec
  have hb := B.bytes
  have hr := B.returns
  have hT := x_hT B.pre
  have hown : s.vm.findClass xR_Ds = some m.cls := findClass_of_methodNamed B.named
  have hlocks := B.notSynchronized
  subst hsz
  have hD := hD0.self (sz := s.heap.size)
  generalize hAe : va_A (rp ad E RL) s.heap.size = A at hD ⊢
  have hA : ∀ q : Nat, s.heap.size ≤ q → A q := fun q h => by rw [← hAe]; exact Or.inr h
  have hS : va_S A s.heap s.heap [] := va_S.rf
  have hl := lv_entry ([.ref (ad (1 + d) 0), .int pn]) (n := 3) (Nat.le_of_ble_eq_true rfl)
  rw [lg_entry_eq]
  generalize (lg_sl ([.ref (ad (1 + d) 0), .int pn]) ++ List.replicate (3 - (lg_sl ([.ref (ad (1 + d) 0), .int pn])).length) Slot.unset).toArray = ls at hl ⊢
  have hl : lv_has ls 3 [(0, .ref (ad (1 + d) 0)), (1, .int pn)] := hl
  have hP : va_P D xcl (rp ad E RL) s.heap := hP
  refine lv_aload_n hx hb xd_Ds_exportOf_0 rfl (lv_at hl 0 rfl) ?_
  obtain ⟨hm_1, fd_1, nm_1, sd_1, k0_1, k1_1, k2_1, k3_1, f0_1, f1_1, f2_1, f3_1, fe_1, fo_1, tr_1, op_1, hk0_1, hk1_1, hk2_1, hk3_1, q0_1, q1_1, q2_1, q3_1, q4_1, q5_1, q6_1, q7_1, q8_1, q9_1, q10_1, q11_1, q12_1, hg_1⟩ := id (hDIs d (by omega))
  have c_2 : E (1 + d) 0 = .inr (7, [.int (nI d), .int fd_1, .int nm_1, .ref (ad (1 + d) 1), .ref (ad (1 + d) 9), .ref (ad (1 + d) 10), .ref (ad (1 + d) 2), .ref (ad (1 + d) 11), .ref (ad (1 + d) 12), .ref (ad (1 + d) 3), .ref (ad (1 + d) 4), .int sd_1]) := q0_1
  have m_3 : (1 + d, 0) ∈ RL := hm_1 0 (by decide)
  have c_4 : E (1 + d) 1 = .inr (8, [.ref (ad (1 + d) 5), .int (nI k0_1)]) := q1_1
  have m_5 : (1 + d, 1) ∈ RL := hm_1 1 (by decide)
  have c_6 : E (1 + d) 2 = .inr (8, [.ref (ad (1 + d) 6), .int (nI k1_1)]) := q2_1
  have m_7 : (1 + d, 2) ∈ RL := hm_1 2 (by decide)
  have c_8 : E (1 + d) 3 = .inr (8, [.ref (ad (1 + d) 7), .int (nI k2_1)]) := q3_1
  have m_9 : (1 + d, 3) ∈ RL := hm_1 3 (by decide)
  have c_10 : E (1 + d) 4 = .inr (8, [.ref (ad (1 + d) 8), .int (nI k3_1)]) := q4_1
  have m_11 : (1 + d, 4) ∈ RL := hm_1 4 (by decide)
  have c_12 : E (1 + d) 5 = .inl (kA 0, 6, .inl f0_1) := q5_1
  have m_13 : (1 + d, 5) ∈ RL := hm_1 5 (by decide)
  have c_14 : E (1 + d) 6 = .inl (kA 0, 5, .inl f1_1) := q6_1
  have m_15 : (1 + d, 6) ∈ RL := hm_1 6 (by decide)
  have c_16 : E (1 + d) 7 = .inl (kA 0, 3, .inl f2_1) := q7_1
  have m_17 : (1 + d, 7) ∈ RL := hm_1 7 (by decide)
  have c_18 : E (1 + d) 8 = .inl (kA 0, 3, .inl f3_1) := q8_1
  have m_19 : (1 + d, 8) ∈ RL := hm_1 8 (by decide)
  have c_20 : E (1 + d) 9 = .inl (kA 8, 6, .inr (.inr (.inr (.inr fe_1)))) := q9_1
  have m_21 : (1 + d, 9) ∈ RL := hm_1 9 (by decide)
  have c_22 : E (1 + d) 10 = .inl (kA 8, 6, .inr (.inr (.inr (.inr fo_1)))) := q10_1
  have m_23 : (1 + d, 10) ∈ RL := hm_1 10 (by decide)
  have c_24 : E (1 + d) 11 = .inl (kA 2, 5, .inl tr_1) := q11_1
  have m_25 : (1 + d, 11) ∈ RL := hm_1 11 (by decide)
  have c_26 : E (1 + d) 12 = .inl (kA 2, 5, .inl op_1) := q12_1
  have m_27 : (1 + d, 12) ∈ RL := hm_1 12 (by decide)
  have hg_1 : ∀ w9, w9 < k0_1 → fe_1 w9 = some (ad (1 + d) (20 + 3 * w9)) ∧ fo_1 w9 = some (ad (1 + d) (38 + 3 * w9)) ∧ GI kA (ad (1 + d)) (E (1 + d)) (fun o => (1 + d, o) ∈ RL) (20 + 3 * w9) (21 + 3 * w9) (22 + 3 * w9) ∧ GI kA (ad (1 + d)) (E (1 + d)) (fun o => (1 + d, o) ∈ RL) (38 + 3 * w9) (39 + 3 * w9) (40 + 3 * w9) := hg_1
  obtain ⟨⟨tfd_1, tnm_1, tsd_1, tk0_1, tf0_1, tk1_1, tf1_1, tk2_1, tk3_1⟩, tgr_1⟩ := TD_get hk0_1 hk1_1 hk2_1 hk3_1 c_2 c_4 c_6 c_8 c_10 c_12 c_14 c_16 c_18 c_24 c_26 (hTD d (by omega))
  refine px_get (D := D) (ci := 7) (v := .ref (ad (1 + d) 1)) (C := xR_Ds) (T := xT_Ds) (N := 12) hx hb hT xi_Ds hown hK.1 hP m_3 c_2 rfl 3 (by decide) (hT _ k5c_20) (fun _ h9 => h9) rfl xd_Ds_exportOf_1 ?_
  refine lv_iload_n hx hb xd_Ds_exportOf_4 rfl (lv_at hl 1 rfl) ?_
  have hFc := px_free hD hS hA
  refine va_calli (va_runV (As := [.int pn]) (rest := []) ⟨hx, hb, hml, hown, hT⟩ (xc_Na_indexOf l D kA s.heap.size ad E RL (1 + d) 1 5 6 k0_1 f0_1 pn m_5 c_4 m_13 c_12 (by first | assumption | omega) (by first | assumption | omega)) (cwV 1 hT (wT_V k5c_22 k5c_23 k5c_24 k5c_14 k5c_21) rfl rfl rfl (by decide +kernel) ⟨Nat.le_of_ble_eq_true rfl, Nat.le_of_ble_eq_true rfl⟩) (px_preV hK hP hD m_5 c_4 rfl) rfl rfl hl.1 rfl (lv_room (Nat.le_of_ble_eq_true rfl)) xd_Ds_exportOf_5 ⟨(Nat.le_of_ble_eq_true rfl), (Nat.le_of_ble_eq_true rfl)⟩) hS (fun q _ h => hFc q h) hFc (fun r28 u29 t H1 locs ht hvm hp30 hB hz1 hk1 hS => ?_)
  obtain ⟨hP1, hD1⟩ := hB
  rw [ht] at hP1
  have hD1 := hD1.weaken (fun _ _ _ h => hFc _ h)
  generalize H1 = H at hP1 hS ⊢
  have hP := hP1
  have hD := hD1
  have hP : va_P D xcl (rp ad E RL) H := hP
  have hD : va_D A (rp ad E RL) := hD
  rcases hp30 with ⟨z31, z32, rfl, z33, z34⟩ | ⟨rfl, z35⟩
  · refine W.eq (g2 := F0 m 8 ls [.int (nI z31)]) rfl ?_
    refine lv_istore_n hx hb xd_Ds_exportOf_8 rfl hl (Nat.le_of_ble_eq_true rfl) rfl (fun ls hl => ?_)
    have hl : lv_has ls 3 [(2, .int (nI z31)), (0, .ref (ad (1 + d) 0)), (1, .int pn)] := hl
    refine lv_iload_n hx hb xd_Ds_exportOf_9 rfl (lv_at hl 0 rfl) ?_
    refine xz_ge (a := z31) (tgt := 17) hx hb xd_Ds_exportOf_10 (by decide) (by omega) ?_
    refine lv_aload_n hx hb xd_Ds_exportOf_17 rfl (lv_at hl 1 rfl) ?_
    refine px_get (D := D) (ci := 7) (v := .ref (ad (1 + d) 9)) (C := xR_Ds) (T := xT_Ds) (N := 12) hx hb hT xi_Ds hown hK.1 hP m_3 c_2 rfl 4 (by decide) (hT _ k5c_25) (fun _ h9 => h9) rfl xd_Ds_exportOf_18 ?_
    refine lv_iload_n hx hb xd_Ds_exportOf_21 rfl (lv_at hl 0 rfl) ?_
    refine px_aald (i := z31) (x := (some (ad (1 + d) (20 + 3 * z31)))) hx hb hK.1 hP m_21 c_20 8 rfl ((hg_1 z31 (by omega)).1) (by omega) (by decide) xd_Ds_exportOf_22 ?_
    exact W.aret (v := .ref (ad (1 + d) (20 + 3 * z31))) hx hb hr (Or.inl ⟨_, rfl⟩) (Or.inr ⟨_, rfl⟩) (fun t ht hW => ⟨⟨(some (ad (1 + d) (20 + 3 * z31))), (), rfl, Or.inr ⟨z31, by omega, rfl, (hg_1 z31 (by omega)).2.2.1, pI_y hk0_1 tk0_1 tf0_1 z32 z33 z34⟩, by rw [ht]; exact hP, hD⟩, hS.F ht⟩) hS.2.2 xd_Ds_exportOf_23
  · refine W.eq (g2 := F0 m 8 ls [.int (-1)]) rfl ?_
    refine lv_istore_n hx hb xd_Ds_exportOf_8 rfl hl (Nat.le_of_ble_eq_true rfl) rfl (fun ls hl => ?_)
    have hl : lv_has ls 3 [(2, .int (-1)), (0, .ref (ad (1 + d) 0)), (1, .int pn)] := hl
    refine lv_iload_n hx hb xd_Ds_exportOf_9 rfl (lv_at hl 0 rfl) ?_
    refine lv_if_ge (tgt := 17) hx hb xd_Ds_exportOf_10 (by decide) (fun hc37 => absurd hc37 (by decide)) (fun _ => ?_)
    refine lv_null hx hb xd_Ds_exportOf_13 ?_
    refine lv_goto (tgt := 23) hx hb xd_Ds_exportOf_14 (by decide) ?_
    exact W.aret (v := .null) hx hb hr (Or.inl ⟨_, rfl⟩) (Or.inl rfl) (fun t ht hW => ⟨⟨none, (), rfl, Or.inl ⟨rfl, pI_x hk0_1 tk0_1 tf0_1 z35⟩, by rw [ht]; exact hP, hD⟩, hS.F ht⟩) hS.2.2 xd_Ds_exportOf_23
set_option maxHeartbeats 4000000 in
set_option maxRecDepth 100000 in
theorem xc_Ds_openingOfX (l : Launch) (D : va_G) (kA : Nat → ClassId) (sz : Nat) (ad : Nat → Nat → Nat) (E : Nat → Nat → va_E) (RL : List (Nat × Nat)) (g : Nat → Nat → Int32) (nd : Nat) (d : Nat) (pn : Int32) (hDIs : DIs kA ad E RL nd) (hd : d < nd) (hTD : TDs g E nd) : Met l xy_Ds_openingOf (.code xy_Ds_openingOf xb_Ds_openingOf 3 (some (.object "LayerDesk$Grant")) :: wT) { frames := 1, cells := 0, slots := 0, locals := 22 } (va_Pc [.ref (ad (1 + d) 0), .int pn] (xPre D kA sz (rp ad E RL))) (va_Qq (fun (r : Option Nat) (u : Unit) => (r = none ∧ pI g d pn = none) ∨ ∃ i, i < 6 ∧ r = some (ad (1 + d) (38 + 3 * i)) ∧ GI kA (ad (1 + d)) (E (1 + d)) (fun o => (1 + d, o) ∈ RL) (38 + 3 * i) (39 + 3 * i) (40 + 3 * i) ∧ pI g d pn = some i) (fun (u : Unit) t => va_P D xcl (rp ad E RL) t.heap ∧ va_D (va_A (rp ad E RL) sz) (rp ad E RL)) (va_A (rp ad E RL) sz)) 0 0 (va_A (rp ad E RL) sz) := by
  refine Met.ofW (cc := xb_Ds_openingOf) (maxL := 3) (ret := (some (.object "LayerDesk$Grant"))) (by decide) rfl ?_
  intro p e s m args below meth c s₁ B hml hv
  obtain ⟨rfl, hsz, hP, hK, hD0⟩ := hv
  have hx := B.exec
  have hb := B.bytes
  have hr := B.returns
  have hT := x_hT B.pre
  have hown : s.vm.findClass xR_Ds = some m.cls := findClass_of_methodNamed B.named
  have hlocks := B.notSynchronized
  subst hsz
  have hD := hD0.self (sz := s.heap.size)
  generalize hAe : va_A (rp ad E RL) s.heap.size = A at hD ⊢
  have hA : ∀ q : Nat, s.heap.size ≤ q → A q := fun q h => by rw [← hAe]; exact Or.inr h
  have hS : va_S A s.heap s.heap [] := va_S.rf
  have hl := lv_entry ([.ref (ad (1 + d) 0), .int pn]) (n := 3) (Nat.le_of_ble_eq_true rfl)
  rw [lg_entry_eq]
  generalize (lg_sl ([.ref (ad (1 + d) 0), .int pn]) ++ List.replicate (3 - (lg_sl ([.ref (ad (1 + d) 0), .int pn])).length) Slot.unset).toArray = ls at hl ⊢
  have hl : lv_has ls 3 [(0, .ref (ad (1 + d) 0)), (1, .int pn)] := hl
  have hP : va_P D xcl (rp ad E RL) s.heap := hP
  refine lv_aload_n hx hb xd_Ds_openingOf_0 rfl (lv_at hl 0 rfl) ?_
  obtain ⟨hm_1, fd_1, nm_1, sd_1, k0_1, k1_1, k2_1, k3_1, f0_1, f1_1, f2_1, f3_1, fe_1, fo_1, tr_1, op_1, hk0_1, hk1_1, hk2_1, hk3_1, q0_1, q1_1, q2_1, q3_1, q4_1, q5_1, q6_1, q7_1, q8_1, q9_1, q10_1, q11_1, q12_1, hg_1⟩ := id (hDIs d (by omega))
  have c_2 : E (1 + d) 0 = .inr (7, [.int (nI d), .int fd_1, .int nm_1, .ref (ad (1 + d) 1), .ref (ad (1 + d) 9), .ref (ad (1 + d) 10), .ref (ad (1 + d) 2), .ref (ad (1 + d) 11), .ref (ad (1 + d) 12), .ref (ad (1 + d) 3), .ref (ad (1 + d) 4), .int sd_1]) := q0_1
  have m_3 : (1 + d, 0) ∈ RL := hm_1 0 (by decide)
  have c_4 : E (1 + d) 1 = .inr (8, [.ref (ad (1 + d) 5), .int (nI k0_1)]) := q1_1
  have m_5 : (1 + d, 1) ∈ RL := hm_1 1 (by decide)
  have c_6 : E (1 + d) 2 = .inr (8, [.ref (ad (1 + d) 6), .int (nI k1_1)]) := q2_1
  have m_7 : (1 + d, 2) ∈ RL := hm_1 2 (by decide)
  have c_8 : E (1 + d) 3 = .inr (8, [.ref (ad (1 + d) 7), .int (nI k2_1)]) := q3_1
  have m_9 : (1 + d, 3) ∈ RL := hm_1 3 (by decide)
  have c_10 : E (1 + d) 4 = .inr (8, [.ref (ad (1 + d) 8), .int (nI k3_1)]) := q4_1
  have m_11 : (1 + d, 4) ∈ RL := hm_1 4 (by decide)
  have c_12 : E (1 + d) 5 = .inl (kA 0, 6, .inl f0_1) := q5_1
  have m_13 : (1 + d, 5) ∈ RL := hm_1 5 (by decide)
  have c_14 : E (1 + d) 6 = .inl (kA 0, 5, .inl f1_1) := q6_1
  have m_15 : (1 + d, 6) ∈ RL := hm_1 6 (by decide)
  have c_16 : E (1 + d) 7 = .inl (kA 0, 3, .inl f2_1) := q7_1
  have m_17 : (1 + d, 7) ∈ RL := hm_1 7 (by decide)
  have c_18 : E (1 + d) 8 = .inl (kA 0, 3, .inl f3_1) := q8_1
  have m_19 : (1 + d, 8) ∈ RL := hm_1 8 (by decide)
  have c_20 : E (1 + d) 9 = .inl (kA 8, 6, .inr (.inr (.inr (.inr fe_1)))) := q9_1
  have m_21 : (1 + d, 9) ∈ RL := hm_1 9 (by decide)
  have c_22 : E (1 + d) 10 = .inl (kA 8, 6, .inr (.inr (.inr (.inr fo_1)))) := q10_1
  have m_23 : (1 + d, 10) ∈ RL := hm_1 10 (by decide)
  have c_24 : E (1 + d) 11 = .inl (kA 2, 5, .inl tr_1) := q11_1
  have m_25 : (1 + d, 11) ∈ RL := hm_1 11 (by decide)
  have c_26 : E (1 + d) 12 = .inl (kA 2, 5, .inl op_1) := q12_1
  have m_27 : (1 + d, 12) ∈ RL := hm_1 12 (by decide)
  have hg_1 : ∀ w9, w9 < k0_1 → fe_1 w9 = some (ad (1 + d) (20 + 3 * w9)) ∧ fo_1 w9 = some (ad (1 + d) (38 + 3 * w9)) ∧ GI kA (ad (1 + d)) (E (1 + d)) (fun o => (1 + d, o) ∈ RL) (20 + 3 * w9) (21 + 3 * w9) (22 + 3 * w9) ∧ GI kA (ad (1 + d)) (E (1 + d)) (fun o => (1 + d, o) ∈ RL) (38 + 3 * w9) (39 + 3 * w9) (40 + 3 * w9) := hg_1
  obtain ⟨⟨tfd_1, tnm_1, tsd_1, tk0_1, tf0_1, tk1_1, tf1_1, tk2_1, tk3_1⟩, tgr_1⟩ := TD_get hk0_1 hk1_1 hk2_1 hk3_1 c_2 c_4 c_6 c_8 c_10 c_12 c_14 c_16 c_18 c_24 c_26 (hTD d (by omega))
  refine px_get (D := D) (ci := 7) (v := .ref (ad (1 + d) 1)) (C := xR_Ds) (T := xT_Ds) (N := 12) hx hb hT xi_Ds hown hK.1 hP m_3 c_2 rfl 3 (by decide) (hT _ k5c_20) (fun _ h9 => h9) rfl xd_Ds_openingOf_1 ?_
  refine lv_iload_n hx hb xd_Ds_openingOf_4 rfl (lv_at hl 1 rfl) ?_
  have hFc := px_free hD hS hA
  refine va_calli (va_runV (As := [.int pn]) (rest := []) ⟨hx, hb, hml, hown, hT⟩ (xc_Na_indexOf l D kA s.heap.size ad E RL (1 + d) 1 5 6 k0_1 f0_1 pn m_5 c_4 m_13 c_12 (by first | assumption | omega) (by first | assumption | omega)) (cwV 1 hT (wT_V k5c_22 k5c_23 k5c_24 k5c_14 k5c_21) rfl rfl rfl (by decide +kernel) ⟨Nat.le_of_ble_eq_true rfl, Nat.le_of_ble_eq_true rfl⟩) (px_preV hK hP hD m_5 c_4 rfl) rfl rfl hl.1 rfl (lv_room (Nat.le_of_ble_eq_true rfl)) xd_Ds_openingOf_5 ⟨(Nat.le_of_ble_eq_true rfl), (Nat.le_of_ble_eq_true rfl)⟩) hS (fun q _ h => hFc q h) hFc (fun r28 u29 t H1 locs ht hvm hp30 hB hz1 hk1 hS => ?_)
  obtain ⟨hP1, hD1⟩ := hB
  rw [ht] at hP1
  have hD1 := hD1.weaken (fun _ _ _ h => hFc _ h)
  generalize H1 = H at hP1 hS ⊢
  have hP := hP1
  have hD := hD1
  have hP : va_P D xcl (rp ad E RL) H := hP
  have hD : va_D A (rp ad E RL) := hD
  rcases hp30 with ⟨z31, z32, rfl, z33, z34⟩ | ⟨rfl, z35⟩
  · refine W.eq (g2 := F0 m 8 ls [.int (nI z31)]) rfl ?_
    refine lv_istore_n hx hb xd_Ds_openingOf_8 rfl hl (Nat.le_of_ble_eq_true rfl) rfl (fun ls hl => ?_)
    have hl : lv_has ls 3 [(2, .int (nI z31)), (0, .ref (ad (1 + d) 0)), (1, .int pn)] := hl
    refine lv_iload_n hx hb xd_Ds_openingOf_9 rfl (lv_at hl 0 rfl) ?_
    refine xz_ge (a := z31) (tgt := 17) hx hb xd_Ds_openingOf_10 (by decide) (by omega) ?_
    refine lv_aload_n hx hb xd_Ds_openingOf_17 rfl (lv_at hl 1 rfl) ?_
    refine px_get (D := D) (ci := 7) (v := .ref (ad (1 + d) 10)) (C := xR_Ds) (T := xT_Ds) (N := 12) hx hb hT xi_Ds hown hK.1 hP m_3 c_2 rfl 5 (by decide) (hT _ k5c_26) (fun _ h9 => h9) rfl xd_Ds_openingOf_18 ?_
    refine lv_iload_n hx hb xd_Ds_openingOf_21 rfl (lv_at hl 0 rfl) ?_
    refine px_aald (i := z31) (x := (some (ad (1 + d) (38 + 3 * z31)))) hx hb hK.1 hP m_23 c_22 8 rfl ((hg_1 z31 (by omega)).2.1) (by omega) (by decide) xd_Ds_openingOf_22 ?_
    exact W.aret (v := .ref (ad (1 + d) (38 + 3 * z31))) hx hb hr (Or.inl ⟨_, rfl⟩) (Or.inr ⟨_, rfl⟩) (fun t ht hW => ⟨⟨(some (ad (1 + d) (38 + 3 * z31))), (), rfl, Or.inr ⟨z31, by omega, rfl, (hg_1 z31 (by omega)).2.2.2, pI_y hk0_1 tk0_1 tf0_1 z32 z33 z34⟩, by rw [ht]; exact hP, hD⟩, hS.F ht⟩) hS.2.2 xd_Ds_openingOf_23
  · refine W.eq (g2 := F0 m 8 ls [.int (-1)]) rfl ?_
    refine lv_istore_n hx hb xd_Ds_openingOf_8 rfl hl (Nat.le_of_ble_eq_true rfl) rfl (fun ls hl => ?_)
    have hl : lv_has ls 3 [(2, .int (-1)), (0, .ref (ad (1 + d) 0)), (1, .int pn)] := hl
    refine lv_iload_n hx hb xd_Ds_openingOf_9 rfl (lv_at hl 0 rfl) ?_
    refine lv_if_ge (tgt := 17) hx hb xd_Ds_openingOf_10 (by decide) (fun hc37 => absurd hc37 (by decide)) (fun _ => ?_)
    refine lv_null hx hb xd_Ds_openingOf_13 ?_
    refine lv_goto (tgt := 23) hx hb xd_Ds_openingOf_14 (by decide) ?_
    exact W.aret (v := .null) hx hb hr (Or.inl ⟨_, rfl⟩) (Or.inl rfl) (fun t ht hW => ⟨⟨none, (), rfl, Or.inl ⟨rfl, pI_x hk0_1 tk0_1 tf0_1 z35⟩, by rw [ht]; exact hP, hD⟩, hS.F ht⟩) hS.2.2 xd_Ds_openingOf_23
set_option maxHeartbeats 4000000 in
set_option maxRecDepth 100000 in
theorem xc_Ds_exportsToX (l : Launch) (D : va_G) (kA : Nat → ClassId) (sz : Nat) (ad : Nat → Nat → Nat) (E : Nat → Nat → va_E) (RL : List (Nat × Nat)) (g : Nat → Nat → Int32) (nd : Nat) (d : Nat) (pn : Int32) (rd : Int32) (hDIs : DIs kA ad E RL nd) (hd : d < nd) (hTD : TDs g E nd) (hrd0 : ¬ rd = 0) : Met l xy_Ds_exportsTo (.code xy_Ds_exportsTo xb_Ds_exportsTo 4 (some .boolean) :: wT) { frames := 2, cells := 0, slots := 0, locals := 43 } (va_Pc [.ref (ad (1 + d) 0), .int pn, .int rd] (xPre D kA sz (rp ad E RL))) (va_Qi (fun (r : Int32) (u : Unit) => (r = 1 ∧ (∃ i, pI g d pn = some i ∧ exP g (6 * d + i) rd)) ∨ (r = 0 ∧ ¬ (∃ i, pI g d pn = some i ∧ exP g (6 * d + i) rd))) (fun (u : Unit) t => va_P D xcl (rp ad E RL) t.heap ∧ va_D (va_A (rp ad E RL) sz) (rp ad E RL)) (va_A (rp ad E RL) sz)) 0 0 (va_A (rp ad E RL) sz) := by
  refine Met.ofW (cc := xb_Ds_exportsTo) (maxL := 4) (ret := (some .boolean)) (by decide) rfl ?_
  intro p e s m args below meth c s₁ B hml hv
  obtain ⟨rfl, hsz, hP, hK, hD0⟩ := hv
  have hx := B.exec
  have hb := B.bytes
  have hr := B.returns
  have hT := x_hT B.pre
  have hown : s.vm.findClass xR_Ds = some m.cls := findClass_of_methodNamed B.named
  have hlocks := B.notSynchronized
  subst hsz
  have hD := hD0.self (sz := s.heap.size)
  generalize hAe : va_A (rp ad E RL) s.heap.size = A at hD ⊢
  have hA : ∀ q : Nat, s.heap.size ≤ q → A q := fun q h => by rw [← hAe]; exact Or.inr h
  have hS : va_S A s.heap s.heap [] := va_S.rf
  have hl := lv_entry ([.ref (ad (1 + d) 0), .int pn, .int rd]) (n := 4) (Nat.le_of_ble_eq_true rfl)
  rw [lg_entry_eq]
  generalize (lg_sl ([.ref (ad (1 + d) 0), .int pn, .int rd]) ++ List.replicate (4 - (lg_sl ([.ref (ad (1 + d) 0), .int pn, .int rd])).length) Slot.unset).toArray = ls at hl ⊢
  have hl : lv_has ls 4 [(0, .ref (ad (1 + d) 0)), (1, .int pn), (2, .int rd)] := hl
  have hP : va_P D xcl (rp ad E RL) s.heap := hP
  refine lv_aload_n hx hb xd_Ds_exportsTo_0 rfl (lv_at hl 0 rfl) ?_
  obtain ⟨hm_1, fd_1, nm_1, sd_1, k0_1, k1_1, k2_1, k3_1, f0_1, f1_1, f2_1, f3_1, fe_1, fo_1, tr_1, op_1, hk0_1, hk1_1, hk2_1, hk3_1, q0_1, q1_1, q2_1, q3_1, q4_1, q5_1, q6_1, q7_1, q8_1, q9_1, q10_1, q11_1, q12_1, hg_1⟩ := id (hDIs d (by omega))
  have c_2 : E (1 + d) 0 = .inr (7, [.int (nI d), .int fd_1, .int nm_1, .ref (ad (1 + d) 1), .ref (ad (1 + d) 9), .ref (ad (1 + d) 10), .ref (ad (1 + d) 2), .ref (ad (1 + d) 11), .ref (ad (1 + d) 12), .ref (ad (1 + d) 3), .ref (ad (1 + d) 4), .int sd_1]) := q0_1
  have m_3 : (1 + d, 0) ∈ RL := hm_1 0 (by decide)
  have c_4 : E (1 + d) 1 = .inr (8, [.ref (ad (1 + d) 5), .int (nI k0_1)]) := q1_1
  have m_5 : (1 + d, 1) ∈ RL := hm_1 1 (by decide)
  have c_6 : E (1 + d) 2 = .inr (8, [.ref (ad (1 + d) 6), .int (nI k1_1)]) := q2_1
  have m_7 : (1 + d, 2) ∈ RL := hm_1 2 (by decide)
  have c_8 : E (1 + d) 3 = .inr (8, [.ref (ad (1 + d) 7), .int (nI k2_1)]) := q3_1
  have m_9 : (1 + d, 3) ∈ RL := hm_1 3 (by decide)
  have c_10 : E (1 + d) 4 = .inr (8, [.ref (ad (1 + d) 8), .int (nI k3_1)]) := q4_1
  have m_11 : (1 + d, 4) ∈ RL := hm_1 4 (by decide)
  have c_12 : E (1 + d) 5 = .inl (kA 0, 6, .inl f0_1) := q5_1
  have m_13 : (1 + d, 5) ∈ RL := hm_1 5 (by decide)
  have c_14 : E (1 + d) 6 = .inl (kA 0, 5, .inl f1_1) := q6_1
  have m_15 : (1 + d, 6) ∈ RL := hm_1 6 (by decide)
  have c_16 : E (1 + d) 7 = .inl (kA 0, 3, .inl f2_1) := q7_1
  have m_17 : (1 + d, 7) ∈ RL := hm_1 7 (by decide)
  have c_18 : E (1 + d) 8 = .inl (kA 0, 3, .inl f3_1) := q8_1
  have m_19 : (1 + d, 8) ∈ RL := hm_1 8 (by decide)
  have c_20 : E (1 + d) 9 = .inl (kA 8, 6, .inr (.inr (.inr (.inr fe_1)))) := q9_1
  have m_21 : (1 + d, 9) ∈ RL := hm_1 9 (by decide)
  have c_22 : E (1 + d) 10 = .inl (kA 8, 6, .inr (.inr (.inr (.inr fo_1)))) := q10_1
  have m_23 : (1 + d, 10) ∈ RL := hm_1 10 (by decide)
  have c_24 : E (1 + d) 11 = .inl (kA 2, 5, .inl tr_1) := q11_1
  have m_25 : (1 + d, 11) ∈ RL := hm_1 11 (by decide)
  have c_26 : E (1 + d) 12 = .inl (kA 2, 5, .inl op_1) := q12_1
  have m_27 : (1 + d, 12) ∈ RL := hm_1 12 (by decide)
  have hg_1 : ∀ w9, w9 < k0_1 → fe_1 w9 = some (ad (1 + d) (20 + 3 * w9)) ∧ fo_1 w9 = some (ad (1 + d) (38 + 3 * w9)) ∧ GI kA (ad (1 + d)) (E (1 + d)) (fun o => (1 + d, o) ∈ RL) (20 + 3 * w9) (21 + 3 * w9) (22 + 3 * w9) ∧ GI kA (ad (1 + d)) (E (1 + d)) (fun o => (1 + d, o) ∈ RL) (38 + 3 * w9) (39 + 3 * w9) (40 + 3 * w9) := hg_1
  obtain ⟨⟨tfd_1, tnm_1, tsd_1, tk0_1, tf0_1, tk1_1, tf1_1, tk2_1, tk3_1⟩, tgr_1⟩ := TD_get hk0_1 hk1_1 hk2_1 hk3_1 c_2 c_4 c_6 c_8 c_10 c_12 c_14 c_16 c_18 c_24 c_26 (hTD d (by omega))
  refine px_get (D := D) (ci := 7) (v := .ref (ad (1 + d) 1)) (C := xR_Ds) (T := xT_Ds) (N := 12) hx hb hT xi_Ds hown hK.1 hP m_3 c_2 rfl 3 (by decide) (hT _ k5c_20) (fun _ h9 => h9) rfl xd_Ds_exportsTo_1 ?_
  refine lv_iload_n hx hb xd_Ds_exportsTo_4 rfl (lv_at hl 1 rfl) ?_
  have hFc := px_free hD hS hA
  refine va_calli (va_runV (As := [.int pn]) (rest := []) ⟨hx, hb, hml, hown, hT⟩ (xc_Na_indexOf l D kA s.heap.size ad E RL (1 + d) 1 5 6 k0_1 f0_1 pn m_5 c_4 m_13 c_12 (by first | assumption | omega) (by first | assumption | omega)) (cwV 1 hT (wT_V k5c_22 k5c_23 k5c_24 k5c_14 k5c_21) rfl rfl rfl (by decide +kernel) ⟨Nat.le_of_ble_eq_true rfl, Nat.le_of_ble_eq_true rfl⟩) (px_preV hK hP hD m_5 c_4 rfl) rfl rfl hl.1 rfl (lv_room (Nat.le_of_ble_eq_true rfl)) xd_Ds_exportsTo_5 ⟨(Nat.le_of_ble_eq_true rfl), (Nat.le_of_ble_eq_true rfl)⟩) hS (fun q _ h => hFc q h) hFc (fun r28 u29 t H1 locs ht hvm hp30 hB hz1 hk1 hS => ?_)
  obtain ⟨hP1, hD1⟩ := hB
  rw [ht] at hP1
  have hD1 := hD1.weaken (fun _ _ _ h => hFc _ h)
  generalize H1 = H at hP1 hS ⊢
  have hP := hP1
  have hD := hD1
  have hP : va_P D xcl (rp ad E RL) H := hP
  have hD : va_D A (rp ad E RL) := hD
  rcases hp30 with ⟨z31, z32, rfl, z33, z34⟩ | ⟨rfl, z35⟩
  · refine W.eq (g2 := F0 m 8 ls [.int (nI z31)]) rfl ?_
    refine lv_istore_n hx hb xd_Ds_exportsTo_8 rfl hl (Nat.le_of_ble_eq_true rfl) rfl (fun ls hl => ?_)
    have hl : lv_has ls 4 [(3, .int (nI z31)), (0, .ref (ad (1 + d) 0)), (1, .int pn), (2, .int rd)] := hl
    refine lv_iload_n hx hb xd_Ds_exportsTo_9 rfl (lv_at hl 0 rfl) ?_
    refine xz_lt (a := z31) (tgt := 30) hx hb xd_Ds_exportsTo_10 (by decide) (by omega) ?_
    refine lv_aload_n hx hb xd_Ds_exportsTo_13 rfl (lv_at hl 1 rfl) ?_
    refine px_get (D := D) (ci := 7) (v := .ref (ad (1 + d) 9)) (C := xR_Ds) (T := xT_Ds) (N := 12) hx hb hT xi_Ds hown hK.1 hP m_3 c_2 rfl 4 (by decide) (hT _ k5c_25) (fun _ h9 => h9) rfl xd_Ds_exportsTo_14 ?_
    refine lv_iload_n hx hb xd_Ds_exportsTo_17 rfl (lv_at hl 0 rfl) ?_
    refine px_aald (i := z31) (x := (some (ad (1 + d) (20 + 3 * z31)))) hx hb hK.1 hP m_21 c_20 8 rfl ((hg_1 z31 (by omega)).1) (by omega) (by decide) xd_Ds_exportsTo_18 ?_
    refine lv_iload_n hx hb xd_Ds_exportsTo_19 rfl (lv_at hl 3 rfl) ?_
    obtain ⟨m0_37, m1_37, m2_37, ta_37, n_37, f_37, hn_37, q0_37, q1_37, q2_37⟩ := (hg_1 z31 (by omega)).2.2.1
    have c_38 : E (1 + d) (20 + 3 * z31) = .inr (9, [.ref (ad (1 + d) (21 + 3 * z31)), .int ta_37]) := q0_37
    have m_39 : (1 + d, 20 + 3 * z31) ∈ RL := m0_37
    have c_40 : E (1 + d) (21 + 3 * z31) = .inr (8, [.ref (ad (1 + d) (22 + 3 * z31)), .int (nI n_37)]) := q1_37
    have m_41 : (1 + d, 21 + 3 * z31) ∈ RL := m1_37
    have c_42 : E (1 + d) (22 + 3 * z31) = .inl (kA 0, 3, .inl f_37) := q2_37
    have m_43 : (1 + d, 22 + 3 * z31) ∈ RL := m2_37
    have hFc := px_free hD hS hA
    refine va_calli (va_runV (As := [.int rd]) (rest := []) ⟨hx, hb, hml, hown, hT⟩ (xc_Gr_covers l D kA H.size ad E RL (1 + d) (20 + 3 * z31) (21 + 3 * z31) (22 + 3 * z31) ta_37 n_37 f_37 rd m_39 c_38 m_41 c_40 m_43 c_42 (by first | assumption | omega)) (cwV 1 hT (wT_V k5c_27 k5c_6 k5c_7 k5c_8 k5c_4) rfl rfl rfl (by decide +kernel) ⟨Nat.le_of_ble_eq_true rfl, Nat.le_of_ble_eq_true rfl⟩) (px_preV hK hP hD m_39 c_38 rfl) rfl rfl hl.1 rfl (lv_room (Nat.le_of_ble_eq_true rfl)) xd_Ds_exportsTo_20 ⟨(Nat.le_of_ble_eq_true rfl), (Nat.le_of_ble_eq_true rfl)⟩) hS (fun q _ h => hFc q h) hFc (fun r44 u45 t H1 locs ht hvm hp46 hB hz1 hk1 hS => ?_)
    obtain ⟨hP1, hD1⟩ := hB
    rw [ht] at hP1
    have hD1 := hD1.weaken (fun _ _ _ h => hFc _ h)
    generalize H1 = H at hP1 hS ⊢
    have hP := hP1
    have hD := hD1
    have hP : va_P D xcl (rp ad E RL) H := hP
    have hD : va_D A (rp ad E RL) := hD
    rcases hp46 with ⟨rfl, z47⟩ | ⟨rfl, z48, z49⟩
    · refine W.eq (g2 := F0 m 23 ls [.int 1]) rfl ?_
      refine lv_if_eq (tgt := 30) hx hb xd_Ds_exportsTo_23 (by decide) (fun hc50 => absurd hc50 (by decide)) (fun _ => ?_)
      refine lv_iconst (v := 1) hx hb xd_Ds_exportsTo_26 (by decide) ?_
      refine lv_goto (tgt := 31) hx hb xd_Ds_exportsTo_27 (by decide) ?_
      exact W.zret (v := 1) hx hb hr rfl (fun t ht hW => ⟨⟨1, (), rfl, Or.inl ⟨rfl, z31, (pI_y hk0_1 tk0_1 tf0_1 z32 z33 z34), (exP_c (p := 6 * d + z31) hn_37 hrd0 (TG_get hn_37 c_38 c_40 c_42 (tgr_1 z31 (by omega)).1).1 (TG_get hn_37 c_38 c_40 c_42 (tgr_1 z31 (by omega)).1).2).mpr z47⟩, by rw [ht]; exact hP, hD⟩, hS.F ht⟩) hS.2.2 xd_Ds_exportsTo_31
    · refine W.eq (g2 := F0 m 23 ls [.int 0]) rfl ?_
      refine lv_if_eq (tgt := 30) hx hb xd_Ds_exportsTo_23 (by decide) (fun _ => ?_) (fun hc51 => absurd (by decide) hc51)
      refine lv_iconst (v := 0) hx hb xd_Ds_exportsTo_30 (by decide) ?_
      exact W.zret (v := 0) hx hb hr rfl (fun t ht hW => ⟨⟨0, (), rfl, Or.inr ⟨rfl, fun ⟨i9, q1, q2⟩ => by
        rw [(pI_y hk0_1 tk0_1 tf0_1 z32 z33 z34)] at q1
        rw [← Option.some.inj q1] at q2
        rcases (exP_c (p := 6 * d + z31) hn_37 hrd0 (TG_get hn_37 c_38 c_40 c_42 (tgr_1 z31 (by omega)).1).1 (TG_get hn_37 c_38 c_40 c_42 (tgr_1 z31 (by omega)).1).2).mp q2 with q | ⟨k9, q3, q4⟩
        · exact q z48
        · exact z49 k9 q3 q4⟩, by rw [ht]; exact hP, hD⟩, hS.F ht⟩) hS.2.2 xd_Ds_exportsTo_31
  · refine W.eq (g2 := F0 m 8 ls [.int (-1)]) rfl ?_
    refine lv_istore_n hx hb xd_Ds_exportsTo_8 rfl hl (Nat.le_of_ble_eq_true rfl) rfl (fun ls hl => ?_)
    have hl : lv_has ls 4 [(3, .int (-1)), (0, .ref (ad (1 + d) 0)), (1, .int pn), (2, .int rd)] := hl
    refine lv_iload_n hx hb xd_Ds_exportsTo_9 rfl (lv_at hl 0 rfl) ?_
    refine lv_if_lt (tgt := 30) hx hb xd_Ds_exportsTo_10 (by decide) (fun _ => ?_) (fun hc52 => absurd (by decide) hc52)
    refine lv_iconst (v := 0) hx hb xd_Ds_exportsTo_30 (by decide) ?_
    exact W.zret (v := 0) hx hb hr rfl (fun t ht hW => ⟨⟨0, (), rfl, Or.inr ⟨rfl, fun ⟨i9, q1, q2⟩ => by rw [pI_x hk0_1 tk0_1 tf0_1 z35] at q1; cases q1⟩, by rw [ht]; exact hP, hD⟩, hS.F ht⟩) hS.2.2 xd_Ds_exportsTo_31
theorem NT_congr {n : Nat} {f to to2 : Nat → Int32} (h : ∀ j, j < 3 → to2 j = to j) (ht : NT n f to) : NT n f to2 := fun j hj => by rw [h j hj]; exact ht j hj
theorem TG_congr {a b c : va_E} {all : Int32} {to to2 : Nat → Int32} (h : ∀ j, j < 3 → to2 j = to j) (ht : TG a b c all to) : TG a b c all to2 := ⟨ht.1, fun q => NT_congr h (ht.2 q)⟩
def AG (g g' : gT) (d : Nat) : Prop := g' 3 d = g 3 d ∧ g' 4 d = g 4 d ∧ g' 5 d = g 5 d ∧ g' 11 d = g 11 d ∧ g' 12 d = g 12 d ∧ (∀ i, i < 6 → g' 6 (6 * d + i) = g 6 (6 * d + i) ∧ g' 9 (6 * d + i) = g 9 (6 * d + i) ∧ g' 10 (6 * d + i) = g 10 (6 * d + i) ∧ ∀ j, j < 3 → g' 7 (3 * (6 * d + i) + j) = g 7 (3 * (6 * d + i) + j) ∧ g' 8 (3 * (6 * d + i) + j) = g 8 (3 * (6 * d + i) + j)) ∧ (∀ i, i < 5 → g' 13 (5 * d + i) = g 13 (5 * d + i) ∧ g' 16 (5 * d + i) = g 16 (5 * d + i) ∧ g' 17 (5 * d + i) = g 17 (5 * d + i)) ∧ ∀ i, i < 3 → g' 14 (3 * d + i) = g 14 (3 * d + i) ∧ g' 15 (3 * d + i) = g 15 (3 * d + i)
theorem TD_AG {g g' : gT} {kA : Nat → ClassId} {d : Nat} {a : Nat → Nat} {e : Nat → va_E} {m : Nat → Prop} (hD : DI kA d a e m) (hA : AG g g' d) (h : TD g e d) : TD g' e d := by
  obtain ⟨_, fd, nm, st, k0, k1, k2, k3, f0, f1, f2, f3, fe, fo, tr, op, g0, g1, g2, g3, c0, c1, c2, c3, c4, c5, c6, c7, c8, c9, c10, c11, c12, hg⟩ := hD
  obtain ⟨⟨t1, t2, t3, t4, t5, t6, t7, t8, t9⟩, tg⟩ := TD_get g0 g1 g2 g3 c0 c1 c2 c3 c4 c5 c6 c7 c8 c11 c12 h
  obtain ⟨q3, q4, q5, q11, q12, q6, q13, q14⟩ := hA
  refine TD_mk g0 g1 g2 g3 c0 c1 c2 c3 c4 c5 c6 c7 c8 c11 c12 ⟨t1.trans q3.symm, t2.trans q4.symm, t3.trans q11.symm, t4.trans q5.symm, fun i hi => by rw [(q6 i (by omega)).1]; exact t5 i hi, t6.trans q12.symm, fun i hi => by rw [(q13 i (by omega)).1, (q13 i (by omega)).2.1, (q13 i (by omega)).2.2]; exact t7 i hi, NT_congr (fun j hj => (q14 j hj).1) t8, NT_congr (fun j hj => (q14 j hj).2) t9⟩ (fun i hi => ?_)
  have q := q6 i (by omega)
  rw [q.2.1, q.2.2.1]
  exact ⟨TG_congr (fun j hj => (q.2.2.2 j hj).1) (tg i hi).1, TG_congr (fun j hj => (q.2.2.2 j hj).2) (tg i hi).2⟩
def pkU (g : gT) (d : Nat) (x : Int32) : gT := va_up (va_up g 5 (upd (g 5) d (nI (iN (g 5 d) + 1)))) 6 (upd (g 6) (6 * d + iN (g 5 d)) x)
theorem TT_P {g : gT} {d : Nat} {fd nm sd x : Int32} {k0 k1 k2 k3 : Nat} {f0 f1 f2 f3 tr op : Nat → Int32} (b0 : k0 ≤ 6) (h : TT g d fd nm sd k0 k1 k2 k3 f0 f1 f2 f3 tr op) : TT (pkU g d x) d fd nm sd (k0 + 1) k1 k2 k3 (upd f0 k0 x) f1 f2 f3 tr op := by
  obtain ⟨t1, t2, t3, t4, t5, t6, t7, t8, t9⟩ := h
  have e : iN (g 5 d) = k0 := by rw [← t4, iN_nI (by omega)]
  refine ⟨t1, t2, t3, ?_, fun i hi => ?_, t6, t7, t8, t9⟩
  · show nI (k0 + 1) = upd (g 5) d (nI (iN (g 5 d) + 1)) d
    rw [pk_us, e]
  · show upd f0 k0 x i = upd (g 6) (6 * d + iN (g 5 d)) x (6 * d + i)
    rw [e]
    by_cases q : i = k0
    · rw [q, pk_us, pk_us]
    · rw [pk_un q, pk_un (by omega)]; exact t5 i (by omega)
theorem AG_P {g : gT} {x d : Nat} {n : Int32} (hk : iN (g 5 x) < 6) (h : d ≠ x) : AG g (pkU g x n) d := by
  refine ⟨rfl, rfl, ?_, rfl, rfl, fun i hi => ⟨?_, rfl, rfl, fun j _ => ⟨rfl, rfl⟩⟩, fun i _ => ⟨rfl, rfl, rfl⟩, fun i _ => ⟨rfl, rfl⟩⟩
  · show upd (g 5) x _ d = _
    rw [pk_un h]
  · show upd (g 6) (6 * x + iN (g 5 x)) n (6 * d + i) = _
    rw [pk_un (by omega)]
def rqU (g : gT) (d : Nat) (x t o : Int32) : gT := va_up (va_up (va_up (va_up g 12 (upd (g 12) d (nI (iN (g 12 d) + 1)))) 13 (upd (g 13) (5 * d + iN (g 12 d)) x)) 16 (upd (g 16) (5 * d + iN (g 12 d)) t)) 17 (upd (g 17) (5 * d + iN (g 12 d)) o)
theorem TT_R {g : gT} {d : Nat} {fd nm sd x t o : Int32} {k0 k1 k2 k3 : Nat} {f0 f1 f2 f3 tr op : Nat → Int32} (b1 : k1 ≤ 5) (h : TT g d fd nm sd k0 k1 k2 k3 f0 f1 f2 f3 tr op) : TT (rqU g d x t o) d fd nm sd k0 (k1 + 1) k2 k3 f0 (upd f1 k1 x) f2 f3 (upd tr k1 t) (upd op k1 o) := by
  obtain ⟨t1, t2, t3, t4, t5, t6, t7, t8, t9⟩ := h
  have e : iN (g 12 d) = k1 := by rw [← t6, iN_nI (by omega)]
  refine ⟨t1, t2, t3, t4, t5, ?_, fun i hi => ?_, t8, t9⟩
  · show nI (k1 + 1) = upd (g 12) d (nI (iN (g 12 d) + 1)) d
    rw [pk_us, e]
  · show upd f1 k1 x i = upd (g 13) (5 * d + iN (g 12 d)) x (5 * d + i) ∧ upd tr k1 t i = upd (g 16) (5 * d + iN (g 12 d)) t (5 * d + i) ∧ upd op k1 o i = upd (g 17) (5 * d + iN (g 12 d)) o (5 * d + i)
    rw [e]
    by_cases q : i = k1
    · rw [q, pk_us, pk_us, pk_us, pk_us, pk_us, pk_us]; exact ⟨rfl, rfl, rfl⟩
    · rw [pk_un q, pk_un q, pk_un q, pk_un (by omega), pk_un (by omega), pk_un (by omega)]; exact t7 i (by omega)
theorem AG_R {g : gT} {x d : Nat} {n t o : Int32} (hk : iN (g 12 x) < 5) (h : d ≠ x) : AG g (rqU g x n t o) d := by
  refine ⟨rfl, rfl, rfl, rfl, ?_, fun i hi => ⟨rfl, rfl, rfl, fun j _ => ⟨rfl, rfl⟩⟩, fun i hi => ⟨?_, ?_, ?_⟩, fun i _ => ⟨rfl, rfl⟩⟩
  · show upd (g 12) x _ d = _
    rw [pk_un h]
  · show upd (g 13) (5 * x + iN (g 12 x)) n (5 * d + i) = _
    rw [pk_un (by omega)]
  · show upd (g 16) (5 * x + iN (g 12 x)) t (5 * d + i) = _
    rw [pk_un (by omega)]
  · show upd (g 17) (5 * x + iN (g 12 x)) o (5 * d + i) = _
    rw [pk_un (by omega)]
theorem NT_add {n : Nat} {f : Nat → Int32} {G : Nat → Int32} {b : Nat} {x : Int32} (hn : n < 3) (hx : 0 < x) (h : NT n f (fun i => G (b + i))) : NT (n + 1) (upd f n x) (fun i => upd G (b + n) x (b + i)) := fun j hj => by
  show (j < n + 1 → upd f n x j = upd G (b + n) x (b + j) ∧ 0 < upd G (b + n) x (b + j)) ∧ (n + 1 ≤ j → upd G (b + n) x (b + j) = 0)
  by_cases q : j = n
  · rw [q, pk_us, pk_us]; exact ⟨fun _ => ⟨rfl, hx⟩, fun z => absurd z (by omega)⟩
  · rw [pk_un q, pk_un (by omega)]; exact ⟨fun z => (h j hj).1 (by omega), fun z => (h j hj).2 (by omega)⟩
theorem NT_sv {n : Nat} {f F : Nat → Int32} {d : Nat} (hn : n < 3) (h : NT n f (fun i => F (3 * d + i))) : svF F d = some n := by
  unfold svF
  refine ff_some hn ((h n hn).2 (Nat.le_refl _)) (fun j hj q => ?_)
  have := ((h j (by omega)).1 hj).2
  have q2 : F (3 * d + j) = 0 := q
  rw [show (fun i => F (3 * d + i)) j = F (3 * d + j) from rfl, q2] at this
  exact absurd this (by decide)
theorem NT_sn {n : Nat} {f F : Nat → Int32} {d : Nat} (hn : 3 ≤ n) (h : NT n f (fun i => F (3 * d + i))) : svF F d = none := by
  unfold svF
  refine ff_none (fun j hj q => ?_)
  have := ((h j hj).1 (by omega)).2
  have q2 : F (3 * d + j) = 0 := q
  rw [show (fun i => F (3 * d + i)) j = F (3 * d + j) from rfl, q2] at this
  exact absurd this (by decide)
theorem AG_S {g : gT} {a x k d : Nat} {n : Int32} (ha : a = 14 ∨ a = 15) (hk : k < 3) (h : d ≠ x) : AG g (va_up g a (upd (g a) (3 * x + k) n)) d := by
  rcases ha with rfl | rfl
  · refine ⟨rfl, rfl, rfl, rfl, rfl, fun i hi => ⟨rfl, rfl, rfl, fun j _ => ⟨rfl, rfl⟩⟩, fun i hi => ⟨rfl, rfl, rfl⟩, fun i hi => ⟨?_, rfl⟩⟩
    show upd (g 14) (3 * x + k) n (3 * d + i) = _
    rw [pk_un (by omega)]
  · refine ⟨rfl, rfl, rfl, rfl, rfl, fun i hi => ⟨rfl, rfl, rfl, fun j _ => ⟨rfl, rfl⟩⟩, fun i hi => ⟨rfl, rfl, rfl⟩, fun i hi => ⟨rfl, ?_⟩⟩
    show upd (g 15) (3 * x + k) n (3 * d + i) = _
    rw [pk_un (by omega)]
theorem TT_S2 {g : gT} {d : Nat} {fd nm sd x : Int32} {k0 k1 k2 k3 : Nat} {f0 f1 f2 f3 tr op : Nat → Int32} (b2 : k2 < 3) (hx : 0 < x) (h : TT g d fd nm sd k0 k1 k2 k3 f0 f1 f2 f3 tr op) : TT (va_up g 14 (upd (g 14) (3 * d + k2) x)) d fd nm sd k0 k1 (k2 + 1) k3 f0 f1 (upd f2 k2 x) f3 tr op := by
  obtain ⟨t1, t2, t3, t4, t5, t6, t7, t8, t9⟩ := h
  exact ⟨t1, t2, t3, t4, t5, t6, t7, NT_add b2 hx t8, t9⟩
theorem TT_S3 {g : gT} {d : Nat} {fd nm sd x : Int32} {k0 k1 k2 k3 : Nat} {f0 f1 f2 f3 tr op : Nat → Int32} (b3 : k3 < 3) (hx : 0 < x) (h : TT g d fd nm sd k0 k1 k2 k3 f0 f1 f2 f3 tr op) : TT (va_up g 15 (upd (g 15) (3 * d + k3) x)) d fd nm sd k0 k1 k2 (k3 + 1) f0 f1 f2 (upd f3 k3 x) tr op := by
  obtain ⟨t1, t2, t3, t4, t5, t6, t7, t8, t9⟩ := h
  exact ⟨t1, t2, t3, t4, t5, t6, t7, t8, NT_add b3 hx t9⟩
theorem TDs_upd {g g' : gT} {kA : Nat → ClassId} {ad : Nat → Nat → Nat} {E E' : Nat → Nat → va_E} {RL : List (Nat × Nat)} {nd x : Nat} (hD : DIs kA ad E RL nd) (hE : ∀ d, d < nd → ¬ d = x → E' (1 + d) = E (1 + d)) (hA : ∀ d, d < nd → ¬ d = x → AG g g' d) (hx : TD g' (E' (1 + x)) x) (h : TDs g E nd) : TDs g' E' nd := fun d hd => by
  by_cases q : d = x
  · rw [q]; exact hx
  · rw [hE d hd q]
    exact TD_AG (hD d hd) (hA d hd q) (h d hd)
theorem TDs_add {g g' : gT} {kA : Nat → ClassId} {ad : Nat → Nat → Nat} {E E' : Nat → Nat → va_E} {RL : List (Nat × Nat)} {nd : Nat} (hD : DIs kA ad E RL nd) (hE : ∀ d, d < nd → E' (1 + d) = E (1 + d)) (hA : ∀ d, d < nd → AG g g' d) (hx : TD g' (E' (1 + nd)) nd) (h : TDs g E nd) : TDs g' E' (nd + 1) := fun d hd => by
  by_cases q : d = nd
  · rw [q]; exact hx
  · rw [hE d (by omega)]
    exact TD_AG (hD d (by omega)) (hA d (by omega)) (h d (by omega))
theorem AG_D {g : gT} {x d : Nat} {f n : Int32} (h : d ≠ x) : AG g (va_up (va_up g 3 (upd (g 3) x f)) 4 (upd (g 4) x n)) d := by
  refine ⟨?_, ?_, rfl, rfl, rfl, fun i hi => ⟨rfl, rfl, rfl, fun j _ => ⟨rfl, rfl⟩⟩, fun i hi => ⟨rfl, rfl, rfl⟩, fun i hi => ⟨rfl, rfl⟩⟩
  · show upd (g 3) x f d = _
    rw [pk_un h]
  · show upd (g 4) x n d = _
    rw [pk_un h]
theorem TT_D {g : gT} {x : Nat} {f n : Int32} {f0 f1 f2 f3 tr op : Nat → Int32} (hz : g 5 x = 0 ∧ g 12 x = 0 ∧ g 11 x = 0 ∧ ∀ i, i < 3 → g 14 (3 * x + i) = 0 ∧ g 15 (3 * x + i) = 0) : TT (va_up (va_up g 3 (upd (g 3) x f)) 4 (upd (g 4) x n)) x f n 0 0 0 0 0 f0 f1 f2 f3 tr op := ⟨pk_us.symm, pk_us.symm, hz.2.2.1.symm, hz.1.symm, fun i hi => absurd hi (by omega), hz.2.1.symm, fun i hi => absurd hi (by omega), fun j hj => ⟨fun q => absurd q (by omega), fun _ => (hz.2.2.2 j hj).1⟩, fun j hj => ⟨fun q => absurd q (by omega), fun _ => (hz.2.2.2 j hj).2⟩⟩
def FRL (ml nd : Nat) (ad ad' : Nat → Nat → Nat) (E E' : Nat → Nat → va_E) : Prop := (∀ n, n < ml → E' (20 + n) = E (20 + n) ∧ ad' (20 + n) = ad (20 + n)) ∧ (∀ d, d < nd → ad' (1 + d) 0 = ad (1 + d) 0) ∧ E' 0 0 = E 0 0
theorem FRL_rf {ml nd : Nat} {ad : Nat → Nat → Nat} {E : Nat → Nat → va_E} : FRL ml nd ad ad E E := ⟨fun _ _ => ⟨rfl, rfl⟩, fun _ _ => rfl, rfl⟩
