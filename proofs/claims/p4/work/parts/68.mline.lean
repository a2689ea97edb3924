theorem k4f_0 : (Cond.fieldLink "LayerDeskModel" 87 "LayerDeskModel" "fault" "I") ∈ wT := wT_t (List.mem_append_right _ (List.mem_append_right _ (List.mem_append_right _ (List.mem_append_left _ (List.mem_of_getElem? (i := 84) rfl))))) rfl
theorem k4f_1 : (Cond.code xy_Mo_split xb_Mo_split 2 none) ∈ wT := wT_t (List.mem_append_right _ (List.mem_append_right _ (List.mem_append_right _ (List.mem_append_left _ (List.mem_of_getElem? (i := 193) rfl))))) rfl
theorem k4f_2 : (Cond.methodLink "LayerDeskModel" 101 xy_Mo_split) ∈ wT := wT_t (List.mem_append_right _ (List.mem_append_right _ (List.mem_append_right _ (List.mem_append_left _ (List.mem_of_getElem? (i := 190) rfl))))) rfl
theorem k4f_3 : (Cond.instanceMethod xy_Mo_split) ∈ wT := wT_t (List.mem_append_right _ (List.mem_append_right _ (List.mem_append_right _ (List.mem_append_left _ (List.mem_of_getElem? (i := 192) rfl))))) rfl
theorem k4f_4 : (Cond.selects "LayerDeskModel" xy_Mo_split xy_Mo_split) ∈ wT := wT_s (q := (xy_Mo_split, 31)) (by decide +kernel) rfl
theorem k4f_5 : (Cond.initialized "LayerDeskModel") ∈ wT := wT_t (List.mem_append_left _ (List.mem_of_getElem? (i := 5) rfl)) rfl
theorem k4f_6 : (Cond.fieldLink "LayerDeskModel" 94 "LayerDeskModel" "words" "I") ∈ wT := wT_t (List.mem_append_right _ (List.mem_append_right _ (List.mem_append_right _ (List.mem_append_left _ (List.mem_of_getElem? (i := 88) rfl))))) rfl
theorem k4f_7 : (Cond.code xy_Mo_fails xb_Mo_fails 2 (some .int)) ∈ wT := wT_t (List.mem_append_right _ (List.mem_append_right _ (List.mem_append_right _ (List.mem_append_right _ (List.mem_of_getElem? (i := 4) rfl))))) rfl
theorem k4f_8 : (Cond.methodLink "LayerDeskModel" 129 xy_Mo_fails) ∈ wT := wT_t (List.mem_append_right _ (List.mem_append_right _ (List.mem_append_right _ (List.mem_append_right _ (List.mem_of_getElem? (i := 1) rfl))))) rfl
theorem k4f_9 : (Cond.instanceMethod xy_Mo_fails) ∈ wT := wT_t (List.mem_append_right _ (List.mem_append_right _ (List.mem_append_right _ (List.mem_append_right _ (List.mem_of_getElem? (i := 3) rfl))))) rfl
theorem k4f_10 : (Cond.selects "LayerDeskModel" xy_Mo_fails xy_Mo_fails) ∈ wT := wT_s (q := (xy_Mo_fails, 31)) (by decide +kernel) rfl
theorem k4f_11 : (Cond.code xy_Mo_code xb_Mo_code 6 (some .int)) ∈ wT := wT_t (List.mem_append_right _ (List.mem_append_right _ (List.mem_append_right _ (List.mem_append_left _ (List.mem_of_getElem? (i := 196) rfl))))) rfl
theorem k4f_12 : (Cond.methodLink "LayerDeskModel" 104 xy_Mo_code) ∈ wT := wT_t (List.mem_append_right _ (List.mem_append_right _ (List.mem_append_right _ (List.mem_append_left _ (List.mem_of_getElem? (i := 194) rfl))))) rfl
theorem k4f_13 : (Cond.static xy_Mo_code) ∈ wT := wT_t (List.mem_append_right _ (List.mem_append_right _ (List.mem_append_right _ (List.mem_append_left _ (List.mem_of_getElem? (i := 195) rfl))))) rfl
theorem k4f_14 : (Cond.code xy_Mo_says xb_Mo_says 8 (some .boolean)) ∈ wT := wT_t (List.mem_append_right _ (List.mem_append_right _ (List.mem_append_right _ (List.mem_append_left _ (List.mem_of_getElem? (i := 200) rfl))))) rfl
theorem k4f_15 : (Cond.methodLink "LayerDeskModel" 108 xy_Mo_says) ∈ wT := wT_t (List.mem_append_right _ (List.mem_append_right _ (List.mem_append_right _ (List.mem_append_left _ (List.mem_of_getElem? (i := 197) rfl))))) rfl
theorem k4f_16 : (Cond.instanceMethod xy_Mo_says) ∈ wT := wT_t (List.mem_append_right _ (List.mem_append_right _ (List.mem_append_right _ (List.mem_append_left _ (List.mem_of_getElem? (i := 199) rfl))))) rfl
theorem k4f_17 : (Cond.selects "LayerDeskModel" xy_Mo_says xy_Mo_says) ∈ wT := wT_s (q := (xy_Mo_says, 31)) (by decide +kernel) rfl
theorem k4f_18 : (Cond.code xy_Mo_newDescriptor xb_Mo_newDescriptor 3 (some .int)) ∈ wT := wT_t (List.mem_append_right _ (List.mem_append_right _ (List.mem_append_right _ (List.mem_append_left _ (List.mem_of_getElem? (i := 208) rfl))))) rfl
theorem k4f_19 : (Cond.methodLink "LayerDeskModel" 112 xy_Mo_newDescriptor) ∈ wT := wT_t (List.mem_append_right _ (List.mem_append_right _ (List.mem_append_right _ (List.mem_append_left _ (List.mem_of_getElem? (i := 205) rfl))))) rfl
theorem k4f_20 : (Cond.instanceMethod xy_Mo_newDescriptor) ∈ wT := wT_t (List.mem_append_right _ (List.mem_append_right _ (List.mem_append_right _ (List.mem_append_left _ (List.mem_of_getElem? (i := 207) rfl))))) rfl
theorem k4f_21 : (Cond.selects "LayerDeskModel" xy_Mo_newDescriptor xy_Mo_newDescriptor) ∈ wT := wT_s (q := (xy_Mo_newDescriptor, 31)) (by decide +kernel) rfl
theorem k4f_22 : (Cond.code xy_Mo_newPackage xb_Mo_newPackage 3 (some .int)) ∈ wT := wT_t (List.mem_append_right _ (List.mem_append_right _ (List.mem_append_right _ (List.mem_append_left _ (List.mem_of_getElem? (i := 220) rfl))))) rfl
theorem k4f_23 : (Cond.methodLink "LayerDeskModel" 116 xy_Mo_newPackage) ∈ wT := wT_t (List.mem_append_right _ (List.mem_append_right _ (List.mem_append_right _ (List.mem_append_left _ (List.mem_of_getElem? (i := 217) rfl))))) rfl
theorem k4f_24 : (Cond.instanceMethod xy_Mo_newPackage) ∈ wT := wT_t (List.mem_append_right _ (List.mem_append_right _ (List.mem_append_right _ (List.mem_append_left _ (List.mem_of_getElem? (i := 219) rfl))))) rfl
theorem k4f_25 : (Cond.selects "LayerDeskModel" xy_Mo_newPackage xy_Mo_newPackage) ∈ wT := wT_s (q := (xy_Mo_newPackage, 31)) (by decide +kernel) rfl
theorem k4f_26 : (Cond.code xy_Mo_shown xb_Mo_shown 8 (some .int)) ∈ wT := wT_t (List.mem_append_right _ (List.mem_append_right _ (List.mem_append_right _ (List.mem_append_left _ (List.mem_of_getElem? (i := 232) rfl))))) rfl
theorem k4f_27 : (Cond.methodLink "LayerDeskModel" 119 xy_Mo_shown) ∈ wT := wT_t (List.mem_append_right _ (List.mem_append_right _ (List.mem_append_right _ (List.mem_append_left _ (List.mem_of_getElem? (i := 229) rfl))))) rfl
theorem k4f_28 : (Cond.instanceMethod xy_Mo_shown) ∈ wT := wT_t (List.mem_append_right _ (List.mem_append_right _ (List.mem_append_right _ (List.mem_append_left _ (List.mem_of_getElem? (i := 231) rfl))))) rfl
theorem k4f_29 : (Cond.selects "LayerDeskModel" xy_Mo_shown xy_Mo_shown) ∈ wT := wT_s (q := (xy_Mo_shown, 31)) (by decide +kernel) rfl
theorem k4f_30 : (Cond.code xy_Mo_newRequire xb_Mo_newRequire 8 (some .int)) ∈ wT := wT_t (List.mem_append_right _ (List.mem_append_right _ (List.mem_append_right _ (List.mem_append_left _ (List.mem_of_getElem? (i := 236) rfl))))) rfl
theorem k4f_31 : (Cond.methodLink "LayerDeskModel" 123 xy_Mo_newRequire) ∈ wT := wT_t (List.mem_append_right _ (List.mem_append_right _ (List.mem_append_right _ (List.mem_append_left _ (List.mem_of_getElem? (i := 233) rfl))))) rfl
theorem k4f_32 : (Cond.instanceMethod xy_Mo_newRequire) ∈ wT := wT_t (List.mem_append_right _ (List.mem_append_right _ (List.mem_append_right _ (List.mem_append_left _ (List.mem_of_getElem? (i := 235) rfl))))) rfl
theorem k4f_33 : (Cond.selects "LayerDeskModel" xy_Mo_newRequire xy_Mo_newRequire) ∈ wT := wT_s (q := (xy_Mo_newRequire, 31)) (by decide +kernel) rfl
theorem k4f_34 : (Cond.code xy_Mo_newService xb_Mo_newService 7 (some .int)) ∈ wT := wT_t (List.mem_append_right _ (List.mem_append_right _ (List.mem_append_right _ (List.mem_append_right _ (List.mem_of_getElem? (i := 0) rfl))))) rfl
theorem k4f_35 : (Cond.methodLink "LayerDeskModel" 126 xy_Mo_newService) ∈ wT := wT_t (List.mem_append_right _ (List.mem_append_right _ (List.mem_append_right _ (List.mem_append_left _ (List.mem_of_getElem? (i := 237) rfl))))) rfl
theorem k4f_36 : (Cond.instanceMethod xy_Mo_newService) ∈ wT := wT_t (List.mem_append_right _ (List.mem_append_right _ (List.mem_append_right _ (List.mem_append_left _ (List.mem_of_getElem? (i := 239) rfl))))) rfl
theorem k4f_37 : (Cond.selects "LayerDeskModel" xy_Mo_newService xy_Mo_newService) ∈ wT := wT_s (q := (xy_Mo_newService, 31)) (by decide +kernel) rfl
set_option maxHeartbeats 4000000 in
set_option maxRecDepth 100000 in
theorem xc_Mo_lineX (l : Launch) (D : va_G) (kA : Nat → ClassId) (sz h : Nat) (mm : Nat → Nat) (v : Nat → Int32) (g : Nat → Nat → Int32) (wr : Nat) (nd : Nat) (hMI : MI v g) (hwr : v 2 = nI wr) (hwr40 : wr ≤ 40) (hnd : v 4 = nI nd) (hnd12 : nd ≤ 12) : Met l xy_Mo_line (.code xy_Mo_line xb_Mo_line 2 (some .int) :: wT) { frames := 3, cells := 0, slots := 0, locals := 76 } (va_Pc [.ref h] (xPre D kA sz (moW h mm kA v g))) (va_Qi (fun (r : Int32) (u : (Nat → Int32) × (Nat → Nat → Int32)) => MI u.1 u.2 ∧ u.1 2 = 0 ∧ u.1 4 = nI (lnF (g 0) (w_all (g 0) wr) nd g).1 ∧ u.1 5 = v 5 ∧ u.1 1 = v 1 ∧ ∀ j, j ≠ 1 → j ≠ 2 → u.2 j = (lnF (g 0) (w_all (g 0) wr) nd g).2 j) (fun (u : (Nat → Int32) × (Nat → Nat → Int32)) t => va_P D xcl (moW h mm kA u.1 u.2) t.heap ∧ va_D (va_A (moW h mm kA v g) sz) (moW h mm kA u.1 u.2)) (va_A (moW h mm kA v g) sz)) 0 0 (va_A (moW h mm kA v g) sz) := by
  refine Met.ofW (cc := xb_Mo_line) (maxL := 2) (ret := (some .int)) (by decide) rfl ?_
  intro p e s m args below meth c s₁ B hml hv
  obtain ⟨rfl, hsz, hP, hK, hD0⟩ := hv
  have hx := B.exec
  have hb := B.bytes
  have hr := B.returns
  have hT := x_hT B.pre
  have hown : s.vm.findClass xR_Mo = some m.cls := findClass_of_methodNamed B.named
  have hlocks := B.notSynchronized
  subst hsz
  have hD := hD0.self (sz := s.heap.size)
  generalize hAe : va_A (moW h mm kA v g) s.heap.size = A at hD ⊢
  have hA : ∀ q : Nat, s.heap.size ≤ q → A q := fun q h => by rw [← hAe]; exact Or.inr h
  have hS : va_S A s.heap s.heap [] := va_S.rf
  have hl := lv_entry ([.ref h]) (n := 2) (Nat.le_of_ble_eq_true rfl)
  rw [lg_entry_eq]
  generalize (lg_sl ([.ref h]) ++ List.replicate (2 - (lg_sl ([.ref h])).length) Slot.unset).toArray = ls at hl ⊢
  have hl : lv_has ls 2 [(0, .ref h)] := hl
  have hP : va_P D xcl (moW h mm kA v g) s.heap := hP
  refine lv_aload_n hx hb xd_Mo_line_0 rfl (lv_at hl 0 rfl) ?_
  refine lv_iconst (v := 0) hx hb xd_Mo_line_1 (by decide) ?_
  refine va_put (D := D) (ci := 4) (v := .int 0) (ty := .int) (C := xR_Mo) (T := xT_Mo) (N := 31) hx hb hT xi_Mo xt_Mo xt_Mo_ok xn_Mo hown hK.1 hP hD hS 0 rfl rfl 0 (by decide) (hT _ k4f_0) (fun _ h9 => h9) rfl (by decide +kernel) rfl rfl (Nat.le_of_ble_eq_true rfl) xd_Mo_line_2 (fun H locs hP hD hS => ?_)
  have hP : va_P D xcl (moW h mm kA (va_up v 0 0) g) H := hP
  have hD : va_D A (moW h mm kA (va_up v 0 0) g) := hD
  refine lv_aload_n hx hb xd_Mo_line_5 rfl (lv_at hl 0 rfl) ?_
  have hFc := va_free (wc := (moW h mm kA (va_up v 0 0) g)) hD hS hA [0, 1, 2, 3, 4, 5, 6, 7, 8, 9, 10, 11, 12, 13, 14, 15, 16, 17, 18, 19, 20, 21, 22, 23, 24, 25] rfl
  refine va_callv (va_runV (As := []) (rest := []) ⟨hx, hb, hml, hown, hT⟩ (xc_Mo_splitX l D kA H.size h mm (va_up v 0 0) g wr (by first | assumption | omega) (by first | assumption | omega)) (cwV 0 hT (wT_V k4f_2 k4f_3 k4f_4 k4f_5 k4f_1) rfl rfl rfl (by decide +kernel) ⟨Nat.le_of_ble_eq_true rfl, Nat.le_of_ble_eq_true rfl⟩) (x_preV hK hP hD 0 rfl rfl) rfl rfl hl.1 rfl (lv_room (Nat.le_of_ble_eq_true rfl)) xd_Mo_line_6 ⟨Nat.le_of_ble_eq_true rfl, Nat.le_of_ble_eq_true rfl⟩) hS (fun q _ h => hFc q h) hFc (fun u2 t H1 locs ht hvm hp3 hB hz1 hk1 hS => ?_)
  obtain ⟨hP1, hD1⟩ := hB
  rw [ht] at hP1
  have hD1 := hD1.weaken (fun _ _ _ h => hFc _ h)
  obtain ⟨v4, g5⟩ := u2
  generalize H1 = H at hP1 hS ⊢
  have hP := hP1
  have hD := hD1
  have hP : va_P D xcl (moW h mm kA v4 g5) H := hP
  have hD : va_D A (moW h mm kA v4 g5) := hD
  obtain ⟨hv9, hgk, hfT⟩ := hp3
  obtain ⟨wl, hwl⟩ : ∃ z, z = w_all (g 0) wr := ⟨_, rfl⟩
  have hv9 : v4 = (va_up (va_up (va_up v 0 0) 2 0) 3 (nI (wl.length))) := by rw [hwl]; exact hv9
  subst hv9
  have hgk : ∀ j, j ≠ 1 → j ≠ 2 → g5 j = g j := hgk
  have hws : ∀ i, i < wl.length → g5 1 i = nI (wb wl i) ∧ g5 2 i = nI (we wl i) := by rw [hwl]; exact hfT
  have hwlr0 : WL wl := by rw [hwl]; exact WL_all _ hwr40
  obtain ⟨hwn20, hwlr⟩ := id hwlr0
  have hM1 : MI (va_up (va_up (va_up v 0 0) 2 0) 3 (nI (wl.length))) g5 := MI_g (hgk 0 (by decide) (by decide)) (hgk 3 (by decide) (by decide)) (hgk 4 (by decide) (by decide)) (hgk 5 (by decide) (by decide)) (hgk 12 (by decide) (by decide)) (hgk 19 (by decide) (by decide)) (hgk 20 (by decide) (by decide)) (hgk 21 (by decide) (by decide)) (MI_v rfl rfl hMI)
  have hW1 : WX (va_up (va_up (va_up v 0 0) 2 0) 3 (nI (wl.length))) g5 wl := ⟨rfl, hwlr0, hws⟩
  have hch := hM1.2.2.1
  have hgC : g5 = gC g (g5 1) (g5 2) := gC_of hgk
  have hg0 : g5 0 = g 0 := hgk 0 (by decide) (by decide)
  have hLn : lnF (g5 0) wl nd g5 = ((lnF (g 0) wl nd g).1, gC (lnF (g 0) wl nd g).2 (g5 1) (g5 2)) := by
    have q := lnF_gC (t := g 0) (wl := wl) (nd := nd) (g := g) (x := g5 1) (y := g5 2)
    rw [← hgC] at q
    rw [hg0]; exact q
  have hP : va_P D xcl (moW h mm kA (va_up (va_up (va_up v 0 0) 2 0) 3 (nI (wl.length))) g5) H := hP
  have hD : va_D A (moW h mm kA (va_up (va_up (va_up v 0 0) 2 0) 3 (nI (wl.length))) g5) := hD
  refine lv_aload_n hx hb xd_Mo_line_9 rfl (lv_at hl 0 rfl) ?_
  refine va_get (D := D) (ci := 4) (v := .int (nI (wl.length))) (C := xR_Mo) (T := xT_Mo) (N := 31) hx hb hT xi_Mo hown hK.1 hP 0 rfl rfl 4 (by decide) (hT _ k4f_6) (fun _ h9 => h9) rfl xd_Mo_line_10 ?_
  refine xz_ne (a := wl.length) (tgt := 18) hx hb xd_Mo_line_13 (by decide) (by omega) (fun hc6 => ?_) (fun hc6 => ?_)
  · refine xjoin (D := D) (cl := xcl) (A := A) (H0 := s.heap) (σ := Int32 × (Nat → Int32) × (Nat → Nat → Int32)) (ml := 2) 276 (fun (ans, v2, g2) => [(1, .int ans), (0, .ref h)]) (fun (ans, v2, g2) => []) (fun (ans, v2, g2) => moW h mm kA v2 g2) (fun (ans, v2, g2) => (MI v2 g2) ∧ (v2 2 = 0) ∧ (v2 4 = nI (lnF (g5 0) wl nd g5).1 ∧ g2 = (lnF (g5 0) wl nd g5).2 ∧ v2 5 = v 5 ∧ v2 1 = v 1)) ?_ (fun jn7 => ?_)
    · intro a9 ls H locs hl hP hD hS hI
      obtain ⟨ans, v2, g2⟩ := a9
      obtain ⟨hm2, hv2, hL⟩ := hI
      have hm2 : MI v2 g2 := hm2
      have hv2 : v2 2 = 0 := hv2
      have hL : v2 4 = nI (lnF (g5 0) wl nd g5).1 ∧ g2 = (lnF (g5 0) wl nd g5).2 ∧ v2 5 = v 5 ∧ v2 1 = v 1 := hL
      have hl : lv_has ls 2 [(1, .int ans), (0, .ref h)] := hl
      have hP : va_P D xcl (moW h mm kA v2 g2) H := hP
      have hD : va_D A (moW h mm kA v2 g2) := hD
      refine lv_iload_n hx hb xd_Mo_line_276 rfl (lv_at hl 0 rfl) ?_
      refine lv_if_ge (tgt := 296) hx hb xd_Mo_line_277 (by decide) (fun hc8 => ?_) (fun hc8 => ?_)
      · refine lv_iload_n hx hb xd_Mo_line_296 rfl (lv_at hl 0 rfl) ?_
        exact W.iret (v := ans) hx hb hr (fun t ht hW => ⟨⟨ans, (v2, g2), rfl, ⟨hm2, hv2, by rw [← hwl]; exact hL.1.trans (by rw [hLn]), hL.2.2.1, hL.2.2.2, fun j h1 h2 => by rw [← hwl]; exact (congrFun hL.2.1 j).trans (by rw [hLn]; exact gC_ne h1 h2)⟩, by rw [ht]; exact hP, hD⟩, hS.F ht⟩) hS.2.2 xd_Mo_line_297
      · refine lv_aload_n hx hb xd_Mo_line_280 rfl (lv_at hl 1 rfl) ?_
        refine lv_iload_n hx hb xd_Mo_line_281 rfl (lv_at hl 0 rfl) ?_
        refine lv_bipush (v := (-2)) hx hb xd_Mo_line_282 (by decide) ?_
        refine lv_icmp_ne (tgt := 291) hx hb xd_Mo_line_284 (by decide) (fun hc9 => ?_) (fun hc9 => ?_)
        · refine lv_iconst (v := 1) hx hb xd_Mo_line_291 (by decide) ?_
          have hFc := va_free (wc := (moW h mm kA v2 g2)) hD hS hA [0, 1, 2, 3, 4, 5, 6, 7, 8, 9, 10, 11, 12, 13, 14, 15, 16, 17, 18, 19, 20, 21, 22, 23, 24, 25] rfl
          refine va_calli (va_runV (As := [.int 1]) (rest := []) ⟨hx, hb, hml, hown, hT⟩ (xc_Mo_fails l D kA H.size h mm v2 g2 1) (cwV 1 hT (wT_V k4f_8 k4f_9 k4f_10 k4f_5 k4f_7) rfl rfl rfl (by decide +kernel) ⟨Nat.le_of_ble_eq_true rfl, Nat.le_of_ble_eq_true rfl⟩) (x_preV hK hP hD 0 rfl rfl) rfl rfl hl.1 rfl (lv_room (Nat.le_of_ble_eq_true rfl)) xd_Mo_line_292 ⟨Nat.le_of_ble_eq_true rfl, Nat.le_of_ble_eq_true rfl⟩) hS (fun q _ h => hFc q h) hFc (fun r10 u11 t H1 locs ht hvm hp12 hB hz1 hk1 hS => ?_)
          obtain ⟨hP1, hD1⟩ := hB
          rw [ht] at hP1
          have hD1 := hD1.weaken (fun _ _ _ h => hFc _ h)
          obtain ⟨v13, g14⟩ := u11
          generalize H1 = H at hP1 hS ⊢
          have hP := hP1
          have hD := hD1
          have hP : va_P D xcl (moW h mm kA v13 g14) H := hP
          have hD : va_D A (moW h mm kA v13 g14) := hD
          obtain ⟨hr9, hu9⟩ := hp12
          subst hr9
          obtain ⟨hu1, hu2⟩ := Prod.mk.inj hu9
          subst hu1
          have hu2 := hu2.symm
          subst hu2
          have hP : va_P D xcl (moW h mm kA (va_up v2 0 1) g2) H := hP
          have hD : va_D A (moW h mm kA (va_up v2 0 1) g2) := hD
          exact W.iret (v := 0) hx hb hr (fun t ht hW => ⟨⟨0, ((va_up v2 0 1), g2), rfl, ⟨MI_v rfl rfl hm2, hv2, by rw [← hwl]; exact hL.1.trans (by rw [hLn]), hL.2.2.1, hL.2.2.2, fun j h1 h2 => by rw [← hwl]; exact (congrFun hL.2.1 j).trans (by rw [hLn]; exact gC_ne h1 h2)⟩, by rw [ht]; exact hP, hD⟩, hS.F ht⟩) hS.2.2 xd_Mo_line_295
        · refine lv_iconst (v := 2) hx hb xd_Mo_line_287 (by decide) ?_
          refine lv_goto (tgt := 292) hx hb xd_Mo_line_288 (by decide) ?_
          have hFc := va_free (wc := (moW h mm kA v2 g2)) hD hS hA [0, 1, 2, 3, 4, 5, 6, 7, 8, 9, 10, 11, 12, 13, 14, 15, 16, 17, 18, 19, 20, 21, 22, 23, 24, 25] rfl
          refine va_calli (va_runV (As := [.int 2]) (rest := []) ⟨hx, hb, hml, hown, hT⟩ (xc_Mo_fails l D kA H.size h mm v2 g2 2) (cwV 1 hT (wT_V k4f_8 k4f_9 k4f_10 k4f_5 k4f_7) rfl rfl rfl (by decide +kernel) ⟨Nat.le_of_ble_eq_true rfl, Nat.le_of_ble_eq_true rfl⟩) (x_preV hK hP hD 0 rfl rfl) rfl rfl hl.1 rfl (lv_room (Nat.le_of_ble_eq_true rfl)) xd_Mo_line_292 ⟨Nat.le_of_ble_eq_true rfl, Nat.le_of_ble_eq_true rfl⟩) hS (fun q _ h => hFc q h) hFc (fun r15 u16 t H1 locs ht hvm hp17 hB hz1 hk1 hS => ?_)
          obtain ⟨hP1, hD1⟩ := hB
          rw [ht] at hP1
          have hD1 := hD1.weaken (fun _ _ _ h => hFc _ h)
          obtain ⟨v18, g19⟩ := u16
          generalize H1 = H at hP1 hS ⊢
          have hP := hP1
          have hD := hD1
          have hP : va_P D xcl (moW h mm kA v18 g19) H := hP
          have hD : va_D A (moW h mm kA v18 g19) := hD
          obtain ⟨hr9, hu9⟩ := hp17
          subst hr9
          obtain ⟨hu1, hu2⟩ := Prod.mk.inj hu9
          subst hu1
          have hu2 := hu2.symm
          subst hu2
          have hP : va_P D xcl (moW h mm kA (va_up v2 0 2) g2) H := hP
          have hD : va_D A (moW h mm kA (va_up v2 0 2) g2) := hD
          exact W.iret (v := 0) hx hb hr (fun t ht hW => ⟨⟨0, ((va_up v2 0 2), g2), rfl, ⟨MI_v rfl rfl hm2, hv2, by rw [← hwl]; exact hL.1.trans (by rw [hLn]), hL.2.2.1, hL.2.2.2, fun j h1 h2 => by rw [← hwl]; exact (congrFun hL.2.1 j).trans (by rw [hLn]; exact gC_ne h1 h2)⟩, by rw [ht]; exact hP, hD⟩, hS.F ht⟩) hS.2.2 xd_Mo_line_295
    have hbe0 := (hwlr 0 (by omega)).1
    have he0 := (hwlr 0 (by omega)).2
    have eb0 := (hws 0 (by omega)).1
    have ee0 := (hws 0 (by omega)).2
    have hnd9 : (va_up (va_up (va_up v 0 0) 2 0) 3 (nI (wl.length))) 4 = nI nd := hnd
    refine lv_iconst (v := (-1)) hx hb xd_Mo_line_18 (by decide) ?_
    refine lv_istore_n hx hb xd_Mo_line_19 rfl hl (Nat.le_of_ble_eq_true rfl) rfl (fun ls hl => ?_)
    have hl : lv_has ls 2 [(1, .int (-1)), (0, .ref h)] := hl
    refine lv_aload_n hx hb xd_Mo_line_20 rfl (lv_at hl 1 rfl) ?_
    refine lv_iconst (v := 0) hx hb xd_Mo_line_21 (by decide) ?_
    refine lv_bipush (v := 109) hx hb xd_Mo_line_22 (by decide) ?_
    refine lv_bipush (v := 111) hx hb xd_Mo_line_24 (by decide) ?_
    refine lv_bipush (v := 100) hx hb xd_Mo_line_26 (by decide) ?_
    refine lv_bipush (v := 117) hx hb xd_Mo_line_28 (by decide) ?_
    refine lv_bipush (v := 108) hx hb xd_Mo_line_30 (by decide) ?_
    have hFc := va_free (wc := (moW h mm kA (va_up (va_up (va_up v 0 0) 2 0) 3 (nI (wl.length))) g5)) hD hS hA [0, 1, 2, 3, 4, 5, 6, 7, 8, 9, 10, 11, 12, 13, 14, 15, 16, 17, 18, 19, 20, 21, 22, 23, 24, 25] rfl
    refine va_calli (va_runS (As := [.int 109, .int 111, .int 100, .int 117, .int 108]) (rest := [.int 0, .ref h]) ⟨hx, hb, hml, hown, hT⟩ (xc_Mo_codeX l D kA H.size h mm (va_up (va_up (va_up v 0 0) 2 0) 3 (nI (wl.length))) g5 109 111 100 117 108) (cwS 5 hT (wT_S0 k4f_12 k4f_13 k4f_5 k4f_11) rfl rfl rfl (by decide +kernel) ⟨Nat.le_of_ble_eq_true rfl, Nat.le_of_ble_eq_true rfl⟩) (x_preS hK hP hD) rfl rfl hl.1 rfl (lv_room (Nat.le_of_ble_eq_true rfl)) xd_Mo_line_32 ⟨Nat.le_of_ble_eq_true rfl, Nat.le_of_ble_eq_true rfl⟩) hS (fun q _ h => hFc q h) hFc (fun r20 u21 t H1 locs ht hvm hp22 hB hz1 hk1 hS => ?_)
    obtain ⟨hP1, hD1⟩ := hB
    rw [ht] at hP1
    have hD1 := hD1.weaken (fun _ _ _ h => hFc _ h)
    generalize H1 = H at hP1 hS ⊢
    have hP := hP1
    have hD := hD1
    have hP : va_P D xcl (moW h mm kA (va_up (va_up (va_up v 0 0) 2 0) 3 (nI (wl.length))) g5) H := hP
    have hD : va_D A (moW h mm kA (va_up (va_up (va_up v 0 0) 2 0) 3 (nI (wl.length))) g5) := hD
    have hp22 : r20 = cdV 109 111 100 117 108 := hp22
    subst hp22
    have hP : va_P D xcl (moW h mm kA (va_up (va_up (va_up v 0 0) 2 0) 3 (nI (wl.length))) g5) H := hP
    have hD : va_D A (moW h mm kA (va_up (va_up (va_up v 0 0) 2 0) 3 (nI (wl.length))) g5) := hD
    refine lv_bipush (v := 101) hx hb xd_Mo_line_35 (by decide) ?_
    refine lv_iconst (v := 0) hx hb xd_Mo_line_37 (by decide) ?_
    refine lv_iconst (v := 0) hx hb xd_Mo_line_38 (by decide) ?_
    refine lv_iconst (v := 0) hx hb xd_Mo_line_39 (by decide) ?_
    refine lv_iconst (v := 0) hx hb xd_Mo_line_40 (by decide) ?_
    have hFc := va_free (wc := (moW h mm kA (va_up (va_up (va_up v 0 0) 2 0) 3 (nI (wl.length))) g5)) hD hS hA [0, 1, 2, 3, 4, 5, 6, 7, 8, 9, 10, 11, 12, 13, 14, 15, 16, 17, 18, 19, 20, 21, 22, 23, 24, 25] rfl
    refine va_calli (va_runS (As := [.int 101, .int 0, .int 0, .int 0, .int 0]) (rest := [.int (cdV 109 111 100 117 108), .int 0, .ref h]) ⟨hx, hb, hml, hown, hT⟩ (xc_Mo_codeX l D kA H.size h mm (va_up (va_up (va_up v 0 0) 2 0) 3 (nI (wl.length))) g5 101 0 0 0 0) (cwS 5 hT (wT_S0 k4f_12 k4f_13 k4f_5 k4f_11) rfl rfl rfl (by decide +kernel) ⟨Nat.le_of_ble_eq_true rfl, Nat.le_of_ble_eq_true rfl⟩) (x_preS hK hP hD) rfl rfl hl.1 rfl (lv_room (Nat.le_of_ble_eq_true rfl)) xd_Mo_line_41 ⟨Nat.le_of_ble_eq_true rfl, Nat.le_of_ble_eq_true rfl⟩) hS (fun q _ h => hFc q h) hFc (fun r23 u24 t H1 locs ht hvm hp25 hB hz1 hk1 hS => ?_)
    obtain ⟨hP1, hD1⟩ := hB
    rw [ht] at hP1
    have hD1 := hD1.weaken (fun _ _ _ h => hFc _ h)
    generalize H1 = H at hP1 hS ⊢
    have hP := hP1
    have hD := hD1
    have hP : va_P D xcl (moW h mm kA (va_up (va_up (va_up v 0 0) 2 0) 3 (nI (wl.length))) g5) H := hP
    have hD : va_D A (moW h mm kA (va_up (va_up (va_up v 0 0) 2 0) 3 (nI (wl.length))) g5) := hD
    have hp25 : r23 = cdV 101 0 0 0 0 := hp25
    subst hp25
    have hP : va_P D xcl (moW h mm kA (va_up (va_up (va_up v 0 0) 2 0) 3 (nI (wl.length))) g5) H := hP
    have hD : va_D A (moW h mm kA (va_up (va_up (va_up v 0 0) 2 0) 3 (nI (wl.length))) g5) := hD
    have hFc := va_free (wc := (moW h mm kA (va_up (va_up (va_up v 0 0) 2 0) 3 (nI (wl.length))) g5)) hD hS hA [0, 1, 2, 3, 4, 5, 6, 7, 8, 9, 10, 11, 12, 13, 14, 15, 16, 17, 18, 19, 20, 21, 22, 23, 24, 25] rfl
    refine va_calli (va_runV (As := [.int 0, .int (cdV 109 111 100 117 108), .int (cdV 101 0 0 0 0)]) (rest := []) ⟨hx, hb, hml, hown, hT⟩ (xc_Mo_saysX l D kA H.size h mm (va_up (va_up (va_up v 0 0) 2 0) 3 (nI (wl.length))) g5 0 (wb wl 0) (we wl 0) (cdV 109 111 100 117 108) (cdV 101 0 0 0 0) (by first | assumption | omega) (by first | assumption | omega) (by first | assumption | omega) (by first | assumption | omega) (by first | assumption | omega) (by first | assumption | omega)) (cwV 3 hT (wT_V k4f_15 k4f_16 k4f_17 k4f_5 k4f_14) rfl rfl rfl (by decide +kernel) ⟨Nat.le_of_ble_eq_true rfl, Nat.le_of_ble_eq_true rfl⟩) (x_preV hK hP hD 0 rfl rfl) rfl rfl hl.1 rfl (lv_room (Nat.le_of_ble_eq_true rfl)) xd_Mo_line_44 ⟨Nat.le_of_ble_eq_true rfl, Nat.le_of_ble_eq_true rfl⟩) hS (fun q _ h => hFc q h) hFc (fun r26 u27 t H1 locs ht hvm hp28 hB hz1 hk1 hS => ?_)
    obtain ⟨hP1, hD1⟩ := hB
    rw [ht] at hP1
    have hD1 := hD1.weaken (fun _ _ _ h => hFc _ h)
    generalize H1 = H at hP1 hS ⊢
    have hP := hP1
    have hD := hD1
    have hP : va_P D xcl (moW h mm kA (va_up (va_up (va_up v 0 0) 2 0) 3 (nI (wl.length))) g5) H := hP
    have hD : va_D A (moW h mm kA (va_up (va_up (va_up v 0 0) 2 0) 3 (nI (wl.length))) g5) := hD
    rcases hp28 with ⟨rfl, z29⟩ | ⟨rfl, z30⟩
    · refine xz_eq (a := 1) (tgt := 58) hx hb xd_Mo_line_47 (by decide) (by omega) (fun hc31 => absurd hc31 (by omega)) (fun _ => ?_)
      refine lv_aload_n hx hb xd_Mo_line_50 rfl (lv_at hl 1 rfl) ?_
      have hFc := va_free (wc := (moW h mm kA (va_up (va_up (va_up v 0 0) 2 0) 3 (nI (wl.length))) g5)) hD hS hA [0, 1, 2, 3, 4, 5, 6, 7, 8, 9, 10, 11, 12, 13, 14, 15, 16, 17, 18, 19, 20, 21, 22, 23, 24, 25] rfl
      refine va_calli (va_runV (As := []) (rest := []) ⟨hx, hb, hml, hown, hT⟩ (xc_Mo_newDescriptorX l D kA H.size h mm (va_up (va_up (va_up v 0 0) 2 0) 3 (nI (wl.length))) g5 wl nd (by first | assumption | omega) (by first | assumption | omega) (by first | assumption | omega) (by first | assumption | omega)) (cwV 0 hT (wT_V k4f_19 k4f_20 k4f_21 k4f_5 k4f_18) rfl rfl rfl (by decide +kernel) ⟨Nat.le_of_ble_eq_true rfl, Nat.le_of_ble_eq_true rfl⟩) (x_preV hK hP hD 0 rfl rfl) rfl rfl hl.1 rfl (lv_room (Nat.le_of_ble_eq_true rfl)) xd_Mo_line_51 ⟨Nat.le_of_ble_eq_true rfl, Nat.le_of_ble_eq_true rfl⟩) hS (fun q _ h => hFc q h) hFc (fun r32 u33 t H1 locs ht hvm hp34 hB hz1 hk1 hS => ?_)
      obtain ⟨hP1, hD1⟩ := hB
      rw [ht] at hP1
      have hD1 := hD1.weaken (fun _ _ _ h => hFc _ h)
      obtain ⟨v35, g36⟩ := u33
      generalize H1 = H at hP1 hS ⊢
      have hP := hP1
      have hD := hD1
      have hP : va_P D xcl (moW h mm kA v35 g36) H := hP
      have hD : va_D A (moW h mm kA v35 g36) := hD
      refine lv_istore_n hx hb xd_Mo_line_54 rfl hl (Nat.le_of_ble_eq_true rfl) rfl (fun ls hl => ?_)
      have hl : lv_has ls 2 [(1, .int r32), (0, .ref h)] := hl
      refine lv_goto (tgt := 276) hx hb xd_Mo_line_55 (by decide) ?_
      exact jn7 (r32, v35, g36) _ _ _ (lv_sub hl [0, 1] rfl) hP hD hS ⟨(show MI v35 g36 from hp34.1), (show v35 2 = 0 from hp34.2.1), (show v35 4 = nI (lnF (g5 0) wl nd g5).1 ∧ g36 = (lnF (g5 0) wl nd g5).2 ∧ v35 5 = v 5 ∧ v35 1 = v 1 from (by
        have q := hp34.2.2.2
        have q1 := congrArg Prod.fst q
        have q2 := congrArg Prod.snd q
        simp only at q1 q2
        rw [q1, q2, show lnF (g5 0) wl nd g5 = _ from by unfold lnF; rw [cif_pos ⟨by omega, (q_Mo (by omega)).mp z29⟩]]; exact ⟨rfl, rfl, rfl, rfl⟩))⟩
    · refine xz_eq (a := 0) (tgt := 58) hx hb xd_Mo_line_47 (by decide) (by omega) (fun _ => ?_) (fun hc37 => absurd hc37 (by omega))
      refine lv_aload_n hx hb xd_Mo_line_58 rfl (lv_at hl 1 rfl) ?_
      refine lv_iconst (v := 0) hx hb xd_Mo_line_59 (by decide) ?_
      refine lv_bipush (v := 112) hx hb xd_Mo_line_60 (by decide) ?_
      refine lv_bipush (v := 97) hx hb xd_Mo_line_62 (by decide) ?_
      refine lv_bipush (v := 99) hx hb xd_Mo_line_64 (by decide) ?_
      refine lv_bipush (v := 107) hx hb xd_Mo_line_66 (by decide) ?_
      refine lv_bipush (v := 97) hx hb xd_Mo_line_68 (by decide) ?_
      have hFc := va_free (wc := (moW h mm kA (va_up (va_up (va_up v 0 0) 2 0) 3 (nI (wl.length))) g5)) hD hS hA [0, 1, 2, 3, 4, 5, 6, 7, 8, 9, 10, 11, 12, 13, 14, 15, 16, 17, 18, 19, 20, 21, 22, 23, 24, 25] rfl
      refine va_calli (va_runS (As := [.int 112, .int 97, .int 99, .int 107, .int 97]) (rest := [.int 0, .ref h]) ⟨hx, hb, hml, hown, hT⟩ (xc_Mo_codeX l D kA H.size h mm (va_up (va_up (va_up v 0 0) 2 0) 3 (nI (wl.length))) g5 112 97 99 107 97) (cwS 5 hT (wT_S0 k4f_12 k4f_13 k4f_5 k4f_11) rfl rfl rfl (by decide +kernel) ⟨Nat.le_of_ble_eq_true rfl, Nat.le_of_ble_eq_true rfl⟩) (x_preS hK hP hD) rfl rfl hl.1 rfl (lv_room (Nat.le_of_ble_eq_true rfl)) xd_Mo_line_70 ⟨Nat.le_of_ble_eq_true rfl, Nat.le_of_ble_eq_true rfl⟩) hS (fun q _ h => hFc q h) hFc (fun r38 u39 t H1 locs ht hvm hp40 hB hz1 hk1 hS => ?_)
      obtain ⟨hP1, hD1⟩ := hB
      rw [ht] at hP1
      have hD1 := hD1.weaken (fun _ _ _ h => hFc _ h)
      generalize H1 = H at hP1 hS ⊢
      have hP := hP1
      have hD := hD1
      have hP : va_P D xcl (moW h mm kA (va_up (va_up (va_up v 0 0) 2 0) 3 (nI (wl.length))) g5) H := hP
      have hD : va_D A (moW h mm kA (va_up (va_up (va_up v 0 0) 2 0) 3 (nI (wl.length))) g5) := hD
      have hp40 : r38 = cdV 112 97 99 107 97 := hp40
      subst hp40
      have hP : va_P D xcl (moW h mm kA (va_up (va_up (va_up v 0 0) 2 0) 3 (nI (wl.length))) g5) H := hP
      have hD : va_D A (moW h mm kA (va_up (va_up (va_up v 0 0) 2 0) 3 (nI (wl.length))) g5) := hD
      refine lv_bipush (v := 103) hx hb xd_Mo_line_73 (by decide) ?_
      refine lv_bipush (v := 101) hx hb xd_Mo_line_75 (by decide) ?_
      refine lv_iconst (v := 0) hx hb xd_Mo_line_77 (by decide) ?_
      refine lv_iconst (v := 0) hx hb xd_Mo_line_78 (by decide) ?_
      refine lv_iconst (v := 0) hx hb xd_Mo_line_79 (by decide) ?_
      have hFc := va_free (wc := (moW h mm kA (va_up (va_up (va_up v 0 0) 2 0) 3 (nI (wl.length))) g5)) hD hS hA [0, 1, 2, 3, 4, 5, 6, 7, 8, 9, 10, 11, 12, 13, 14, 15, 16, 17, 18, 19, 20, 21, 22, 23, 24, 25] rfl
      refine va_calli (va_runS (As := [.int 103, .int 101, .int 0, .int 0, .int 0]) (rest := [.int (cdV 112 97 99 107 97), .int 0, .ref h]) ⟨hx, hb, hml, hown, hT⟩ (xc_Mo_codeX l D kA H.size h mm (va_up (va_up (va_up v 0 0) 2 0) 3 (nI (wl.length))) g5 103 101 0 0 0) (cwS 5 hT (wT_S0 k4f_12 k4f_13 k4f_5 k4f_11) rfl rfl rfl (by decide +kernel) ⟨Nat.le_of_ble_eq_true rfl, Nat.le_of_ble_eq_true rfl⟩) (x_preS hK hP hD) rfl rfl hl.1 rfl (lv_room (Nat.le_of_ble_eq_true rfl)) xd_Mo_line_80 ⟨Nat.le_of_ble_eq_true rfl, Nat.le_of_ble_eq_true rfl⟩) hS (fun q _ h => hFc q h) hFc (fun r41 u42 t H1 locs ht hvm hp43 hB hz1 hk1 hS => ?_)
      obtain ⟨hP1, hD1⟩ := hB
      rw [ht] at hP1
      have hD1 := hD1.weaken (fun _ _ _ h => hFc _ h)
      generalize H1 = H at hP1 hS ⊢
      have hP := hP1
      have hD := hD1
      have hP : va_P D xcl (moW h mm kA (va_up (va_up (va_up v 0 0) 2 0) 3 (nI (wl.length))) g5) H := hP
      have hD : va_D A (moW h mm kA (va_up (va_up (va_up v 0 0) 2 0) 3 (nI (wl.length))) g5) := hD
      have hp43 : r41 = cdV 103 101 0 0 0 := hp43
      subst hp43
      have hP : va_P D xcl (moW h mm kA (va_up (va_up (va_up v 0 0) 2 0) 3 (nI (wl.length))) g5) H := hP
      have hD : va_D A (moW h mm kA (va_up (va_up (va_up v 0 0) 2 0) 3 (nI (wl.length))) g5) := hD
      have hFc := va_free (wc := (moW h mm kA (va_up (va_up (va_up v 0 0) 2 0) 3 (nI (wl.length))) g5)) hD hS hA [0, 1, 2, 3, 4, 5, 6, 7, 8, 9, 10, 11, 12, 13, 14, 15, 16, 17, 18, 19, 20, 21, 22, 23, 24, 25] rfl
      refine va_calli (va_runV (As := [.int 0, .int (cdV 112 97 99 107 97), .int (cdV 103 101 0 0 0)]) (rest := []) ⟨hx, hb, hml, hown, hT⟩ (xc_Mo_saysX l D kA H.size h mm (va_up (va_up (va_up v 0 0) 2 0) 3 (nI (wl.length))) g5 0 (wb wl 0) (we wl 0) (cdV 112 97 99 107 97) (cdV 103 101 0 0 0) (by first | assumption | omega) (by first | assumption | omega) (by first | assumption | omega) (by first | assumption | omega) (by first | assumption | omega) (by first | assumption | omega)) (cwV 3 hT (wT_V k4f_15 k4f_16 k4f_17 k4f_5 k4f_14) rfl rfl rfl (by decide +kernel) ⟨Nat.le_of_ble_eq_true rfl, Nat.le_of_ble_eq_true rfl⟩) (x_preV hK hP hD 0 rfl rfl) rfl rfl hl.1 rfl (lv_room (Nat.le_of_ble_eq_true rfl)) xd_Mo_line_83 ⟨Nat.le_of_ble_eq_true rfl, Nat.le_of_ble_eq_true rfl⟩) hS (fun q _ h => hFc q h) hFc (fun r44 u45 t H1 locs ht hvm hp46 hB hz1 hk1 hS => ?_)
      obtain ⟨hP1, hD1⟩ := hB
      rw [ht] at hP1
      have hD1 := hD1.weaken (fun _ _ _ h => hFc _ h)
      generalize H1 = H at hP1 hS ⊢
      have hP := hP1
      have hD := hD1
      have hP : va_P D xcl (moW h mm kA (va_up (va_up (va_up v 0 0) 2 0) 3 (nI (wl.length))) g5) H := hP
      have hD : va_D A (moW h mm kA (va_up (va_up (va_up v 0 0) 2 0) 3 (nI (wl.length))) g5) := hD
      rcases hp46 with ⟨rfl, z47⟩ | ⟨rfl, z48⟩
      · refine xz_eq (a := 1) (tgt := 97) hx hb xd_Mo_line_86 (by decide) (by omega) (fun hc49 => absurd hc49 (by omega)) (fun _ => ?_)
        refine lv_aload_n hx hb xd_Mo_line_89 rfl (lv_at hl 1 rfl) ?_
        have hFc := va_free (wc := (moW h mm kA (va_up (va_up (va_up v 0 0) 2 0) 3 (nI (wl.length))) g5)) hD hS hA [0, 1, 2, 3, 4, 5, 6, 7, 8, 9, 10, 11, 12, 13, 14, 15, 16, 17, 18, 19, 20, 21, 22, 23, 24, 25] rfl
        refine va_calli (va_runV (As := []) (rest := []) ⟨hx, hb, hml, hown, hT⟩ (xc_Mo_newPackageX l D kA H.size h mm (va_up (va_up (va_up v 0 0) 2 0) 3 (nI (wl.length))) g5 wl nd (by first | assumption | omega) (by first | assumption | omega) (by first | assumption | omega) (by first | assumption | omega)) (cwV 0 hT (wT_V k4f_23 k4f_24 k4f_25 k4f_5 k4f_22) rfl rfl rfl (by decide +kernel) ⟨Nat.le_of_ble_eq_true rfl, Nat.le_of_ble_eq_true rfl⟩) (x_preV hK hP hD 0 rfl rfl) rfl rfl hl.1 rfl (lv_room (Nat.le_of_ble_eq_true rfl)) xd_Mo_line_90 ⟨Nat.le_of_ble_eq_true rfl, Nat.le_of_ble_eq_true rfl⟩) hS (fun q _ h => hFc q h) hFc (fun r50 u51 t H1 locs ht hvm hp52 hB hz1 hk1 hS => ?_)
        obtain ⟨hP1, hD1⟩ := hB
        rw [ht] at hP1
        have hD1 := hD1.weaken (fun _ _ _ h => hFc _ h)
        obtain ⟨v53, g54⟩ := u51
        generalize H1 = H at hP1 hS ⊢
        have hP := hP1
        have hD := hD1
        have hP : va_P D xcl (moW h mm kA v53 g54) H := hP
        have hD : va_D A (moW h mm kA v53 g54) := hD
        refine lv_istore_n hx hb xd_Mo_line_93 rfl hl (Nat.le_of_ble_eq_true rfl) rfl (fun ls hl => ?_)
        have hl : lv_has ls 2 [(1, .int r50), (0, .ref h)] := hl
        refine lv_goto (tgt := 276) hx hb xd_Mo_line_94 (by decide) ?_
        exact jn7 (r50, v53, g54) _ _ _ (lv_sub hl [0, 1] rfl) hP hD hS ⟨(show MI v53 g54 from hp52.1), (show v53 2 = 0 from hp52.2.1), (show v53 4 = nI (lnF (g5 0) wl nd g5).1 ∧ g54 = (lnF (g5 0) wl nd g5).2 ∧ v53 5 = v 5 ∧ v53 1 = v 1 from (by
        have q := hp52.2.2.2
        have q1 := congrArg Prod.fst q
        have q2 := congrArg Prod.snd q
        simp only at q1 q2
        rw [q1, q2, show lnF (g5 0) wl nd g5 = _ from by unfold lnF; rw [cif_neg (fun q => z30 ((q_Mo (by omega)).mpr q.2)), cif_pos ⟨by omega, (q_Pa (by omega)).mp z47⟩]]; exact ⟨hnd, rfl, rfl, rfl⟩))⟩
      · refine xz_eq (a := 0) (tgt := 97) hx hb xd_Mo_line_86 (by decide) (by omega) (fun _ => ?_) (fun hc55 => absurd hc55 (by omega))
        refine lv_aload_n hx hb xd_Mo_line_97 rfl (lv_at hl 1 rfl) ?_
        refine lv_iconst (v := 0) hx hb xd_Mo_line_98 (by decide) ?_
        refine lv_bipush (v := 101) hx hb xd_Mo_line_99 (by decide) ?_
        refine lv_bipush (v := 120) hx hb xd_Mo_line_101 (by decide) ?_
        refine lv_bipush (v := 112) hx hb xd_Mo_line_103 (by decide) ?_
        refine lv_bipush (v := 111) hx hb xd_Mo_line_105 (by decide) ?_
        refine lv_bipush (v := 114) hx hb xd_Mo_line_107 (by decide) ?_
        have hFc := va_free (wc := (moW h mm kA (va_up (va_up (va_up v 0 0) 2 0) 3 (nI (wl.length))) g5)) hD hS hA [0, 1, 2, 3, 4, 5, 6, 7, 8, 9, 10, 11, 12, 13, 14, 15, 16, 17, 18, 19, 20, 21, 22, 23, 24, 25] rfl
        refine va_calli (va_runS (As := [.int 101, .int 120, .int 112, .int 111, .int 114]) (rest := [.int 0, .ref h]) ⟨hx, hb, hml, hown, hT⟩ (xc_Mo_codeX l D kA H.size h mm (va_up (va_up (va_up v 0 0) 2 0) 3 (nI (wl.length))) g5 101 120 112 111 114) (cwS 5 hT (wT_S0 k4f_12 k4f_13 k4f_5 k4f_11) rfl rfl rfl (by decide +kernel) ⟨Nat.le_of_ble_eq_true rfl, Nat.le_of_ble_eq_true rfl⟩) (x_preS hK hP hD) rfl rfl hl.1 rfl (lv_room (Nat.le_of_ble_eq_true rfl)) xd_Mo_line_109 ⟨Nat.le_of_ble_eq_true rfl, Nat.le_of_ble_eq_true rfl⟩) hS (fun q _ h => hFc q h) hFc (fun r56 u57 t H1 locs ht hvm hp58 hB hz1 hk1 hS => ?_)
        obtain ⟨hP1, hD1⟩ := hB
        rw [ht] at hP1
        have hD1 := hD1.weaken (fun _ _ _ h => hFc _ h)
        generalize H1 = H at hP1 hS ⊢
        have hP := hP1
        have hD := hD1
        have hP : va_P D xcl (moW h mm kA (va_up (va_up (va_up v 0 0) 2 0) 3 (nI (wl.length))) g5) H := hP
        have hD : va_D A (moW h mm kA (va_up (va_up (va_up v 0 0) 2 0) 3 (nI (wl.length))) g5) := hD
        have hp58 : r56 = cdV 101 120 112 111 114 := hp58
        subst hp58
        have hP : va_P D xcl (moW h mm kA (va_up (va_up (va_up v 0 0) 2 0) 3 (nI (wl.length))) g5) H := hP
        have hD : va_D A (moW h mm kA (va_up (va_up (va_up v 0 0) 2 0) 3 (nI (wl.length))) g5) := hD
        refine lv_bipush (v := 116) hx hb xd_Mo_line_112 (by decide) ?_
        refine lv_bipush (v := 115) hx hb xd_Mo_line_114 (by decide) ?_
        refine lv_iconst (v := 0) hx hb xd_Mo_line_116 (by decide) ?_
        refine lv_iconst (v := 0) hx hb xd_Mo_line_117 (by decide) ?_
        refine lv_iconst (v := 0) hx hb xd_Mo_line_118 (by decide) ?_
        have hFc := va_free (wc := (moW h mm kA (va_up (va_up (va_up v 0 0) 2 0) 3 (nI (wl.length))) g5)) hD hS hA [0, 1, 2, 3, 4, 5, 6, 7, 8, 9, 10, 11, 12, 13, 14, 15, 16, 17, 18, 19, 20, 21, 22, 23, 24, 25] rfl
        refine va_calli (va_runS (As := [.int 116, .int 115, .int 0, .int 0, .int 0]) (rest := [.int (cdV 101 120 112 111 114), .int 0, .ref h]) ⟨hx, hb, hml, hown, hT⟩ (xc_Mo_codeX l D kA H.size h mm (va_up (va_up (va_up v 0 0) 2 0) 3 (nI (wl.length))) g5 116 115 0 0 0) (cwS 5 hT (wT_S0 k4f_12 k4f_13 k4f_5 k4f_11) rfl rfl rfl (by decide +kernel) ⟨Nat.le_of_ble_eq_true rfl, Nat.le_of_ble_eq_true rfl⟩) (x_preS hK hP hD) rfl rfl hl.1 rfl (lv_room (Nat.le_of_ble_eq_true rfl)) xd_Mo_line_119 ⟨Nat.le_of_ble_eq_true rfl, Nat.le_of_ble_eq_true rfl⟩) hS (fun q _ h => hFc q h) hFc (fun r59 u60 t H1 locs ht hvm hp61 hB hz1 hk1 hS => ?_)
        obtain ⟨hP1, hD1⟩ := hB
        rw [ht] at hP1
        have hD1 := hD1.weaken (fun _ _ _ h => hFc _ h)
        generalize H1 = H at hP1 hS ⊢
        have hP := hP1
        have hD := hD1
        have hP : va_P D xcl (moW h mm kA (va_up (va_up (va_up v 0 0) 2 0) 3 (nI (wl.length))) g5) H := hP
        have hD : va_D A (moW h mm kA (va_up (va_up (va_up v 0 0) 2 0) 3 (nI (wl.length))) g5) := hD
        have hp61 : r59 = cdV 116 115 0 0 0 := hp61
        subst hp61
        have hP : va_P D xcl (moW h mm kA (va_up (va_up (va_up v 0 0) 2 0) 3 (nI (wl.length))) g5) H := hP
        have hD : va_D A (moW h mm kA (va_up (va_up (va_up v 0 0) 2 0) 3 (nI (wl.length))) g5) := hD
        have hFc := va_free (wc := (moW h mm kA (va_up (va_up (va_up v 0 0) 2 0) 3 (nI (wl.length))) g5)) hD hS hA [0, 1, 2, 3, 4, 5, 6, 7, 8, 9, 10, 11, 12, 13, 14, 15, 16, 17, 18, 19, 20, 21, 22, 23, 24, 25] rfl
        refine va_calli (va_runV (As := [.int 0, .int (cdV 101 120 112 111 114), .int (cdV 116 115 0 0 0)]) (rest := []) ⟨hx, hb, hml, hown, hT⟩ (xc_Mo_saysX l D kA H.size h mm (va_up (va_up (va_up v 0 0) 2 0) 3 (nI (wl.length))) g5 0 (wb wl 0) (we wl 0) (cdV 101 120 112 111 114) (cdV 116 115 0 0 0) (by first | assumption | omega) (by first | assumption | omega) (by first | assumption | omega) (by first | assumption | omega) (by first | assumption | omega) (by first | assumption | omega)) (cwV 3 hT (wT_V k4f_15 k4f_16 k4f_17 k4f_5 k4f_14) rfl rfl rfl (by decide +kernel) ⟨Nat.le_of_ble_eq_true rfl, Nat.le_of_ble_eq_true rfl⟩) (x_preV hK hP hD 0 rfl rfl) rfl rfl hl.1 rfl (lv_room (Nat.le_of_ble_eq_true rfl)) xd_Mo_line_122 ⟨Nat.le_of_ble_eq_true rfl, Nat.le_of_ble_eq_true rfl⟩) hS (fun q _ h => hFc q h) hFc (fun r62 u63 t H1 locs ht hvm hp64 hB hz1 hk1 hS => ?_)
        obtain ⟨hP1, hD1⟩ := hB
        rw [ht] at hP1
        have hD1 := hD1.weaken (fun _ _ _ h => hFc _ h)
        generalize H1 = H at hP1 hS ⊢
        have hP := hP1
        have hD := hD1
        have hP : va_P D xcl (moW h mm kA (va_up (va_up (va_up v 0 0) 2 0) 3 (nI (wl.length))) g5) H := hP
        have hD : va_D A (moW h mm kA (va_up (va_up (va_up v 0 0) 2 0) 3 (nI (wl.length))) g5) := hD
        rcases hp64 with ⟨rfl, z65⟩ | ⟨rfl, z66⟩
        · refine xz_eq (a := 1) (tgt := 137) hx hb xd_Mo_line_125 (by decide) (by omega) (fun hc67 => absurd hc67 (by omega)) (fun _ => ?_)
          refine lv_aload_n hx hb xd_Mo_line_128 rfl (lv_at hl 1 rfl) ?_
          refine lv_iconst (v := 0) hx hb xd_Mo_line_129 (by decide) ?_
          have hFc := va_free (wc := (moW h mm kA (va_up (va_up (va_up v 0 0) 2 0) 3 (nI (wl.length))) g5)) hD hS hA [0, 1, 2, 3, 4, 5, 6, 7, 8, 9, 10, 11, 12, 13, 14, 15, 16, 17, 18, 19, 20, 21, 22, 23, 24, 25] rfl
          refine va_calli (va_runV (As := [.int 0]) (rest := []) ⟨hx, hb, hml, hown, hT⟩ (xc_Mo_shown0X l D kA H.size h mm (va_up (va_up (va_up v 0 0) 2 0) 3 (nI (wl.length))) g5 wl nd (by first | assumption | omega) (by first | assumption | omega) (by first | assumption | omega) (by first | assumption | omega)) (cwV 1 hT (wT_V k4f_27 k4f_28 k4f_29 k4f_5 k4f_26) rfl rfl rfl (by decide +kernel) ⟨Nat.le_of_ble_eq_true rfl, Nat.le_of_ble_eq_true rfl⟩) (x_preV hK hP hD 0 rfl rfl) rfl rfl hl.1 rfl (lv_room (Nat.le_of_ble_eq_true rfl)) xd_Mo_line_130 ⟨Nat.le_of_ble_eq_true rfl, Nat.le_of_ble_eq_true rfl⟩) hS (fun q _ h => hFc q h) hFc (fun r68 u69 t H1 locs ht hvm hp70 hB hz1 hk1 hS => ?_)
          obtain ⟨hP1, hD1⟩ := hB
          rw [ht] at hP1
          have hD1 := hD1.weaken (fun _ _ _ h => hFc _ h)
          obtain ⟨v71, g72⟩ := u69
          generalize H1 = H at hP1 hS ⊢
          have hP := hP1
          have hD := hD1
          have hP : va_P D xcl (moW h mm kA v71 g72) H := hP
          have hD : va_D A (moW h mm kA v71 g72) := hD
          refine lv_istore_n hx hb xd_Mo_line_133 rfl hl (Nat.le_of_ble_eq_true rfl) rfl (fun ls hl => ?_)
          have hl : lv_has ls 2 [(1, .int r68), (0, .ref h)] := hl
          refine lv_goto (tgt := 276) hx hb xd_Mo_line_134 (by decide) ?_
          exact jn7 (r68, v71, g72) _ _ _ (lv_sub hl [0, 1] rfl) hP hD hS ⟨(show MI v71 g72 from hp70.1), (show v71 2 = 0 from hp70.2.1), (show v71 4 = nI (lnF (g5 0) wl nd g5).1 ∧ g72 = (lnF (g5 0) wl nd g5).2 ∧ v71 5 = v 5 ∧ v71 1 = v 1 from (by
        have q := hp70.2.2.2
        have q1 := congrArg Prod.fst q
        have q2 := congrArg Prod.snd q
        simp only at q1 q2
        rw [q1, q2, show lnF (g5 0) wl nd g5 = _ from by unfold lnF; rw [cif_neg (fun q => z30 ((q_Mo (by omega)).mpr q.2)), cif_neg (fun q => z48 ((q_Pa (by omega)).mpr q.2)), cif_pos ⟨by omega, (q_Ex (by omega)).mp z65⟩]]; exact ⟨hnd, rfl, rfl, rfl⟩))⟩
        · refine xz_eq (a := 0) (tgt := 137) hx hb xd_Mo_line_125 (by decide) (by omega) (fun _ => ?_) (fun hc73 => absurd hc73 (by omega))
          refine lv_aload_n hx hb xd_Mo_line_137 rfl (lv_at hl 1 rfl) ?_
          refine lv_iconst (v := 0) hx hb xd_Mo_line_138 (by decide) ?_
          refine lv_bipush (v := 111) hx hb xd_Mo_line_139 (by decide) ?_
          refine lv_bipush (v := 112) hx hb xd_Mo_line_141 (by decide) ?_
          refine lv_bipush (v := 101) hx hb xd_Mo_line_143 (by decide) ?_
          refine lv_bipush (v := 110) hx hb xd_Mo_line_145 (by decide) ?_
          refine lv_bipush (v := 115) hx hb xd_Mo_line_147 (by decide) ?_
          have hFc := va_free (wc := (moW h mm kA (va_up (va_up (va_up v 0 0) 2 0) 3 (nI (wl.length))) g5)) hD hS hA [0, 1, 2, 3, 4, 5, 6, 7, 8, 9, 10, 11, 12, 13, 14, 15, 16, 17, 18, 19, 20, 21, 22, 23, 24, 25] rfl
          refine va_calli (va_runS (As := [.int 111, .int 112, .int 101, .int 110, .int 115]) (rest := [.int 0, .ref h]) ⟨hx, hb, hml, hown, hT⟩ (xc_Mo_codeX l D kA H.size h mm (va_up (va_up (va_up v 0 0) 2 0) 3 (nI (wl.length))) g5 111 112 101 110 115) (cwS 5 hT (wT_S0 k4f_12 k4f_13 k4f_5 k4f_11) rfl rfl rfl (by decide +kernel) ⟨Nat.le_of_ble_eq_true rfl, Nat.le_of_ble_eq_true rfl⟩) (x_preS hK hP hD) rfl rfl hl.1 rfl (lv_room (Nat.le_of_ble_eq_true rfl)) xd_Mo_line_149 ⟨Nat.le_of_ble_eq_true rfl, Nat.le_of_ble_eq_true rfl⟩) hS (fun q _ h => hFc q h) hFc (fun r74 u75 t H1 locs ht hvm hp76 hB hz1 hk1 hS => ?_)
          obtain ⟨hP1, hD1⟩ := hB
          rw [ht] at hP1
          have hD1 := hD1.weaken (fun _ _ _ h => hFc _ h)
          generalize H1 = H at hP1 hS ⊢
          have hP := hP1
          have hD := hD1
          have hP : va_P D xcl (moW h mm kA (va_up (va_up (va_up v 0 0) 2 0) 3 (nI (wl.length))) g5) H := hP
          have hD : va_D A (moW h mm kA (va_up (va_up (va_up v 0 0) 2 0) 3 (nI (wl.length))) g5) := hD
          have hp76 : r74 = cdV 111 112 101 110 115 := hp76
          subst hp76
          have hP : va_P D xcl (moW h mm kA (va_up (va_up (va_up v 0 0) 2 0) 3 (nI (wl.length))) g5) H := hP
          have hD : va_D A (moW h mm kA (va_up (va_up (va_up v 0 0) 2 0) 3 (nI (wl.length))) g5) := hD
          refine lv_iconst (v := 0) hx hb xd_Mo_line_152 (by decide) ?_
          have hFc := va_free (wc := (moW h mm kA (va_up (va_up (va_up v 0 0) 2 0) 3 (nI (wl.length))) g5)) hD hS hA [0, 1, 2, 3, 4, 5, 6, 7, 8, 9, 10, 11, 12, 13, 14, 15, 16, 17, 18, 19, 20, 21, 22, 23, 24, 25] rfl
          refine va_calli (va_runV (As := [.int 0, .int (cdV 111 112 101 110 115), .int 0]) (rest := []) ⟨hx, hb, hml, hown, hT⟩ (xc_Mo_saysX l D kA H.size h mm (va_up (va_up (va_up v 0 0) 2 0) 3 (nI (wl.length))) g5 0 (wb wl 0) (we wl 0) (cdV 111 112 101 110 115) 0 (by first | assumption | omega) (by first | assumption | omega) (by first | assumption | omega) (by first | assumption | omega) (by first | assumption | omega) (by first | assumption | omega)) (cwV 3 hT (wT_V k4f_15 k4f_16 k4f_17 k4f_5 k4f_14) rfl rfl rfl (by decide +kernel) ⟨Nat.le_of_ble_eq_true rfl, Nat.le_of_ble_eq_true rfl⟩) (x_preV hK hP hD 0 rfl rfl) rfl rfl hl.1 rfl (lv_room (Nat.le_of_ble_eq_true rfl)) xd_Mo_line_153 ⟨Nat.le_of_ble_eq_true rfl, Nat.le_of_ble_eq_true rfl⟩) hS (fun q _ h => hFc q h) hFc (fun r77 u78 t H1 locs ht hvm hp79 hB hz1 hk1 hS => ?_)
          obtain ⟨hP1, hD1⟩ := hB
          rw [ht] at hP1
          have hD1 := hD1.weaken (fun _ _ _ h => hFc _ h)
          generalize H1 = H at hP1 hS ⊢
          have hP := hP1
          have hD := hD1
          have hP : va_P D xcl (moW h mm kA (va_up (va_up (va_up v 0 0) 2 0) 3 (nI (wl.length))) g5) H := hP
          have hD : va_D A (moW h mm kA (va_up (va_up (va_up v 0 0) 2 0) 3 (nI (wl.length))) g5) := hD
          rcases hp79 with ⟨rfl, z80⟩ | ⟨rfl, z81⟩
          · refine xz_eq (a := 1) (tgt := 168) hx hb xd_Mo_line_156 (by decide) (by omega) (fun hc82 => absurd hc82 (by omega)) (fun _ => ?_)
            refine lv_aload_n hx hb xd_Mo_line_159 rfl (lv_at hl 1 rfl) ?_
            refine lv_iconst (v := 1) hx hb xd_Mo_line_160 (by decide) ?_
            have hFc := va_free (wc := (moW h mm kA (va_up (va_up (va_up v 0 0) 2 0) 3 (nI (wl.length))) g5)) hD hS hA [0, 1, 2, 3, 4, 5, 6, 7, 8, 9, 10, 11, 12, 13, 14, 15, 16, 17, 18, 19, 20, 21, 22, 23, 24, 25] rfl
            refine va_calli (va_runV (As := [.int 1]) (rest := []) ⟨hx, hb, hml, hown, hT⟩ (xc_Mo_shown1X l D kA H.size h mm (va_up (va_up (va_up v 0 0) 2 0) 3 (nI (wl.length))) g5 wl nd (by first | assumption | omega) (by first | assumption | omega) (by first | assumption | omega) (by first | assumption | omega)) (cwV 1 hT (wT_V k4f_27 k4f_28 k4f_29 k4f_5 k4f_26) rfl rfl rfl (by decide +kernel) ⟨Nat.le_of_ble_eq_true rfl, Nat.le_of_ble_eq_true rfl⟩) (x_preV hK hP hD 0 rfl rfl) rfl rfl hl.1 rfl (lv_room (Nat.le_of_ble_eq_true rfl)) xd_Mo_line_161 ⟨Nat.le_of_ble_eq_true rfl, Nat.le_of_ble_eq_true rfl⟩) hS (fun q _ h => hFc q h) hFc (fun r83 u84 t H1 locs ht hvm hp85 hB hz1 hk1 hS => ?_)
            obtain ⟨hP1, hD1⟩ := hB
            rw [ht] at hP1
            have hD1 := hD1.weaken (fun _ _ _ h => hFc _ h)
            obtain ⟨v86, g87⟩ := u84
            generalize H1 = H at hP1 hS ⊢
            have hP := hP1
            have hD := hD1
            have hP : va_P D xcl (moW h mm kA v86 g87) H := hP
            have hD : va_D A (moW h mm kA v86 g87) := hD
            refine lv_istore_n hx hb xd_Mo_line_164 rfl hl (Nat.le_of_ble_eq_true rfl) rfl (fun ls hl => ?_)
            have hl : lv_has ls 2 [(1, .int r83), (0, .ref h)] := hl
            refine lv_goto (tgt := 276) hx hb xd_Mo_line_165 (by decide) ?_
            exact jn7 (r83, v86, g87) _ _ _ (lv_sub hl [0, 1] rfl) hP hD hS ⟨(show MI v86 g87 from hp85.1), (show v86 2 = 0 from hp85.2.1), (show v86 4 = nI (lnF (g5 0) wl nd g5).1 ∧ g87 = (lnF (g5 0) wl nd g5).2 ∧ v86 5 = v 5 ∧ v86 1 = v 1 from (by
        have q := hp85.2.2.2
        have q1 := congrArg Prod.fst q
        have q2 := congrArg Prod.snd q
        simp only at q1 q2
        rw [q1, q2, show lnF (g5 0) wl nd g5 = _ from by unfold lnF; rw [cif_neg (fun q => z30 ((q_Mo (by omega)).mpr q.2)), cif_neg (fun q => z48 ((q_Pa (by omega)).mpr q.2)), cif_neg (fun q => z66 ((q_Ex (by omega)).mpr q.2)), cif_pos ⟨by omega, (q_Op (by omega)).mp z80⟩]]; exact ⟨hnd, rfl, rfl, rfl⟩))⟩
          · refine xz_eq (a := 0) (tgt := 168) hx hb xd_Mo_line_156 (by decide) (by omega) (fun _ => ?_) (fun hc88 => absurd hc88 (by omega))
            refine lv_aload_n hx hb xd_Mo_line_168 rfl (lv_at hl 1 rfl) ?_
            refine lv_iconst (v := 0) hx hb xd_Mo_line_169 (by decide) ?_
            refine lv_bipush (v := 114) hx hb xd_Mo_line_170 (by decide) ?_
            refine lv_bipush (v := 101) hx hb xd_Mo_line_172 (by decide) ?_
            refine lv_bipush (v := 113) hx hb xd_Mo_line_174 (by decide) ?_
            refine lv_bipush (v := 117) hx hb xd_Mo_line_176 (by decide) ?_
            refine lv_bipush (v := 105) hx hb xd_Mo_line_178 (by decide) ?_
            have hFc := va_free (wc := (moW h mm kA (va_up (va_up (va_up v 0 0) 2 0) 3 (nI (wl.length))) g5)) hD hS hA [0, 1, 2, 3, 4, 5, 6, 7, 8, 9, 10, 11, 12, 13, 14, 15, 16, 17, 18, 19, 20, 21, 22, 23, 24, 25] rfl
            refine va_calli (va_runS (As := [.int 114, .int 101, .int 113, .int 117, .int 105]) (rest := [.int 0, .ref h]) ⟨hx, hb, hml, hown, hT⟩ (xc_Mo_codeX l D kA H.size h mm (va_up (va_up (va_up v 0 0) 2 0) 3 (nI (wl.length))) g5 114 101 113 117 105) (cwS 5 hT (wT_S0 k4f_12 k4f_13 k4f_5 k4f_11) rfl rfl rfl (by decide +kernel) ⟨Nat.le_of_ble_eq_true rfl, Nat.le_of_ble_eq_true rfl⟩) (x_preS hK hP hD) rfl rfl hl.1 rfl (lv_room (Nat.le_of_ble_eq_true rfl)) xd_Mo_line_180 ⟨Nat.le_of_ble_eq_true rfl, Nat.le_of_ble_eq_true rfl⟩) hS (fun q _ h => hFc q h) hFc (fun r89 u90 t H1 locs ht hvm hp91 hB hz1 hk1 hS => ?_)
            obtain ⟨hP1, hD1⟩ := hB
            rw [ht] at hP1
            have hD1 := hD1.weaken (fun _ _ _ h => hFc _ h)
            generalize H1 = H at hP1 hS ⊢
            have hP := hP1
            have hD := hD1
            have hP : va_P D xcl (moW h mm kA (va_up (va_up (va_up v 0 0) 2 0) 3 (nI (wl.length))) g5) H := hP
            have hD : va_D A (moW h mm kA (va_up (va_up (va_up v 0 0) 2 0) 3 (nI (wl.length))) g5) := hD
            have hp91 : r89 = cdV 114 101 113 117 105 := hp91
            subst hp91
            have hP : va_P D xcl (moW h mm kA (va_up (va_up (va_up v 0 0) 2 0) 3 (nI (wl.length))) g5) H := hP
            have hD : va_D A (moW h mm kA (va_up (va_up (va_up v 0 0) 2 0) 3 (nI (wl.length))) g5) := hD
            refine lv_bipush (v := 114) hx hb xd_Mo_line_183 (by decide) ?_
            refine lv_bipush (v := 101) hx hb xd_Mo_line_185 (by decide) ?_
            refine lv_bipush (v := 115) hx hb xd_Mo_line_187 (by decide) ?_
            refine lv_iconst (v := 0) hx hb xd_Mo_line_189 (by decide) ?_
            refine lv_iconst (v := 0) hx hb xd_Mo_line_190 (by decide) ?_
            have hFc := va_free (wc := (moW h mm kA (va_up (va_up (va_up v 0 0) 2 0) 3 (nI (wl.length))) g5)) hD hS hA [0, 1, 2, 3, 4, 5, 6, 7, 8, 9, 10, 11, 12, 13, 14, 15, 16, 17, 18, 19, 20, 21, 22, 23, 24, 25] rfl
            refine va_calli (va_runS (As := [.int 114, .int 101, .int 115, .int 0, .int 0]) (rest := [.int (cdV 114 101 113 117 105), .int 0, .ref h]) ⟨hx, hb, hml, hown, hT⟩ (xc_Mo_codeX l D kA H.size h mm (va_up (va_up (va_up v 0 0) 2 0) 3 (nI (wl.length))) g5 114 101 115 0 0) (cwS 5 hT (wT_S0 k4f_12 k4f_13 k4f_5 k4f_11) rfl rfl rfl (by decide +kernel) ⟨Nat.le_of_ble_eq_true rfl, Nat.le_of_ble_eq_true rfl⟩) (x_preS hK hP hD) rfl rfl hl.1 rfl (lv_room (Nat.le_of_ble_eq_true rfl)) xd_Mo_line_191 ⟨Nat.le_of_ble_eq_true rfl, Nat.le_of_ble_eq_true rfl⟩) hS (fun q _ h => hFc q h) hFc (fun r92 u93 t H1 locs ht hvm hp94 hB hz1 hk1 hS => ?_)
            obtain ⟨hP1, hD1⟩ := hB
            rw [ht] at hP1
            have hD1 := hD1.weaken (fun _ _ _ h => hFc _ h)
            generalize H1 = H at hP1 hS ⊢
            have hP := hP1
            have hD := hD1
            have hP : va_P D xcl (moW h mm kA (va_up (va_up (va_up v 0 0) 2 0) 3 (nI (wl.length))) g5) H := hP
            have hD : va_D A (moW h mm kA (va_up (va_up (va_up v 0 0) 2 0) 3 (nI (wl.length))) g5) := hD
            have hp94 : r92 = cdV 114 101 115 0 0 := hp94
            subst hp94
            have hP : va_P D xcl (moW h mm kA (va_up (va_up (va_up v 0 0) 2 0) 3 (nI (wl.length))) g5) H := hP
            have hD : va_D A (moW h mm kA (va_up (va_up (va_up v 0 0) 2 0) 3 (nI (wl.length))) g5) := hD
            have hFc := va_free (wc := (moW h mm kA (va_up (va_up (va_up v 0 0) 2 0) 3 (nI (wl.length))) g5)) hD hS hA [0, 1, 2, 3, 4, 5, 6, 7, 8, 9, 10, 11, 12, 13, 14, 15, 16, 17, 18, 19, 20, 21, 22, 23, 24, 25] rfl
            refine va_calli (va_runV (As := [.int 0, .int (cdV 114 101 113 117 105), .int (cdV 114 101 115 0 0)]) (rest := []) ⟨hx, hb, hml, hown, hT⟩ (xc_Mo_saysX l D kA H.size h mm (va_up (va_up (va_up v 0 0) 2 0) 3 (nI (wl.length))) g5 0 (wb wl 0) (we wl 0) (cdV 114 101 113 117 105) (cdV 114 101 115 0 0) (by first | assumption | omega) (by first | assumption | omega) (by first | assumption | omega) (by first | assumption | omega) (by first | assumption | omega) (by first | assumption | omega)) (cwV 3 hT (wT_V k4f_15 k4f_16 k4f_17 k4f_5 k4f_14) rfl rfl rfl (by decide +kernel) ⟨Nat.le_of_ble_eq_true rfl, Nat.le_of_ble_eq_true rfl⟩) (x_preV hK hP hD 0 rfl rfl) rfl rfl hl.1 rfl (lv_room (Nat.le_of_ble_eq_true rfl)) xd_Mo_line_194 ⟨Nat.le_of_ble_eq_true rfl, Nat.le_of_ble_eq_true rfl⟩) hS (fun q _ h => hFc q h) hFc (fun r95 u96 t H1 locs ht hvm hp97 hB hz1 hk1 hS => ?_)
            obtain ⟨hP1, hD1⟩ := hB
            rw [ht] at hP1
            have hD1 := hD1.weaken (fun _ _ _ h => hFc _ h)
            generalize H1 = H at hP1 hS ⊢
            have hP := hP1
            have hD := hD1
            have hP : va_P D xcl (moW h mm kA (va_up (va_up (va_up v 0 0) 2 0) 3 (nI (wl.length))) g5) H := hP
            have hD : va_D A (moW h mm kA (va_up (va_up (va_up v 0 0) 2 0) 3 (nI (wl.length))) g5) := hD
            rcases hp97 with ⟨rfl, z98⟩ | ⟨rfl, z99⟩
            · refine xz_eq (a := 1) (tgt := 208) hx hb xd_Mo_line_197 (by decide) (by omega) (fun hc100 => absurd hc100 (by omega)) (fun _ => ?_)
              refine lv_aload_n hx hb xd_Mo_line_200 rfl (lv_at hl 1 rfl) ?_
              have hFc := va_free (wc := (moW h mm kA (va_up (va_up (va_up v 0 0) 2 0) 3 (nI (wl.length))) g5)) hD hS hA [0, 1, 2, 3, 4, 5, 6, 7, 8, 9, 10, 11, 12, 13, 14, 15, 16, 17, 18, 19, 20, 21, 22, 23, 24, 25] rfl
              refine va_calli (va_runV (As := []) (rest := []) ⟨hx, hb, hml, hown, hT⟩ (xc_Mo_newRequireX l D kA H.size h mm (va_up (va_up (va_up v 0 0) 2 0) 3 (nI (wl.length))) g5 wl nd (by first | assumption | omega) (by first | assumption | omega) (by first | assumption | omega) (by first | assumption | omega)) (cwV 0 hT (wT_V k4f_31 k4f_32 k4f_33 k4f_5 k4f_30) rfl rfl rfl (by decide +kernel) ⟨Nat.le_of_ble_eq_true rfl, Nat.le_of_ble_eq_true rfl⟩) (x_preV hK hP hD 0 rfl rfl) rfl rfl hl.1 rfl (lv_room (Nat.le_of_ble_eq_true rfl)) xd_Mo_line_201 ⟨Nat.le_of_ble_eq_true rfl, Nat.le_of_ble_eq_true rfl⟩) hS (fun q _ h => hFc q h) hFc (fun r101 u102 t H1 locs ht hvm hp103 hB hz1 hk1 hS => ?_)
              obtain ⟨hP1, hD1⟩ := hB
              rw [ht] at hP1
              have hD1 := hD1.weaken (fun _ _ _ h => hFc _ h)
              obtain ⟨v104, g105⟩ := u102
              generalize H1 = H at hP1 hS ⊢
              have hP := hP1
              have hD := hD1
              have hP : va_P D xcl (moW h mm kA v104 g105) H := hP
              have hD : va_D A (moW h mm kA v104 g105) := hD
              refine lv_istore_n hx hb xd_Mo_line_204 rfl hl (Nat.le_of_ble_eq_true rfl) rfl (fun ls hl => ?_)
              have hl : lv_has ls 2 [(1, .int r101), (0, .ref h)] := hl
              refine lv_goto (tgt := 276) hx hb xd_Mo_line_205 (by decide) ?_
              exact jn7 (r101, v104, g105) _ _ _ (lv_sub hl [0, 1] rfl) hP hD hS ⟨(show MI v104 g105 from hp103.1), (show v104 2 = 0 from hp103.2.1), (show v104 4 = nI (lnF (g5 0) wl nd g5).1 ∧ g105 = (lnF (g5 0) wl nd g5).2 ∧ v104 5 = v 5 ∧ v104 1 = v 1 from (by
        have q := hp103.2.2.2
        have q1 := congrArg Prod.fst q
        have q2 := congrArg Prod.snd q
        simp only at q1 q2
        rw [q1, q2, show lnF (g5 0) wl nd g5 = _ from by unfold lnF; rw [cif_neg (fun q => z30 ((q_Mo (by omega)).mpr q.2)), cif_neg (fun q => z48 ((q_Pa (by omega)).mpr q.2)), cif_neg (fun q => z66 ((q_Ex (by omega)).mpr q.2)), cif_neg (fun q => z81 ((q_Op (by omega)).mpr q.2)), cif_pos ⟨by omega, (q_Re (by omega)).mp z98⟩]]; exact ⟨hnd, rfl, rfl, rfl⟩))⟩
            · refine xz_eq (a := 0) (tgt := 208) hx hb xd_Mo_line_197 (by decide) (by omega) (fun _ => ?_) (fun hc106 => absurd hc106 (by omega))
              refine lv_aload_n hx hb xd_Mo_line_208 rfl (lv_at hl 1 rfl) ?_
              refine lv_iconst (v := 0) hx hb xd_Mo_line_209 (by decide) ?_
              refine lv_bipush (v := 117) hx hb xd_Mo_line_210 (by decide) ?_
              refine lv_bipush (v := 115) hx hb xd_Mo_line_212 (by decide) ?_
              refine lv_bipush (v := 101) hx hb xd_Mo_line_214 (by decide) ?_
              refine lv_bipush (v := 115) hx hb xd_Mo_line_216 (by decide) ?_
              refine lv_iconst (v := 0) hx hb xd_Mo_line_218 (by decide) ?_
              have hFc := va_free (wc := (moW h mm kA (va_up (va_up (va_up v 0 0) 2 0) 3 (nI (wl.length))) g5)) hD hS hA [0, 1, 2, 3, 4, 5, 6, 7, 8, 9, 10, 11, 12, 13, 14, 15, 16, 17, 18, 19, 20, 21, 22, 23, 24, 25] rfl
              refine va_calli (va_runS (As := [.int 117, .int 115, .int 101, .int 115, .int 0]) (rest := [.int 0, .ref h]) ⟨hx, hb, hml, hown, hT⟩ (xc_Mo_codeX l D kA H.size h mm (va_up (va_up (va_up v 0 0) 2 0) 3 (nI (wl.length))) g5 117 115 101 115 0) (cwS 5 hT (wT_S0 k4f_12 k4f_13 k4f_5 k4f_11) rfl rfl rfl (by decide +kernel) ⟨Nat.le_of_ble_eq_true rfl, Nat.le_of_ble_eq_true rfl⟩) (x_preS hK hP hD) rfl rfl hl.1 rfl (lv_room (Nat.le_of_ble_eq_true rfl)) xd_Mo_line_219 ⟨Nat.le_of_ble_eq_true rfl, Nat.le_of_ble_eq_true rfl⟩) hS (fun q _ h => hFc q h) hFc (fun r107 u108 t H1 locs ht hvm hp109 hB hz1 hk1 hS => ?_)
              obtain ⟨hP1, hD1⟩ := hB
              rw [ht] at hP1
              have hD1 := hD1.weaken (fun _ _ _ h => hFc _ h)
              generalize H1 = H at hP1 hS ⊢
              have hP := hP1
              have hD := hD1
              have hP : va_P D xcl (moW h mm kA (va_up (va_up (va_up v 0 0) 2 0) 3 (nI (wl.length))) g5) H := hP
              have hD : va_D A (moW h mm kA (va_up (va_up (va_up v 0 0) 2 0) 3 (nI (wl.length))) g5) := hD
              have hp109 : r107 = cdV 117 115 101 115 0 := hp109
              subst hp109
              have hP : va_P D xcl (moW h mm kA (va_up (va_up (va_up v 0 0) 2 0) 3 (nI (wl.length))) g5) H := hP
              have hD : va_D A (moW h mm kA (va_up (va_up (va_up v 0 0) 2 0) 3 (nI (wl.length))) g5) := hD
              refine lv_iconst (v := 0) hx hb xd_Mo_line_222 (by decide) ?_
              have hFc := va_free (wc := (moW h mm kA (va_up (va_up (va_up v 0 0) 2 0) 3 (nI (wl.length))) g5)) hD hS hA [0, 1, 2, 3, 4, 5, 6, 7, 8, 9, 10, 11, 12, 13, 14, 15, 16, 17, 18, 19, 20, 21, 22, 23, 24, 25] rfl
              refine va_calli (va_runV (As := [.int 0, .int (cdV 117 115 101 115 0), .int 0]) (rest := []) ⟨hx, hb, hml, hown, hT⟩ (xc_Mo_saysX l D kA H.size h mm (va_up (va_up (va_up v 0 0) 2 0) 3 (nI (wl.length))) g5 0 (wb wl 0) (we wl 0) (cdV 117 115 101 115 0) 0 (by first | assumption | omega) (by first | assumption | omega) (by first | assumption | omega) (by first | assumption | omega) (by first | assumption | omega) (by first | assumption | omega)) (cwV 3 hT (wT_V k4f_15 k4f_16 k4f_17 k4f_5 k4f_14) rfl rfl rfl (by decide +kernel) ⟨Nat.le_of_ble_eq_true rfl, Nat.le_of_ble_eq_true rfl⟩) (x_preV hK hP hD 0 rfl rfl) rfl rfl hl.1 rfl (lv_room (Nat.le_of_ble_eq_true rfl)) xd_Mo_line_223 ⟨Nat.le_of_ble_eq_true rfl, Nat.le_of_ble_eq_true rfl⟩) hS (fun q _ h => hFc q h) hFc (fun r110 u111 t H1 locs ht hvm hp112 hB hz1 hk1 hS => ?_)
              obtain ⟨hP1, hD1⟩ := hB
              rw [ht] at hP1
              have hD1 := hD1.weaken (fun _ _ _ h => hFc _ h)
              generalize H1 = H at hP1 hS ⊢
              have hP := hP1
              have hD := hD1
              have hP : va_P D xcl (moW h mm kA (va_up (va_up (va_up v 0 0) 2 0) 3 (nI (wl.length))) g5) H := hP
              have hD : va_D A (moW h mm kA (va_up (va_up (va_up v 0 0) 2 0) 3 (nI (wl.length))) g5) := hD
              rcases hp112 with ⟨rfl, z113⟩ | ⟨rfl, z114⟩
              · refine xz_eq (a := 1) (tgt := 238) hx hb xd_Mo_line_226 (by decide) (by omega) (fun hc115 => absurd hc115 (by omega)) (fun _ => ?_)
                refine lv_aload_n hx hb xd_Mo_line_229 rfl (lv_at hl 1 rfl) ?_
                refine lv_iconst (v := 0) hx hb xd_Mo_line_230 (by decide) ?_
                have hFc := va_free (wc := (moW h mm kA (va_up (va_up (va_up v 0 0) 2 0) 3 (nI (wl.length))) g5)) hD hS hA [0, 1, 2, 3, 4, 5, 6, 7, 8, 9, 10, 11, 12, 13, 14, 15, 16, 17, 18, 19, 20, 21, 22, 23, 24, 25] rfl
                refine va_calli (va_runV (As := [.int 0]) (rest := []) ⟨hx, hb, hml, hown, hT⟩ (xc_Mo_newService0X l D kA H.size h mm (va_up (va_up (va_up v 0 0) 2 0) 3 (nI (wl.length))) g5 wl nd (by first | assumption | omega) (by first | assumption | omega) (by first | assumption | omega) (by first | assumption | omega)) (cwV 1 hT (wT_V k4f_35 k4f_36 k4f_37 k4f_5 k4f_34) rfl rfl rfl (by decide +kernel) ⟨Nat.le_of_ble_eq_true rfl, Nat.le_of_ble_eq_true rfl⟩) (x_preV hK hP hD 0 rfl rfl) rfl rfl hl.1 rfl (lv_room (Nat.le_of_ble_eq_true rfl)) xd_Mo_line_231 ⟨Nat.le_of_ble_eq_true rfl, Nat.le_of_ble_eq_true rfl⟩) hS (fun q _ h => hFc q h) hFc (fun r116 u117 t H1 locs ht hvm hp118 hB hz1 hk1 hS => ?_)
                obtain ⟨hP1, hD1⟩ := hB
                rw [ht] at hP1
                have hD1 := hD1.weaken (fun _ _ _ h => hFc _ h)
                obtain ⟨v119, g120⟩ := u117
                generalize H1 = H at hP1 hS ⊢
                have hP := hP1
                have hD := hD1
                have hP : va_P D xcl (moW h mm kA v119 g120) H := hP
                have hD : va_D A (moW h mm kA v119 g120) := hD
                refine lv_istore_n hx hb xd_Mo_line_234 rfl hl (Nat.le_of_ble_eq_true rfl) rfl (fun ls hl => ?_)
                have hl : lv_has ls 2 [(1, .int r116), (0, .ref h)] := hl
                refine lv_goto (tgt := 276) hx hb xd_Mo_line_235 (by decide) ?_
                exact jn7 (r116, v119, g120) _ _ _ (lv_sub hl [0, 1] rfl) hP hD hS ⟨(show MI v119 g120 from hp118.1), (show v119 2 = 0 from hp118.2.1), (show v119 4 = nI (lnF (g5 0) wl nd g5).1 ∧ g120 = (lnF (g5 0) wl nd g5).2 ∧ v119 5 = v 5 ∧ v119 1 = v 1 from (by
        have q := hp118.2.2.2
        have q1 := congrArg Prod.fst q
        have q2 := congrArg Prod.snd q
        simp only at q1 q2
        rw [q1, q2, show lnF (g5 0) wl nd g5 = _ from by unfold lnF; rw [cif_neg (fun q => z30 ((q_Mo (by omega)).mpr q.2)), cif_neg (fun q => z48 ((q_Pa (by omega)).mpr q.2)), cif_neg (fun q => z66 ((q_Ex (by omega)).mpr q.2)), cif_neg (fun q => z81 ((q_Op (by omega)).mpr q.2)), cif_neg (fun q => z99 ((q_Re (by omega)).mpr q.2)), cif_pos ⟨by omega, (q_Us (by omega)).mp z113⟩]]; exact ⟨hnd, rfl, rfl, rfl⟩))⟩
              · refine xz_eq (a := 0) (tgt := 238) hx hb xd_Mo_line_226 (by decide) (by omega) (fun _ => ?_) (fun hc121 => absurd hc121 (by omega))
                refine lv_aload_n hx hb xd_Mo_line_238 rfl (lv_at hl 1 rfl) ?_
                refine lv_iconst (v := 0) hx hb xd_Mo_line_239 (by decide) ?_
                refine lv_bipush (v := 112) hx hb xd_Mo_line_240 (by decide) ?_
                refine lv_bipush (v := 114) hx hb xd_Mo_line_242 (by decide) ?_
                refine lv_bipush (v := 111) hx hb xd_Mo_line_244 (by decide) ?_
                refine lv_bipush (v := 118) hx hb xd_Mo_line_246 (by decide) ?_
                refine lv_bipush (v := 105) hx hb xd_Mo_line_248 (by decide) ?_
                have hFc := va_free (wc := (moW h mm kA (va_up (va_up (va_up v 0 0) 2 0) 3 (nI (wl.length))) g5)) hD hS hA [0, 1, 2, 3, 4, 5, 6, 7, 8, 9, 10, 11, 12, 13, 14, 15, 16, 17, 18, 19, 20, 21, 22, 23, 24, 25] rfl
                refine va_calli (va_runS (As := [.int 112, .int 114, .int 111, .int 118, .int 105]) (rest := [.int 0, .ref h]) ⟨hx, hb, hml, hown, hT⟩ (xc_Mo_codeX l D kA H.size h mm (va_up (va_up (va_up v 0 0) 2 0) 3 (nI (wl.length))) g5 112 114 111 118 105) (cwS 5 hT (wT_S0 k4f_12 k4f_13 k4f_5 k4f_11) rfl rfl rfl (by decide +kernel) ⟨Nat.le_of_ble_eq_true rfl, Nat.le_of_ble_eq_true rfl⟩) (x_preS hK hP hD) rfl rfl hl.1 rfl (lv_room (Nat.le_of_ble_eq_true rfl)) xd_Mo_line_250 ⟨Nat.le_of_ble_eq_true rfl, Nat.le_of_ble_eq_true rfl⟩) hS (fun q _ h => hFc q h) hFc (fun r122 u123 t H1 locs ht hvm hp124 hB hz1 hk1 hS => ?_)
                obtain ⟨hP1, hD1⟩ := hB
                rw [ht] at hP1
                have hD1 := hD1.weaken (fun _ _ _ h => hFc _ h)
                generalize H1 = H at hP1 hS ⊢
                have hP := hP1
                have hD := hD1
                have hP : va_P D xcl (moW h mm kA (va_up (va_up (va_up v 0 0) 2 0) 3 (nI (wl.length))) g5) H := hP
                have hD : va_D A (moW h mm kA (va_up (va_up (va_up v 0 0) 2 0) 3 (nI (wl.length))) g5) := hD
                have hp124 : r122 = cdV 112 114 111 118 105 := hp124
                subst hp124
                have hP : va_P D xcl (moW h mm kA (va_up (va_up (va_up v 0 0) 2 0) 3 (nI (wl.length))) g5) H := hP
                have hD : va_D A (moW h mm kA (va_up (va_up (va_up v 0 0) 2 0) 3 (nI (wl.length))) g5) := hD
                refine lv_bipush (v := 100) hx hb xd_Mo_line_253 (by decide) ?_
                refine lv_bipush (v := 101) hx hb xd_Mo_line_255 (by decide) ?_
                refine lv_bipush (v := 115) hx hb xd_Mo_line_257 (by decide) ?_
                refine lv_iconst (v := 0) hx hb xd_Mo_line_259 (by decide) ?_
                refine lv_iconst (v := 0) hx hb xd_Mo_line_260 (by decide) ?_
                have hFc := va_free (wc := (moW h mm kA (va_up (va_up (va_up v 0 0) 2 0) 3 (nI (wl.length))) g5)) hD hS hA [0, 1, 2, 3, 4, 5, 6, 7, 8, 9, 10, 11, 12, 13, 14, 15, 16, 17, 18, 19, 20, 21, 22, 23, 24, 25] rfl
                refine va_calli (va_runS (As := [.int 100, .int 101, .int 115, .int 0, .int 0]) (rest := [.int (cdV 112 114 111 118 105), .int 0, .ref h]) ⟨hx, hb, hml, hown, hT⟩ (xc_Mo_codeX l D kA H.size h mm (va_up (va_up (va_up v 0 0) 2 0) 3 (nI (wl.length))) g5 100 101 115 0 0) (cwS 5 hT (wT_S0 k4f_12 k4f_13 k4f_5 k4f_11) rfl rfl rfl (by decide +kernel) ⟨Nat.le_of_ble_eq_true rfl, Nat.le_of_ble_eq_true rfl⟩) (x_preS hK hP hD) rfl rfl hl.1 rfl (lv_room (Nat.le_of_ble_eq_true rfl)) xd_Mo_line_261 ⟨Nat.le_of_ble_eq_true rfl, Nat.le_of_ble_eq_true rfl⟩) hS (fun q _ h => hFc q h) hFc (fun r125 u126 t H1 locs ht hvm hp127 hB hz1 hk1 hS => ?_)
                obtain ⟨hP1, hD1⟩ := hB
                rw [ht] at hP1
                have hD1 := hD1.weaken (fun _ _ _ h => hFc _ h)
                generalize H1 = H at hP1 hS ⊢
                have hP := hP1
                have hD := hD1
                have hP : va_P D xcl (moW h mm kA (va_up (va_up (va_up v 0 0) 2 0) 3 (nI (wl.length))) g5) H := hP
                have hD : va_D A (moW h mm kA (va_up (va_up (va_up v 0 0) 2 0) 3 (nI (wl.length))) g5) := hD
                have hp127 : r125 = cdV 100 101 115 0 0 := hp127
                subst hp127
                have hP : va_P D xcl (moW h mm kA (va_up (va_up (va_up v 0 0) 2 0) 3 (nI (wl.length))) g5) H := hP
                have hD : va_D A (moW h mm kA (va_up (va_up (va_up v 0 0) 2 0) 3 (nI (wl.length))) g5) := hD
                have hFc := va_free (wc := (moW h mm kA (va_up (va_up (va_up v 0 0) 2 0) 3 (nI (wl.length))) g5)) hD hS hA [0, 1, 2, 3, 4, 5, 6, 7, 8, 9, 10, 11, 12, 13, 14, 15, 16, 17, 18, 19, 20, 21, 22, 23, 24, 25] rfl
                refine va_calli (va_runV (As := [.int 0, .int (cdV 112 114 111 118 105), .int (cdV 100 101 115 0 0)]) (rest := []) ⟨hx, hb, hml, hown, hT⟩ (xc_Mo_saysX l D kA H.size h mm (va_up (va_up (va_up v 0 0) 2 0) 3 (nI (wl.length))) g5 0 (wb wl 0) (we wl 0) (cdV 112 114 111 118 105) (cdV 100 101 115 0 0) (by first | assumption | omega) (by first | assumption | omega) (by first | assumption | omega) (by first | assumption | omega) (by first | assumption | omega) (by first | assumption | omega)) (cwV 3 hT (wT_V k4f_15 k4f_16 k4f_17 k4f_5 k4f_14) rfl rfl rfl (by decide +kernel) ⟨Nat.le_of_ble_eq_true rfl, Nat.le_of_ble_eq_true rfl⟩) (x_preV hK hP hD 0 rfl rfl) rfl rfl hl.1 rfl (lv_room (Nat.le_of_ble_eq_true rfl)) xd_Mo_line_264 ⟨Nat.le_of_ble_eq_true rfl, Nat.le_of_ble_eq_true rfl⟩) hS (fun q _ h => hFc q h) hFc (fun r128 u129 t H1 locs ht hvm hp130 hB hz1 hk1 hS => ?_)
                obtain ⟨hP1, hD1⟩ := hB
                rw [ht] at hP1
                have hD1 := hD1.weaken (fun _ _ _ h => hFc _ h)
                generalize H1 = H at hP1 hS ⊢
                have hP := hP1
                have hD := hD1
                have hP : va_P D xcl (moW h mm kA (va_up (va_up (va_up v 0 0) 2 0) 3 (nI (wl.length))) g5) H := hP
                have hD : va_D A (moW h mm kA (va_up (va_up (va_up v 0 0) 2 0) 3 (nI (wl.length))) g5) := hD
                rcases hp130 with ⟨rfl, z131⟩ | ⟨rfl, z132⟩
                · refine xz_eq (a := 1) (tgt := 276) hx hb xd_Mo_line_267 (by decide) (by omega) (fun hc133 => absurd hc133 (by omega)) (fun _ => ?_)
                  refine lv_aload_n hx hb xd_Mo_line_270 rfl (lv_at hl 1 rfl) ?_
                  refine lv_iconst (v := 1) hx hb xd_Mo_line_271 (by decide) ?_
                  have hFc := va_free (wc := (moW h mm kA (va_up (va_up (va_up v 0 0) 2 0) 3 (nI (wl.length))) g5)) hD hS hA [0, 1, 2, 3, 4, 5, 6, 7, 8, 9, 10, 11, 12, 13, 14, 15, 16, 17, 18, 19, 20, 21, 22, 23, 24, 25] rfl
                  refine va_calli (va_runV (As := [.int 1]) (rest := []) ⟨hx, hb, hml, hown, hT⟩ (xc_Mo_newService1X l D kA H.size h mm (va_up (va_up (va_up v 0 0) 2 0) 3 (nI (wl.length))) g5 wl nd (by first | assumption | omega) (by first | assumption | omega) (by first | assumption | omega) (by first | assumption | omega)) (cwV 1 hT (wT_V k4f_35 k4f_36 k4f_37 k4f_5 k4f_34) rfl rfl rfl (by decide +kernel) ⟨Nat.le_of_ble_eq_true rfl, Nat.le_of_ble_eq_true rfl⟩) (x_preV hK hP hD 0 rfl rfl) rfl rfl hl.1 rfl (lv_room (Nat.le_of_ble_eq_true rfl)) xd_Mo_line_272 ⟨Nat.le_of_ble_eq_true rfl, Nat.le_of_ble_eq_true rfl⟩) hS (fun q _ h => hFc q h) hFc (fun r134 u135 t H1 locs ht hvm hp136 hB hz1 hk1 hS => ?_)
                  obtain ⟨hP1, hD1⟩ := hB
                  rw [ht] at hP1
                  have hD1 := hD1.weaken (fun _ _ _ h => hFc _ h)
                  obtain ⟨v137, g138⟩ := u135
                  generalize H1 = H at hP1 hS ⊢
                  have hP := hP1
                  have hD := hD1
                  have hP : va_P D xcl (moW h mm kA v137 g138) H := hP
                  have hD : va_D A (moW h mm kA v137 g138) := hD
                  refine lv_istore_n hx hb xd_Mo_line_275 rfl hl (Nat.le_of_ble_eq_true rfl) rfl (fun ls hl => ?_)
                  have hl : lv_has ls 2 [(1, .int r134), (0, .ref h)] := hl
                  exact jn7 (r134, v137, g138) _ _ _ (lv_sub hl [0, 1] rfl) hP hD hS ⟨(show MI v137 g138 from hp136.1), (show v137 2 = 0 from hp136.2.1), (show v137 4 = nI (lnF (g5 0) wl nd g5).1 ∧ g138 = (lnF (g5 0) wl nd g5).2 ∧ v137 5 = v 5 ∧ v137 1 = v 1 from (by
        have q := hp136.2.2.2
        have q1 := congrArg Prod.fst q
        have q2 := congrArg Prod.snd q
        simp only at q1 q2
        rw [q1, q2, show lnF (g5 0) wl nd g5 = _ from by unfold lnF; rw [cif_neg (fun q => z30 ((q_Mo (by omega)).mpr q.2)), cif_neg (fun q => z48 ((q_Pa (by omega)).mpr q.2)), cif_neg (fun q => z66 ((q_Ex (by omega)).mpr q.2)), cif_neg (fun q => z81 ((q_Op (by omega)).mpr q.2)), cif_neg (fun q => z99 ((q_Re (by omega)).mpr q.2)), cif_neg (fun q => z114 ((q_Us (by omega)).mpr q.2)), cif_pos ⟨by omega, (q_Pr (by omega)).mp z131⟩]]; exact ⟨hnd, rfl, rfl, rfl⟩))⟩
                · refine xz_eq (a := 0) (tgt := 276) hx hb xd_Mo_line_267 (by decide) (by omega) (fun _ => ?_) (fun hc139 => absurd hc139 (by omega))
                  exact jn7 ((-1), (va_up (va_up (va_up v 0 0) 2 0) 3 (nI (wl.length))), g5) _ _ _ (lv_sub hl [0, 1] rfl) hP hD hS ⟨(show MI (va_up (va_up (va_up v 0 0) 2 0) 3 (nI (wl.length))) g5 from hM1), (show (va_up (va_up (va_up v 0 0) 2 0) 3 (nI (wl.length))) 2 = 0 from rfl), (show (va_up (va_up (va_up v 0 0) 2 0) 3 (nI (wl.length))) 4 = nI (lnF (g5 0) wl nd g5).1 ∧ g5 = (lnF (g5 0) wl nd g5).2 ∧ (va_up (va_up (va_up v 0 0) 2 0) 3 (nI (wl.length))) 5 = v 5 ∧ (va_up (va_up (va_up v 0 0) 2 0) 3 (nI (wl.length))) 1 = v 1 from (by
        have q : lnF (g5 0) wl nd g5 = (nd, g5) := by unfold lnF; rw [cif_neg (fun q => z30 ((q_Mo (by omega)).mpr q.2)), cif_neg (fun q => z48 ((q_Pa (by omega)).mpr q.2)), cif_neg (fun q => z66 ((q_Ex (by omega)).mpr q.2)), cif_neg (fun q => z81 ((q_Op (by omega)).mpr q.2)), cif_neg (fun q => z99 ((q_Re (by omega)).mpr q.2)), cif_neg (fun q => z114 ((q_Us (by omega)).mpr q.2)), cif_neg (fun q => z132 ((q_Pr (by omega)).mpr q.2))]
        rw [q]; exact ⟨hnd, rfl, rfl, rfl⟩))⟩
  · refine lv_iconst (v := 0) hx hb xd_Mo_line_16 (by decide) ?_
    exact W.iret (v := 0) hx hb hr (fun t ht hW => ⟨⟨0, ((va_up (va_up (va_up v 0 0) 2 0) 3 (nI (wl.length))), g5), rfl, ⟨hM1, rfl, by rw [← hwl, lnF_nil (by omega)]; exact hnd, rfl, rfl, fun j h1 h2 => by rw [← hwl, lnF_nil (by omega)]; exact hgk j h1 h2⟩, by rw [ht]; exact hP, hD⟩, hS.F ht⟩) hS.2.2 xd_Mo_line_17
