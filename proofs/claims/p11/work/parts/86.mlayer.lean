theorem k4q_0 : (Cond.fieldLink "LayerDeskModel" 87 "LayerDeskModel" "fault" "I") ∈ wT := wT_t (List.mem_append_right _ (List.mem_append_right _ (List.mem_append_right _ (List.mem_append_left _ (List.mem_of_getElem? (i := 84) rfl))))) rfl
theorem k4q_1 : (Cond.fieldLink "LayerDeskModel" 187 "LayerDeskModel" "why" "I") ∈ wT := wT_t (List.mem_append_right _ (List.mem_append_right _ (List.mem_append_right _ (List.mem_append_left _ (List.mem_of_getElem? (i := 85) rfl))))) rfl
theorem k4q_2 : (Cond.code xy_Mo_split xb_Mo_split 2 none) ∈ wT := wT_t (List.mem_append_right _ (List.mem_append_right _ (List.mem_append_right _ (List.mem_append_left _ (List.mem_of_getElem? (i := 193) rfl))))) rfl
theorem k4q_3 : (Cond.methodLink "LayerDeskModel" 101 xy_Mo_split) ∈ wT := wT_t (List.mem_append_right _ (List.mem_append_right _ (List.mem_append_right _ (List.mem_append_left _ (List.mem_of_getElem? (i := 190) rfl))))) rfl
theorem k4q_4 : (Cond.instanceMethod xy_Mo_split) ∈ wT := wT_t (List.mem_append_right _ (List.mem_append_right _ (List.mem_append_right _ (List.mem_append_left _ (List.mem_of_getElem? (i := 192) rfl))))) rfl
theorem k4q_5 : (Cond.selects "LayerDeskModel" xy_Mo_split xy_Mo_split) ∈ wT := wT_s (q := (xy_Mo_split, 31)) (by decide +kernel) rfl
theorem k4q_6 : (Cond.initialized "LayerDeskModel") ∈ wT := wT_t (List.mem_append_left _ (List.mem_of_getElem? (i := 5) rfl)) rfl
theorem k4q_7 : (Cond.fieldLink "LayerDeskModel" 94 "LayerDeskModel" "words" "I") ∈ wT := wT_t (List.mem_append_right _ (List.mem_append_right _ (List.mem_append_right _ (List.mem_append_left _ (List.mem_of_getElem? (i := 88) rfl))))) rfl
theorem k4q_8 : (Cond.code xy_Mo_fails xb_Mo_fails 2 (some .int)) ∈ wT := wT_t (List.mem_append_right _ (List.mem_append_right _ (List.mem_append_right _ (List.mem_append_right _ (List.mem_of_getElem? (i := 4) rfl))))) rfl
theorem k4q_9 : (Cond.methodLink "LayerDeskModel" 129 xy_Mo_fails) ∈ wT := wT_t (List.mem_append_right _ (List.mem_append_right _ (List.mem_append_right _ (List.mem_append_right _ (List.mem_of_getElem? (i := 1) rfl))))) rfl
theorem k4q_10 : (Cond.instanceMethod xy_Mo_fails) ∈ wT := wT_t (List.mem_append_right _ (List.mem_append_right _ (List.mem_append_right _ (List.mem_append_right _ (List.mem_of_getElem? (i := 3) rfl))))) rfl
theorem k4q_11 : (Cond.selects "LayerDeskModel" xy_Mo_fails xy_Mo_fails) ∈ wT := wT_s (q := (xy_Mo_fails, 31)) (by decide +kernel) rfl
theorem k4q_12 : (Cond.fieldLink "LayerDeskModel" 66 "LayerDeskModel" "finderOf" "[I") ∈ wT := wT_t (List.mem_append_right _ (List.mem_append_right _ (List.mem_append_right _ (List.mem_append_left _ (List.mem_of_getElem? (i := 108) rfl))))) rfl
theorem k4q_13 : (Cond.fieldLink "LayerDeskModel" 150 "LayerDeskModel" "layers" "I") ∈ wT := wT_t (List.mem_append_right _ (List.mem_append_right _ (List.mem_append_right _ (List.mem_append_left _ (List.mem_of_getElem? (i := 107) rfl))))) rfl
theorem k4q_14 : (Cond.fieldLink "LayerDeskModel" 69 "LayerDeskModel" "parent" "[I") ∈ wT := wT_t (List.mem_append_right _ (List.mem_append_right _ (List.mem_append_right _ (List.mem_append_left _ (List.mem_of_getElem? (i := 109) rfl))))) rfl
theorem k4q_15 : (Cond.fieldLink "LayerDeskModel" 72 "LayerDeskModel" "modules" "[I") ∈ wT := wT_t (List.mem_append_right _ (List.mem_append_right _ (List.mem_append_right _ (List.mem_append_left _ (List.mem_of_getElem? (i := 110) rfl))))) rfl
theorem k4q_16 : (Cond.code xy_Mo_reason xb_Mo_reason 4 (some .int)) ∈ wT := wT_t (List.mem_append_right _ (List.mem_append_right _ (List.mem_append_right _ (List.mem_append_right _ (List.mem_of_getElem? (i := 36) rfl))))) rfl
theorem k4q_17 : (Cond.methodLink "LayerDeskModel" 196 xy_Mo_reason) ∈ wT := wT_t (List.mem_append_right _ (List.mem_append_right _ (List.mem_append_right _ (List.mem_append_right _ (List.mem_of_getElem? (i := 33) rfl))))) rfl
theorem k4q_18 : (Cond.instanceMethod xy_Mo_reason) ∈ wT := wT_t (List.mem_append_right _ (List.mem_append_right _ (List.mem_append_right _ (List.mem_append_right _ (List.mem_of_getElem? (i := 35) rfl))))) rfl
theorem k4q_19 : (Cond.selects "LayerDeskModel" xy_Mo_reason xy_Mo_reason) ∈ wT := wT_s (q := (xy_Mo_reason, 31)) (by decide +kernel) rfl
theorem k4q_20 : (Cond.fieldLink "LayerDeskModel" 78 "LayerDeskModel" "open" "[Z") ∈ wT := wT_t (List.mem_append_right _ (List.mem_append_right _ (List.mem_append_right _ (List.mem_append_left _ (List.mem_of_getElem? (i := 112) rfl))))) rfl
theorem k4q_21 : (Cond.fieldLink "LayerDeskModel" 45 "LayerDeskModel" "locked" "[Z") ∈ wT := wT_t (List.mem_append_right _ (List.mem_append_right _ (List.mem_append_right _ (List.mem_append_left _ (List.mem_of_getElem? (i := 100) rfl))))) rfl
theorem k4q_22 : (Cond.fieldLink "LayerDeskModel" 75 "LayerDeskModel" "module" "[I") ∈ wT := wT_t (List.mem_append_right _ (List.mem_append_right _ (List.mem_append_right _ (List.mem_append_left _ (List.mem_of_getElem? (i := 111) rfl))))) rfl
theorem k4q_23 : (Cond.code xy_Mo_binding xb_Mo_binding 5 none) ∈ wT := wT_t (List.mem_append_right _ (List.mem_append_right _ (List.mem_append_right _ (List.mem_append_right _ (List.mem_of_getElem? (i := 28) rfl))))) rfl
theorem k4q_24 : (Cond.methodLink "LayerDeskModel" 193 xy_Mo_binding) ∈ wT := wT_t (List.mem_append_right _ (List.mem_append_right _ (List.mem_append_right _ (List.mem_append_right _ (List.mem_of_getElem? (i := 25) rfl))))) rfl
theorem k4q_25 : (Cond.instanceMethod xy_Mo_binding) ∈ wT := wT_t (List.mem_append_right _ (List.mem_append_right _ (List.mem_append_right _ (List.mem_append_right _ (List.mem_of_getElem? (i := 27) rfl))))) rfl
theorem k4q_26 : (Cond.selects "LayerDeskModel" xy_Mo_binding xy_Mo_binding) ∈ wT := wT_s (q := (xy_Mo_binding, 31)) (by decide +kernel) rfl
theorem k4q_27 : (Cond.code xy_Mo_nameOf xb_Mo_nameOf 4 (some .int)) ∈ wT := wT_t (List.mem_append_right _ (List.mem_append_right _ (List.mem_append_right _ (List.mem_append_left _ (List.mem_of_getElem? (i := 212) rfl))))) rfl
theorem k4q_28 : (Cond.methodLink "LayerDeskModel" 133 xy_Mo_nameOf) ∈ wT := wT_t (List.mem_append_right _ (List.mem_append_right _ (List.mem_append_right _ (List.mem_append_left _ (List.mem_of_getElem? (i := 209) rfl))))) rfl
theorem k4q_29 : (Cond.instanceMethod xy_Mo_nameOf) ∈ wT := wT_t (List.mem_append_right _ (List.mem_append_right _ (List.mem_append_right _ (List.mem_append_left _ (List.mem_of_getElem? (i := 211) rfl))))) rfl
theorem k4q_30 : (Cond.selects "LayerDeskModel" xy_Mo_nameOf xy_Mo_nameOf) ∈ wT := wT_s (q := (xy_Mo_nameOf, 31)) (by decide +kernel) rfl
theorem k4q_31 : (Cond.code xy_Mo_adds xb_Mo_adds 6 (some .boolean)) ∈ wT := wT_t (List.mem_append_right _ (List.mem_append_right _ (List.mem_append_right _ (List.mem_append_right _ (List.mem_of_getElem? (i := 16) rfl))))) rfl
theorem k4q_32 : (Cond.methodLink "LayerDeskModel" 160 xy_Mo_adds) ∈ wT := wT_t (List.mem_append_right _ (List.mem_append_right _ (List.mem_append_right _ (List.mem_append_right _ (List.mem_of_getElem? (i := 13) rfl))))) rfl
theorem k4q_33 : (Cond.instanceMethod xy_Mo_adds) ∈ wT := wT_t (List.mem_append_right _ (List.mem_append_right _ (List.mem_append_right _ (List.mem_append_right _ (List.mem_of_getElem? (i := 15) rfl))))) rfl
theorem k4q_34 : (Cond.selects "LayerDeskModel" xy_Mo_adds xy_Mo_adds) ∈ wT := wT_s (q := (xy_Mo_adds, 31)) (by decide +kernel) rfl
theorem k4q_35 : (Cond.code xy_Mo_isOpen xb_Mo_isOpen 2 (some .boolean)) ∈ wT := wT_t (List.mem_append_right _ (List.mem_append_right _ (List.mem_append_right _ (List.mem_append_right _ (List.mem_of_getElem? (i := 12) rfl))))) rfl
theorem k4q_36 : (Cond.methodLink "LayerDeskModel" 190 xy_Mo_isOpen) ∈ wT := wT_t (List.mem_append_right _ (List.mem_append_right _ (List.mem_append_right _ (List.mem_append_right _ (List.mem_of_getElem? (i := 9) rfl))))) rfl
theorem k4q_37 : (Cond.instanceMethod xy_Mo_isOpen) ∈ wT := wT_t (List.mem_append_right _ (List.mem_append_right _ (List.mem_append_right _ (List.mem_append_right _ (List.mem_of_getElem? (i := 11) rfl))))) rfl
theorem k4q_38 : (Cond.selects "LayerDeskModel" xy_Mo_isOpen xy_Mo_isOpen) ∈ wT := wT_s (q := (xy_Mo_isOpen, 31)) (by decide +kernel) rfl
set_option maxHeartbeats 4000000 in
set_option maxRecDepth 100000 in
theorem xc_Mo_layerX (l : Launch) (D : va_G) (kA : Nat → ClassId) (sz h : Nat) (mm : Nat → Nat) (v : Nat → Int32) (g : Nat → Nat → Int32) (fi : Int32) (pa : Int32) (bi : Int32) (wr : Nat) (nd : Nat) (nl : Nat) (hMI : MI v g) (hwr : v 2 = nI wr) (hwr40 : wr ≤ 40) (hnd : v 4 = nI nd) (hnd12 : nd ≤ 12) (hnl : v 5 = nI nl) (hnl5 : nl ≤ 5) : Met l xy_Mo_layer (.code xy_Mo_layer xb_Mo_layer 7 (some .int) :: wT) { frames := 5, cells := 0, slots := 0, locals := 120 } (va_Pc [.ref h, .int fi, .int pa, .int bi] (xPre D kA sz (moW h mm kA v g))) (va_Qi (fun (r : Int32) (u : (Nat → Int32) × (Nat → Nat → Int32)) => ∃ code why, u.1 0 = nI code ∧ u.1 1 = nI why ∧ u.1 2 = 0 ∧ u.1 4 = v 4 ∧ MI u.1 u.2 ∧ lyR g (g 0) (w_all (g 0) wr) nd nl fi pa bi code why r (u.1 5) u.2) (fun (u : (Nat → Int32) × (Nat → Nat → Int32)) t => va_P D xcl (moW h mm kA u.1 u.2) t.heap ∧ va_D (va_A (moW h mm kA v g) sz) (moW h mm kA u.1 u.2)) (va_A (moW h mm kA v g) sz)) 0 0 (va_A (moW h mm kA v g) sz) := by
  refine Met.ofW (cc := xb_Mo_layer) (maxL := 7) (ret := (some .int)) (by decide) rfl ?_
  intro p e s m args below meth c s₁ B hml hv
  obtain ⟨rfl, hsz, hP, hK, hD0⟩ := hv
  have hx := B.exec
  have hb := B.bytes
  have hr := B.returns
  have hT := x_hT B.pre
  have hown : s.vm.findClass xR_Mo = some m.cls := findClass_of_methodNamed B.named
  have hlocks := B.notSynchronized
  subst hsz
  have hD := hD0.self (sz := s.heap.size)
  generalize hAe : va_A (moW h mm kA v g) s.heap.size = A at hD ⊢
  have hA : ∀ q : Nat, s.heap.size ≤ q → A q := fun q h => by rw [← hAe]; exact Or.inr h
  have hS : va_S A s.heap s.heap [] := va_S.rf
  have hl := lv_entry ([.ref h, .int fi, .int pa, .int bi]) (n := 7) (Nat.le_of_ble_eq_true rfl)
  rw [lg_entry_eq]
  generalize (lg_sl ([.ref h, .int fi, .int pa, .int bi]) ++ List.replicate (7 - (lg_sl ([.ref h, .int fi, .int pa, .int bi])).length) Slot.unset).toArray = ls at hl ⊢
  have hl : lv_has ls 7 [(0, .ref h), (1, .int fi), (2, .int pa), (3, .int bi)] := hl
  have hP : va_P D xcl (moW h mm kA v g) s.heap := hP
  refine lv_aload_n hx hb xd_Mo_layer_0 rfl (lv_at hl 0 rfl) ?_
  refine lv_iconst (v := 0) hx hb xd_Mo_layer_1 (by decide) ?_
  refine va_put (D := D) (ci := 4) (v := .int 0) (ty := .int) (C := xR_Mo) (T := xT_Mo) (N := 31) hx hb hT xi_Mo xt_Mo xt_Mo_ok xn_Mo hown hK.1 hP hD hS 0 rfl rfl 0 (by decide) (hT _ k4q_0) (fun _ h9 => h9) rfl (by decide +kernel) rfl rfl (Nat.le_of_ble_eq_true rfl) xd_Mo_layer_2 (fun H locs hP hD hS => ?_)
  have hP : va_P D xcl (moW h mm kA (va_up v 0 0) g) H := hP
  have hD : va_D A (moW h mm kA (va_up v 0 0) g) := hD
  refine lv_aload_n hx hb xd_Mo_layer_5 rfl (lv_at hl 0 rfl) ?_
  refine lv_iconst (v := 0) hx hb xd_Mo_layer_6 (by decide) ?_
  refine va_put (D := D) (ci := 4) (v := .int 0) (ty := .int) (C := xR_Mo) (T := xT_Mo) (N := 31) hx hb hT xi_Mo xt_Mo xt_Mo_ok xn_Mo hown hK.1 hP hD hS 0 rfl rfl 1 (by decide) (hT _ k4q_1) (fun _ h9 => h9) rfl (by decide +kernel) rfl rfl (Nat.le_of_ble_eq_true rfl) xd_Mo_layer_7 (fun H locs hP hD hS => ?_)
  have hP : va_P D xcl (moW h mm kA (va_up (va_up v 0 0) 1 0) g) H := hP
  have hD : va_D A (moW h mm kA (va_up (va_up v 0 0) 1 0) g) := hD
  refine lv_aload_n hx hb xd_Mo_layer_10 rfl (lv_at hl 0 rfl) ?_
  have hFc := va_free (wc := (moW h mm kA (va_up (va_up v 0 0) 1 0) g)) hD hS hA [0, 1, 2, 3, 4, 5, 6, 7, 8, 9, 10, 11, 12, 13, 14, 15, 16, 17, 18, 19, 20, 21, 22, 23, 24, 25] rfl
  refine va_callv (va_runV (As := []) (rest := []) ⟨hx, hb, hml, hown, hT⟩ (xc_Mo_splitX l D kA H.size h mm (va_up (va_up v 0 0) 1 0) g wr (by first | assumption | omega) (by first | assumption | omega)) (cwV 0 hT (wT_V k4q_3 k4q_4 k4q_5 k4q_6 k4q_2) rfl rfl rfl (by decide +kernel) ⟨Nat.le_of_ble_eq_true rfl, Nat.le_of_ble_eq_true rfl⟩) (x_preV hK hP hD 0 rfl rfl) rfl rfl hl.1 rfl (lv_room (Nat.le_of_ble_eq_true rfl)) xd_Mo_layer_11 ⟨Nat.le_of_ble_eq_true rfl, Nat.le_of_ble_eq_true rfl⟩) hS (fun q _ h => hFc q h) hFc (fun u2 t H1 locs ht hvm hp3 hB hz1 hk1 hS => ?_)
  obtain ⟨hP1, hD1⟩ := hB
  rw [ht] at hP1
  have hD1 := hD1.weaken (fun _ _ _ h => hFc _ h)
  obtain ⟨v4, g5⟩ := u2
  generalize H1 = H at hP1 hS ⊢
  have hP := hP1
  have hD := hD1
  have hP : va_P D xcl (moW h mm kA v4 g5) H := hP
  have hD : va_D A (moW h mm kA v4 g5) := hD
  obtain ⟨hv9, hgk, hfT⟩ := hp3
  obtain ⟨wl, hwl⟩ : ∃ z, z = w_all (g 0) wr := ⟨_, rfl⟩
  have hv9 : v4 = va_up (va_up (va_up (va_up v 0 0) 1 0) 2 0) 3 (nI wl.length) := by rw [hwl]; exact hv9
  have hgk : ∀ j, j ≠ 1 → j ≠ 2 → g5 j = g j := hgk
  have hws : ∀ i, i < wl.length → g5 1 i = nI (wb wl i) ∧ g5 2 i = nI (we wl i) := by rw [hwl]; exact hfT
  have hwlr0 : WL wl := by rw [hwl]; exact WL_all _ hwr40
  obtain ⟨hwn20, hwlr⟩ := id hwlr0
  have hv0 : v4 0 = 0 := by rw [hv9]; rfl
  have hv1 : v4 1 = 0 := by rw [hv9]; rfl
  have hv2 : v4 2 = 0 := by rw [hv9]; rfl
  have hv3 : v4 3 = nI wl.length := by rw [hv9]; rfl
  have hv4 : v4 4 = v 4 := by rw [hv9]; rfl
  have hv5 : v4 5 = v 5 := by rw [hv9]; rfl
  have hndn : v4 4 = nI nd := hv4.trans hnd
  have hnln : v4 5 = nI nl := hv5.trans hnl
  have hM1 : MI v4 g5 := MI_g (hgk 0 (by decide) (by decide)) (hgk 3 (by decide) (by decide)) (hgk 4 (by decide) (by decide)) (hgk 5 (by decide) (by decide)) (hgk 12 (by decide) (by decide)) (hgk 19 (by decide) (by decide)) (hgk 20 (by decide) (by decide)) (hgk 21 (by decide) (by decide)) (MI_v (v := v) hv4 hv5 hMI)
  obtain ⟨-, ⟨nl0, hnl05, hnl0, hparg0⟩, hch0, -, -, hmdg, -⟩ := id hMI
  have enl : nl0 = nl := nI_inj (by omega) (by omega) (hnl0.symm.trans hnl)
  have hparg : ∀ la, la < nl → ∃ lq, lq ≤ la ∧ g 19 la = nI lq - 1 := by rw [← enl]; exact hparg0
  refine xjoin (D := D) (cl := xcl) (A := A) (H0 := s.heap) (σ := Nat) (ml := 7) 35 (fun (n0 : Nat) => [(0, .ref h), (1, .int fi), (2, .int pa), (3, .int bi)]) (fun (n0 : Nat) => [.int (nI n0)]) (fun (n0 : Nat) => moW h mm kA v4 g5) (fun (n0 : Nat) => (n0 ≤ 1) ∧ ((n0 = 1 ∧ (1 ≤ wl.length ∧ wl.length ≤ 3)) ∨ (n0 = 0 ∧ ¬ (1 ≤ wl.length ∧ wl.length ≤ 3)))) ?_ (fun jn6 => ?_)
  · intro a9 ls H locs hl hP hD hS hI
    obtain ⟨n0, rfl⟩ : ∃ z, z = a9 := ⟨_, rfl⟩
    obtain ⟨hn0, hn0x⟩ := hI
    have hn0 : n0 ≤ 1 := hn0
    have hn0x : (n0 = 1 ∧ (1 ≤ wl.length ∧ wl.length ≤ 3)) ∨ (n0 = 0 ∧ ¬ (1 ≤ wl.length ∧ wl.length ≤ 3)) := hn0x
    have hl : lv_has ls 7 [(0, .ref h), (1, .int fi), (2, .int pa), (3, .int bi)] := hl
    have hP : va_P D xcl (moW h mm kA v4 g5) H := hP
    have hD : va_D A (moW h mm kA v4 g5) := hD
    refine lv_istore hx hb xd_Mo_layer_35 hl (Nat.le_of_ble_eq_true rfl) rfl (fun ls hl => ?_)
    have hl : lv_has ls 7 [(4, .int (nI n0)), (0, .ref h), (1, .int fi), (2, .int pa), (3, .int bi)] := hl
    refine lv_iconst (v := 0) hx hb xd_Mo_layer_37 (by decide) ?_
    refine lv_istore hx hb xd_Mo_layer_38 hl (Nat.le_of_ble_eq_true rfl) rfl (fun ls hl => ?_)
    have hl : lv_has ls 7 [(5, .int 0), (4, .int (nI n0)), (0, .ref h), (1, .int fi), (2, .int pa), (3, .int bi)] := hl
    refine xlab (σ := Nat × Nat) (ml := 7) 40 (fun (w5, n4) => [(5, .int (nI w5)), (4, .int (nI n4)), (2, .int pa), (0, .ref h), (1, .int fi), (3, .int bi)]) (fun (w5, n4) => []) (fun (w5, n4) => moW h mm kA v4 g5) (fun (w5, n4) => (w5 ≤ wl.length) ∧ (n4 ≤ 1) ∧ ((n4 = 1 ∧ (1 ≤ wl.length ∧ wl.length ≤ 3) ∧ ∀ w, w < w5 → ¬ wN (g 0) wl w = 0) ∨ (n4 = 0 ∧ ¬ ((1 ≤ wl.length ∧ wl.length ≤ 3) ∧ ∀ w, w < w5 → ¬ wN (g 0) wl w = 0)))) (fun (w5, n4) => wl.length - w5) ?_ (0, n0) _ _ _ (lv_sub hl [0, 1, 4, 2, 3, 5] rfl) hP hD hS ⟨(show 0 ≤ wl.length from by first | assumption | omega), (show n0 ≤ 1 from by first | assumption | omega), (show (n0 = 1 ∧ (1 ≤ wl.length ∧ wl.length ≤ 3) ∧ ∀ w, w < 0 → ¬ wN (g 0) wl w = 0) ∨ (n0 = 0 ∧ ¬ ((1 ≤ wl.length ∧ wl.length ≤ 3) ∧ ∀ w, w < 0 → ¬ wN (g 0) wl w = 0)) from by
        rcases hn0x with ⟨q, q2⟩ | ⟨q, q2⟩
        · exact Or.inl ⟨q, q2, fun w h => absurd h (by omega)⟩
        · exact Or.inr ⟨q, fun z => q2 z.1⟩)⟩
    intro n9 ih7 a9 ls H locs hμ hl hP hD hS hI
    subst hμ
    obtain ⟨w5, n4⟩ := a9
    obtain ⟨hw5, hn4, hnm⟩ := hI
    have hw5 : w5 ≤ wl.length := hw5
    have hn4 : n4 ≤ 1 := hn4
    have hnm : (n4 = 1 ∧ (1 ≤ wl.length ∧ wl.length ≤ 3) ∧ ∀ w, w < w5 → ¬ wN (g 0) wl w = 0) ∨ (n4 = 0 ∧ ¬ ((1 ≤ wl.length ∧ wl.length ≤ 3) ∧ ∀ w, w < w5 → ¬ wN (g 0) wl w = 0)) := hnm
    have hl : lv_has ls 7 [(5, .int (nI w5)), (4, .int (nI n4)), (2, .int pa), (0, .ref h), (1, .int fi), (3, .int bi)] := hl
    have hP : va_P D xcl (moW h mm kA v4 g5) H := hP
    have hD : va_D A (moW h mm kA v4 g5) := hD
    refine lv_iload hx hb xd_Mo_layer_40 (lv_at hl 0 rfl) ?_
    refine lv_aload_n hx hb xd_Mo_layer_42 rfl (lv_at hl 3 rfl) ?_
    refine va_get (D := D) (ci := 4) (v := .int (v4 3)) (C := xR_Mo) (T := xT_Mo) (N := 31) hx hb hT xi_Mo hown hK.1 hP 0 rfl rfl 4 (by decide) (hT _ k4q_7) (fun _ h9 => h9) rfl xd_Mo_layer_43 ?_
    refine xn_top (x := (v4 3)) (y := nI wl.length) hv3 ?_
    refine xn_ge (a := w5) (b := wl.length) (tgt := 76) hx hb xd_Mo_layer_46 (by decide) (by omega) (by omega) (fun hc8 => ?_) (fun hc8 => ?_)
    · refine lv_iload hx hb xd_Mo_layer_76 (lv_at hl 1 rfl) ?_
      refine xz_eq (a := n4) (tgt := 103) hx hb xd_Mo_layer_78 (by decide) (by omega) (fun hc9 => ?_) (fun hc9 => ?_)
      · refine lv_aload_n hx hb xd_Mo_layer_103 rfl (lv_at hl 3 rfl) ?_
        refine lv_iconst (v := 1) hx hb xd_Mo_layer_104 (by decide) ?_
        have hFc := va_free (wc := (moW h mm kA v4 g5)) hD hS hA [0, 1, 2, 3, 4, 5, 6, 7, 8, 9, 10, 11, 12, 13, 14, 15, 16, 17, 18, 19, 20, 21, 22, 23, 24, 25] rfl
        refine va_calli (va_runV (As := [.int 1]) (rest := []) ⟨hx, hb, hml, hown, hT⟩ (xc_Mo_fails l D kA H.size h mm v4 g5 1) (cwV 1 hT (wT_V k4q_9 k4q_10 k4q_11 k4q_6 k4q_8) rfl rfl rfl (by decide +kernel) ⟨Nat.le_of_ble_eq_true rfl, Nat.le_of_ble_eq_true rfl⟩) (x_preV hK hP hD 0 rfl rfl) rfl rfl hl.1 rfl (lv_room (Nat.le_of_ble_eq_true rfl)) xd_Mo_layer_105 ⟨Nat.le_of_ble_eq_true rfl, Nat.le_of_ble_eq_true rfl⟩) hS (fun q _ h => hFc q h) hFc (fun r10 u11 t H1 locs ht hvm hp12 hB hz1 hk1 hS => ?_)
        obtain ⟨hP1, hD1⟩ := hB
        rw [ht] at hP1
        have hD1 := hD1.weaken (fun _ _ _ h => hFc _ h)
        obtain ⟨v13, g14⟩ := u11
        generalize H1 = H at hP1 hS ⊢
        have hP := hP1
        have hD := hD1
        have hP : va_P D xcl (moW h mm kA v13 g14) H := hP
        have hD : va_D A (moW h mm kA v13 g14) := hD
        obtain ⟨hr9, hu9⟩ := hp12
        subst hr9
        obtain ⟨hu1, hu2⟩ := Prod.mk.inj hu9
        subst hu1
        have hu2 := hu2.symm
        subst hu2
        have hP : va_P D xcl (moW h mm kA (va_up v4 0 1) g5) H := hP
        have hD : va_D A (moW h mm kA (va_up v4 0 1) g5) := hD
        exact W.iret (v := 0) hx hb hr (fun t ht hW => ⟨⟨0, ((va_up v4 0 1), g5), rfl, ⟨1, 0, rfl, hv1, hv2, hv4, MI_v rfl rfl hM1, by
        rw [← hwl]
        exact Or.inl ⟨fun q => by
          rcases hnm with ⟨q1, _⟩ | ⟨_, q1⟩
          · omega
          · exact q1 ⟨⟨q.1, q.2.1⟩, fun w h => q.2.2.1 w (by omega)⟩, rfl, rfl, hnln, ⟨fun j h1 h2 _ _ _ _ _ _ => hgk j h1 h2, fun la _ => congrFun (hgk 19 (by decide) (by decide)) la, fun la _ => ⟨congrFun (hgk 20 (by decide) (by decide)) la, fun k _ => congrFun (hgk 21 (by decide) (by decide)) _⟩⟩⟩⟩, by rw [ht]; exact hP, hD⟩, hS.F ht⟩) hS.2.2 xd_Mo_layer_108
      · refine lv_iload_n hx hb xd_Mo_layer_81 rfl (lv_at hl 4 rfl) ?_
        refine lv_if_lt (tgt := 103) hx hb xd_Mo_layer_82 (by decide) (fun hc15 => ?_) (fun hc15 => ?_)
        · refine lv_aload_n hx hb xd_Mo_layer_103 rfl (lv_at hl 3 rfl) ?_
          refine lv_iconst (v := 1) hx hb xd_Mo_layer_104 (by decide) ?_
          have hFc := va_free (wc := (moW h mm kA v4 g5)) hD hS hA [0, 1, 2, 3, 4, 5, 6, 7, 8, 9, 10, 11, 12, 13, 14, 15, 16, 17, 18, 19, 20, 21, 22, 23, 24, 25] rfl
          refine va_calli (va_runV (As := [.int 1]) (rest := []) ⟨hx, hb, hml, hown, hT⟩ (xc_Mo_fails l D kA H.size h mm v4 g5 1) (cwV 1 hT (wT_V k4q_9 k4q_10 k4q_11 k4q_6 k4q_8) rfl rfl rfl (by decide +kernel) ⟨Nat.le_of_ble_eq_true rfl, Nat.le_of_ble_eq_true rfl⟩) (x_preV hK hP hD 0 rfl rfl) rfl rfl hl.1 rfl (lv_room (Nat.le_of_ble_eq_true rfl)) xd_Mo_layer_105 ⟨Nat.le_of_ble_eq_true rfl, Nat.le_of_ble_eq_true rfl⟩) hS (fun q _ h => hFc q h) hFc (fun r16 u17 t H1 locs ht hvm hp18 hB hz1 hk1 hS => ?_)
          obtain ⟨hP1, hD1⟩ := hB
          rw [ht] at hP1
          have hD1 := hD1.weaken (fun _ _ _ h => hFc _ h)
          obtain ⟨v19, g20⟩ := u17
          generalize H1 = H at hP1 hS ⊢
          have hP := hP1
          have hD := hD1
          have hP : va_P D xcl (moW h mm kA v19 g20) H := hP
          have hD : va_D A (moW h mm kA v19 g20) := hD
          obtain ⟨hr9, hu9⟩ := hp18
          subst hr9
          obtain ⟨hu1, hu2⟩ := Prod.mk.inj hu9
          subst hu1
          have hu2 := hu2.symm
          subst hu2
          have hP : va_P D xcl (moW h mm kA (va_up v4 0 1) g5) H := hP
          have hD : va_D A (moW h mm kA (va_up v4 0 1) g5) := hD
          exact W.iret (v := 0) hx hb hr (fun t ht hW => ⟨⟨0, ((va_up v4 0 1), g5), rfl, ⟨1, 0, rfl, hv1, hv2, hv4, MI_v rfl rfl hM1, by
        rw [← hwl]
        exact Or.inl ⟨fun q => q.2.2.2.1.1 hc15, rfl, rfl, hnln, ⟨fun j h1 h2 _ _ _ _ _ _ => hgk j h1 h2, fun la _ => congrFun (hgk 19 (by decide) (by decide)) la, fun la _ => ⟨congrFun (hgk 20 (by decide) (by decide)) la, fun k _ => congrFun (hgk 21 (by decide) (by decide)) _⟩⟩⟩⟩, by rw [ht]; exact hP, hD⟩, hS.F ht⟩) hS.2.2 xd_Mo_layer_108
        · refine lv_iload_n hx hb xd_Mo_layer_85 rfl (lv_at hl 4 rfl) ?_
          refine lv_iconst (v := 1) hx hb xd_Mo_layer_86 (by decide) ?_
          refine lv_icmp_gt (tgt := 103) hx hb xd_Mo_layer_87 (by decide) (fun hc21 => ?_) (fun hc21 => ?_)
          · refine lv_aload_n hx hb xd_Mo_layer_103 rfl (lv_at hl 3 rfl) ?_
            refine lv_iconst (v := 1) hx hb xd_Mo_layer_104 (by decide) ?_
            have hFc := va_free (wc := (moW h mm kA v4 g5)) hD hS hA [0, 1, 2, 3, 4, 5, 6, 7, 8, 9, 10, 11, 12, 13, 14, 15, 16, 17, 18, 19, 20, 21, 22, 23, 24, 25] rfl
            refine va_calli (va_runV (As := [.int 1]) (rest := []) ⟨hx, hb, hml, hown, hT⟩ (xc_Mo_fails l D kA H.size h mm v4 g5 1) (cwV 1 hT (wT_V k4q_9 k4q_10 k4q_11 k4q_6 k4q_8) rfl rfl rfl (by decide +kernel) ⟨Nat.le_of_ble_eq_true rfl, Nat.le_of_ble_eq_true rfl⟩) (x_preV hK hP hD 0 rfl rfl) rfl rfl hl.1 rfl (lv_room (Nat.le_of_ble_eq_true rfl)) xd_Mo_layer_105 ⟨Nat.le_of_ble_eq_true rfl, Nat.le_of_ble_eq_true rfl⟩) hS (fun q _ h => hFc q h) hFc (fun r22 u23 t H1 locs ht hvm hp24 hB hz1 hk1 hS => ?_)
            obtain ⟨hP1, hD1⟩ := hB
            rw [ht] at hP1
            have hD1 := hD1.weaken (fun _ _ _ h => hFc _ h)
            obtain ⟨v25, g26⟩ := u23
            generalize H1 = H at hP1 hS ⊢
            have hP := hP1
            have hD := hD1
            have hP : va_P D xcl (moW h mm kA v25 g26) H := hP
            have hD : va_D A (moW h mm kA v25 g26) := hD
            obtain ⟨hr9, hu9⟩ := hp24
            subst hr9
            obtain ⟨hu1, hu2⟩ := Prod.mk.inj hu9
            subst hu1
            have hu2 := hu2.symm
            subst hu2
            have hP : va_P D xcl (moW h mm kA (va_up v4 0 1) g5) H := hP
            have hD : va_D A (moW h mm kA (va_up v4 0 1) g5) := hD
            exact W.iret (v := 0) hx hb hr (fun t ht hW => ⟨⟨0, ((va_up v4 0 1), g5), rfl, ⟨1, 0, rfl, hv1, hv2, hv4, MI_v rfl rfl hM1, by
        rw [← hwl]
        exact Or.inl ⟨fun q => q.2.2.2.1.2 hc21, rfl, rfl, hnln, ⟨fun j h1 h2 _ _ _ _ _ _ => hgk j h1 h2, fun la _ => congrFun (hgk 19 (by decide) (by decide)) la, fun la _ => ⟨congrFun (hgk 20 (by decide) (by decide)) la, fun k _ => congrFun (hgk 21 (by decide) (by decide)) _⟩⟩⟩⟩, by rw [ht]; exact hP, hD⟩, hS.F ht⟩) hS.2.2 xd_Mo_layer_108
          · refine xjoin (D := D) (cl := xcl) (A := A) (H0 := s.heap) (σ := Nat) (ml := 7) 109 (fun (lq : Nat) => [(0, .ref h), (1, .int fi), (2, .int (nI lq - 1)), (3, .int bi)]) (fun (lq : Nat) => []) (fun (lq : Nat) => moW h mm kA v4 g5) (fun (lq : Nat) => (lq ≤ nl) ∧ (lq = iN (pa + 1)) ∧ (pa = -1 ∨ opP g nl pa)) ?_ (fun jn27 => ?_)
            · intro a9 ls H locs hl hP hD hS hI
              obtain ⟨lq, rfl⟩ : ∃ z, z = a9 := ⟨_, rfl⟩
              obtain ⟨hlq, hlqp, hpao⟩ := hI
              have hlq : lq ≤ nl := hlq
              have hlqp : lq = iN (pa + 1) := hlqp
              have hpao : pa = -1 ∨ opP g nl pa := hpao
              have hok1 : ok1 g (g 0) wl nl fi pa := by
                rcases hnm with ⟨_, q2, q3⟩ | ⟨q, _⟩
                · exact ⟨q2.1, q2.2, fun w h => q3 w (by omega), ⟨hc15, hc21⟩, hpao⟩
                · omega
              have hl : lv_has ls 7 [(0, .ref h), (1, .int fi), (2, .int (nI lq - 1)), (3, .int bi)] := hl
              have hP : va_P D xcl (moW h mm kA v4 g5) H := hP
              have hD : va_D A (moW h mm kA v4 g5) := hD
              refine lv_aload_n hx hb xd_Mo_layer_109 rfl (lv_at hl 0 rfl) ?_
              refine va_get (D := D) (ci := 4) (v := .ref (mm 18)) (C := xR_Mo) (T := xT_Mo) (N := 31) hx hb hT xi_Mo hown hK.1 hP 0 rfl rfl 24 (by decide) (hT _ k4q_12) (fun _ h9 => h9) rfl xd_Mo_layer_110 ?_
              refine lv_aload_n hx hb xd_Mo_layer_113 rfl (lv_at hl 0 rfl) ?_
              refine va_get (D := D) (ci := 4) (v := .int (v4 5)) (C := xR_Mo) (T := xT_Mo) (N := 31) hx hb hT xi_Mo hown hK.1 hP 0 rfl rfl 23 (by decide) (hT _ k4q_13) (fun _ h9 => h9) rfl xd_Mo_layer_114 ?_
              refine xn_top (x := (v4 5)) (y := nI nl) hnln ?_
              refine lv_iload_n hx hb xd_Mo_layer_117 rfl (lv_at hl 1 rfl) ?_
              refine xn_iast (i := nl) hx hb hK.1 hP hD hS 19 0 rfl rfl (by omega) (by decide) xd_Mo_layer_118 (fun H locs hP hD hS => ?_)
              have hP : va_P D xcl (moW h mm kA v4 (va_up g5 18 (upd (g5 18) nl fi))) H := hP
              have hD : va_D A (moW h mm kA v4 (va_up g5 18 (upd (g5 18) nl fi))) := hD
              refine lv_aload_n hx hb xd_Mo_layer_119 rfl (lv_at hl 0 rfl) ?_
              refine va_get (D := D) (ci := 4) (v := .ref (mm 19)) (C := xR_Mo) (T := xT_Mo) (N := 31) hx hb hT xi_Mo hown hK.1 hP 0 rfl rfl 25 (by decide) (hT _ k4q_14) (fun _ h9 => h9) rfl xd_Mo_layer_120 ?_
              refine lv_aload_n hx hb xd_Mo_layer_123 rfl (lv_at hl 0 rfl) ?_
              refine va_get (D := D) (ci := 4) (v := .int (v4 5)) (C := xR_Mo) (T := xT_Mo) (N := 31) hx hb hT xi_Mo hown hK.1 hP 0 rfl rfl 23 (by decide) (hT _ k4q_13) (fun _ h9 => h9) rfl xd_Mo_layer_124 ?_
              refine xn_top (x := (v4 5)) (y := nI nl) hnln ?_
              refine lv_iload_n hx hb xd_Mo_layer_127 rfl (lv_at hl 2 rfl) ?_
              refine xn_iast (i := nl) hx hb hK.1 hP hD hS 20 0 rfl rfl (by omega) (by decide) xd_Mo_layer_128 (fun H locs hP hD hS => ?_)
              have hP : va_P D xcl (moW h mm kA v4 (va_up (va_up g5 18 (upd (g5 18) nl fi)) 19 (upd (g5 19) nl (nI lq - 1)))) H := hP
              have hD : va_D A (moW h mm kA v4 (va_up (va_up g5 18 (upd (g5 18) nl fi)) 19 (upd (g5 19) nl (nI lq - 1)))) := hD
              refine lv_aload_n hx hb xd_Mo_layer_129 rfl (lv_at hl 0 rfl) ?_
              refine va_get (D := D) (ci := 4) (v := .ref (mm 20)) (C := xR_Mo) (T := xT_Mo) (N := 31) hx hb hT xi_Mo hown hK.1 hP 0 rfl rfl 26 (by decide) (hT _ k4q_15) (fun _ h9 => h9) rfl xd_Mo_layer_130 ?_
              refine lv_aload_n hx hb xd_Mo_layer_133 rfl (lv_at hl 0 rfl) ?_
              refine va_get (D := D) (ci := 4) (v := .int (v4 5)) (C := xR_Mo) (T := xT_Mo) (N := 31) hx hb hT xi_Mo hown hK.1 hP 0 rfl rfl 23 (by decide) (hT _ k4q_13) (fun _ h9 => h9) rfl xd_Mo_layer_134 ?_
              refine xn_top (x := (v4 5)) (y := nI nl) hnln ?_
              refine lv_iconst (v := 0) hx hb xd_Mo_layer_137 (by decide) ?_
              refine xn_iast (i := nl) hx hb hK.1 hP hD hS 21 0 rfl rfl (by omega) (by decide) xd_Mo_layer_138 (fun H locs hP hD hS => ?_)
              have hP : va_P D xcl (moW h mm kA v4 (va_up (va_up (va_up g5 18 (upd (g5 18) nl fi)) 19 (upd (g5 19) nl (nI lq - 1))) 20 (upd (g5 20) nl 0))) H := hP
              have hD : va_D A (moW h mm kA v4 (va_up (va_up (va_up g5 18 (upd (g5 18) nl fi)) 19 (upd (g5 19) nl (nI lq - 1))) 20 (upd (g5 20) nl 0))) := hD
              have hMz : MI v4 (va_up (va_up (va_up g5 18 (upd (g5 18) nl fi)) 19 (upd (g5 19) nl (nI lq - 1))) 20 (upd (g5 20) nl 0)) := MI_dr hnln hnl5 hM1
              have hpz : ∀ la, la < nl + 1 → ∃ lz, lz ≤ la ∧ (va_up (va_up (va_up g5 18 (upd (g5 18) nl fi)) 19 (upd (g5 19) nl (nI lq - 1))) 20 (upd (g5 20) nl 0)) 19 la = nI lz - 1 := fun la hla => by
                show ∃ lz, lz ≤ la ∧ upd (g5 19) nl (nI lq - 1) la = nI lz - 1
                by_cases e : la = nl
                · subst e; exact ⟨lq, hlq, pk_us⟩
                · rw [pk_un e, hgk 19 (by decide) (by decide)]; exact hparg la (by omega)
              have hlqz : (va_up (va_up (va_up g5 18 (upd (g5 18) nl fi)) 19 (upd (g5 19) nl (nI lq - 1))) 20 (upd (g5 20) nl 0)) 19 nl = nI lq - 1 := pk_us
              have h18z : (va_up (va_up (va_up g5 18 (upd (g5 18) nl fi)) 19 (upd (g5 19) nl (nI lq - 1))) 20 (upd (g5 20) nl 0)) 18 nl = fi := pk_us
              have hLz : LT ((va_up (va_up (va_up g5 18 (upd (g5 18) nl fi)) 19 (upd (g5 19) nl (nI lq - 1))) 20 (upd (g5 20) nl 0)) 20) ((va_up (va_up (va_up g5 18 (upd (g5 18) nl fi)) 19 (upd (g5 19) nl (nI lq - 1))) 20 (upd (g5 20) nl 0)) 21) nl [] := ⟨pk_us, fun k hk => absurd hk (Nat.not_lt_zero _)⟩
              have hgz : ∀ j, j ≠ 18 → j ≠ 19 → j ≠ 20 → (va_up (va_up (va_up g5 18 (upd (g5 18) nl fi)) 19 (upd (g5 19) nl (nI lq - 1))) 20 (upd (g5 20) nl 0)) j = g5 j := fun j h1 h2 h3 => by simp [va_up, h1, h2, h3]
              have h19z : ∀ la, la < nl → (va_up (va_up (va_up g5 18 (upd (g5 18) nl fi)) 19 (upd (g5 19) nl (nI lq - 1))) 20 (upd (g5 20) nl 0)) 19 la = g 19 la := fun la hla => (show upd (g5 19) nl (nI lq - 1) la = g 19 la by rw [pk_un (by omega), hgk 19 (by decide) (by decide)])
              have hRWz : RW g (va_up (va_up (va_up g5 18 (upd (g5 18) nl fi)) 19 (upd (g5 19) nl (nI lq - 1))) 20 (upd (g5 20) nl 0)) nl := fun la hla => ⟨(show upd (g5 20) nl 0 la = g 20 la by rw [pk_un (by omega), hgk 20 (by decide) (by decide)]), fun k hk => (show g5 21 (12 * la + k) = g 21 (12 * la + k) by rw [hgk 21 (by decide) (by decide)])⟩
              generalize hGe : (va_up (va_up (va_up g5 18 (upd (g5 18) nl fi)) 19 (upd (g5 19) nl (nI lq - 1))) 20 (upd (g5 20) nl 0)) = gz at hP hD hMz hpz hlqz h18z hLz hgz h19z hRWz
              have hgzg : ∀ j, j ≠ 1 → j ≠ 2 → j ≠ 18 → j ≠ 19 → j ≠ 20 → gz j = g j := fun j h1 h2 h3 h4 h5 => (hgz j h3 h4 h5).trans (hgk j h1 h2)
              have hP : va_P D xcl (moW h mm kA v4 gz) H := hP
              have hD : va_D A (moW h mm kA v4 gz) := hD
              refine lv_iconst (v := 1) hx hb xd_Mo_layer_139 (by decide) ?_
              refine lv_istore hx hb xd_Mo_layer_140 hl (Nat.le_of_ble_eq_true rfl) rfl (fun ls hl => ?_)
              have hl : lv_has ls 7 [(5, .int 1), (0, .ref h), (1, .int fi), (2, .int (nI lq - 1)), (3, .int bi)] := hl
              refine lv_iconst (v := 0) hx hb xd_Mo_layer_142 (by decide) ?_
              refine lv_istore hx hb xd_Mo_layer_143 hl (Nat.le_of_ble_eq_true rfl) rfl (fun ls hl => ?_)
              have hl : lv_has ls 7 [(6, .int 0), (5, .int 1), (0, .ref h), (1, .int fi), (2, .int (nI lq - 1)), (3, .int bi)] := hl
              refine xlab (σ := Nat × Nat × List Nat × (Nat → Nat → Int32)) (ml := 7) 145 (fun (w6, gd, L9, g9) => [(6, .int (nI w6)), (5, .int (nI gd)), (0, .ref h), (1, .int fi), (3, .int bi)]) (fun (w6, gd, L9, g9) => []) (fun (w6, gd, L9, g9) => moW h mm kA v4 g9) (fun (w6, gd, L9, g9) => (w6 ≤ wl.length) ∧ (gd ≤ 1) ∧ (MI v4 g9) ∧ (∀ j, j ≠ 20 → j ≠ 21 → j ≠ 23 → g9 j = gz j) ∧ (RW gz g9 nl) ∧ (LT (g9 20) (g9 21) nl L9) ∧ (GL nd L9) ∧ ((gd = 1 ∧ aF (adG g nd fi lq) [] (nmL (g 0) wl wl.length 0) = aF (adG g nd fi lq) L9 (nmL (g 0) wl (wl.length - w6) w6)) ∨ (gd = 0 ∧ ∃ Lx, aF (adG g nd fi lq) [] (nmL (g 0) wl wl.length 0) = (false, Lx)))) (fun (w6, gd, L9, g9) => wl.length - w6) ?_ (0, 1, [], gz) _ _ _ (lv_sub hl [0, 1, 2, 3, 5] rfl) hP hD hS ⟨(show 0 ≤ wl.length from by first | assumption | omega), (show 1 ≤ 1 from by first | assumption | omega), (show MI v4 gz from hMz), (show ∀ j, j ≠ 20 → j ≠ 21 → j ≠ 23 → gz j = gz j from fun j h1 h2 h3 => rfl), (show RW gz gz nl from RW_rf), (show LT (gz 20) (gz 21) nl ([]) from hLz), (show GL nd ([]) from GL_nil), (show (1 = 1 ∧ aF (adG g nd fi lq) [] (nmL (g 0) wl wl.length 0) = aF (adG g nd fi lq) ([]) (nmL (g 0) wl (wl.length - 0) 0)) ∨ (1 = 0 ∧ ∃ Lx, aF (adG g nd fi lq) [] (nmL (g 0) wl wl.length 0) = (false, Lx)) from Or.inl ⟨rfl, rfl⟩)⟩
              intro n9 ih28 a9 ls H locs hμ hl hP hD hS hI
              subst hμ
              obtain ⟨w6, gd, L9, g9⟩ := a9
              obtain ⟨hw6, hgd, hM9, hfr9, hRW9, hL9, hG9, hA9⟩ := hI
              have hw6 : w6 ≤ wl.length := hw6
              have hgd : gd ≤ 1 := hgd
              have hM9 : MI v4 g9 := hM9
              have hfr9 : ∀ j, j ≠ 20 → j ≠ 21 → j ≠ 23 → g9 j = gz j := hfr9
              have hRW9 : RW gz g9 nl := hRW9
              have hL9 : LT (g9 20) (g9 21) nl L9 := hL9
              have hG9 : GL nd L9 := hG9
              have hA9 : (gd = 1 ∧ aF (adG g nd fi lq) [] (nmL (g 0) wl wl.length 0) = aF (adG g nd fi lq) L9 (nmL (g 0) wl (wl.length - w6) w6)) ∨ (gd = 0 ∧ ∃ Lx, aF (adG g nd fi lq) [] (nmL (g 0) wl wl.length 0) = (false, Lx)) := hA9
              have hpn9 : ∀ la, la < nl + 1 → ∃ lq, lq ≤ la ∧ g9 19 la = nI lq - 1 := by rw [hfr9 19 (by decide) (by decide) (by decide)]; exact hpz
              have hlqe9 : g9 19 nl = nI lq - 1 := by rw [hfr9 19 (by decide) (by decide) (by decide)]; exact hlqz
              have h189 : g9 18 nl = fi := by rw [hfr9 18 (by decide) (by decide) (by decide)]; exact h18z
              have hws9 : ∀ i, i < wl.length → g9 1 i = nI (wb wl i) ∧ g9 2 i = nI (we wl i) := by rw [hfr9 1 (by decide) (by decide) (by decide), hfr9 2 (by decide) (by decide) (by decide), hgz 1 (by decide) (by decide) (by decide), hgz 2 (by decide) (by decide) (by decide)]; exact hws
              have hSQ9 : SQ g g9 nl := ⟨fun j h1 h2 h8 h9 h10 h11 h13 h14 => (hfr9 j h10 h11 h13).trans (hgzg j h1 h2 h8 h9 h10), fun la hla => by rw [hfr9 19 (by decide) (by decide) (by decide)]; exact h19z la hla, RW_tr hRWz hRW9⟩
              have hSM9 : adG g9 nd (g9 18 nl) lq = adG g nd fi lq := by
                rw [h189]
                exact adG_eq (hSQ9.1 3 (by decide) (by decide) (by decide) (by decide) (by decide) (by decide) (by decide) (by decide)) (hSQ9.1 4 (by decide) (by decide) (by decide) (by decide) (by decide) (by decide) (by decide) (by decide)) (hSQ9.1 12 (by decide) (by decide) (by decide) (by decide) (by decide) (by decide) (by decide) (by decide)) (hSQ9.1 13 (by decide) (by decide) (by decide) (by decide) (by decide) (by decide) (by decide) (by decide)) (hSQ9.1 17 (by decide) (by decide) (by decide) (by decide) (by decide) (by decide) (by decide) (by decide)) (fun n => lkG_row2 (np := nl) (by omega) hparg hlq hlq hSQ9.2.2 (hSQ9.1 4 (by decide) (by decide) (by decide) (by decide) (by decide) (by decide) (by decide) (by decide)) hSQ9.2.1 hmdg)
              have hLl9 := GL_len hG9
              have hmk9 := hL9.1
              have hl : lv_has ls 7 [(6, .int (nI w6)), (5, .int (nI gd)), (0, .ref h), (1, .int fi), (3, .int bi)] := hl
              have hP : va_P D xcl (moW h mm kA v4 g9) H := hP
              have hD : va_D A (moW h mm kA v4 g9) := hD
              refine lv_iload hx hb xd_Mo_layer_145 (lv_at hl 0 rfl) ?_
              refine lv_aload_n hx hb xd_Mo_layer_147 rfl (lv_at hl 2 rfl) ?_
              refine va_get (D := D) (ci := 4) (v := .int (v4 3)) (C := xR_Mo) (T := xT_Mo) (N := 31) hx hb hT xi_Mo hown hK.1 hP 0 rfl rfl 4 (by decide) (hT _ k4q_7) (fun _ h9 => h9) rfl xd_Mo_layer_148 ?_
              refine xn_top (x := (v4 3)) (y := nI wl.length) hv3 ?_
              refine xn_ge (a := w6) (b := wl.length) (tgt := 177) hx hb xd_Mo_layer_151 (by decide) (by omega) (by omega) (fun hc29 => ?_) (fun hc29 => ?_)
              · refine lv_iload hx hb xd_Mo_layer_177 (lv_at hl 1 rfl) ?_
                refine xz_ne (a := gd) (tgt := 188) hx hb xd_Mo_layer_179 (by decide) (by omega) (fun hc30 => ?_) (fun hc30 => ?_)
                · refine xjoin (D := D) (cl := xcl) (A := A) (H0 := s.heap) (σ := List Nat × (Nat → Nat → Int32)) (ml := 7) 196 (fun (L8, g8) => [(0, .ref h)]) (fun (L8, g8) => []) (fun (L8, g8) => moW h mm kA v4 g8) (fun (L8, g8) => (MI v4 g8) ∧ (∀ j, j ≠ 20 → j ≠ 21 → j ≠ 23 → g8 j = gz j) ∧ (RW gz g8 nl) ∧ (LT (g8 20) (g8 21) nl L8) ∧ (GL nd L8) ∧ (L8 = cif (¬ bi = 0) (bIt (bUg g nd fi lq) g lq 13 L9) L9)) ?_ (fun jn31 => ?_)
                  · intro a9 ls H locs hl hP hD hS hI
                    obtain ⟨L8, g8⟩ := a9
                    obtain ⟨hM8, hfr8, hRW8, hL8, hG8, hLb8⟩ := hI
                    have hM8 : MI v4 g8 := hM8
                    have hfr8 : ∀ j, j ≠ 20 → j ≠ 21 → j ≠ 23 → g8 j = gz j := hfr8
                    have hRW8 : RW gz g8 nl := hRW8
                    have hL8 : LT (g8 20) (g8 21) nl L8 := hL8
                    have hG8 : GL nd L8 := hG8
                    have hLb8 : L8 = cif (¬ bi = 0) (bIt (bUg g nd fi lq) g lq 13 L9) L9 := hLb8
                    have hNM : aF (adG g nd fi lq) [] (nmL (g 0) wl wl.length 0) = (true, L9) := by
                      rcases hA9 with ⟨_, q⟩ | ⟨q, _⟩
                      · rw [q, show wl.length - w6 = 0 by omega]; rfl
                      · omega
                    have hpn8 : ∀ la, la < nl + 1 → ∃ lq, lq ≤ la ∧ g8 19 la = nI lq - 1 := by rw [hfr8 19 (by decide) (by decide) (by decide)]; exact hpz
                    have hlqe8 : g8 19 nl = nI lq - 1 := by rw [hfr8 19 (by decide) (by decide) (by decide)]; exact hlqz
                    have h188 : g8 18 nl = fi := by rw [hfr8 18 (by decide) (by decide) (by decide)]; exact h18z
                    have hws8 : ∀ i, i < wl.length → g8 1 i = nI (wb wl i) ∧ g8 2 i = nI (we wl i) := by rw [hfr8 1 (by decide) (by decide) (by decide), hfr8 2 (by decide) (by decide) (by decide), hgz 1 (by decide) (by decide) (by decide), hgz 2 (by decide) (by decide) (by decide)]; exact hws
                    have hSQ8 : SQ g g8 nl := ⟨fun j h1 h2 h8 h9 h10 h11 h13 h14 => (hfr8 j h10 h11 h13).trans (hgzg j h1 h2 h8 h9 h10), fun la hla => by rw [hfr8 19 (by decide) (by decide) (by decide)]; exact h19z la hla, RW_tr hRWz hRW8⟩
                    have hSM8 : adG g8 nd (g8 18 nl) lq = adG g nd fi lq := by
                      rw [h188]
                      exact adG_eq (hSQ8.1 3 (by decide) (by decide) (by decide) (by decide) (by decide) (by decide) (by decide) (by decide)) (hSQ8.1 4 (by decide) (by decide) (by decide) (by decide) (by decide) (by decide) (by decide) (by decide)) (hSQ8.1 12 (by decide) (by decide) (by decide) (by decide) (by decide) (by decide) (by decide) (by decide)) (hSQ8.1 13 (by decide) (by decide) (by decide) (by decide) (by decide) (by decide) (by decide) (by decide)) (hSQ8.1 17 (by decide) (by decide) (by decide) (by decide) (by decide) (by decide) (by decide) (by decide)) (fun n => lkG_row2 (np := nl) (by omega) hparg hlq hlq hSQ8.2.2 (hSQ8.1 4 (by decide) (by decide) (by decide) (by decide) (by decide) (by decide) (by decide) (by decide)) hSQ8.2.1 hmdg)
                    have hLl8 := GL_len hG8
                    have hmk8 := hL8.1
                    have hl : lv_has ls 7 [(0, .ref h)] := hl
                    have hP : va_P D xcl (moW h mm kA v4 g8) H := hP
                    have hD : va_D A (moW h mm kA v4 g8) := hD
                    refine lv_aload_n hx hb xd_Mo_layer_196 rfl (lv_at hl 0 rfl) ?_
                    refine lv_aload_n hx hb xd_Mo_layer_197 rfl (lv_at hl 0 rfl) ?_
                    have hFc := va_free (wc := (moW h mm kA v4 g8)) hD hS hA [0, 1, 2, 3, 4, 5, 6, 7, 8, 9, 10, 11, 12, 13, 14, 15, 16, 17, 18, 19, 20, 21, 22, 23, 24, 25] rfl
                    refine va_calli (va_runV (As := []) (rest := [.ref h]) ⟨hx, hb, hml, hown, hT⟩ (xc_Mo_reasonX l D kA H.size h mm v4 g8 nl L8.length hM8 (by first | assumption | omega) (by first | assumption | omega) hpn8 hmk8 (by first | assumption | omega)) (cwV 0 hT (wT_V k4q_17 k4q_18 k4q_19 k4q_6 k4q_16) rfl rfl rfl (by decide +kernel) ⟨Nat.le_of_ble_eq_true rfl, Nat.le_of_ble_eq_true rfl⟩) (x_preV hK hP hD 0 rfl rfl) rfl rfl hl.1 rfl (lv_room (Nat.le_of_ble_eq_true rfl)) xd_Mo_layer_198 ⟨Nat.le_of_ble_eq_true rfl, Nat.le_of_ble_eq_true rfl⟩) hS (fun q _ h => hFc q h) hFc (fun r32 u33 t H1 locs ht hvm hp34 hB hz1 hk1 hS => ?_)
                    obtain ⟨hP1, hD1⟩ := hB
                    rw [ht] at hP1
                    have hD1 := hD1.weaken (fun _ _ _ h => hFc _ h)
                    obtain ⟨v35, g36⟩ := u33
                    generalize H1 = H at hP1 hS ⊢
                    have hP := hP1
                    have hD := hD1
                    have hP : va_P D xcl (moW h mm kA v35 g36) H := hP
                    have hD : va_D A (moW h mm kA v35 g36) := hD
                    obtain ⟨hu9, hfrq, hr7⟩ := hp34
                    have hu9 : v4 = v35 := hu9.symm
                    subst hu9
                    obtain ⟨fs, hge⟩ : ∃ z, g36 = va_up g8 24 z := ⟨_, g24 hfrq⟩
                    subst hge
                    obtain ⟨k7, hk7⟩ : ∃ z, z = rsW g8 nl L8.length := ⟨_, rfl⟩
                    have hr7 : r32 = nI k7 := by rw [hk7]; exact hr7
                    subst hr7
                    have hk73 : k7 ≤ 3 := by rw [hk7]; exact rsW_le
                    have hk70 : k7 = 0 → nl < 5 := fun q => by
                      have q2 := rsW_0 (hk7.symm.trans q)
                      omega
                    have hent2 : ∀ i, 12 * nl ≤ i → i < 12 * nl + L8.length → ∃ d, d < 12 ∧ g8 21 i = nI d := fun i h1 h2 => by
                      have q := hL8.2 (i - 12 * nl) (by omega)
                      rw [show 12 * nl + (i - 12 * nl) = i by omega] at q
                      have q2 := hG8.1 _ (getD_mem (L := L8) (k := i - 12 * nl) (by omega))
                      exact ⟨_, by omega, q⟩
                    have hP : va_P D xcl (moW h mm kA v4 (va_up g8 24 fs)) H := hP
                    have hD : va_D A (moW h mm kA v4 (va_up g8 24 fs)) := hD
                    refine va_put (D := D) (ci := 4) (v := .int (nI k7)) (ty := .int) (C := xR_Mo) (T := xT_Mo) (N := 31) hx hb hT xi_Mo xt_Mo xt_Mo_ok xn_Mo hown hK.1 hP hD hS 0 rfl rfl 1 (by decide) (hT _ k4q_1) (fun _ h9 => h9) rfl (by decide +kernel) rfl rfl (Nat.le_of_ble_eq_true rfl) xd_Mo_layer_201 (fun H locs hP hD hS => ?_)
                    have hP : va_P D xcl (moW h mm kA (va_up v4 1 (nI k7)) (va_up g8 24 fs)) H := hP
                    have hD : va_D A (moW h mm kA (va_up v4 1 (nI k7)) (va_up g8 24 fs)) := hD
                    refine lv_aload_n hx hb xd_Mo_layer_204 rfl (lv_at hl 0 rfl) ?_
                    refine va_get (D := D) (ci := 4) (v := .int (nI k7)) (C := xR_Mo) (T := xT_Mo) (N := 31) hx hb hT xi_Mo hown hK.1 hP 0 rfl rfl 1 (by decide) (hT _ k4q_1) (fun _ h9 => h9) rfl xd_Mo_layer_205 ?_
                    refine xz_le (a := k7) (tgt := 217) hx hb xd_Mo_layer_208 (by decide) (by omega) (fun hc37 => ?_) (fun hc37 => ?_)
                    · refine lv_bipush (v := 12) hx hb xd_Mo_layer_217 (by decide) ?_
                      refine lv_aload_n hx hb xd_Mo_layer_219 rfl (lv_at hl 0 rfl) ?_
                      refine va_get (D := D) (ci := 4) (v := .int (v4 5)) (C := xR_Mo) (T := xT_Mo) (N := 31) hx hb hT xi_Mo hown hK.1 hP 0 rfl rfl 23 (by decide) (hT _ k4q_13) (fun _ h9 => h9) rfl xd_Mo_layer_220 ?_
                      refine xn_top (x := (v4 5)) (y := nI nl) hnln ?_
                      refine lv_imul hx hb xd_Mo_layer_223 ?_
                      refine xn_top (y := nI (12 * nl)) (pk_mul 12 nl) ?_
                      refine lv_istore hx hb xd_Mo_layer_224 hl (Nat.le_of_ble_eq_true rfl) rfl (fun ls hl => ?_)
                      have hl : lv_has ls 7 [(6, .int (nI (12 * nl))), (0, .ref h)] := hl
                      refine xlab (σ := Nat × (Nat → Int32)) (ml := 7) 226 (fun (i6, f11) => [(6, .int (nI i6)), (0, .ref h)]) (fun (i6, f11) => []) (fun (i6, f11) => moW h mm kA (va_up v4 1 (nI k7)) (va_up (va_up g8 11 f11) 24 fs)) (fun (i6, f11) => (12 * nl ≤ i6) ∧ (i6 ≤ 12 * nl + L8.length) ∧ (∀ d, f11 d = cif (∃ k, k < i6 - 12 * nl ∧ L8.getD k 0 = d) 1 (g8 11 d))) (fun (i6, f11) => 12 * nl + L8.length - i6) ?_ (12 * nl, (g8 11)) _ _ _ (lv_sub hl [0, 1] rfl) hP hD hS ⟨(show 12 * nl ≤ (12 * nl) from by first | assumption | omega), (show (12 * nl) ≤ 12 * nl + L8.length from by first | assumption | omega), (show ∀ d, (g8 11) d = cif (∃ k, k < (12 * nl) - 12 * nl ∧ L8.getD k 0 = d) 1 (g8 11 d) from fun d => by rw [cif_neg]; intro ⟨k, q, _⟩; omega)⟩
                      intro n9 ih38 a9 ls H locs hμ hl hP hD hS hI
                      subst hμ
                      obtain ⟨i6, f11⟩ := a9
                      obtain ⟨hi61, hi62, h11⟩ := hI
                      have hi61 : 12 * nl ≤ i6 := hi61
                      have hi62 : i6 ≤ 12 * nl + L8.length := hi62
                      have h11 : ∀ d, f11 d = cif (∃ k, k < i6 - 12 * nl ∧ L8.getD k 0 = d) 1 (g8 11 d) := h11
                      have hl : lv_has ls 7 [(6, .int (nI i6)), (0, .ref h)] := hl
                      have hP : va_P D xcl (moW h mm kA (va_up v4 1 (nI k7)) (va_up (va_up g8 11 f11) 24 fs)) H := hP
                      have hD : va_D A (moW h mm kA (va_up v4 1 (nI k7)) (va_up (va_up g8 11 f11) 24 fs)) := hD
                      refine lv_iload hx hb xd_Mo_layer_226 (lv_at hl 0 rfl) ?_
                      refine lv_bipush (v := 12) hx hb xd_Mo_layer_228 (by decide) ?_
                      refine lv_aload_n hx hb xd_Mo_layer_230 rfl (lv_at hl 1 rfl) ?_
                      refine va_get (D := D) (ci := 4) (v := .int (v4 5)) (C := xR_Mo) (T := xT_Mo) (N := 31) hx hb hT xi_Mo hown hK.1 hP 0 rfl rfl 23 (by decide) (hT _ k4q_13) (fun _ h9 => h9) rfl xd_Mo_layer_231 ?_
                      refine xn_top (x := (v4 5)) (y := nI nl) hnln ?_
                      refine lv_imul hx hb xd_Mo_layer_234 ?_
                      refine xn_top (y := nI (12 * nl)) (pk_mul 12 nl) ?_
                      refine lv_aload_n hx hb xd_Mo_layer_235 rfl (lv_at hl 1 rfl) ?_
                      refine va_get (D := D) (ci := 4) (v := .ref (mm 20)) (C := xR_Mo) (T := xT_Mo) (N := 31) hx hb hT xi_Mo hown hK.1 hP 0 rfl rfl 26 (by decide) (hT _ k4q_15) (fun _ h9 => h9) rfl xd_Mo_layer_236 ?_
                      refine lv_aload_n hx hb xd_Mo_layer_239 rfl (lv_at hl 1 rfl) ?_
                      refine va_get (D := D) (ci := 4) (v := .int (v4 5)) (C := xR_Mo) (T := xT_Mo) (N := 31) hx hb hT xi_Mo hown hK.1 hP 0 rfl rfl 23 (by decide) (hT _ k4q_13) (fun _ h9 => h9) rfl xd_Mo_layer_240 ?_
                      refine xn_top (x := (v4 5)) (y := nI nl) hnln ?_
                      refine xn_iald (i := nl) hx hb hK.1 hP 21 0 rfl rfl (by omega) (by decide) xd_Mo_layer_243 ?_
                      refine xn_top (x := (g8 20 nl)) (y := nI L8.length) hmk8 ?_
                      refine lv_iadd hx hb xd_Mo_layer_244 ?_
                      refine xn_top (y := nI ((12 * nl) + L8.length)) (nI_add (12 * nl) L8.length) ?_
                      refine xn_ge (a := i6) (b := (12 * nl) + L8.length) (tgt := 267) hx hb xd_Mo_layer_245 (by decide) (by omega) (by omega) (fun hc39 => ?_) (fun hc39 => ?_)
                      · refine lv_aload_n hx hb xd_Mo_layer_267 rfl (lv_at hl 1 rfl) ?_
                        refine va_get (D := D) (ci := 4) (v := .ref (mm 22)) (C := xR_Mo) (T := xT_Mo) (N := 31) hx hb hT xi_Mo hown hK.1 hP 0 rfl rfl 28 (by decide) (hT _ k4q_20) (fun _ h9 => h9) rfl xd_Mo_layer_268 ?_
                        refine lv_aload_n hx hb xd_Mo_layer_271 rfl (lv_at hl 1 rfl) ?_
                        refine va_get (D := D) (ci := 4) (v := .int (v4 5)) (C := xR_Mo) (T := xT_Mo) (N := 31) hx hb hT xi_Mo hown hK.1 hP 0 rfl rfl 23 (by decide) (hT _ k4q_13) (fun _ h9 => h9) rfl xd_Mo_layer_272 ?_
                        refine xn_top (x := (v4 5)) (y := nI nl) hnln ?_
                        refine lv_iconst (v := 1) hx hb xd_Mo_layer_275 (by decide) ?_
                        refine xn_zast (i := nl) hx hb hK.1 hP hD hS 23 2 rfl rfl (by omega) (by decide) xd_Mo_layer_276 (fun H locs hP hD hS => ?_)
                        have hP : va_P D xcl (moW h mm kA (va_up v4 1 (nI k7)) (va_up (va_up (va_up g8 11 f11) 22 (upd (g8 22) nl (vp_nar .boolean 1))) 24 fs)) H := hP
                        have hD : va_D A (moW h mm kA (va_up v4 1 (nI k7)) (va_up (va_up (va_up g8 11 f11) 22 (upd (g8 22) nl (vp_nar .boolean 1))) 24 fs)) := hD
                        refine lv_aload_n hx hb xd_Mo_layer_277 rfl (lv_at hl 1 rfl) ?_
                        refine lv_dup hx hb xd_Mo_layer_278 rfl ?_
                        refine va_get (D := D) (ci := 4) (v := .int (v4 5)) (C := xR_Mo) (T := xT_Mo) (N := 31) hx hb hT xi_Mo hown hK.1 hP 0 rfl rfl 23 (by decide) (hT _ k4q_13) (fun _ h9 => h9) rfl xd_Mo_layer_279 ?_
                        refine xn_top (x := (v4 5)) (y := nI nl) hnln ?_
                        refine lv_iconst (v := 1) hx hb xd_Mo_layer_282 (by decide) ?_
                        refine lv_iadd hx hb xd_Mo_layer_283 ?_
                        refine xn_top (y := nI (nl + 1)) (nI_add nl 1) ?_
                        refine va_put (D := D) (ci := 4) (v := .int (nI (nl + 1))) (ty := .int) (C := xR_Mo) (T := xT_Mo) (N := 31) hx hb hT xi_Mo xt_Mo xt_Mo_ok xn_Mo hown hK.1 hP hD hS 0 rfl rfl 23 (by decide) (hT _ k4q_13) (fun _ h9 => h9) rfl (by decide +kernel) rfl rfl (Nat.le_of_ble_eq_true rfl) xd_Mo_layer_284 (fun H locs hP hD hS => ?_)
                        have hP : va_P D xcl (moW h mm kA (va_up (va_up v4 1 (nI k7)) 5 (nI (nl + 1))) (va_up (va_up (va_up g8 11 f11) 22 (upd (g8 22) nl (vp_nar .boolean 1))) 24 fs)) H := hP
                        have hD : va_D A (moW h mm kA (va_up (va_up v4 1 (nI k7)) 5 (nI (nl + 1))) (va_up (va_up (va_up g8 11 f11) 22 (upd (g8 22) nl (vp_nar .boolean 1))) 24 fs)) := hD
                        refine lv_aload_n hx hb xd_Mo_layer_287 rfl (lv_at hl 1 rfl) ?_
                        refine va_get (D := D) (ci := 4) (v := .int (nI (nl + 1))) (C := xR_Mo) (T := xT_Mo) (N := 31) hx hb hT xi_Mo hown hK.1 hP 0 rfl rfl 23 (by decide) (hT _ k4q_13) (fun _ h9 => h9) rfl xd_Mo_layer_288 ?_
                        refine lv_iconst (v := 1) hx hb xd_Mo_layer_291 (by decide) ?_
                        refine lv_isub hx hb xd_Mo_layer_292 ?_
                        refine xn_top (y := nI ((nl + 1) - 1)) (pk_sub (a := (nl + 1)) (b := 1) (by omega)) ?_
                        exact W.iret (v := (nI ((nl + 1) - 1))) hx hb hr (fun t ht hW => ⟨⟨(nI ((nl + 1) - 1)), ((va_up (va_up v4 1 (nI k7)) 5 (nI (nl + 1))), (va_up (va_up (va_up g8 11 f11) 22 (upd (g8 22) nl (vp_nar .boolean 1))) 24 fs)), rfl, ⟨0, k7, hv0, rfl, hv2, hv4, MI_g rfl rfl rfl rfl rfl rfl rfl rfl (MI_nl (v := va_up v4 1 (nI k7)) (g := g8) (hk70 (by omega)) hpn8 (MI_v (v := v4) rfl rfl hM8)), by
        rw [← hwl]
        exact Or.inr (Or.inr ⟨hok1, L9, L8, g8, by rw [← hlqp]; exact hNM, by rw [← hlqp]; exact hLb8, hG8, by rw [← hlqp]; exact ⟨hSQ8, hlqe8, hL8⟩, hk7, Or.inr ⟨by omega, rfl, by rw [Nat.add_sub_cancel], rfl, by rw [← hlqp]; exact ⟨fun j h1 h2 h3 h8 h9 h10 h11a h12 h13 h14 => (show (va_up (va_up (va_up g8 11 f11) 22 (upd (g8 22) nl (vp_nar .boolean 1))) 24 fs) j = g j by rw [← hSQ8.1 j h1 h2 h8 h9 h10 h11a h13 h14]; simp [va_up, h3, h12, h14]), hSQ8.2.1, hSQ8.2.2, hlqe8, hL8, (by
          have q := lk11_end (show i6 - 12 * nl = L8.length by omega) h11
          rw [hSQ8.1 11 (by decide) (by decide) (by decide) (by decide) (by decide) (by decide) (by decide) (by decide)] at q; exact q), (show upd (g8 22) nl (vp_nar .boolean 1) = upd (g 22) nl 1 by rw [hSQ8.1 22 (by decide) (by decide) (by decide) (by decide) (by decide) (by decide) (by decide) (by decide)]; rfl)⟩⟩⟩)⟩, by rw [ht]; exact hP, hD⟩, hS.F ht⟩) hS.2.2 xd_Mo_layer_293
                      · refine lv_aload_n hx hb xd_Mo_layer_248 rfl (lv_at hl 1 rfl) ?_
                        refine va_get (D := D) (ci := 4) (v := .ref (mm 11)) (C := xR_Mo) (T := xT_Mo) (N := 31) hx hb hT xi_Mo hown hK.1 hP 0 rfl rfl 16 (by decide) (hT _ k4q_21) (fun _ h9 => h9) rfl xd_Mo_layer_249 ?_
                        refine lv_aload_n hx hb xd_Mo_layer_252 rfl (lv_at hl 1 rfl) ?_
                        refine va_get (D := D) (ci := 4) (v := .ref (mm 21)) (C := xR_Mo) (T := xT_Mo) (N := 31) hx hb hT xi_Mo hown hK.1 hP 0 rfl rfl 27 (by decide) (hT _ k4q_22) (fun _ h9 => h9) rfl xd_Mo_layer_253 ?_
                        refine lv_iload hx hb xd_Mo_layer_256 (lv_at hl 0 rfl) ?_
                        refine xn_iald (i := i6) hx hb hK.1 hP 22 0 rfl rfl (by omega) (by decide) xd_Mo_layer_258 ?_
                        obtain ⟨k40, hk41, ek42⟩ := hent2 i6 (by omega) (by omega)
                        refine xn_top (x := (g8 21 i6)) ek42 ?_
                        have hkd : k40 = L8.getD (i6 - 12 * nl) 0 := by
                          have q := hL8.2 (i6 - 12 * nl) (by omega)
                          rw [show 12 * nl + (i6 - 12 * nl) = i6 by omega, ek42] at q
                          have q2 := hG8.1 _ (getD_mem (L := L8) (k := i6 - 12 * nl) (by omega))
                          exact nI_inj (by omega) (by omega) q
                        refine lv_iconst (v := 1) hx hb xd_Mo_layer_259 (by decide) ?_
                        refine xn_zast (i := k40) hx hb hK.1 hP hD hS 12 2 rfl rfl (by omega) (by decide) xd_Mo_layer_260 (fun H locs hP hD hS => ?_)
                        have hP : va_P D xcl (moW h mm kA (va_up v4 1 (nI k7)) (va_up (va_up g8 11 (upd f11 k40 (vp_nar .boolean 1))) 24 fs)) H := hP
                        have hD : va_D A (moW h mm kA (va_up v4 1 (nI k7)) (va_up (va_up g8 11 (upd f11 k40 (vp_nar .boolean 1))) 24 fs)) := hD
                        refine lv_iinc (k := 0) (x := (nI i6)) (v := (nI (i6 + 1))) hx hb xd_Mo_layer_261 hl rfl (xb_inc i6 1) (Nat.le_of_ble_eq_true rfl) rfl (fun ls hl => ?_)
                        have hl : lv_has ls 7 [(6, .int (nI (i6 + 1))), (0, .ref h)] := hl
                        refine lv_goto (tgt := 226) hx hb xd_Mo_layer_264 (by decide) ?_
                        exact ih38 (i6 + 1, (upd f11 k40 (vp_nar .boolean 1))) _ _ _ (show 12 * nl + L8.length - (i6 + 1) < 12 * nl + L8.length - i6 by omega) (lv_sub hl [0, 1] rfl) hP hD hS ⟨(show 12 * nl ≤ (i6 + 1) from by first | assumption | omega), (show (i6 + 1) ≤ 12 * nl + L8.length from by first | assumption | omega), (show ∀ d, (upd f11 k40 (vp_nar .boolean 1)) d = cif (∃ k, k < (i6 + 1) - 12 * nl ∧ L8.getD k 0 = d) 1 (g8 11 d) from lk11 hi61 hkd h11)⟩
                    · refine lv_aload_n hx hb xd_Mo_layer_211 rfl (lv_at hl 0 rfl) ?_
                      refine lv_iconst (v := 3) hx hb xd_Mo_layer_212 (by decide) ?_
                      have hFc := va_free (wc := (moW h mm kA (va_up v4 1 (nI k7)) (va_up g8 24 fs))) hD hS hA [0, 1, 2, 3, 4, 5, 6, 7, 8, 9, 10, 11, 12, 13, 14, 15, 16, 17, 18, 19, 20, 21, 22, 23, 24, 25] rfl
                      refine va_calli (va_runV (As := [.int 3]) (rest := []) ⟨hx, hb, hml, hown, hT⟩ (xc_Mo_fails l D kA H.size h mm (va_up v4 1 (nI k7)) (va_up g8 24 fs) 3) (cwV 1 hT (wT_V k4q_9 k4q_10 k4q_11 k4q_6 k4q_8) rfl rfl rfl (by decide +kernel) ⟨Nat.le_of_ble_eq_true rfl, Nat.le_of_ble_eq_true rfl⟩) (x_preV hK hP hD 0 rfl rfl) rfl rfl hl.1 rfl (lv_room (Nat.le_of_ble_eq_true rfl)) xd_Mo_layer_213 ⟨Nat.le_of_ble_eq_true rfl, Nat.le_of_ble_eq_true rfl⟩) hS (fun q _ h => hFc q h) hFc (fun r43 u44 t H1 locs ht hvm hp45 hB hz1 hk1 hS => ?_)
                      obtain ⟨hP1, hD1⟩ := hB
                      rw [ht] at hP1
                      have hD1 := hD1.weaken (fun _ _ _ h => hFc _ h)
                      obtain ⟨v46, g47⟩ := u44
                      generalize H1 = H at hP1 hS ⊢
                      have hP := hP1
                      have hD := hD1
                      have hP : va_P D xcl (moW h mm kA v46 g47) H := hP
                      have hD : va_D A (moW h mm kA v46 g47) := hD
                      obtain ⟨hr9, hu9⟩ := hp45
                      subst hr9
                      obtain ⟨hu1, hu2⟩ := Prod.mk.inj hu9
                      subst hu1
                      have hu2 := hu2.symm
                      subst hu2
                      have hP : va_P D xcl (moW h mm kA (va_up (va_up v4 0 3) 1 (nI k7)) (va_up g8 24 fs)) H := hP
                      have hD : va_D A (moW h mm kA (va_up (va_up v4 0 3) 1 (nI k7)) (va_up g8 24 fs)) := hD
                      exact W.iret (v := 0) hx hb hr (fun t ht hW => ⟨⟨0, ((va_up (va_up v4 0 3) 1 (nI k7)), (va_up g8 24 fs)), rfl, ⟨3, k7, rfl, rfl, hv2, hv4, MI_g (g := g8) rfl rfl rfl rfl rfl rfl rfl rfl (MI_v rfl rfl hM8), by
        rw [← hwl]
        exact Or.inr (Or.inr ⟨hok1, L9, L8, g8, by rw [← hlqp]; exact hNM, by rw [← hlqp]; exact hLb8, hG8, by rw [← hlqp]; exact ⟨hSQ8, hlqe8, hL8⟩, hk7, Or.inl ⟨by omega, rfl, hnln, ⟨fun j h1 h2 h8 h9 h10 h11 h13 h14 => (show va_up g8 24 fs j = g j by rw [← hSQ8.1 j h1 h2 h8 h9 h10 h11 h13 h14]; simp [va_up, h14]), hSQ8.2.1, hSQ8.2.2⟩⟩⟩)⟩, by rw [ht]; exact hP, hD⟩, hS.F ht⟩) hS.2.2 xd_Mo_layer_216
                  refine lv_iload_n hx hb xd_Mo_layer_188 rfl (lv_at hl 4 rfl) ?_
                  refine lv_if_eq (tgt := 196) hx hb xd_Mo_layer_189 (by decide) (fun hc48 => ?_) (fun hc48 => ?_)
                  · exact jn31 (L9, g9) _ _ _ (lv_sub hl [2] rfl) hP hD hS ⟨(show MI v4 g9 from hM9), (show ∀ j, j ≠ 20 → j ≠ 21 → j ≠ 23 → g9 j = gz j from hfr9), (show RW gz g9 nl from hRW9), (show LT (g9 20) (g9 21) nl L9 from hL9), (show GL nd L9 from hG9), (show L9 = cif (¬ bi = 0) (bIt (bUg g nd fi lq) g lq 13 L9) L9 from (cif_neg (fun q => q hc48)).symm)⟩
                  · refine lv_aload_n hx hb xd_Mo_layer_192 rfl (lv_at hl 2 rfl) ?_
                    have hFc := va_free (wc := (moW h mm kA v4 g9)) hD hS hA [0, 1, 2, 3, 4, 5, 6, 7, 8, 9, 10, 11, 12, 13, 14, 15, 16, 17, 18, 19, 20, 21, 22, 23, 24, 25] rfl
                    refine va_callv (va_runV (As := []) (rest := []) ⟨hx, hb, hml, hown, hT⟩ (xc_Mo_bindingX l D kA H.size h mm v4 g9 nd nl lq L9 hM9 (by first | assumption | omega) (by first | assumption | omega) (by first | assumption | omega) (by first | assumption | omega) hpn9 hlqe9 (by first | assumption | omega) hL9 hG9) (cwV 0 hT (wT_V k4q_24 k4q_25 k4q_26 k4q_6 k4q_23) rfl rfl rfl (by decide +kernel) ⟨Nat.le_of_ble_eq_true rfl, Nat.le_of_ble_eq_true rfl⟩) (x_preV hK hP hD 0 rfl rfl) rfl rfl hl.1 rfl (lv_room (Nat.le_of_ble_eq_true rfl)) xd_Mo_layer_193 ⟨Nat.le_of_ble_eq_true rfl, Nat.le_of_ble_eq_true rfl⟩) hS (fun q _ h => hFc q h) hFc (fun u50 t H1 locs ht hvm hp51 hB hz1 hk1 hS => ?_)
                    obtain ⟨hP1, hD1⟩ := hB
                    rw [ht] at hP1
                    have hD1 := hD1.weaken (fun _ _ _ h => hFc _ h)
                    obtain ⟨v52, g53⟩ := u50
                    generalize H1 = H at hP1 hS ⊢
                    have hP := hP1
                    have hD := hD1
                    have hP : va_P D xcl (moW h mm kA v52 g53) H := hP
                    have hD : va_D A (moW h mm kA v52 g53) := hD
                    obtain ⟨hu9, hMq, hfrq, hRWq, Lq, hGq, hLq, hx5⟩ := hp51
                    have hu9 : v4 = v52 := hu9.symm
                    subst hu9
                    have hMq : MI v4 g53 := hMq
                    have hfrq : ∀ j, j ≠ 20 → j ≠ 21 → j ≠ 23 → g53 j = g9 j := hfrq
                    have hRWq : RW g9 g53 nl := hRWq
                    have hLq : LT (g53 20) (g53 21) nl Lq := hLq
                    have hmkq := hLq.1
                    rw [h189, bUg_eq (by rw [← hSM9, h189]) (hSQ9.1 3 (by decide) (by decide) (by decide) (by decide) (by decide) (by decide) (by decide) (by decide)) (hSQ9.1 4 (by decide) (by decide) (by decide) (by decide) (by decide) (by decide) (by decide) (by decide)) (hSQ9.1 14 (by decide) (by decide) (by decide) (by decide) (by decide) (by decide) (by decide) (by decide)) (hSQ9.1 15 (by decide) (by decide) (by decide) (by decide) (by decide) (by decide) (by decide) (by decide)), bIt_row (np := nl) (by omega) hparg hlq hlq hSQ9.2.2 hSQ9.2.1 hmdg] at hx5
                    have hP : va_P D xcl (moW h mm kA v4 g53) H := hP
                    have hD : va_D A (moW h mm kA v4 g53) := hD
                    exact jn31 (Lq, g53) _ _ _ (lv_sub hl [2] rfl) hP hD hS ⟨(show MI v4 g53 from hMq), (show ∀ j, j ≠ 20 → j ≠ 21 → j ≠ 23 → g53 j = gz j from fun j h1 h2 h3 => (hfrq j h1 h2 h3).trans (hfr9 j h1 h2 h3)), (show RW gz g53 nl from RW_tr hRW9 hRWq), (show LT (g53 20) (g53 21) nl Lq from hLq), (show GL nd Lq from hGq), (show Lq = cif (¬ bi = 0) (bIt (bUg g nd fi lq) g lq 13 L9) L9 from (hx5.symm.trans (cif_pos hc48).symm))⟩
                · refine lv_aload_n hx hb xd_Mo_layer_182 rfl (lv_at hl 2 rfl) ?_
                  refine lv_iconst (v := 2) hx hb xd_Mo_layer_183 (by decide) ?_
                  have hFc := va_free (wc := (moW h mm kA v4 g9)) hD hS hA [0, 1, 2, 3, 4, 5, 6, 7, 8, 9, 10, 11, 12, 13, 14, 15, 16, 17, 18, 19, 20, 21, 22, 23, 24, 25] rfl
                  refine va_calli (va_runV (As := [.int 2]) (rest := []) ⟨hx, hb, hml, hown, hT⟩ (xc_Mo_fails l D kA H.size h mm v4 g9 2) (cwV 1 hT (wT_V k4q_9 k4q_10 k4q_11 k4q_6 k4q_8) rfl rfl rfl (by decide +kernel) ⟨Nat.le_of_ble_eq_true rfl, Nat.le_of_ble_eq_true rfl⟩) (x_preV hK hP hD 0 rfl rfl) rfl rfl hl.1 rfl (lv_room (Nat.le_of_ble_eq_true rfl)) xd_Mo_layer_184 ⟨Nat.le_of_ble_eq_true rfl, Nat.le_of_ble_eq_true rfl⟩) hS (fun q _ h => hFc q h) hFc (fun r54 u55 t H1 locs ht hvm hp56 hB hz1 hk1 hS => ?_)
                  obtain ⟨hP1, hD1⟩ := hB
                  rw [ht] at hP1
                  have hD1 := hD1.weaken (fun _ _ _ h => hFc _ h)
                  obtain ⟨v57, g58⟩ := u55
                  generalize H1 = H at hP1 hS ⊢
                  have hP := hP1
                  have hD := hD1
                  have hP : va_P D xcl (moW h mm kA v57 g58) H := hP
                  have hD : va_D A (moW h mm kA v57 g58) := hD
                  obtain ⟨hr9, hu9⟩ := hp56
                  subst hr9
                  obtain ⟨hu1, hu2⟩ := Prod.mk.inj hu9
                  subst hu1
                  have hu2 := hu2.symm
                  subst hu2
                  have hP : va_P D xcl (moW h mm kA (va_up v4 0 2) g9) H := hP
                  have hD : va_D A (moW h mm kA (va_up v4 0 2) g9) := hD
                  exact W.iret (v := 0) hx hb hr (fun t ht hW => ⟨⟨0, ((va_up v4 0 2), g9), rfl, ⟨2, 0, rfl, hv1, hv2, hv4, MI_v rfl rfl hM9, by
        rw [← hwl]
        exact Or.inr (Or.inl ⟨hok1, (by
          rw [← hlqp]
          rcases hA9 with ⟨q, _⟩ | ⟨_, q⟩
          · omega
          · exact q), rfl, rfl, hnln, hSQ9⟩)⟩, by rw [ht]; exact hP, hD⟩, hS.F ht⟩) hS.2.2 xd_Mo_layer_187
              · refine lv_iload hx hb xd_Mo_layer_154 (lv_at hl 1 rfl) ?_
                refine xz_eq (a := gd) (tgt := 177) hx hb xd_Mo_layer_156 (by decide) (by omega) (fun hc59 => ?_) (fun hc59 => ?_)
                · refine lv_iload hx hb xd_Mo_layer_177 (lv_at hl 1 rfl) ?_
                  refine xz_ne (a := gd) (tgt := 188) hx hb xd_Mo_layer_179 (by decide) (by omega) (fun hc60 => ?_) (fun hc60 => ?_)
                  · refine xjoin (D := D) (cl := xcl) (A := A) (H0 := s.heap) (σ := List Nat × (Nat → Nat → Int32)) (ml := 7) 196 (fun (L8, g8) => [(0, .ref h)]) (fun (L8, g8) => []) (fun (L8, g8) => moW h mm kA v4 g8) (fun (L8, g8) => (MI v4 g8) ∧ (∀ j, j ≠ 20 → j ≠ 21 → j ≠ 23 → g8 j = gz j) ∧ (RW gz g8 nl) ∧ (LT (g8 20) (g8 21) nl L8) ∧ (GL nd L8) ∧ (L8 = cif (¬ bi = 0) (bIt (bUg g nd fi lq) g lq 13 L9) L9)) ?_ (fun jn61 => ?_)
                    · intro a9 ls H locs hl hP hD hS hI
                      obtain ⟨L8, g8⟩ := a9
                      obtain ⟨hM8, hfr8, hRW8, hL8, hG8, hLb8⟩ := hI
                      have hM8 : MI v4 g8 := hM8
                      have hfr8 : ∀ j, j ≠ 20 → j ≠ 21 → j ≠ 23 → g8 j = gz j := hfr8
                      have hRW8 : RW gz g8 nl := hRW8
                      have hL8 : LT (g8 20) (g8 21) nl L8 := hL8
                      have hG8 : GL nd L8 := hG8
                      have hLb8 : L8 = cif (¬ bi = 0) (bIt (bUg g nd fi lq) g lq 13 L9) L9 := hLb8
                      have hNM : aF (adG g nd fi lq) [] (nmL (g 0) wl wl.length 0) = (true, L9) := by
                        rcases hA9 with ⟨_, q⟩ | ⟨q, _⟩
                        · rw [q, show wl.length - w6 = 0 by omega]; rfl
                        · omega
                      have hpn8 : ∀ la, la < nl + 1 → ∃ lq, lq ≤ la ∧ g8 19 la = nI lq - 1 := by rw [hfr8 19 (by decide) (by decide) (by decide)]; exact hpz
                      have hlqe8 : g8 19 nl = nI lq - 1 := by rw [hfr8 19 (by decide) (by decide) (by decide)]; exact hlqz
                      have h188 : g8 18 nl = fi := by rw [hfr8 18 (by decide) (by decide) (by decide)]; exact h18z
                      have hws8 : ∀ i, i < wl.length → g8 1 i = nI (wb wl i) ∧ g8 2 i = nI (we wl i) := by rw [hfr8 1 (by decide) (by decide) (by decide), hfr8 2 (by decide) (by decide) (by decide), hgz 1 (by decide) (by decide) (by decide), hgz 2 (by decide) (by decide) (by decide)]; exact hws
                      have hSQ8 : SQ g g8 nl := ⟨fun j h1 h2 h8 h9 h10 h11 h13 h14 => (hfr8 j h10 h11 h13).trans (hgzg j h1 h2 h8 h9 h10), fun la hla => by rw [hfr8 19 (by decide) (by decide) (by decide)]; exact h19z la hla, RW_tr hRWz hRW8⟩
                      have hSM8 : adG g8 nd (g8 18 nl) lq = adG g nd fi lq := by
                        rw [h188]
                        exact adG_eq (hSQ8.1 3 (by decide) (by decide) (by decide) (by decide) (by decide) (by decide) (by decide) (by decide)) (hSQ8.1 4 (by decide) (by decide) (by decide) (by decide) (by decide) (by decide) (by decide) (by decide)) (hSQ8.1 12 (by decide) (by decide) (by decide) (by decide) (by decide) (by decide) (by decide) (by decide)) (hSQ8.1 13 (by decide) (by decide) (by decide) (by decide) (by decide) (by decide) (by decide) (by decide)) (hSQ8.1 17 (by decide) (by decide) (by decide) (by decide) (by decide) (by decide) (by decide) (by decide)) (fun n => lkG_row2 (np := nl) (by omega) hparg hlq hlq hSQ8.2.2 (hSQ8.1 4 (by decide) (by decide) (by decide) (by decide) (by decide) (by decide) (by decide) (by decide)) hSQ8.2.1 hmdg)
                      have hLl8 := GL_len hG8
                      have hmk8 := hL8.1
                      have hl : lv_has ls 7 [(0, .ref h)] := hl
                      have hP : va_P D xcl (moW h mm kA v4 g8) H := hP
                      have hD : va_D A (moW h mm kA v4 g8) := hD
                      refine lv_aload_n hx hb xd_Mo_layer_196 rfl (lv_at hl 0 rfl) ?_
                      refine lv_aload_n hx hb xd_Mo_layer_197 rfl (lv_at hl 0 rfl) ?_
                      have hFc := va_free (wc := (moW h mm kA v4 g8)) hD hS hA [0, 1, 2, 3, 4, 5, 6, 7, 8, 9, 10, 11, 12, 13, 14, 15, 16, 17, 18, 19, 20, 21, 22, 23, 24, 25] rfl
                      refine va_calli (va_runV (As := []) (rest := [.ref h]) ⟨hx, hb, hml, hown, hT⟩ (xc_Mo_reasonX l D kA H.size h mm v4 g8 nl L8.length hM8 (by first | assumption | omega) (by first | assumption | omega) hpn8 hmk8 (by first | assumption | omega)) (cwV 0 hT (wT_V k4q_17 k4q_18 k4q_19 k4q_6 k4q_16) rfl rfl rfl (by decide +kernel) ⟨Nat.le_of_ble_eq_true rfl, Nat.le_of_ble_eq_true rfl⟩) (x_preV hK hP hD 0 rfl rfl) rfl rfl hl.1 rfl (lv_room (Nat.le_of_ble_eq_true rfl)) xd_Mo_layer_198 ⟨Nat.le_of_ble_eq_true rfl, Nat.le_of_ble_eq_true rfl⟩) hS (fun q _ h => hFc q h) hFc (fun r62 u63 t H1 locs ht hvm hp64 hB hz1 hk1 hS => ?_)
                      obtain ⟨hP1, hD1⟩ := hB
                      rw [ht] at hP1
                      have hD1 := hD1.weaken (fun _ _ _ h => hFc _ h)
                      obtain ⟨v65, g66⟩ := u63
                      generalize H1 = H at hP1 hS ⊢
                      have hP := hP1
                      have hD := hD1
                      have hP : va_P D xcl (moW h mm kA v65 g66) H := hP
                      have hD : va_D A (moW h mm kA v65 g66) := hD
                      obtain ⟨hu9, hfrq, hr7⟩ := hp64
                      have hu9 : v4 = v65 := hu9.symm
                      subst hu9
                      obtain ⟨fs, hge⟩ : ∃ z, g66 = va_up g8 24 z := ⟨_, g24 hfrq⟩
                      subst hge
                      obtain ⟨k7, hk7⟩ : ∃ z, z = rsW g8 nl L8.length := ⟨_, rfl⟩
                      have hr7 : r62 = nI k7 := by rw [hk7]; exact hr7
                      subst hr7
                      have hk73 : k7 ≤ 3 := by rw [hk7]; exact rsW_le
                      have hk70 : k7 = 0 → nl < 5 := fun q => by
                        have q2 := rsW_0 (hk7.symm.trans q)
                        omega
                      have hent2 : ∀ i, 12 * nl ≤ i → i < 12 * nl + L8.length → ∃ d, d < 12 ∧ g8 21 i = nI d := fun i h1 h2 => by
                        have q := hL8.2 (i - 12 * nl) (by omega)
                        rw [show 12 * nl + (i - 12 * nl) = i by omega] at q
                        have q2 := hG8.1 _ (getD_mem (L := L8) (k := i - 12 * nl) (by omega))
                        exact ⟨_, by omega, q⟩
                      have hP : va_P D xcl (moW h mm kA v4 (va_up g8 24 fs)) H := hP
                      have hD : va_D A (moW h mm kA v4 (va_up g8 24 fs)) := hD
                      refine va_put (D := D) (ci := 4) (v := .int (nI k7)) (ty := .int) (C := xR_Mo) (T := xT_Mo) (N := 31) hx hb hT xi_Mo xt_Mo xt_Mo_ok xn_Mo hown hK.1 hP hD hS 0 rfl rfl 1 (by decide) (hT _ k4q_1) (fun _ h9 => h9) rfl (by decide +kernel) rfl rfl (Nat.le_of_ble_eq_true rfl) xd_Mo_layer_201 (fun H locs hP hD hS => ?_)
                      have hP : va_P D xcl (moW h mm kA (va_up v4 1 (nI k7)) (va_up g8 24 fs)) H := hP
                      have hD : va_D A (moW h mm kA (va_up v4 1 (nI k7)) (va_up g8 24 fs)) := hD
                      refine lv_aload_n hx hb xd_Mo_layer_204 rfl (lv_at hl 0 rfl) ?_
                      refine va_get (D := D) (ci := 4) (v := .int (nI k7)) (C := xR_Mo) (T := xT_Mo) (N := 31) hx hb hT xi_Mo hown hK.1 hP 0 rfl rfl 1 (by decide) (hT _ k4q_1) (fun _ h9 => h9) rfl xd_Mo_layer_205 ?_
                      refine xz_le (a := k7) (tgt := 217) hx hb xd_Mo_layer_208 (by decide) (by omega) (fun hc67 => ?_) (fun hc67 => ?_)
                      · refine lv_bipush (v := 12) hx hb xd_Mo_layer_217 (by decide) ?_
                        refine lv_aload_n hx hb xd_Mo_layer_219 rfl (lv_at hl 0 rfl) ?_
                        refine va_get (D := D) (ci := 4) (v := .int (v4 5)) (C := xR_Mo) (T := xT_Mo) (N := 31) hx hb hT xi_Mo hown hK.1 hP 0 rfl rfl 23 (by decide) (hT _ k4q_13) (fun _ h9 => h9) rfl xd_Mo_layer_220 ?_
                        refine xn_top (x := (v4 5)) (y := nI nl) hnln ?_
                        refine lv_imul hx hb xd_Mo_layer_223 ?_
                        refine xn_top (y := nI (12 * nl)) (pk_mul 12 nl) ?_
                        refine lv_istore hx hb xd_Mo_layer_224 hl (Nat.le_of_ble_eq_true rfl) rfl (fun ls hl => ?_)
                        have hl : lv_has ls 7 [(6, .int (nI (12 * nl))), (0, .ref h)] := hl
                        refine xlab (σ := Nat × (Nat → Int32)) (ml := 7) 226 (fun (i6, f11) => [(6, .int (nI i6)), (0, .ref h)]) (fun (i6, f11) => []) (fun (i6, f11) => moW h mm kA (va_up v4 1 (nI k7)) (va_up (va_up g8 11 f11) 24 fs)) (fun (i6, f11) => (12 * nl ≤ i6) ∧ (i6 ≤ 12 * nl + L8.length) ∧ (∀ d, f11 d = cif (∃ k, k < i6 - 12 * nl ∧ L8.getD k 0 = d) 1 (g8 11 d))) (fun (i6, f11) => 12 * nl + L8.length - i6) ?_ (12 * nl, (g8 11)) _ _ _ (lv_sub hl [0, 1] rfl) hP hD hS ⟨(show 12 * nl ≤ (12 * nl) from by first | assumption | omega), (show (12 * nl) ≤ 12 * nl + L8.length from by first | assumption | omega), (show ∀ d, (g8 11) d = cif (∃ k, k < (12 * nl) - 12 * nl ∧ L8.getD k 0 = d) 1 (g8 11 d) from fun d => by rw [cif_neg]; intro ⟨k, q, _⟩; omega)⟩
                        intro n9 ih68 a9 ls H locs hμ hl hP hD hS hI
                        subst hμ
                        obtain ⟨i6, f11⟩ := a9
                        obtain ⟨hi61, hi62, h11⟩ := hI
                        have hi61 : 12 * nl ≤ i6 := hi61
                        have hi62 : i6 ≤ 12 * nl + L8.length := hi62
                        have h11 : ∀ d, f11 d = cif (∃ k, k < i6 - 12 * nl ∧ L8.getD k 0 = d) 1 (g8 11 d) := h11
                        have hl : lv_has ls 7 [(6, .int (nI i6)), (0, .ref h)] := hl
                        have hP : va_P D xcl (moW h mm kA (va_up v4 1 (nI k7)) (va_up (va_up g8 11 f11) 24 fs)) H := hP
                        have hD : va_D A (moW h mm kA (va_up v4 1 (nI k7)) (va_up (va_up g8 11 f11) 24 fs)) := hD
                        refine lv_iload hx hb xd_Mo_layer_226 (lv_at hl 0 rfl) ?_
                        refine lv_bipush (v := 12) hx hb xd_Mo_layer_228 (by decide) ?_
                        refine lv_aload_n hx hb xd_Mo_layer_230 rfl (lv_at hl 1 rfl) ?_
                        refine va_get (D := D) (ci := 4) (v := .int (v4 5)) (C := xR_Mo) (T := xT_Mo) (N := 31) hx hb hT xi_Mo hown hK.1 hP 0 rfl rfl 23 (by decide) (hT _ k4q_13) (fun _ h9 => h9) rfl xd_Mo_layer_231 ?_
                        refine xn_top (x := (v4 5)) (y := nI nl) hnln ?_
                        refine lv_imul hx hb xd_Mo_layer_234 ?_
                        refine xn_top (y := nI (12 * nl)) (pk_mul 12 nl) ?_
                        refine lv_aload_n hx hb xd_Mo_layer_235 rfl (lv_at hl 1 rfl) ?_
                        refine va_get (D := D) (ci := 4) (v := .ref (mm 20)) (C := xR_Mo) (T := xT_Mo) (N := 31) hx hb hT xi_Mo hown hK.1 hP 0 rfl rfl 26 (by decide) (hT _ k4q_15) (fun _ h9 => h9) rfl xd_Mo_layer_236 ?_
                        refine lv_aload_n hx hb xd_Mo_layer_239 rfl (lv_at hl 1 rfl) ?_
                        refine va_get (D := D) (ci := 4) (v := .int (v4 5)) (C := xR_Mo) (T := xT_Mo) (N := 31) hx hb hT xi_Mo hown hK.1 hP 0 rfl rfl 23 (by decide) (hT _ k4q_13) (fun _ h9 => h9) rfl xd_Mo_layer_240 ?_
                        refine xn_top (x := (v4 5)) (y := nI nl) hnln ?_
                        refine xn_iald (i := nl) hx hb hK.1 hP 21 0 rfl rfl (by omega) (by decide) xd_Mo_layer_243 ?_
                        refine xn_top (x := (g8 20 nl)) (y := nI L8.length) hmk8 ?_
                        refine lv_iadd hx hb xd_Mo_layer_244 ?_
                        refine xn_top (y := nI ((12 * nl) + L8.length)) (nI_add (12 * nl) L8.length) ?_
                        refine xn_ge (a := i6) (b := (12 * nl) + L8.length) (tgt := 267) hx hb xd_Mo_layer_245 (by decide) (by omega) (by omega) (fun hc69 => ?_) (fun hc69 => ?_)
                        · refine lv_aload_n hx hb xd_Mo_layer_267 rfl (lv_at hl 1 rfl) ?_
                          refine va_get (D := D) (ci := 4) (v := .ref (mm 22)) (C := xR_Mo) (T := xT_Mo) (N := 31) hx hb hT xi_Mo hown hK.1 hP 0 rfl rfl 28 (by decide) (hT _ k4q_20) (fun _ h9 => h9) rfl xd_Mo_layer_268 ?_
                          refine lv_aload_n hx hb xd_Mo_layer_271 rfl (lv_at hl 1 rfl) ?_
                          refine va_get (D := D) (ci := 4) (v := .int (v4 5)) (C := xR_Mo) (T := xT_Mo) (N := 31) hx hb hT xi_Mo hown hK.1 hP 0 rfl rfl 23 (by decide) (hT _ k4q_13) (fun _ h9 => h9) rfl xd_Mo_layer_272 ?_
                          refine xn_top (x := (v4 5)) (y := nI nl) hnln ?_
                          refine lv_iconst (v := 1) hx hb xd_Mo_layer_275 (by decide) ?_
                          refine xn_zast (i := nl) hx hb hK.1 hP hD hS 23 2 rfl rfl (by omega) (by decide) xd_Mo_layer_276 (fun H locs hP hD hS => ?_)
                          have hP : va_P D xcl (moW h mm kA (va_up v4 1 (nI k7)) (va_up (va_up (va_up g8 11 f11) 22 (upd (g8 22) nl (vp_nar .boolean 1))) 24 fs)) H := hP
                          have hD : va_D A (moW h mm kA (va_up v4 1 (nI k7)) (va_up (va_up (va_up g8 11 f11) 22 (upd (g8 22) nl (vp_nar .boolean 1))) 24 fs)) := hD
                          refine lv_aload_n hx hb xd_Mo_layer_277 rfl (lv_at hl 1 rfl) ?_
                          refine lv_dup hx hb xd_Mo_layer_278 rfl ?_
                          refine va_get (D := D) (ci := 4) (v := .int (v4 5)) (C := xR_Mo) (T := xT_Mo) (N := 31) hx hb hT xi_Mo hown hK.1 hP 0 rfl rfl 23 (by decide) (hT _ k4q_13) (fun _ h9 => h9) rfl xd_Mo_layer_279 ?_
                          refine xn_top (x := (v4 5)) (y := nI nl) hnln ?_
                          refine lv_iconst (v := 1) hx hb xd_Mo_layer_282 (by decide) ?_
                          refine lv_iadd hx hb xd_Mo_layer_283 ?_
                          refine xn_top (y := nI (nl + 1)) (nI_add nl 1) ?_
                          refine va_put (D := D) (ci := 4) (v := .int (nI (nl + 1))) (ty := .int) (C := xR_Mo) (T := xT_Mo) (N := 31) hx hb hT xi_Mo xt_Mo xt_Mo_ok xn_Mo hown hK.1 hP hD hS 0 rfl rfl 23 (by decide) (hT _ k4q_13) (fun _ h9 => h9) rfl (by decide +kernel) rfl rfl (Nat.le_of_ble_eq_true rfl) xd_Mo_layer_284 (fun H locs hP hD hS => ?_)
                          have hP : va_P D xcl (moW h mm kA (va_up (va_up v4 1 (nI k7)) 5 (nI (nl + 1))) (va_up (va_up (va_up g8 11 f11) 22 (upd (g8 22) nl (vp_nar .boolean 1))) 24 fs)) H := hP
                          have hD : va_D A (moW h mm kA (va_up (va_up v4 1 (nI k7)) 5 (nI (nl + 1))) (va_up (va_up (va_up g8 11 f11) 22 (upd (g8 22) nl (vp_nar .boolean 1))) 24 fs)) := hD
                          refine lv_aload_n hx hb xd_Mo_layer_287 rfl (lv_at hl 1 rfl) ?_
                          refine va_get (D := D) (ci := 4) (v := .int (nI (nl + 1))) (C := xR_Mo) (T := xT_Mo) (N := 31) hx hb hT xi_Mo hown hK.1 hP 0 rfl rfl 23 (by decide) (hT _ k4q_13) (fun _ h9 => h9) rfl xd_Mo_layer_288 ?_
                          refine lv_iconst (v := 1) hx hb xd_Mo_layer_291 (by decide) ?_
                          refine lv_isub hx hb xd_Mo_layer_292 ?_
                          refine xn_top (y := nI ((nl + 1) - 1)) (pk_sub (a := (nl + 1)) (b := 1) (by omega)) ?_
                          exact W.iret (v := (nI ((nl + 1) - 1))) hx hb hr (fun t ht hW => ⟨⟨(nI ((nl + 1) - 1)), ((va_up (va_up v4 1 (nI k7)) 5 (nI (nl + 1))), (va_up (va_up (va_up g8 11 f11) 22 (upd (g8 22) nl (vp_nar .boolean 1))) 24 fs)), rfl, ⟨0, k7, hv0, rfl, hv2, hv4, MI_g rfl rfl rfl rfl rfl rfl rfl rfl (MI_nl (v := va_up v4 1 (nI k7)) (g := g8) (hk70 (by omega)) hpn8 (MI_v (v := v4) rfl rfl hM8)), by
        rw [← hwl]
        exact Or.inr (Or.inr ⟨hok1, L9, L8, g8, by rw [← hlqp]; exact hNM, by rw [← hlqp]; exact hLb8, hG8, by rw [← hlqp]; exact ⟨hSQ8, hlqe8, hL8⟩, hk7, Or.inr ⟨by omega, rfl, by rw [Nat.add_sub_cancel], rfl, by rw [← hlqp]; exact ⟨fun j h1 h2 h3 h8 h9 h10 h11a h12 h13 h14 => (show (va_up (va_up (va_up g8 11 f11) 22 (upd (g8 22) nl (vp_nar .boolean 1))) 24 fs) j = g j by rw [← hSQ8.1 j h1 h2 h8 h9 h10 h11a h13 h14]; simp [va_up, h3, h12, h14]), hSQ8.2.1, hSQ8.2.2, hlqe8, hL8, (by
          have q := lk11_end (show i6 - 12 * nl = L8.length by omega) h11
          rw [hSQ8.1 11 (by decide) (by decide) (by decide) (by decide) (by decide) (by decide) (by decide) (by decide)] at q; exact q), (show upd (g8 22) nl (vp_nar .boolean 1) = upd (g 22) nl 1 by rw [hSQ8.1 22 (by decide) (by decide) (by decide) (by decide) (by decide) (by decide) (by decide) (by decide)]; rfl)⟩⟩⟩)⟩, by rw [ht]; exact hP, hD⟩, hS.F ht⟩) hS.2.2 xd_Mo_layer_293
                        · refine lv_aload_n hx hb xd_Mo_layer_248 rfl (lv_at hl 1 rfl) ?_
                          refine va_get (D := D) (ci := 4) (v := .ref (mm 11)) (C := xR_Mo) (T := xT_Mo) (N := 31) hx hb hT xi_Mo hown hK.1 hP 0 rfl rfl 16 (by decide) (hT _ k4q_21) (fun _ h9 => h9) rfl xd_Mo_layer_249 ?_
                          refine lv_aload_n hx hb xd_Mo_layer_252 rfl (lv_at hl 1 rfl) ?_
                          refine va_get (D := D) (ci := 4) (v := .ref (mm 21)) (C := xR_Mo) (T := xT_Mo) (N := 31) hx hb hT xi_Mo hown hK.1 hP 0 rfl rfl 27 (by decide) (hT _ k4q_22) (fun _ h9 => h9) rfl xd_Mo_layer_253 ?_
                          refine lv_iload hx hb xd_Mo_layer_256 (lv_at hl 0 rfl) ?_
                          refine xn_iald (i := i6) hx hb hK.1 hP 22 0 rfl rfl (by omega) (by decide) xd_Mo_layer_258 ?_
                          obtain ⟨k70, hk71, ek72⟩ := hent2 i6 (by omega) (by omega)
                          refine xn_top (x := (g8 21 i6)) ek72 ?_
                          have hkd : k70 = L8.getD (i6 - 12 * nl) 0 := by
                            have q := hL8.2 (i6 - 12 * nl) (by omega)
                            rw [show 12 * nl + (i6 - 12 * nl) = i6 by omega, ek72] at q
                            have q2 := hG8.1 _ (getD_mem (L := L8) (k := i6 - 12 * nl) (by omega))
                            exact nI_inj (by omega) (by omega) q
                          refine lv_iconst (v := 1) hx hb xd_Mo_layer_259 (by decide) ?_
                          refine xn_zast (i := k70) hx hb hK.1 hP hD hS 12 2 rfl rfl (by omega) (by decide) xd_Mo_layer_260 (fun H locs hP hD hS => ?_)
                          have hP : va_P D xcl (moW h mm kA (va_up v4 1 (nI k7)) (va_up (va_up g8 11 (upd f11 k70 (vp_nar .boolean 1))) 24 fs)) H := hP
                          have hD : va_D A (moW h mm kA (va_up v4 1 (nI k7)) (va_up (va_up g8 11 (upd f11 k70 (vp_nar .boolean 1))) 24 fs)) := hD
                          refine lv_iinc (k := 0) (x := (nI i6)) (v := (nI (i6 + 1))) hx hb xd_Mo_layer_261 hl rfl (xb_inc i6 1) (Nat.le_of_ble_eq_true rfl) rfl (fun ls hl => ?_)
                          have hl : lv_has ls 7 [(6, .int (nI (i6 + 1))), (0, .ref h)] := hl
                          refine lv_goto (tgt := 226) hx hb xd_Mo_layer_264 (by decide) ?_
                          exact ih68 (i6 + 1, (upd f11 k70 (vp_nar .boolean 1))) _ _ _ (show 12 * nl + L8.length - (i6 + 1) < 12 * nl + L8.length - i6 by omega) (lv_sub hl [0, 1] rfl) hP hD hS ⟨(show 12 * nl ≤ (i6 + 1) from by first | assumption | omega), (show (i6 + 1) ≤ 12 * nl + L8.length from by first | assumption | omega), (show ∀ d, (upd f11 k70 (vp_nar .boolean 1)) d = cif (∃ k, k < (i6 + 1) - 12 * nl ∧ L8.getD k 0 = d) 1 (g8 11 d) from lk11 hi61 hkd h11)⟩
                      · refine lv_aload_n hx hb xd_Mo_layer_211 rfl (lv_at hl 0 rfl) ?_
                        refine lv_iconst (v := 3) hx hb xd_Mo_layer_212 (by decide) ?_
                        have hFc := va_free (wc := (moW h mm kA (va_up v4 1 (nI k7)) (va_up g8 24 fs))) hD hS hA [0, 1, 2, 3, 4, 5, 6, 7, 8, 9, 10, 11, 12, 13, 14, 15, 16, 17, 18, 19, 20, 21, 22, 23, 24, 25] rfl
                        refine va_calli (va_runV (As := [.int 3]) (rest := []) ⟨hx, hb, hml, hown, hT⟩ (xc_Mo_fails l D kA H.size h mm (va_up v4 1 (nI k7)) (va_up g8 24 fs) 3) (cwV 1 hT (wT_V k4q_9 k4q_10 k4q_11 k4q_6 k4q_8) rfl rfl rfl (by decide +kernel) ⟨Nat.le_of_ble_eq_true rfl, Nat.le_of_ble_eq_true rfl⟩) (x_preV hK hP hD 0 rfl rfl) rfl rfl hl.1 rfl (lv_room (Nat.le_of_ble_eq_true rfl)) xd_Mo_layer_213 ⟨Nat.le_of_ble_eq_true rfl, Nat.le_of_ble_eq_true rfl⟩) hS (fun q _ h => hFc q h) hFc (fun r73 u74 t H1 locs ht hvm hp75 hB hz1 hk1 hS => ?_)
                        obtain ⟨hP1, hD1⟩ := hB
                        rw [ht] at hP1
                        have hD1 := hD1.weaken (fun _ _ _ h => hFc _ h)
                        obtain ⟨v76, g77⟩ := u74
                        generalize H1 = H at hP1 hS ⊢
                        have hP := hP1
                        have hD := hD1
                        have hP : va_P D xcl (moW h mm kA v76 g77) H := hP
                        have hD : va_D A (moW h mm kA v76 g77) := hD
                        obtain ⟨hr9, hu9⟩ := hp75
                        subst hr9
                        obtain ⟨hu1, hu2⟩ := Prod.mk.inj hu9
                        subst hu1
                        have hu2 := hu2.symm
                        subst hu2
                        have hP : va_P D xcl (moW h mm kA (va_up (va_up v4 0 3) 1 (nI k7)) (va_up g8 24 fs)) H := hP
                        have hD : va_D A (moW h mm kA (va_up (va_up v4 0 3) 1 (nI k7)) (va_up g8 24 fs)) := hD
                        exact W.iret (v := 0) hx hb hr (fun t ht hW => ⟨⟨0, ((va_up (va_up v4 0 3) 1 (nI k7)), (va_up g8 24 fs)), rfl, ⟨3, k7, rfl, rfl, hv2, hv4, MI_g (g := g8) rfl rfl rfl rfl rfl rfl rfl rfl (MI_v rfl rfl hM8), by
        rw [← hwl]
        exact Or.inr (Or.inr ⟨hok1, L9, L8, g8, by rw [← hlqp]; exact hNM, by rw [← hlqp]; exact hLb8, hG8, by rw [← hlqp]; exact ⟨hSQ8, hlqe8, hL8⟩, hk7, Or.inl ⟨by omega, rfl, hnln, ⟨fun j h1 h2 h8 h9 h10 h11 h13 h14 => (show va_up g8 24 fs j = g j by rw [← hSQ8.1 j h1 h2 h8 h9 h10 h11 h13 h14]; simp [va_up, h14]), hSQ8.2.1, hSQ8.2.2⟩⟩⟩)⟩, by rw [ht]; exact hP, hD⟩, hS.F ht⟩) hS.2.2 xd_Mo_layer_216
                    refine lv_iload_n hx hb xd_Mo_layer_188 rfl (lv_at hl 4 rfl) ?_
                    refine lv_if_eq (tgt := 196) hx hb xd_Mo_layer_189 (by decide) (fun hc78 => ?_) (fun hc78 => ?_)
                    · exact jn61 (L9, g9) _ _ _ (lv_sub hl [2] rfl) hP hD hS ⟨(show MI v4 g9 from hM9), (show ∀ j, j ≠ 20 → j ≠ 21 → j ≠ 23 → g9 j = gz j from hfr9), (show RW gz g9 nl from hRW9), (show LT (g9 20) (g9 21) nl L9 from hL9), (show GL nd L9 from hG9), (show L9 = cif (¬ bi = 0) (bIt (bUg g nd fi lq) g lq 13 L9) L9 from (cif_neg (fun q => q hc78)).symm)⟩
                    · refine lv_aload_n hx hb xd_Mo_layer_192 rfl (lv_at hl 2 rfl) ?_
                      have hFc := va_free (wc := (moW h mm kA v4 g9)) hD hS hA [0, 1, 2, 3, 4, 5, 6, 7, 8, 9, 10, 11, 12, 13, 14, 15, 16, 17, 18, 19, 20, 21, 22, 23, 24, 25] rfl
                      refine va_callv (va_runV (As := []) (rest := []) ⟨hx, hb, hml, hown, hT⟩ (xc_Mo_bindingX l D kA H.size h mm v4 g9 nd nl lq L9 hM9 (by first | assumption | omega) (by first | assumption | omega) (by first | assumption | omega) (by first | assumption | omega) hpn9 hlqe9 (by first | assumption | omega) hL9 hG9) (cwV 0 hT (wT_V k4q_24 k4q_25 k4q_26 k4q_6 k4q_23) rfl rfl rfl (by decide +kernel) ⟨Nat.le_of_ble_eq_true rfl, Nat.le_of_ble_eq_true rfl⟩) (x_preV hK hP hD 0 rfl rfl) rfl rfl hl.1 rfl (lv_room (Nat.le_of_ble_eq_true rfl)) xd_Mo_layer_193 ⟨Nat.le_of_ble_eq_true rfl, Nat.le_of_ble_eq_true rfl⟩) hS (fun q _ h => hFc q h) hFc (fun u80 t H1 locs ht hvm hp81 hB hz1 hk1 hS => ?_)
                      obtain ⟨hP1, hD1⟩ := hB
                      rw [ht] at hP1
                      have hD1 := hD1.weaken (fun _ _ _ h => hFc _ h)
                      obtain ⟨v82, g83⟩ := u80
                      generalize H1 = H at hP1 hS ⊢
                      have hP := hP1
                      have hD := hD1
                      have hP : va_P D xcl (moW h mm kA v82 g83) H := hP
                      have hD : va_D A (moW h mm kA v82 g83) := hD
                      obtain ⟨hu9, hMq, hfrq, hRWq, Lq, hGq, hLq, hx5⟩ := hp81
                      have hu9 : v4 = v82 := hu9.symm
                      subst hu9
                      have hMq : MI v4 g83 := hMq
                      have hfrq : ∀ j, j ≠ 20 → j ≠ 21 → j ≠ 23 → g83 j = g9 j := hfrq
                      have hRWq : RW g9 g83 nl := hRWq
                      have hLq : LT (g83 20) (g83 21) nl Lq := hLq
                      have hmkq := hLq.1
                      rw [h189, bUg_eq (by rw [← hSM9, h189]) (hSQ9.1 3 (by decide) (by decide) (by decide) (by decide) (by decide) (by decide) (by decide) (by decide)) (hSQ9.1 4 (by decide) (by decide) (by decide) (by decide) (by decide) (by decide) (by decide) (by decide)) (hSQ9.1 14 (by decide) (by decide) (by decide) (by decide) (by decide) (by decide) (by decide) (by decide)) (hSQ9.1 15 (by decide) (by decide) (by decide) (by decide) (by decide) (by decide) (by decide) (by decide)), bIt_row (np := nl) (by omega) hparg hlq hlq hSQ9.2.2 hSQ9.2.1 hmdg] at hx5
                      have hP : va_P D xcl (moW h mm kA v4 g83) H := hP
                      have hD : va_D A (moW h mm kA v4 g83) := hD
                      exact jn61 (Lq, g83) _ _ _ (lv_sub hl [2] rfl) hP hD hS ⟨(show MI v4 g83 from hMq), (show ∀ j, j ≠ 20 → j ≠ 21 → j ≠ 23 → g83 j = gz j from fun j h1 h2 h3 => (hfrq j h1 h2 h3).trans (hfr9 j h1 h2 h3)), (show RW gz g83 nl from RW_tr hRW9 hRWq), (show LT (g83 20) (g83 21) nl Lq from hLq), (show GL nd Lq from hGq), (show Lq = cif (¬ bi = 0) (bIt (bUg g nd fi lq) g lq 13 L9) L9 from (hx5.symm.trans (cif_pos hc78).symm))⟩
                  · refine lv_aload_n hx hb xd_Mo_layer_182 rfl (lv_at hl 2 rfl) ?_
                    refine lv_iconst (v := 2) hx hb xd_Mo_layer_183 (by decide) ?_
                    have hFc := va_free (wc := (moW h mm kA v4 g9)) hD hS hA [0, 1, 2, 3, 4, 5, 6, 7, 8, 9, 10, 11, 12, 13, 14, 15, 16, 17, 18, 19, 20, 21, 22, 23, 24, 25] rfl
                    refine va_calli (va_runV (As := [.int 2]) (rest := []) ⟨hx, hb, hml, hown, hT⟩ (xc_Mo_fails l D kA H.size h mm v4 g9 2) (cwV 1 hT (wT_V k4q_9 k4q_10 k4q_11 k4q_6 k4q_8) rfl rfl rfl (by decide +kernel) ⟨Nat.le_of_ble_eq_true rfl, Nat.le_of_ble_eq_true rfl⟩) (x_preV hK hP hD 0 rfl rfl) rfl rfl hl.1 rfl (lv_room (Nat.le_of_ble_eq_true rfl)) xd_Mo_layer_184 ⟨Nat.le_of_ble_eq_true rfl, Nat.le_of_ble_eq_true rfl⟩) hS (fun q _ h => hFc q h) hFc (fun r84 u85 t H1 locs ht hvm hp86 hB hz1 hk1 hS => ?_)
                    obtain ⟨hP1, hD1⟩ := hB
                    rw [ht] at hP1
                    have hD1 := hD1.weaken (fun _ _ _ h => hFc _ h)
                    obtain ⟨v87, g88⟩ := u85
                    generalize H1 = H at hP1 hS ⊢
                    have hP := hP1
                    have hD := hD1
                    have hP : va_P D xcl (moW h mm kA v87 g88) H := hP
                    have hD : va_D A (moW h mm kA v87 g88) := hD
                    obtain ⟨hr9, hu9⟩ := hp86
                    subst hr9
                    obtain ⟨hu1, hu2⟩ := Prod.mk.inj hu9
                    subst hu1
                    have hu2 := hu2.symm
                    subst hu2
                    have hP : va_P D xcl (moW h mm kA (va_up v4 0 2) g9) H := hP
                    have hD : va_D A (moW h mm kA (va_up v4 0 2) g9) := hD
                    exact W.iret (v := 0) hx hb hr (fun t ht hW => ⟨⟨0, ((va_up v4 0 2), g9), rfl, ⟨2, 0, rfl, hv1, hv2, hv4, MI_v rfl rfl hM9, by
        rw [← hwl]
        exact Or.inr (Or.inl ⟨hok1, (by
          rw [← hlqp]
          rcases hA9 with ⟨q, _⟩ | ⟨_, q⟩
          · omega
          · exact q), rfl, rfl, hnln, hSQ9⟩)⟩, by rw [ht]; exact hP, hD⟩, hS.F ht⟩) hS.2.2 xd_Mo_layer_187
                · refine lv_aload_n hx hb xd_Mo_layer_159 rfl (lv_at hl 2 rfl) ?_
                  have hbew6 := (hwlr w6 (by omega)).1
                  have hew6 := (hwlr w6 (by omega)).2
                  have ebw6 := (hws9 w6 (by omega)).1
                  have eew6 := (hws9 w6 (by omega)).2
                  refine lv_aload_n hx hb xd_Mo_layer_160 rfl (lv_at hl 2 rfl) ?_
                  refine lv_iload hx hb xd_Mo_layer_161 (lv_at hl 0 rfl) ?_
                  have hFc := va_free (wc := (moW h mm kA v4 g9)) hD hS hA [0, 1, 2, 3, 4, 5, 6, 7, 8, 9, 10, 11, 12, 13, 14, 15, 16, 17, 18, 19, 20, 21, 22, 23, 24, 25] rfl
                  refine va_calli (va_runV (As := [.int (nI w6)]) (rest := [.ref h]) ⟨hx, hb, hml, hown, hT⟩ (xc_Mo_nameOfX l D kA H.size h mm v4 g9 w6 (wb wl w6) (we wl w6) (by first | assumption | omega) (by first | assumption | omega) (by first | assumption | omega) (by first | assumption | omega) (by first | assumption | omega)) (cwV 1 hT (wT_V k4q_28 k4q_29 k4q_30 k4q_6 k4q_27) rfl rfl rfl (by decide +kernel) ⟨Nat.le_of_ble_eq_true rfl, Nat.le_of_ble_eq_true rfl⟩) (x_preV hK hP hD 0 rfl rfl) rfl rfl hl.1 rfl (lv_room (Nat.le_of_ble_eq_true rfl)) xd_Mo_layer_163 ⟨Nat.le_of_ble_eq_true rfl, Nat.le_of_ble_eq_true rfl⟩) hS (fun q _ h => hFc q h) hFc (fun r89 u90 t H1 locs ht hvm hp91 hB hz1 hk1 hS => ?_)
                  obtain ⟨hP1, hD1⟩ := hB
                  rw [ht] at hP1
                  have hD1 := hD1.weaken (fun _ _ _ h => hFc _ h)
                  generalize H1 = H at hP1 hS ⊢
                  have hP := hP1
                  have hD := hD1
                  have hP : va_P D xcl (moW h mm kA v4 g9) H := hP
                  have hD : va_D A (moW h mm kA v4 g9) := hD
                  have hp91 : r89 = wN (g 0) wl w6 := hp91.trans (by rw [wN_in (by omega), hSQ9.1 0 (by decide) (by decide) (by decide) (by decide) (by decide) (by decide) (by decide) (by decide)])
                  subst hp91
                  have hP : va_P D xcl (moW h mm kA v4 g9) H := hP
                  have hD : va_D A (moW h mm kA v4 g9) := hD
                  have hFc := va_free (wc := (moW h mm kA v4 g9)) hD hS hA [0, 1, 2, 3, 4, 5, 6, 7, 8, 9, 10, 11, 12, 13, 14, 15, 16, 17, 18, 19, 20, 21, 22, 23, 24, 25] rfl
                  refine va_calli (va_runV (As := [.int (wN (g 0) wl w6)]) (rest := []) ⟨hx, hb, hml, hown, hT⟩ (xc_Mo_addsX l D kA H.size h mm v4 g9 (wN (g 0) wl w6) nd nl lq L9 hM9 (by first | assumption | omega) (by first | assumption | omega) (by first | assumption | omega) (by first | assumption | omega) hpn9 hlqe9 (by first | assumption | omega) hL9 hG9) (cwV 1 hT (wT_V k4q_32 k4q_33 k4q_34 k4q_6 k4q_31) rfl rfl rfl (by decide +kernel) ⟨Nat.le_of_ble_eq_true rfl, Nat.le_of_ble_eq_true rfl⟩) (x_preV hK hP hD 0 rfl rfl) rfl rfl hl.1 rfl (lv_room (Nat.le_of_ble_eq_true rfl)) xd_Mo_layer_166 ⟨Nat.le_of_ble_eq_true rfl, Nat.le_of_ble_eq_true rfl⟩) hS (fun q _ h => hFc q h) hFc (fun r92 u93 t H1 locs ht hvm hp94 hB hz1 hk1 hS => ?_)
                  obtain ⟨hP1, hD1⟩ := hB
                  rw [ht] at hP1
                  have hD1 := hD1.weaken (fun _ _ _ h => hFc _ h)
                  obtain ⟨v95, g96⟩ := u93
                  generalize H1 = H at hP1 hS ⊢
                  have hP := hP1
                  have hD := hD1
                  have hP : va_P D xcl (moW h mm kA v95 g96) H := hP
                  have hD : va_D A (moW h mm kA v95 g96) := hD
                  obtain ⟨hu9, hMq, hfrq, hRWq, Lq, hGq, hLq, hx5⟩ := hp94
                  have hu9 : v4 = v95 := hu9.symm
                  subst hu9
                  have hMq : MI v4 g96 := hMq
                  have hfrq : ∀ j, j ≠ 20 → j ≠ 21 → j ≠ 23 → g96 j = g9 j := hfrq
                  have hRWq : RW g9 g96 nl := hRWq
                  have hLq : LT (g96 20) (g96 21) nl Lq := hLq
                  have hmkq := hLq.1
                  rw [hSM9] at hx5
                  have hP : va_P D xcl (moW h mm kA v4 g96) H := hP
                  have hD : va_D A (moW h mm kA v4 g96) := hD
                  rcases hx5 with ⟨rfl, hgood⟩ | ⟨rfl, hgood⟩
                  · refine lv_istore hx hb xd_Mo_layer_169 hl (Nat.le_of_ble_eq_true rfl) rfl (fun ls hl => ?_)
                    have hl : lv_has ls 7 [(5, .int 0), (6, .int (nI w6)), (0, .ref h), (1, .int fi), (3, .int bi)] := hl
                    refine lv_iinc (k := 1) (x := (nI w6)) (v := (nI (w6 + 1))) hx hb xd_Mo_layer_171 hl rfl (xb_inc w6 1) (Nat.le_of_ble_eq_true rfl) rfl (fun ls hl => ?_)
                    have hl : lv_has ls 7 [(6, .int (nI (w6 + 1))), (5, .int 0), (0, .ref h), (1, .int fi), (3, .int bi)] := hl
                    refine lv_goto (tgt := 145) hx hb xd_Mo_layer_174 (by decide) ?_
                    exact ih28 (w6 + 1, 0, Lq, g96) _ _ _ (show wl.length - (w6 + 1) < wl.length - w6 by omega) (lv_sub hl [0, 1, 2, 3, 4] rfl) hP hD hS ⟨(show (w6 + 1) ≤ wl.length from by first | assumption | omega), (show 0 ≤ 1 from by first | assumption | omega), (show MI v4 g96 from hMq), (show ∀ j, j ≠ 20 → j ≠ 21 → j ≠ 23 → g96 j = gz j from fun j h1 h2 h3 => (hfrq j h1 h2 h3).trans (hfr9 j h1 h2 h3)), (show RW gz g96 nl from RW_tr hRW9 hRWq), (show LT (g96 20) (g96 21) nl Lq from hLq), (show GL nd Lq from hGq), (show (0 = 1 ∧ aF (adG g nd fi lq) [] (nmL (g 0) wl wl.length 0) = aF (adG g nd fi lq) Lq (nmL (g 0) wl (wl.length - (w6 + 1)) (w6 + 1))) ∨ (0 = 0 ∧ ∃ Lx, aF (adG g nd fi lq) [] (nmL (g 0) wl wl.length 0) = (false, Lx)) from by
        rcases hA9 with ⟨_, q⟩ | ⟨q, _⟩
        · exact Or.inr ⟨rfl, Lq, by rw [q, nmL_s (by omega), aF_f hgood]⟩
        · omega)⟩
                  · refine lv_istore hx hb xd_Mo_layer_169 hl (Nat.le_of_ble_eq_true rfl) rfl (fun ls hl => ?_)
                    have hl : lv_has ls 7 [(5, .int 1), (6, .int (nI w6)), (0, .ref h), (1, .int fi), (3, .int bi)] := hl
                    refine lv_iinc (k := 1) (x := (nI w6)) (v := (nI (w6 + 1))) hx hb xd_Mo_layer_171 hl rfl (xb_inc w6 1) (Nat.le_of_ble_eq_true rfl) rfl (fun ls hl => ?_)
                    have hl : lv_has ls 7 [(6, .int (nI (w6 + 1))), (5, .int 1), (0, .ref h), (1, .int fi), (3, .int bi)] := hl
                    refine lv_goto (tgt := 145) hx hb xd_Mo_layer_174 (by decide) ?_
                    exact ih28 (w6 + 1, 1, Lq, g96) _ _ _ (show wl.length - (w6 + 1) < wl.length - w6 by omega) (lv_sub hl [0, 1, 2, 3, 4] rfl) hP hD hS ⟨(show (w6 + 1) ≤ wl.length from by first | assumption | omega), (show 1 ≤ 1 from by first | assumption | omega), (show MI v4 g96 from hMq), (show ∀ j, j ≠ 20 → j ≠ 21 → j ≠ 23 → g96 j = gz j from fun j h1 h2 h3 => (hfrq j h1 h2 h3).trans (hfr9 j h1 h2 h3)), (show RW gz g96 nl from RW_tr hRW9 hRWq), (show LT (g96 20) (g96 21) nl Lq from hLq), (show GL nd Lq from hGq), (show (1 = 1 ∧ aF (adG g nd fi lq) [] (nmL (g 0) wl wl.length 0) = aF (adG g nd fi lq) Lq (nmL (g 0) wl (wl.length - (w6 + 1)) (w6 + 1))) ∨ (1 = 0 ∧ ∃ Lx, aF (adG g nd fi lq) [] (nmL (g 0) wl wl.length 0) = (false, Lx)) from by
        rcases hA9 with ⟨_, q⟩ | ⟨q, _⟩
        · exact Or.inl ⟨rfl, by rw [q, nmL_s (by omega), aF_t hgood]⟩
        · omega)⟩
            rcases Decidable.em (pa = -1) with hpa | hpa
            · rw [hpa, show (-1 : Int32) = nI 0 - 1 by decide] at hl
              have hl : lv_has ls 7 [(5, .int (nI w5)), (4, .int (nI n4)), (2, .int (nI 0 - 1)), (0, .ref h), (1, .int fi), (3, .int bi)] := hl
              refine lv_iload_n hx hb xd_Mo_layer_90 rfl (lv_at hl 2 rfl) ?_
              refine lv_iconst (v := (-1)) hx hb xd_Mo_layer_91 (by decide) ?_
              refine lv_icmp_eq (tgt := 109) hx hb xd_Mo_layer_92 (by decide) (fun _ => ?_) (fun hc97 => absurd (show (nI 0 - 1 : Int32) = -1 from by decide) hc97)
              exact jn27 0 _ _ _ (lv_sub hl [3, 4, 2, 5] rfl) hP hD hS ⟨(show 0 ≤ nl from by first | assumption | omega), (show 0 = iN (pa + 1) from by rw [hpa]; exact lq_m1.symm), (show pa = -1 ∨ opP g nl pa from Or.inl hpa)⟩
            · refine lv_iload_n hx hb xd_Mo_layer_90 rfl (lv_at hl 2 rfl) ?_
              refine lv_iconst (v := (-1)) hx hb xd_Mo_layer_91 (by decide) ?_
              refine lv_icmp_eq (tgt := 109) hx hb xd_Mo_layer_92 (by decide) (fun hc98 => absurd hc98 hpa) (fun _ => ?_)
              refine lv_aload_n hx hb xd_Mo_layer_95 rfl (lv_at hl 3 rfl) ?_
              refine lv_iload_n hx hb xd_Mo_layer_96 rfl (lv_at hl 2 rfl) ?_
              have hFc := va_free (wc := (moW h mm kA v4 g5)) hD hS hA [0, 1, 2, 3, 4, 5, 6, 7, 8, 9, 10, 11, 12, 13, 14, 15, 16, 17, 18, 19, 20, 21, 22, 23, 24, 25] rfl
              refine va_calli (va_runV (As := [.int pa]) (rest := []) ⟨hx, hb, hml, hown, hT⟩ (xc_Mo_isOpenX l D kA H.size h mm v4 g5 pa nl (by first | assumption | omega) (by first | assumption | omega)) (cwV 1 hT (wT_V k4q_36 k4q_37 k4q_38 k4q_6 k4q_35) rfl rfl rfl (by decide +kernel) ⟨Nat.le_of_ble_eq_true rfl, Nat.le_of_ble_eq_true rfl⟩) (x_preV hK hP hD 0 rfl rfl) rfl rfl hl.1 rfl (lv_room (Nat.le_of_ble_eq_true rfl)) xd_Mo_layer_97 ⟨Nat.le_of_ble_eq_true rfl, Nat.le_of_ble_eq_true rfl⟩) hS (fun q _ h => hFc q h) hFc (fun r99 u100 t H1 locs ht hvm hp101 hB hz1 hk1 hS => ?_)
              obtain ⟨hP1, hD1⟩ := hB
              rw [ht] at hP1
              have hD1 := hD1.weaken (fun _ _ _ h => hFc _ h)
              generalize H1 = H at hP1 hS ⊢
              have hP := hP1
              have hD := hD1
              have hP : va_P D xcl (moW h mm kA v4 g5) H := hP
              have hD : va_D A (moW h mm kA v4 g5) := hD
              rcases hp101 with ⟨rfl, z102⟩ | ⟨rfl, z103, z104, z105, z106⟩
              · have hnop : ¬ opP g nl pa := by
                  have q := z102
                  unfold opP at q ⊢
                  rw [hgk 22 (by decide) (by decide)] at q; exact q
                refine xz_ne (a := 0) (tgt := 109) hx hb xd_Mo_layer_100 (by decide) (by omega) (fun hc107 => absurd hc107 (by omega)) (fun _ => ?_)
                refine lv_aload_n hx hb xd_Mo_layer_103 rfl (lv_at hl 3 rfl) ?_
                refine lv_iconst (v := 1) hx hb xd_Mo_layer_104 (by decide) ?_
                have hFc := va_free (wc := (moW h mm kA v4 g5)) hD hS hA [0, 1, 2, 3, 4, 5, 6, 7, 8, 9, 10, 11, 12, 13, 14, 15, 16, 17, 18, 19, 20, 21, 22, 23, 24, 25] rfl
                refine va_calli (va_runV (As := [.int 1]) (rest := []) ⟨hx, hb, hml, hown, hT⟩ (xc_Mo_fails l D kA H.size h mm v4 g5 1) (cwV 1 hT (wT_V k4q_9 k4q_10 k4q_11 k4q_6 k4q_8) rfl rfl rfl (by decide +kernel) ⟨Nat.le_of_ble_eq_true rfl, Nat.le_of_ble_eq_true rfl⟩) (x_preV hK hP hD 0 rfl rfl) rfl rfl hl.1 rfl (lv_room (Nat.le_of_ble_eq_true rfl)) xd_Mo_layer_105 ⟨Nat.le_of_ble_eq_true rfl, Nat.le_of_ble_eq_true rfl⟩) hS (fun q _ h => hFc q h) hFc (fun r108 u109 t H1 locs ht hvm hp110 hB hz1 hk1 hS => ?_)
                obtain ⟨hP1, hD1⟩ := hB
                rw [ht] at hP1
                have hD1 := hD1.weaken (fun _ _ _ h => hFc _ h)
                obtain ⟨v111, g112⟩ := u109
                generalize H1 = H at hP1 hS ⊢
                have hP := hP1
                have hD := hD1
                have hP : va_P D xcl (moW h mm kA v111 g112) H := hP
                have hD : va_D A (moW h mm kA v111 g112) := hD
                obtain ⟨hr9, hu9⟩ := hp110
                subst hr9
                obtain ⟨hu1, hu2⟩ := Prod.mk.inj hu9
                subst hu1
                have hu2 := hu2.symm
                subst hu2
                have hP : va_P D xcl (moW h mm kA (va_up v4 0 1) g5) H := hP
                have hD : va_D A (moW h mm kA (va_up v4 0 1) g5) := hD
                exact W.iret (v := 0) hx hb hr (fun t ht hW => ⟨⟨0, ((va_up v4 0 1), g5), rfl, ⟨1, 0, rfl, hv1, hv2, hv4, MI_v rfl rfl hM1, by
        rw [← hwl]
        exact Or.inl ⟨fun q => q.2.2.2.2.elim hpa hnop, rfl, rfl, hnln, ⟨fun j h1 h2 _ _ _ _ _ _ => hgk j h1 h2, fun la _ => congrFun (hgk 19 (by decide) (by decide)) la, fun la _ => ⟨congrFun (hgk 20 (by decide) (by decide)) la, fun k _ => congrFun (hgk 21 (by decide) (by decide)) _⟩⟩⟩⟩, by rw [ht]; exact hP, hD⟩, hS.F ht⟩) hS.2.2 xd_Mo_layer_108
              · rw [z105, ← nI_pred z103] at hl
                have hl : lv_has ls 7 [(5, .int (nI w5)), (4, .int (nI n4)), (2, .int (nI (z103 + 1) - 1)), (0, .ref h), (1, .int fi), (3, .int bi)] := hl
                have hop9 : opP g nl pa := ⟨z103, z104, z105, by rw [← hgk 22 (by decide) (by decide)]; exact z106⟩
                refine xz_ne (a := 1) (tgt := 109) hx hb xd_Mo_layer_100 (by decide) (by omega) (fun _ => ?_) (fun hc113 => absurd hc113 (by omega))
                exact jn27 (z103 + 1) _ _ _ (lv_sub hl [3, 4, 2, 5] rfl) hP hD hS ⟨(show (z103 + 1) ≤ nl from by first | assumption | omega), (show (z103 + 1) = iN (pa + 1) from by rw [z105]; exact (lq_la (by omega)).symm), (show pa = -1 ∨ opP g nl pa from Or.inr hop9)⟩
    · refine lv_iload hx hb xd_Mo_layer_49 (lv_at hl 1 rfl) ?_
      refine xz_eq (a := n4) (tgt := 67) hx hb xd_Mo_layer_51 (by decide) (by omega) (fun hc114 => ?_) (fun hc114 => ?_)
      · refine lv_iconst (v := 0) hx hb xd_Mo_layer_67 (by decide) ?_
        refine lv_istore hx hb xd_Mo_layer_68 hl (Nat.le_of_ble_eq_true rfl) rfl (fun ls hl => ?_)
        have hl : lv_has ls 7 [(4, .int 0), (5, .int (nI w5)), (2, .int pa), (0, .ref h), (1, .int fi), (3, .int bi)] := hl
        refine lv_iinc (k := 1) (x := (nI w5)) (v := (nI (w5 + 1))) hx hb xd_Mo_layer_70 hl rfl (xb_inc w5 1) (Nat.le_of_ble_eq_true rfl) rfl (fun ls hl => ?_)
        have hl : lv_has ls 7 [(5, .int (nI (w5 + 1))), (4, .int 0), (2, .int pa), (0, .ref h), (1, .int fi), (3, .int bi)] := hl
        refine lv_goto (tgt := 40) hx hb xd_Mo_layer_73 (by decide) ?_
        exact ih7 (w5 + 1, 0) _ _ _ (show wl.length - (w5 + 1) < wl.length - w5 by omega) (lv_sub hl [0, 1, 2, 3, 4, 5] rfl) hP hD hS ⟨(show (w5 + 1) ≤ wl.length from by first | assumption | omega), (show 0 ≤ 1 from by first | assumption | omega), (show (0 = 1 ∧ (1 ≤ wl.length ∧ wl.length ≤ 3) ∧ ∀ w, w < (w5 + 1) → ¬ wN (g 0) wl w = 0) ∨ (0 = 0 ∧ ¬ ((1 ≤ wl.length ∧ wl.length ≤ 3) ∧ ∀ w, w < (w5 + 1) → ¬ wN (g 0) wl w = 0)) from by
        rcases hnm with ⟨q, _⟩ | ⟨_, q⟩
        · omega
        · exact Or.inr ⟨rfl, fun z => q ⟨z.1, fun w h => z.2 w (by omega)⟩⟩)⟩
      · have hbew5 := (hwlr w5 (by omega)).1
        have hew5 := (hwlr w5 (by omega)).2
        have ebw5 := (hws w5 (by omega)).1
        have eew5 := (hws w5 (by omega)).2
        refine lv_aload_n hx hb xd_Mo_layer_54 rfl (lv_at hl 3 rfl) ?_
        refine lv_iload hx hb xd_Mo_layer_55 (lv_at hl 0 rfl) ?_
        have hFc := va_free (wc := (moW h mm kA v4 g5)) hD hS hA [0, 1, 2, 3, 4, 5, 6, 7, 8, 9, 10, 11, 12, 13, 14, 15, 16, 17, 18, 19, 20, 21, 22, 23, 24, 25] rfl
        refine va_calli (va_runV (As := [.int (nI w5)]) (rest := []) ⟨hx, hb, hml, hown, hT⟩ (xc_Mo_nameOfX l D kA H.size h mm v4 g5 w5 (wb wl w5) (we wl w5) (by first | assumption | omega) (by first | assumption | omega) (by first | assumption | omega) (by first | assumption | omega) (by first | assumption | omega)) (cwV 1 hT (wT_V k4q_28 k4q_29 k4q_30 k4q_6 k4q_27) rfl rfl rfl (by decide +kernel) ⟨Nat.le_of_ble_eq_true rfl, Nat.le_of_ble_eq_true rfl⟩) (x_preV hK hP hD 0 rfl rfl) rfl rfl hl.1 rfl (lv_room (Nat.le_of_ble_eq_true rfl)) xd_Mo_layer_57 ⟨Nat.le_of_ble_eq_true rfl, Nat.le_of_ble_eq_true rfl⟩) hS (fun q _ h => hFc q h) hFc (fun r115 u116 t H1 locs ht hvm hp117 hB hz1 hk1 hS => ?_)
        obtain ⟨hP1, hD1⟩ := hB
        rw [ht] at hP1
        have hD1 := hD1.weaken (fun _ _ _ h => hFc _ h)
        generalize H1 = H at hP1 hS ⊢
        have hP := hP1
        have hD := hD1
        have hP : va_P D xcl (moW h mm kA v4 g5) H := hP
        have hD : va_D A (moW h mm kA v4 g5) := hD
        have hp117 : r115 = wN (g 0) wl w5 := hp117.trans (by rw [wN_in (by omega), hgk 0 (by decide) (by decide)])
        subst hp117
        have hP : va_P D xcl (moW h mm kA v4 g5) H := hP
        have hD : va_D A (moW h mm kA v4 g5) := hD
        refine lv_if_le (tgt := 67) hx hb xd_Mo_layer_60 (by decide) (fun hc118 => ?_) (fun hc118 => ?_)
        · refine lv_iconst (v := 0) hx hb xd_Mo_layer_67 (by decide) ?_
          refine lv_istore hx hb xd_Mo_layer_68 hl (Nat.le_of_ble_eq_true rfl) rfl (fun ls hl => ?_)
          have hl : lv_has ls 7 [(4, .int 0), (5, .int (nI w5)), (2, .int pa), (0, .ref h), (1, .int fi), (3, .int bi)] := hl
          refine lv_iinc (k := 1) (x := (nI w5)) (v := (nI (w5 + 1))) hx hb xd_Mo_layer_70 hl rfl (xb_inc w5 1) (Nat.le_of_ble_eq_true rfl) rfl (fun ls hl => ?_)
          have hl : lv_has ls 7 [(5, .int (nI (w5 + 1))), (4, .int 0), (2, .int pa), (0, .ref h), (1, .int fi), (3, .int bi)] := hl
          refine lv_goto (tgt := 40) hx hb xd_Mo_layer_73 (by decide) ?_
          exact ih7 (w5 + 1, 0) _ _ _ (show wl.length - (w5 + 1) < wl.length - w5 by omega) (lv_sub hl [0, 1, 2, 3, 4, 5] rfl) hP hD hS ⟨(show (w5 + 1) ≤ wl.length from by first | assumption | omega), (show 0 ≤ 1 from by first | assumption | omega), (show (0 = 1 ∧ (1 ≤ wl.length ∧ wl.length ≤ 3) ∧ ∀ w, w < (w5 + 1) → ¬ wN (g 0) wl w = 0) ∨ (0 = 0 ∧ ¬ ((1 ≤ wl.length ∧ wl.length ≤ 3) ∧ ∀ w, w < (w5 + 1) → ¬ wN (g 0) wl w = 0)) from Or.inr ⟨rfl, fun z => absurd (wN_pos.mp (z.2 w5 (by omega))) (Int32.not_lt.mpr hc118)⟩)⟩
        · refine lv_iconst (v := 1) hx hb xd_Mo_layer_63 (by decide) ?_
          refine lv_goto (tgt := 68) hx hb xd_Mo_layer_64 (by decide) ?_
          refine lv_istore hx hb xd_Mo_layer_68 hl (Nat.le_of_ble_eq_true rfl) rfl (fun ls hl => ?_)
          have hl : lv_has ls 7 [(4, .int 1), (5, .int (nI w5)), (2, .int pa), (0, .ref h), (1, .int fi), (3, .int bi)] := hl
          refine lv_iinc (k := 1) (x := (nI w5)) (v := (nI (w5 + 1))) hx hb xd_Mo_layer_70 hl rfl (xb_inc w5 1) (Nat.le_of_ble_eq_true rfl) rfl (fun ls hl => ?_)
          have hl : lv_has ls 7 [(5, .int (nI (w5 + 1))), (4, .int 1), (2, .int pa), (0, .ref h), (1, .int fi), (3, .int bi)] := hl
          refine lv_goto (tgt := 40) hx hb xd_Mo_layer_73 (by decide) ?_
          exact ih7 (w5 + 1, 1) _ _ _ (show wl.length - (w5 + 1) < wl.length - w5 by omega) (lv_sub hl [0, 1, 2, 3, 4, 5] rfl) hP hD hS ⟨(show (w5 + 1) ≤ wl.length from by first | assumption | omega), (show 1 ≤ 1 from by first | assumption | omega), (show (1 = 1 ∧ (1 ≤ wl.length ∧ wl.length ≤ 3) ∧ ∀ w, w < (w5 + 1) → ¬ wN (g 0) wl w = 0) ∨ (1 = 0 ∧ ¬ ((1 ≤ wl.length ∧ wl.length ≤ 3) ∧ ∀ w, w < (w5 + 1) → ¬ wN (g 0) wl w = 0)) from by
        rcases hnm with ⟨q, q2, q3⟩ | ⟨q, _⟩
        · refine Or.inl ⟨rfl, q2, fun w h => ?_⟩
          rcases Nat.lt_or_ge w w5 with z | z
          · exact q3 w z
          · rw [show w = w5 by omega]; exact wN_pos.mpr (Int32.not_le.mp hc118)
        · omega)⟩
  refine lv_aload_n hx hb xd_Mo_layer_14 rfl (lv_at hl 0 rfl) ?_
  refine va_get (D := D) (ci := 4) (v := .int (v4 3)) (C := xR_Mo) (T := xT_Mo) (N := 31) hx hb hT xi_Mo hown hK.1 hP 0 rfl rfl 4 (by decide) (hT _ k4q_7) (fun _ h9 => h9) rfl xd_Mo_layer_15 ?_
  refine xn_top (x := (v4 3)) (y := nI wl.length) hv3 ?_
  refine lv_iconst (v := 1) hx hb xd_Mo_layer_18 (by decide) ?_
  refine xn_lt (a := wl.length) (b := 1) (tgt := 34) hx hb xd_Mo_layer_19 (by decide) (by omega) (by omega) (fun hc119 => ?_) (fun hc119 => ?_)
  · refine lv_iconst (v := 0) hx hb xd_Mo_layer_34 (by decide) ?_
    exact jn6 0 _ _ _ (lv_sub hl [0, 1, 2, 3] rfl) hP hD hS ⟨(show 0 ≤ 1 from by first | assumption | omega), (show (0 = 1 ∧ (1 ≤ wl.length ∧ wl.length ≤ 3)) ∨ (0 = 0 ∧ ¬ (1 ≤ wl.length ∧ wl.length ≤ 3)) from by omega)⟩
  · refine lv_aload_n hx hb xd_Mo_layer_22 rfl (lv_at hl 0 rfl) ?_
    refine va_get (D := D) (ci := 4) (v := .int (v4 3)) (C := xR_Mo) (T := xT_Mo) (N := 31) hx hb hT xi_Mo hown hK.1 hP 0 rfl rfl 4 (by decide) (hT _ k4q_7) (fun _ h9 => h9) rfl xd_Mo_layer_23 ?_
    refine xn_top (x := (v4 3)) (y := nI wl.length) hv3 ?_
    refine lv_iconst (v := 3) hx hb xd_Mo_layer_26 (by decide) ?_
    refine xn_gt (a := wl.length) (b := 3) (tgt := 34) hx hb xd_Mo_layer_27 (by decide) (by omega) (by omega) (fun hc120 => ?_) (fun hc120 => ?_)
    · refine lv_iconst (v := 0) hx hb xd_Mo_layer_34 (by decide) ?_
      exact jn6 0 _ _ _ (lv_sub hl [0, 1, 2, 3] rfl) hP hD hS ⟨(show 0 ≤ 1 from by first | assumption | omega), (show (0 = 1 ∧ (1 ≤ wl.length ∧ wl.length ≤ 3)) ∨ (0 = 0 ∧ ¬ (1 ≤ wl.length ∧ wl.length ≤ 3)) from by omega)⟩
    · refine lv_iconst (v := 1) hx hb xd_Mo_layer_30 (by decide) ?_
      refine lv_goto (tgt := 35) hx hb xd_Mo_layer_31 (by decide) ?_
      exact jn6 1 _ _ _ (lv_sub hl [0, 1, 2, 3] rfl) hP hD hS ⟨(show 1 ≤ 1 from by first | assumption | omega), (show (1 = 1 ∧ (1 ≤ wl.length ∧ wl.length ≤ 3)) ∨ (1 = 0 ∧ ¬ (1 ≤ wl.length ∧ wl.length ≤ 3)) from by omega)⟩
theorem k4r_0 : (Cond.fieldLink "LayerDeskModel" 87 "LayerDeskModel" "fault" "I") ∈ wT := wT_t (List.mem_append_right _ (List.mem_append_right _ (List.mem_append_right _ (List.mem_append_left _ (List.mem_of_getElem? (i := 84) rfl))))) rfl
theorem k4r_1 : (Cond.fieldLink "LayerDeskModel" 187 "LayerDeskModel" "why" "I") ∈ wT := wT_t (List.mem_append_right _ (List.mem_append_right _ (List.mem_append_right _ (List.mem_append_left _ (List.mem_of_getElem? (i := 85) rfl))))) rfl
theorem k4r_2 : (Cond.fieldLink "LayerDeskModel" 150 "LayerDeskModel" "layers" "I") ∈ wT := wT_t (List.mem_append_right _ (List.mem_append_right _ (List.mem_append_right _ (List.mem_append_left _ (List.mem_of_getElem? (i := 107) rfl))))) rfl
theorem k4r_3 : (Cond.fieldLink "LayerDeskModel" 140 "LayerDeskModel" "descriptors" "I") ∈ wT := wT_t (List.mem_append_right _ (List.mem_append_right _ (List.mem_append_right _ (List.mem_append_left _ (List.mem_of_getElem? (i := 91) rfl))))) rfl
theorem k4r_4 : (Cond.fieldLink "LayerDeskModel" 78 "LayerDeskModel" "open" "[Z") ∈ wT := wT_t (List.mem_append_right _ (List.mem_append_right _ (List.mem_append_right _ (List.mem_append_left _ (List.mem_of_getElem? (i := 112) rfl))))) rfl
theorem k4r_5 : (Cond.code xy_Mo_isOpen xb_Mo_isOpen 2 (some .boolean)) ∈ wT := wT_t (List.mem_append_right _ (List.mem_append_right _ (List.mem_append_right _ (List.mem_append_right _ (List.mem_of_getElem? (i := 12) rfl))))) rfl
theorem k4r_6 : (Cond.methodLink "LayerDeskModel" 190 xy_Mo_isOpen) ∈ wT := wT_t (List.mem_append_right _ (List.mem_append_right _ (List.mem_append_right _ (List.mem_append_right _ (List.mem_of_getElem? (i := 9) rfl))))) rfl
theorem k4r_7 : (Cond.instanceMethod xy_Mo_isOpen) ∈ wT := wT_t (List.mem_append_right _ (List.mem_append_right _ (List.mem_append_right _ (List.mem_append_right _ (List.mem_of_getElem? (i := 11) rfl))))) rfl
theorem k4r_8 : (Cond.selects "LayerDeskModel" xy_Mo_isOpen xy_Mo_isOpen) ∈ wT := wT_s (q := (xy_Mo_isOpen, 31)) (by decide +kernel) rfl
theorem k4r_9 : (Cond.initialized "LayerDeskModel") ∈ wT := wT_t (List.mem_append_left _ (List.mem_of_getElem? (i := 5) rfl)) rfl
theorem k4r_10 : (Cond.fieldLink "LayerDeskModel" 72 "LayerDeskModel" "modules" "[I") ∈ wT := wT_t (List.mem_append_right _ (List.mem_append_right _ (List.mem_append_right _ (List.mem_append_left _ (List.mem_of_getElem? (i := 110) rfl))))) rfl
theorem k4r_11 : (Cond.code xy_Mo_moduleOf xb_Mo_moduleOf 3 (some .int)) ∈ wT := wT_t (List.mem_append_right _ (List.mem_append_right _ (List.mem_append_right _ (List.mem_append_right _ (List.mem_of_getElem? (i := 84) rfl))))) rfl
theorem k4r_12 : (Cond.methodLink "LayerDeskModel" 199 xy_Mo_moduleOf) ∈ wT := wT_t (List.mem_append_right _ (List.mem_append_right _ (List.mem_append_right _ (List.mem_append_right _ (List.mem_of_getElem? (i := 81) rfl))))) rfl
theorem k4r_13 : (Cond.instanceMethod xy_Mo_moduleOf) ∈ wT := wT_t (List.mem_append_right _ (List.mem_append_right _ (List.mem_append_right _ (List.mem_append_right _ (List.mem_of_getElem? (i := 83) rfl))))) rfl
theorem k4r_14 : (Cond.selects "LayerDeskModel" xy_Mo_moduleOf xy_Mo_moduleOf) ∈ wT := wT_s (q := (xy_Mo_moduleOf, 31)) (by decide +kernel) rfl
theorem k4r_15 : (Cond.code xy_Mo_isThere xb_Mo_isThere 3 (some .boolean)) ∈ wT := wT_t (List.mem_append_right _ (List.mem_append_right _ (List.mem_append_right _ (List.mem_append_right _ (List.mem_of_getElem? (i := 92) rfl))))) rfl
theorem k4r_16 : (Cond.methodLink "LayerDeskModel" 202 xy_Mo_isThere) ∈ wT := wT_t (List.mem_append_right _ (List.mem_append_right _ (List.mem_append_right _ (List.mem_append_right _ (List.mem_of_getElem? (i := 89) rfl))))) rfl
theorem k4r_17 : (Cond.instanceMethod xy_Mo_isThere) ∈ wT := wT_t (List.mem_append_right _ (List.mem_append_right _ (List.mem_append_right _ (List.mem_append_right _ (List.mem_of_getElem? (i := 91) rfl))))) rfl
theorem k4r_18 : (Cond.selects "LayerDeskModel" xy_Mo_isThere xy_Mo_isThere) ∈ wT := wT_s (q := (xy_Mo_isThere, 31)) (by decide +kernel) rfl
theorem k4r_19 : (Cond.code xy_Mo_reading xb_Mo_reading 7 none) ∈ wT := wT_t (List.mem_append_right _ (List.mem_append_right _ (List.mem_append_right _ (List.mem_append_right _ (List.mem_of_getElem? (i := 48) rfl))))) rfl
theorem k4r_20 : (Cond.methodLink "LayerDeskModel" 171 xy_Mo_reading) ∈ wT := wT_t (List.mem_append_right _ (List.mem_append_right _ (List.mem_append_right _ (List.mem_append_right _ (List.mem_of_getElem? (i := 45) rfl))))) rfl
theorem k4r_21 : (Cond.instanceMethod xy_Mo_reading) ∈ wT := wT_t (List.mem_append_right _ (List.mem_append_right _ (List.mem_append_right _ (List.mem_append_right _ (List.mem_of_getElem? (i := 47) rfl))))) rfl
theorem k4r_22 : (Cond.selects "LayerDeskModel" xy_Mo_reading xy_Mo_reading) ∈ wT := wT_s (q := (xy_Mo_reading, 31)) (by decide +kernel) rfl
theorem k4r_23 : (Cond.fieldLink "LayerDeskModel" 84 "LayerDeskModel" "seen" "[Z") ∈ wT := wT_t (List.mem_append_right _ (List.mem_append_right _ (List.mem_append_right _ (List.mem_append_left _ (List.mem_of_getElem? (i := 114) rfl))))) rfl
theorem k4r_24 : (Cond.code xy_Mo_oneName xb_Mo_oneName 1 (some .int)) ∈ wT := wT_t (List.mem_append_right _ (List.mem_append_right _ (List.mem_append_right _ (List.mem_append_right _ (List.mem_of_getElem? (i := 100) rfl))))) rfl
theorem k4r_25 : (Cond.methodLink "LayerDeskModel" 205 xy_Mo_oneName) ∈ wT := wT_t (List.mem_append_right _ (List.mem_append_right _ (List.mem_append_right _ (List.mem_append_right _ (List.mem_of_getElem? (i := 97) rfl))))) rfl
theorem k4r_26 : (Cond.instanceMethod xy_Mo_oneName) ∈ wT := wT_t (List.mem_append_right _ (List.mem_append_right _ (List.mem_append_right _ (List.mem_append_right _ (List.mem_of_getElem? (i := 99) rfl))))) rfl
theorem k4r_27 : (Cond.selects "LayerDeskModel" xy_Mo_oneName xy_Mo_oneName) ∈ wT := wT_s (q := (xy_Mo_oneName, 31)) (by decide +kernel) rfl
theorem k4r_28 : (Cond.code xy_Mo_fails xb_Mo_fails 2 (some .int)) ∈ wT := wT_t (List.mem_append_right _ (List.mem_append_right _ (List.mem_append_right _ (List.mem_append_right _ (List.mem_of_getElem? (i := 4) rfl))))) rfl
theorem k4r_29 : (Cond.methodLink "LayerDeskModel" 129 xy_Mo_fails) ∈ wT := wT_t (List.mem_append_right _ (List.mem_append_right _ (List.mem_append_right _ (List.mem_append_right _ (List.mem_of_getElem? (i := 1) rfl))))) rfl
theorem k4r_30 : (Cond.instanceMethod xy_Mo_fails) ∈ wT := wT_t (List.mem_append_right _ (List.mem_append_right _ (List.mem_append_right _ (List.mem_append_right _ (List.mem_of_getElem? (i := 3) rfl))))) rfl
theorem k4r_31 : (Cond.selects "LayerDeskModel" xy_Mo_fails xy_Mo_fails) ∈ wT := wT_s (q := (xy_Mo_fails, 31)) (by decide +kernel) rfl
theorem k4r_32 : (Cond.code xy_Mo_packageOf xb_Mo_packageOf 4 (some .int)) ∈ wT := wT_t (List.mem_append_right _ (List.mem_append_right _ (List.mem_append_right _ (List.mem_append_left _ (List.mem_of_getElem? (i := 224) rfl))))) rfl
theorem k4r_33 : (Cond.methodLink "LayerDeskModel" 143 xy_Mo_packageOf) ∈ wT := wT_t (List.mem_append_right _ (List.mem_append_right _ (List.mem_append_right _ (List.mem_append_left _ (List.mem_of_getElem? (i := 221) rfl))))) rfl
theorem k4r_34 : (Cond.instanceMethod xy_Mo_packageOf) ∈ wT := wT_t (List.mem_append_right _ (List.mem_append_right _ (List.mem_append_right _ (List.mem_append_left _ (List.mem_of_getElem? (i := 223) rfl))))) rfl
theorem k4r_35 : (Cond.selects "LayerDeskModel" xy_Mo_packageOf xy_Mo_packageOf) ∈ wT := wT_s (q := (xy_Mo_packageOf, 31)) (by decide +kernel) rfl
theorem k4r_36 : (Cond.fieldLink "LayerDeskModel" 23 "LayerDeskModel" "name" "[I") ∈ wT := wT_t (List.mem_append_right _ (List.mem_append_right _ (List.mem_append_right _ (List.mem_append_left _ (List.mem_of_getElem? (i := 93) rfl))))) rfl
theorem k4r_41 : (Cond.fieldLink "LayerDeskModel" 42 "LayerDeskModel" "openAll" "[Z") ∈ wT := wT_t (List.mem_append_right _ (List.mem_append_right _ (List.mem_append_right _ (List.mem_append_left _ (List.mem_of_getElem? (i := 99) rfl))))) rfl
theorem k4r_42 : (Cond.fieldLink "LayerDeskModel" 35 "LayerDeskModel" "openTo" "[I") ∈ wT := wT_t (List.mem_append_right _ (List.mem_append_right _ (List.mem_append_right _ (List.mem_append_left _ (List.mem_of_getElem? (i := 97) rfl))))) rfl
theorem k4r_43 : (Cond.code xy_Mo_isTo xb_Mo_isTo 6 (some .boolean)) ∈ wT := wT_t (List.mem_append_right _ (List.mem_append_right _ (List.mem_append_right _ (List.mem_append_right _ (List.mem_of_getElem? (i := 56) rfl))))) rfl
theorem k4r_44 : (Cond.methodLink "LayerDeskModel" 167 xy_Mo_isTo) ∈ wT := wT_t (List.mem_append_right _ (List.mem_append_right _ (List.mem_append_right _ (List.mem_append_right _ (List.mem_of_getElem? (i := 53) rfl))))) rfl
theorem k4r_45 : (Cond.instanceMethod xy_Mo_isTo) ∈ wT := wT_t (List.mem_append_right _ (List.mem_append_right _ (List.mem_append_right _ (List.mem_append_right _ (List.mem_of_getElem? (i := 55) rfl))))) rfl
theorem k4r_46 : (Cond.selects "LayerDeskModel" xy_Mo_isTo xy_Mo_isTo) ∈ wT := wT_s (q := (xy_Mo_isTo, 31)) (by decide +kernel) rfl
theorem k4r_47 : (Cond.fieldLink "LayerDeskModel" 69 "LayerDeskModel" "parent" "[I") ∈ wT := wT_t (List.mem_append_right _ (List.mem_append_right _ (List.mem_append_right _ (List.mem_append_left _ (List.mem_of_getElem? (i := 109) rfl))))) rfl
theorem k4r_48 : (Cond.fieldLink "LayerDeskModel" 75 "LayerDeskModel" "module" "[I") ∈ wT := wT_t (List.mem_append_right _ (List.mem_append_right _ (List.mem_append_right _ (List.mem_append_left _ (List.mem_of_getElem? (i := 111) rfl))))) rfl
theorem k4r_49 : (Cond.fieldLink "LayerDeskModel" 57 "LayerDeskModel" "provide" "[I") ∈ wT := wT_t (List.mem_append_right _ (List.mem_append_right _ (List.mem_append_right _ (List.mem_append_left _ (List.mem_of_getElem? (i := 104) rfl))))) rfl
theorem k4r_50 : (Cond.fieldLink "LayerDeskModel" 91 "LayerDeskModel" "written" "I") ∈ wT := wT_t (List.mem_append_right _ (List.mem_append_right _ (List.mem_append_right _ (List.mem_append_left _ (List.mem_of_getElem? (i := 87) rfl))))) rfl
theorem k4r_51 : (Cond.fieldLink "LayerDeskModel" 7 "LayerDeskModel" "text" "[C") ∈ wT := wT_t (List.mem_append_right _ (List.mem_append_right _ (List.mem_append_right _ (List.mem_append_left _ (List.mem_of_getElem? (i := 86) rfl))))) rfl
set_option maxHeartbeats 4000000 in
set_option maxRecDepth 100000 in
theorem xc_Mo_faultK (l : Launch) (D : va_G) (kA : Nat → ClassId) (sz h : Nat) (mm : Nat → Nat) (v : Nat → Int32) (g : Nat → Nat → Int32) (hMI : MI v g) : Met l xy_Mo_fault (.code xy_Mo_fault xb_Mo_fault 1 (some .int) :: wT) { frames := 0, cells := 0, slots := 0, locals := 0 } (va_Pc [.ref h] (xPre D kA sz (moW h mm kA v g))) (va_Qi (fun (r : Int32) (u : (Nat → Int32) × (Nat → Nat → Int32)) => MI u.1 u.2 ∧ u.1 2 = v 2 ∧ u.1 1 = v 1 ∧ u.1 4 = v 4 ∧ u.1 5 = v 5 ∧ ∀ j, j ≠ 1 → j ≠ 2 → j ≠ 24 → u.2 j = g j) (fun (u : (Nat → Int32) × (Nat → Nat → Int32)) t => va_P D xcl (moW h mm kA u.1 u.2) t.heap ∧ va_D (va_A (moW h mm kA v g) sz) (moW h mm kA u.1 u.2)) (va_A (moW h mm kA v g) sz)) 0 0 (va_A (moW h mm kA v g) sz) := by
  refine Met.ofW (cc := xb_Mo_fault) (maxL := 1) (ret := (some .int)) (by decide) rfl ?_
  intro p e s m args below meth c s₁ B hml hv
  obtain ⟨rfl, hsz, hP, hK, hD0⟩ := hv
  have hx := B.exec
  have hb := B.bytes
  have hr := B.returns
  have hT := x_hT B.pre
  have hown : s.vm.findClass xR_Mo = some m.cls := findClass_of_methodNamed B.named
  have hlocks := B.notSynchronized
  subst hsz
  have hD := hD0.self (sz := s.heap.size)
  generalize hAe : va_A (moW h mm kA v g) s.heap.size = A at hD ⊢
  have hA : ∀ q : Nat, s.heap.size ≤ q → A q := fun q h => by rw [← hAe]; exact Or.inr h
  have hS : va_S A s.heap s.heap [] := va_S.rf
  have hl := lv_entry ([.ref h]) (n := 1) (Nat.le_of_ble_eq_true rfl)
  rw [lg_entry_eq]
  generalize (lg_sl ([.ref h]) ++ List.replicate (1 - (lg_sl ([.ref h])).length) Slot.unset).toArray = ls at hl ⊢
  have hl : lv_has ls 1 [(0, .ref h)] := hl
  have hP : va_P D xcl (moW h mm kA v g) s.heap := hP
  refine lv_aload_n hx hb xd_Mo_fault_0 rfl (lv_at hl 0 rfl) ?_
  refine lv_iconst (v := 0) hx hb xd_Mo_fault_1 (by decide) ?_
  refine va_put (D := D) (ci := 4) (v := .int 0) (ty := .int) (C := xR_Mo) (T := xT_Mo) (N := 31) hx hb hT xi_Mo xt_Mo xt_Mo_ok xn_Mo hown hK.1 hP hD hS 0 rfl rfl 0 (by decide) (hT _ k4r_0) (fun _ h9 => h9) rfl (by decide +kernel) rfl rfl (Nat.le_of_ble_eq_true rfl) xd_Mo_fault_2 (fun H locs hP hD hS => ?_)
  have hP : va_P D xcl (moW h mm kA (va_up v 0 0) g) H := hP
  have hD : va_D A (moW h mm kA (va_up v 0 0) g) := hD
  refine lv_aload_n hx hb xd_Mo_fault_5 rfl (lv_at hl 0 rfl) ?_
  refine va_get (D := D) (ci := 4) (v := .int (v 1)) (C := xR_Mo) (T := xT_Mo) (N := 31) hx hb hT xi_Mo hown hK.1 hP 0 rfl rfl 1 (by decide) (hT _ k4r_1) (fun _ h9 => h9) rfl xd_Mo_fault_6 ?_
  exact W.iret (v := (v 1)) hx hb hr (fun t ht hW => ⟨⟨(v 1), ((va_up v 0 0), g), rfl, ⟨MI_v rfl rfl hMI, rfl, rfl, rfl, rfl, fun j h1 h2 h3 => rfl⟩, by rw [ht]; exact hP, hD⟩, hS.F ht⟩) hS.2.2 xd_Mo_fault_9
set_option maxHeartbeats 4000000 in
set_option maxRecDepth 100000 in
theorem xc_Mo_countK (l : Launch) (D : va_G) (kA : Nat → ClassId) (sz h : Nat) (mm : Nat → Nat) (v : Nat → Int32) (g : Nat → Nat → Int32) (wh : Int32) (hMI : MI v g) : Met l xy_Mo_count (.code xy_Mo_count xb_Mo_count 4 (some .int) :: wT) { frames := 0, cells := 0, slots := 0, locals := 0 } (va_Pc [.ref h, .int wh] (xPre D kA sz (moW h mm kA v g))) (va_Qi (fun (r : Int32) (u : (Nat → Int32) × (Nat → Nat → Int32)) => MI u.1 u.2 ∧ u.1 2 = v 2 ∧ u.1 1 = v 1 ∧ u.1 4 = v 4 ∧ u.1 5 = v 5 ∧ ∀ j, j ≠ 1 → j ≠ 2 → j ≠ 24 → u.2 j = g j) (fun (u : (Nat → Int32) × (Nat → Nat → Int32)) t => va_P D xcl (moW h mm kA u.1 u.2) t.heap ∧ va_D (va_A (moW h mm kA v g) sz) (moW h mm kA u.1 u.2)) (va_A (moW h mm kA v g) sz)) 0 0 (va_A (moW h mm kA v g) sz) := by
  refine Met.ofW (cc := xb_Mo_count) (maxL := 4) (ret := (some .int)) (by decide) rfl ?_
  intro p e s m args below meth c s₁ B hml hv
  obtain ⟨rfl, hsz, hP, hK, hD0⟩ := hv
  have hx := B.exec
  have hb := B.bytes
  have hr := B.returns
  have hT := x_hT B.pre
  have hown : s.vm.findClass xR_Mo = some m.cls := findClass_of_methodNamed B.named
  have hlocks := B.notSynchronized
  subst hsz
  have hD := hD0.self (sz := s.heap.size)
  generalize hAe : va_A (moW h mm kA v g) s.heap.size = A at hD ⊢
  have hA : ∀ q : Nat, s.heap.size ≤ q → A q := fun q h => by rw [← hAe]; exact Or.inr h
  have hS : va_S A s.heap s.heap [] := va_S.rf
  have hl := lv_entry ([.ref h, .int wh]) (n := 4) (Nat.le_of_ble_eq_true rfl)
  rw [lg_entry_eq]
  generalize (lg_sl ([.ref h, .int wh]) ++ List.replicate (4 - (lg_sl ([.ref h, .int wh])).length) Slot.unset).toArray = ls at hl ⊢
  have hl : lv_has ls 4 [(0, .ref h), (1, .int wh)] := hl
  have hP : va_P D xcl (moW h mm kA v g) s.heap := hP
  obtain ⟨⟨nd, hnd12, hnd⟩, ⟨nl, hnl5, hnl, hpar⟩, hch, hpk, hrq, hmd, huq⟩ := id hMI
  refine lv_aload_n hx hb xd_Mo_count_0 rfl (lv_at hl 0 rfl) ?_
  refine lv_iconst (v := 0) hx hb xd_Mo_count_1 (by decide) ?_
  refine va_put (D := D) (ci := 4) (v := .int 0) (ty := .int) (C := xR_Mo) (T := xT_Mo) (N := 31) hx hb hT xi_Mo xt_Mo xt_Mo_ok xn_Mo hown hK.1 hP hD hS 0 rfl rfl 0 (by decide) (hT _ k4r_0) (fun _ h9 => h9) rfl (by decide +kernel) rfl rfl (Nat.le_of_ble_eq_true rfl) xd_Mo_count_2 (fun H locs hP hD hS => ?_)
  have hP : va_P D xcl (moW h mm kA (va_up v 0 0) g) H := hP
  have hD : va_D A (moW h mm kA (va_up v 0 0) g) := hD
  refine lv_iconst (v := 0) hx hb xd_Mo_count_5 (by decide) ?_
  refine lv_istore_n hx hb xd_Mo_count_6 rfl hl (Nat.le_of_ble_eq_true rfl) rfl (fun ls hl => ?_)
  have hl : lv_has ls 4 [(2, .int 0), (0, .ref h), (1, .int wh)] := hl
  refine lv_iconst (v := 0) hx hb xd_Mo_count_7 (by decide) ?_
  refine lv_istore_n hx hb xd_Mo_count_8 rfl hl (Nat.le_of_ble_eq_true rfl) rfl (fun ls hl => ?_)
  have hl : lv_has ls 4 [(3, .int 0), (2, .int 0), (0, .ref h), (1, .int wh)] := hl
  refine xlab (σ := Nat × Nat) (ml := 4) 9 (fun (i3, c2) => [(3, .int (nI i3)), (2, .int (nI c2)), (0, .ref h), (1, .int wh)]) (fun (i3, c2) => []) (fun (i3, c2) => moW h mm kA (va_up v 0 0) g) (fun (i3, c2) => (i3 ≤ nl) ∧ (c2 ≤ i3)) (fun (i3, c2) => nl - i3) ?_ (0, 0) _ _ _ (lv_sub hl [0, 1, 2, 3] rfl) hP hD hS ⟨(show 0 ≤ nl from by first | assumption | omega), (show 0 ≤ 0 from by first | assumption | omega)⟩
  intro n9 ih1 a9 ls H locs hμ hl hP hD hS hI
  subst hμ
  obtain ⟨i3, c2⟩ := a9
  obtain ⟨hi3, hc2⟩ := hI
  have hi3 : i3 ≤ nl := hi3
  have hc2 : c2 ≤ i3 := hc2
  have hl : lv_has ls 4 [(3, .int (nI i3)), (2, .int (nI c2)), (0, .ref h), (1, .int wh)] := hl
  have hP : va_P D xcl (moW h mm kA (va_up v 0 0) g) H := hP
  have hD : va_D A (moW h mm kA (va_up v 0 0) g) := hD
  refine lv_iload_n hx hb xd_Mo_count_9 rfl (lv_at hl 0 rfl) ?_
  refine lv_aload_n hx hb xd_Mo_count_10 rfl (lv_at hl 2 rfl) ?_
  refine va_get (D := D) (ci := 4) (v := .int (v 5)) (C := xR_Mo) (T := xT_Mo) (N := 31) hx hb hT xi_Mo hown hK.1 hP 0 rfl rfl 23 (by decide) (hT _ k4r_2) (fun _ h9 => h9) rfl xd_Mo_count_11 ?_
  refine xn_top (x := (v 5)) (y := nI nl) hnl ?_
  refine xn_ge (a := i3) (b := nl) (tgt := 40) hx hb xd_Mo_count_14 (by decide) (by omega) (by omega) (fun hc2 => ?_) (fun hc2 => ?_)
  · refine lv_iload_n hx hb xd_Mo_count_40 rfl (lv_at hl 3 rfl) ?_
    refine lv_if_ne (tgt := 51) hx hb xd_Mo_count_41 (by decide) (fun hc3 => ?_) (fun hc3 => ?_)
    · refine lv_iload_n hx hb xd_Mo_count_51 rfl (lv_at hl 3 rfl) ?_
      refine lv_iconst (v := 1) hx hb xd_Mo_count_52 (by decide) ?_
      refine lv_icmp_ne (tgt := 63) hx hb xd_Mo_count_53 (by decide) (fun hc4 => ?_) (fun hc4 => ?_)
      · refine lv_iload_n hx hb xd_Mo_count_63 rfl (lv_at hl 3 rfl) ?_
        refine lv_iconst (v := 2) hx hb xd_Mo_count_64 (by decide) ?_
        refine lv_icmp_ne (tgt := 72) hx hb xd_Mo_count_65 (by decide) (fun hc5 => ?_) (fun hc5 => ?_)
        · refine lv_iconst (v := (-1)) hx hb xd_Mo_count_72 (by decide) ?_
          exact W.iret (v := (-1)) hx hb hr (fun t ht hW => ⟨⟨(-1), ((va_up v 0 0), g), rfl, ⟨MI_v rfl rfl hMI, rfl, rfl, rfl, rfl, fun j h1 h2 h3 => rfl⟩, by rw [ht]; exact hP, hD⟩, hS.F ht⟩) hS.2.2 xd_Mo_count_73
        · refine lv_iload_n hx hb xd_Mo_count_68 rfl (lv_at hl 1 rfl) ?_
          refine lv_goto (tgt := 73) hx hb xd_Mo_count_69 (by decide) ?_
          exact W.iret (v := (nI c2)) hx hb hr (fun t ht hW => ⟨⟨(nI c2), ((va_up v 0 0), g), rfl, ⟨MI_v rfl rfl hMI, rfl, rfl, rfl, rfl, fun j h1 h2 h3 => rfl⟩, by rw [ht]; exact hP, hD⟩, hS.F ht⟩) hS.2.2 xd_Mo_count_73
      · refine lv_aload_n hx hb xd_Mo_count_56 rfl (lv_at hl 2 rfl) ?_
        refine va_get (D := D) (ci := 4) (v := .int (v 5)) (C := xR_Mo) (T := xT_Mo) (N := 31) hx hb hT xi_Mo hown hK.1 hP 0 rfl rfl 23 (by decide) (hT _ k4r_2) (fun _ h9 => h9) rfl xd_Mo_count_57 ?_
        refine xn_top (x := (v 5)) (y := nI nl) hnl ?_
        refine lv_goto (tgt := 73) hx hb xd_Mo_count_60 (by decide) ?_
        exact W.iret (v := (nI nl)) hx hb hr (fun t ht hW => ⟨⟨(nI nl), ((va_up v 0 0), g), rfl, ⟨MI_v rfl rfl hMI, rfl, rfl, rfl, rfl, fun j h1 h2 h3 => rfl⟩, by rw [ht]; exact hP, hD⟩, hS.F ht⟩) hS.2.2 xd_Mo_count_73
    · refine lv_aload_n hx hb xd_Mo_count_44 rfl (lv_at hl 2 rfl) ?_
      refine va_get (D := D) (ci := 4) (v := .int (v 4)) (C := xR_Mo) (T := xT_Mo) (N := 31) hx hb hT xi_Mo hown hK.1 hP 0 rfl rfl 7 (by decide) (hT _ k4r_3) (fun _ h9 => h9) rfl xd_Mo_count_45 ?_
      refine xn_top (x := (v 4)) (y := nI nd) hnd ?_
      refine lv_goto (tgt := 73) hx hb xd_Mo_count_48 (by decide) ?_
      exact W.iret (v := (nI nd)) hx hb hr (fun t ht hW => ⟨⟨(nI nd), ((va_up v 0 0), g), rfl, ⟨MI_v rfl rfl hMI, rfl, rfl, rfl, rfl, fun j h1 h2 h3 => rfl⟩, by rw [ht]; exact hP, hD⟩, hS.F ht⟩) hS.2.2 xd_Mo_count_73
  · refine lv_aload_n hx hb xd_Mo_count_17 rfl (lv_at hl 2 rfl) ?_
    refine va_get (D := D) (ci := 4) (v := .ref (mm 22)) (C := xR_Mo) (T := xT_Mo) (N := 31) hx hb hT xi_Mo hown hK.1 hP 0 rfl rfl 28 (by decide) (hT _ k4r_4) (fun _ h9 => h9) rfl xd_Mo_count_18 ?_
    refine lv_iload_n hx hb xd_Mo_count_21 rfl (lv_at hl 0 rfl) ?_
    refine xn_zald (i := i3) hx hb hK.1 hP 23 2 rfl rfl (by omega) (by decide) xd_Mo_count_22 ?_
    refine lv_if_eq (tgt := 32) hx hb xd_Mo_count_23 (by decide) (fun hc6 => ?_) (fun hc6 => ?_)
    · refine lv_iload_n hx hb xd_Mo_count_32 rfl (lv_at hl 1 rfl) ?_
      refine lv_istore_n hx hb xd_Mo_count_33 rfl hl (Nat.le_of_ble_eq_true rfl) rfl (fun ls hl => ?_)
      have hl : lv_has ls 4 [(2, .int (nI c2)), (3, .int (nI i3)), (0, .ref h), (1, .int wh)] := hl
      refine lv_iinc (k := 1) (x := (nI i3)) (v := (nI (i3 + 1))) hx hb xd_Mo_count_34 hl rfl (xb_inc i3 1) (Nat.le_of_ble_eq_true rfl) rfl (fun ls hl => ?_)
      have hl : lv_has ls 4 [(3, .int (nI (i3 + 1))), (2, .int (nI c2)), (0, .ref h), (1, .int wh)] := hl
      refine lv_goto (tgt := 9) hx hb xd_Mo_count_37 (by decide) ?_
      exact ih1 (i3 + 1, c2) _ _ _ (show nl - (i3 + 1) < nl - i3 by omega) (lv_sub hl [0, 1, 2, 3] rfl) hP hD hS ⟨(show (i3 + 1) ≤ nl from by first | assumption | omega), (show c2 ≤ (i3 + 1) from by first | assumption | omega)⟩
    · refine lv_iload_n hx hb xd_Mo_count_26 rfl (lv_at hl 1 rfl) ?_
      refine lv_iconst (v := 1) hx hb xd_Mo_count_27 (by decide) ?_
      refine lv_iadd hx hb xd_Mo_count_28 ?_
      refine xn_top (y := nI (c2 + 1)) (nI_add c2 1) ?_
      refine lv_goto (tgt := 33) hx hb xd_Mo_count_29 (by decide) ?_
      refine lv_istore_n hx hb xd_Mo_count_33 rfl hl (Nat.le_of_ble_eq_true rfl) rfl (fun ls hl => ?_)
      have hl : lv_has ls 4 [(2, .int (nI (c2 + 1))), (3, .int (nI i3)), (0, .ref h), (1, .int wh)] := hl
      refine lv_iinc (k := 1) (x := (nI i3)) (v := (nI (i3 + 1))) hx hb xd_Mo_count_34 hl rfl (xb_inc i3 1) (Nat.le_of_ble_eq_true rfl) rfl (fun ls hl => ?_)
      have hl : lv_has ls 4 [(3, .int (nI (i3 + 1))), (2, .int (nI (c2 + 1))), (0, .ref h), (1, .int wh)] := hl
      refine lv_goto (tgt := 9) hx hb xd_Mo_count_37 (by decide) ?_
      exact ih1 (i3 + 1, c2 + 1) _ _ _ (show nl - (i3 + 1) < nl - i3 by omega) (lv_sub hl [0, 1, 2, 3] rfl) hP hD hS ⟨(show (i3 + 1) ≤ nl from by first | assumption | omega), (show (c2 + 1) ≤ (i3 + 1) from by first | assumption | omega)⟩
set_option maxHeartbeats 4000000 in
set_option maxRecDepth 100000 in
theorem xc_Mo_modulesK (l : Launch) (D : va_G) (kA : Nat → ClassId) (sz h : Nat) (mm : Nat → Nat) (v : Nat → Int32) (g : Nat → Nat → Int32) (ly : Int32) (hMI : MI v g) : Met l xy_Mo_modules (.code xy_Mo_modules xb_Mo_modules 2 (some .int) :: wT) { frames := 1, cells := 0, slots := 0, locals := 21 } (va_Pc [.ref h, .int ly] (xPre D kA sz (moW h mm kA v g))) (va_Qi (fun (r : Int32) (u : (Nat → Int32) × (Nat → Nat → Int32)) => MI u.1 u.2 ∧ u.1 2 = v 2 ∧ u.1 1 = v 1 ∧ u.1 4 = v 4 ∧ u.1 5 = v 5 ∧ ∀ j, j ≠ 1 → j ≠ 2 → j ≠ 24 → u.2 j = g j) (fun (u : (Nat → Int32) × (Nat → Nat → Int32)) t => va_P D xcl (moW h mm kA u.1 u.2) t.heap ∧ va_D (va_A (moW h mm kA v g) sz) (moW h mm kA u.1 u.2)) (va_A (moW h mm kA v g) sz)) 0 0 (va_A (moW h mm kA v g) sz) := by
  refine Met.ofW (cc := xb_Mo_modules) (maxL := 2) (ret := (some .int)) (by decide) rfl ?_
  intro p e s m args below meth c s₁ B hml hv
  obtain ⟨rfl, hsz, hP, hK, hD0⟩ := hv
  have hx := B.exec
  have hb := B.bytes
  have hr := B.returns
  have hT := x_hT B.pre
  have hown : s.vm.findClass xR_Mo = some m.cls := findClass_of_methodNamed B.named
  have hlocks := B.notSynchronized
  subst hsz
  have hD := hD0.self (sz := s.heap.size)
  generalize hAe : va_A (moW h mm kA v g) s.heap.size = A at hD ⊢
  have hA : ∀ q : Nat, s.heap.size ≤ q → A q := fun q h => by rw [← hAe]; exact Or.inr h
  have hS : va_S A s.heap s.heap [] := va_S.rf
  have hl := lv_entry ([.ref h, .int ly]) (n := 2) (Nat.le_of_ble_eq_true rfl)
  rw [lg_entry_eq]
  generalize (lg_sl ([.ref h, .int ly]) ++ List.replicate (2 - (lg_sl ([.ref h, .int ly])).length) Slot.unset).toArray = ls at hl ⊢
  have hl : lv_has ls 2 [(0, .ref h), (1, .int ly)] := hl
  have hP : va_P D xcl (moW h mm kA v g) s.heap := hP
  obtain ⟨⟨nd, hnd12, hnd⟩, ⟨nl, hnl5, hnl, hpar⟩, hch, hpk, hrq, hmd, huq⟩ := id hMI
  refine lv_aload_n hx hb xd_Mo_modules_0 rfl (lv_at hl 0 rfl) ?_
  refine lv_iconst (v := 0) hx hb xd_Mo_modules_1 (by decide) ?_
  refine va_put (D := D) (ci := 4) (v := .int 0) (ty := .int) (C := xR_Mo) (T := xT_Mo) (N := 31) hx hb hT xi_Mo xt_Mo xt_Mo_ok xn_Mo hown hK.1 hP hD hS 0 rfl rfl 0 (by decide) (hT _ k4r_0) (fun _ h9 => h9) rfl (by decide +kernel) rfl rfl (Nat.le_of_ble_eq_true rfl) xd_Mo_modules_2 (fun H locs hP hD hS => ?_)
  have hP : va_P D xcl (moW h mm kA (va_up v 0 0) g) H := hP
  have hD : va_D A (moW h mm kA (va_up v 0 0) g) := hD
  refine lv_aload_n hx hb xd_Mo_modules_5 rfl (lv_at hl 0 rfl) ?_
  refine lv_iload_n hx hb xd_Mo_modules_6 rfl (lv_at hl 1 rfl) ?_
  have hFc := va_free (wc := (moW h mm kA (va_up v 0 0) g)) hD hS hA [0, 1, 2, 3, 4, 5, 6, 7, 8, 9, 10, 11, 12, 13, 14, 15, 16, 17, 18, 19, 20, 21, 22, 23, 24, 25] rfl
  refine va_calli (va_runV (As := [.int ly]) (rest := []) ⟨hx, hb, hml, hown, hT⟩ (xc_Mo_isOpen l D kA H.size h mm (va_up v 0 0) g ly nl (by first | assumption | omega) (by first | assumption | omega)) (cwV 1 hT (wT_V k4r_6 k4r_7 k4r_8 k4r_9 k4r_5) rfl rfl rfl (by decide +kernel) ⟨Nat.le_of_ble_eq_true rfl, Nat.le_of_ble_eq_true rfl⟩) (x_preV hK hP hD 0 rfl rfl) rfl rfl hl.1 rfl (lv_room (Nat.le_of_ble_eq_true rfl)) xd_Mo_modules_7 ⟨Nat.le_of_ble_eq_true rfl, Nat.le_of_ble_eq_true rfl⟩) hS (fun q _ h => hFc q h) hFc (fun r1 u2 t H1 locs ht hvm hp3 hB hz1 hk1 hS => ?_)
  obtain ⟨hP1, hD1⟩ := hB
  rw [ht] at hP1
  have hD1 := hD1.weaken (fun _ _ _ h => hFc _ h)
  generalize H1 = H at hP1 hS ⊢
  have hP := hP1
  have hD := hD1
  have hP : va_P D xcl (moW h mm kA (va_up v 0 0) g) H := hP
  have hD : va_D A (moW h mm kA (va_up v 0 0) g) := hD
  rcases hp3 with rfl | ⟨rfl, z4, z5, rfl⟩
  · refine xz_eq (a := 0) (tgt := 22) hx hb xd_Mo_modules_10 (by decide) (by omega) (fun _ => ?_) (fun hc6 => absurd hc6 (by omega))
    refine lv_iconst (v := (-1)) hx hb xd_Mo_modules_22 (by decide) ?_
    exact W.iret (v := (-1)) hx hb hr (fun t ht hW => ⟨⟨(-1), ((va_up v 0 0), g), rfl, ⟨MI_v rfl rfl hMI, rfl, rfl, rfl, rfl, fun j h1 h2 h3 => rfl⟩, by rw [ht]; exact hP, hD⟩, hS.F ht⟩) hS.2.2 xd_Mo_modules_23
  · have hl : lv_has ls 2 [(0, .ref h), (1, .int (nI z4))] := hl
    refine xz_eq (a := 1) (tgt := 22) hx hb xd_Mo_modules_10 (by decide) (by omega) (fun hc7 => absurd hc7 (by omega)) (fun _ => ?_)
    refine lv_aload_n hx hb xd_Mo_modules_13 rfl (lv_at hl 0 rfl) ?_
    refine va_get (D := D) (ci := 4) (v := .ref (mm 20)) (C := xR_Mo) (T := xT_Mo) (N := 31) hx hb hT xi_Mo hown hK.1 hP 0 rfl rfl 26 (by decide) (hT _ k4r_10) (fun _ h9 => h9) rfl xd_Mo_modules_14 ?_
    refine lv_iload_n hx hb xd_Mo_modules_17 rfl (lv_at hl 1 rfl) ?_
    refine xn_iald (i := z4) hx hb hK.1 hP 21 0 rfl rfl (by omega) (by decide) xd_Mo_modules_18 ?_
    refine lv_goto (tgt := 23) hx hb xd_Mo_modules_19 (by decide) ?_
    exact W.iret (v := (g 20 z4)) hx hb hr (fun t ht hW => ⟨⟨(g 20 z4), ((va_up v 0 0), g), rfl, ⟨MI_v rfl rfl hMI, rfl, rfl, rfl, rfl, fun j h1 h2 h3 => rfl⟩, by rw [ht]; exact hP, hD⟩, hS.F ht⟩) hS.2.2 xd_Mo_modules_23
set_option maxHeartbeats 4000000 in
set_option maxRecDepth 100000 in
theorem xc_Mo_moduleK (l : Launch) (D : va_G) (kA : Nat → ClassId) (sz h : Nat) (mm : Nat → Nat) (v : Nat → Int32) (g : Nat → Nat → Int32) (ly : Int32) (kx : Int32) (hMI : MI v g) : Met l xy_Mo_module (.code xy_Mo_module xb_Mo_module 3 (some .int) :: wT) { frames := 2, cells := 0, slots := 0, locals := 43 } (va_Pc [.ref h, .int ly, .int kx] (xPre D kA sz (moW h mm kA v g))) (va_Qi (fun (r : Int32) (u : (Nat → Int32) × (Nat → Nat → Int32)) => MI u.1 u.2 ∧ u.1 2 = v 2 ∧ u.1 1 = v 1 ∧ u.1 4 = v 4 ∧ u.1 5 = v 5 ∧ ∀ j, j ≠ 1 → j ≠ 2 → j ≠ 24 → u.2 j = g j) (fun (u : (Nat → Int32) × (Nat → Nat → Int32)) t => va_P D xcl (moW h mm kA u.1 u.2) t.heap ∧ va_D (va_A (moW h mm kA v g) sz) (moW h mm kA u.1 u.2)) (va_A (moW h mm kA v g) sz)) 0 0 (va_A (moW h mm kA v g) sz) := by
  refine Met.ofW (cc := xb_Mo_module) (maxL := 3) (ret := (some .int)) (by decide) rfl ?_
  intro p e s m args below meth c s₁ B hml hv
  obtain ⟨rfl, hsz, hP, hK, hD0⟩ := hv
  have hx := B.exec
  have hb := B.bytes
  have hr := B.returns
  have hT := x_hT B.pre
  have hown : s.vm.findClass xR_Mo = some m.cls := findClass_of_methodNamed B.named
  have hlocks := B.notSynchronized
  subst hsz
  have hD := hD0.self (sz := s.heap.size)
  generalize hAe : va_A (moW h mm kA v g) s.heap.size = A at hD ⊢
  have hA : ∀ q : Nat, s.heap.size ≤ q → A q := fun q h => by rw [← hAe]; exact Or.inr h
  have hS : va_S A s.heap s.heap [] := va_S.rf
  have hl := lv_entry ([.ref h, .int ly, .int kx]) (n := 3) (Nat.le_of_ble_eq_true rfl)
  rw [lg_entry_eq]
  generalize (lg_sl ([.ref h, .int ly, .int kx]) ++ List.replicate (3 - (lg_sl ([.ref h, .int ly, .int kx])).length) Slot.unset).toArray = ls at hl ⊢
  have hl : lv_has ls 3 [(0, .ref h), (1, .int ly), (2, .int kx)] := hl
  have hP : va_P D xcl (moW h mm kA v g) s.heap := hP
  obtain ⟨⟨nd, hnd12, hnd⟩, ⟨nl, hnl5, hnl, hpar⟩, hch, hpk, hrq, hmd, huq⟩ := id hMI
  refine lv_aload_n hx hb xd_Mo_module_0 rfl (lv_at hl 0 rfl) ?_
  refine lv_iconst (v := 0) hx hb xd_Mo_module_1 (by decide) ?_
  refine va_put (D := D) (ci := 4) (v := .int 0) (ty := .int) (C := xR_Mo) (T := xT_Mo) (N := 31) hx hb hT xi_Mo xt_Mo xt_Mo_ok xn_Mo hown hK.1 hP hD hS 0 rfl rfl 0 (by decide) (hT _ k4r_0) (fun _ h9 => h9) rfl (by decide +kernel) rfl rfl (Nat.le_of_ble_eq_true rfl) xd_Mo_module_2 (fun H locs hP hD hS => ?_)
  have hP : va_P D xcl (moW h mm kA (va_up v 0 0) g) H := hP
  have hD : va_D A (moW h mm kA (va_up v 0 0) g) := hD
  refine lv_aload_n hx hb xd_Mo_module_5 rfl (lv_at hl 0 rfl) ?_
  refine lv_iload_n hx hb xd_Mo_module_6 rfl (lv_at hl 1 rfl) ?_
  refine lv_iload_n hx hb xd_Mo_module_7 rfl (lv_at hl 2 rfl) ?_
  have hFc := va_free (wc := (moW h mm kA (va_up v 0 0) g)) hD hS hA [0, 1, 2, 3, 4, 5, 6, 7, 8, 9, 10, 11, 12, 13, 14, 15, 16, 17, 18, 19, 20, 21, 22, 23, 24, 25] rfl
  refine va_calli (va_runV (As := [.int ly, .int kx]) (rest := []) ⟨hx, hb, hml, hown, hT⟩ (xc_Mo_moduleOf l D kA H.size h mm (va_up v 0 0) g ly kx nl (by first | assumption | omega) (by first | assumption | omega) (by first | assumption | omega)) (cwV 2 hT (wT_V k4r_12 k4r_13 k4r_14 k4r_9 k4r_11) rfl rfl rfl (by decide +kernel) ⟨Nat.le_of_ble_eq_true rfl, Nat.le_of_ble_eq_true rfl⟩) (x_preV hK hP hD 0 rfl rfl) rfl rfl hl.1 rfl (lv_room (Nat.le_of_ble_eq_true rfl)) xd_Mo_module_8 ⟨Nat.le_of_ble_eq_true rfl, Nat.le_of_ble_eq_true rfl⟩) hS (fun q _ h => hFc q h) hFc (fun r1 u2 t H1 locs ht hvm hp3 hB hz1 hk1 hS => ?_)
  obtain ⟨hP1, hD1⟩ := hB
  rw [ht] at hP1
  have hD1 := hD1.weaken (fun _ _ _ h => hFc _ h)
  generalize H1 = H at hP1 hS ⊢
  have hP := hP1
  have hD := hD1
  have hP : va_P D xcl (moW h mm kA (va_up v 0 0) g) H := hP
  have hD : va_D A (moW h mm kA (va_up v 0 0) g) := hD
  exact W.iret (v := r1) hx hb hr (fun t ht hW => ⟨⟨r1, ((va_up v 0 0), g), rfl, ⟨MI_v rfl rfl hMI, rfl, rfl, rfl, rfl, fun j h1 h2 h3 => rfl⟩, by rw [ht]; exact hP, hD⟩, hS.F ht⟩) hS.2.2 xd_Mo_module_11
set_option maxHeartbeats 4000000 in
set_option maxRecDepth 100000 in
theorem xc_Mo_readsK (l : Launch) (D : va_G) (kA : Nat → ClassId) (sz h : Nat) (mm : Nat → Nat) (v : Nat → Int32) (g : Nat → Nat → Int32) (ly : Int32) (kx : Int32) (ly2 : Int32) (dx : Int32) (hMI : MI v g) : Met l xy_Mo_reads (.code xy_Mo_reads xb_Mo_reads 6 (some .boolean) :: wT) { frames := 2, cells := 0, slots := 0, locals := 50 } (va_Pc [.ref h, .int ly, .int kx, .int ly2, .int dx] (xPre D kA sz (moW h mm kA v g))) (va_Qi (fun (r : Int32) (u : (Nat → Int32) × (Nat → Nat → Int32)) => MI u.1 u.2 ∧ u.1 2 = v 2 ∧ u.1 1 = v 1 ∧ u.1 4 = v 4 ∧ u.1 5 = v 5 ∧ ∀ j, j ≠ 1 → j ≠ 2 → j ≠ 24 → u.2 j = g j) (fun (u : (Nat → Int32) × (Nat → Nat → Int32)) t => va_P D xcl (moW h mm kA u.1 u.2) t.heap ∧ va_D (va_A (moW h mm kA v g) sz) (moW h mm kA u.1 u.2)) (va_A (moW h mm kA v g) sz)) 0 0 (va_A (moW h mm kA v g) sz) := by
  refine Met.ofW (cc := xb_Mo_reads) (maxL := 6) (ret := (some .boolean)) (by decide) rfl ?_
  intro p e s m args below meth c s₁ B hml hv
  obtain ⟨rfl, hsz, hP, hK, hD0⟩ := hv
  have hx := B.exec
  have hb := B.bytes
  have hr := B.returns
  have hT := x_hT B.pre
  have hown : s.vm.findClass xR_Mo = some m.cls := findClass_of_methodNamed B.named
  have hlocks := B.notSynchronized
  subst hsz
  have hD := hD0.self (sz := s.heap.size)
  generalize hAe : va_A (moW h mm kA v g) s.heap.size = A at hD ⊢
  have hA : ∀ q : Nat, s.heap.size ≤ q → A q := fun q h => by rw [← hAe]; exact Or.inr h
  have hS : va_S A s.heap s.heap [] := va_S.rf
  have hl := lv_entry ([.ref h, .int ly, .int kx, .int ly2, .int dx]) (n := 6) (Nat.le_of_ble_eq_true rfl)
  rw [lg_entry_eq]
  generalize (lg_sl ([.ref h, .int ly, .int kx, .int ly2, .int dx]) ++ List.replicate (6 - (lg_sl ([.ref h, .int ly, .int kx, .int ly2, .int dx])).length) Slot.unset).toArray = ls at hl ⊢
  have hl : lv_has ls 6 [(0, .ref h), (1, .int ly), (2, .int kx), (3, .int ly2), (4, .int dx)] := hl
  have hP : va_P D xcl (moW h mm kA v g) s.heap := hP
  obtain ⟨⟨nd, hnd12, hnd⟩, ⟨nl, hnl5, hnl, hpar⟩, hch, hpk, hrq, hmd, huq⟩ := id hMI
  refine lv_aload_n hx hb xd_Mo_reads_0 rfl (lv_at hl 0 rfl) ?_
  refine lv_iconst (v := 0) hx hb xd_Mo_reads_1 (by decide) ?_
  refine va_put (D := D) (ci := 4) (v := .int 0) (ty := .int) (C := xR_Mo) (T := xT_Mo) (N := 31) hx hb hT xi_Mo xt_Mo xt_Mo_ok xn_Mo hown hK.1 hP hD hS 0 rfl rfl 0 (by decide) (hT _ k4r_0) (fun _ h9 => h9) rfl (by decide +kernel) rfl rfl (Nat.le_of_ble_eq_true rfl) xd_Mo_reads_2 (fun H locs hP hD hS => ?_)
  have hP : va_P D xcl (moW h mm kA (va_up v 0 0) g) H := hP
  have hD : va_D A (moW h mm kA (va_up v 0 0) g) := hD
  refine lv_aload_n hx hb xd_Mo_reads_5 rfl (lv_at hl 0 rfl) ?_
  refine lv_iload_n hx hb xd_Mo_reads_6 rfl (lv_at hl 1 rfl) ?_
  refine lv_iload_n hx hb xd_Mo_reads_7 rfl (lv_at hl 2 rfl) ?_
  have hFc := va_free (wc := (moW h mm kA (va_up v 0 0) g)) hD hS hA [0, 1, 2, 3, 4, 5, 6, 7, 8, 9, 10, 11, 12, 13, 14, 15, 16, 17, 18, 19, 20, 21, 22, 23, 24, 25] rfl
  refine va_calli (va_runV (As := [.int ly, .int kx]) (rest := []) ⟨hx, hb, hml, hown, hT⟩ (xc_Mo_moduleOf l D kA H.size h mm (va_up v 0 0) g ly kx nl (by first | assumption | omega) (by first | assumption | omega) (by first | assumption | omega)) (cwV 2 hT (wT_V k4r_12 k4r_13 k4r_14 k4r_9 k4r_11) rfl rfl rfl (by decide +kernel) ⟨Nat.le_of_ble_eq_true rfl, Nat.le_of_ble_eq_true rfl⟩) (x_preV hK hP hD 0 rfl rfl) rfl rfl hl.1 rfl (lv_room (Nat.le_of_ble_eq_true rfl)) xd_Mo_reads_8 ⟨Nat.le_of_ble_eq_true rfl, Nat.le_of_ble_eq_true rfl⟩) hS (fun q _ h => hFc q h) hFc (fun r1 u2 t H1 locs ht hvm hp3 hB hz1 hk1 hS => ?_)
  obtain ⟨hP1, hD1⟩ := hB
  rw [ht] at hP1
  have hD1 := hD1.weaken (fun _ _ _ h => hFc _ h)
  generalize H1 = H at hP1 hS ⊢
  have hP := hP1
  have hD := hD1
  have hP : va_P D xcl (moW h mm kA (va_up v 0 0) g) H := hP
  have hD : va_D A (moW h mm kA (va_up v 0 0) g) := hD
  rcases hp3 with rfl | ⟨z4, z5, z6, rfl, z7, rfl⟩
  · refine lv_istore hx hb xd_Mo_reads_11 hl (Nat.le_of_ble_eq_true rfl) rfl (fun ls hl => ?_)
    have hl : lv_has ls 6 [(5, .int (-1)), (0, .ref h), (1, .int ly), (2, .int kx), (3, .int ly2), (4, .int dx)] := hl
    refine lv_iload hx hb xd_Mo_reads_13 (lv_at hl 0 rfl) ?_
    refine lv_if_lt (tgt := 28) hx hb xd_Mo_reads_15 (by decide) (fun _ => ?_) (fun hc8 => absurd hc8 (by decide))
    refine lv_iconst (v := 0) hx hb xd_Mo_reads_28 (by decide) ?_
    exact W.zret (v := 0) hx hb hr rfl (fun t ht hW => ⟨⟨0, ((va_up v 0 0), g), rfl, ⟨MI_v rfl rfl hMI, rfl, rfl, rfl, rfl, fun j h1 h2 h3 => rfl⟩, by rw [ht]; exact hP, hD⟩, hS.F ht⟩) hS.2.2 xd_Mo_reads_29
  · have hl : lv_has ls 6 [(0, .ref h), (1, .int (nI z4)), (2, .int kx), (3, .int ly2), (4, .int dx)] := hl
    refine lv_istore hx hb xd_Mo_reads_11 hl (Nat.le_of_ble_eq_true rfl) rfl (fun ls hl => ?_)
    have hl : lv_has ls 6 [(5, .int (nI z5)), (0, .ref h), (1, .int (nI z4)), (2, .int kx), (3, .int ly2), (4, .int dx)] := hl
    refine lv_iload hx hb xd_Mo_reads_13 (lv_at hl 0 rfl) ?_
    refine xz_lt (a := z5) (tgt := 28) hx hb xd_Mo_reads_15 (by decide) (by omega) ?_
    refine lv_aload_n hx hb xd_Mo_reads_18 rfl (lv_at hl 1 rfl) ?_
    refine lv_iload_n hx hb xd_Mo_reads_19 rfl (lv_at hl 4 rfl) ?_
    refine lv_iload hx hb xd_Mo_reads_20 (lv_at hl 5 rfl) ?_
    have hFc := va_free (wc := (moW h mm kA (va_up v 0 0) g)) hD hS hA [0, 1, 2, 3, 4, 5, 6, 7, 8, 9, 10, 11, 12, 13, 14, 15, 16, 17, 18, 19, 20, 21, 22, 23, 24, 25] rfl
    refine va_calli (va_runV (As := [.int ly2, .int dx]) (rest := []) ⟨hx, hb, hml, hown, hT⟩ (xc_Mo_isThere l D kA H.size h mm (va_up v 0 0) g ly2 dx nl nd (by first | assumption | omega) (by first | assumption | omega) (by first | assumption | omega) (by first | assumption | omega) (by first | assumption | omega)) (cwV 2 hT (wT_V k4r_16 k4r_17 k4r_18 k4r_9 k4r_15) rfl rfl rfl (by decide +kernel) ⟨Nat.le_of_ble_eq_true rfl, Nat.le_of_ble_eq_true rfl⟩) (x_preV hK hP hD 0 rfl rfl) rfl rfl hl.1 rfl (lv_room (Nat.le_of_ble_eq_true rfl)) xd_Mo_reads_22 ⟨Nat.le_of_ble_eq_true rfl, Nat.le_of_ble_eq_true rfl⟩) hS (fun q _ h => hFc q h) hFc (fun r10 u11 t H1 locs ht hvm hp12 hB hz1 hk1 hS => ?_)
    obtain ⟨hP1, hD1⟩ := hB
    rw [ht] at hP1
    have hD1 := hD1.weaken (fun _ _ _ h => hFc _ h)
    generalize H1 = H at hP1 hS ⊢
    have hP := hP1
    have hD := hD1
    have hP : va_P D xcl (moW h mm kA (va_up v 0 0) g) H := hP
    have hD : va_D A (moW h mm kA (va_up v 0 0) g) := hD
    rcases hp12 with rfl | ⟨rfl, z13, z14, z15, rfl, z16, rfl⟩
    · refine xz_ne (a := 0) (tgt := 30) hx hb xd_Mo_reads_25 (by decide) (by omega) (fun hc17 => absurd hc17 (by omega)) (fun _ => ?_)
      refine lv_iconst (v := 0) hx hb xd_Mo_reads_28 (by decide) ?_
      exact W.zret (v := 0) hx hb hr rfl (fun t ht hW => ⟨⟨0, ((va_up v 0 0), g), rfl, ⟨MI_v rfl rfl hMI, rfl, rfl, rfl, rfl, fun j h1 h2 h3 => rfl⟩, by rw [ht]; exact hP, hD⟩, hS.F ht⟩) hS.2.2 xd_Mo_reads_29
    · have hl : lv_has ls 6 [(5, .int (nI z5)), (0, .ref h), (1, .int (nI z4)), (2, .int kx), (3, .int (nI z13)), (4, .int (nI z14))] := hl
      refine xz_ne (a := 1) (tgt := 30) hx hb xd_Mo_reads_25 (by decide) (by omega) (fun _ => ?_) (fun hc18 => absurd hc18 (by omega))
      refine lv_aload_n hx hb xd_Mo_reads_30 rfl (lv_at hl 1 rfl) ?_
      refine lv_iload_n hx hb xd_Mo_reads_31 rfl (lv_at hl 2 rfl) ?_
      refine lv_iload hx hb xd_Mo_reads_32 (lv_at hl 0 rfl) ?_
      have hFc := va_free (wc := (moW h mm kA (va_up v 0 0) g)) hD hS hA [0, 1, 2, 3, 4, 5, 6, 7, 8, 9, 10, 11, 12, 13, 14, 15, 16, 17, 18, 19, 20, 21, 22, 23, 24, 25] rfl
      refine va_callv (va_runV (As := [.int (nI z4), .int (nI z5)]) (rest := []) ⟨hx, hb, hml, hown, hT⟩ (xc_Mo_reading l D kA H.size h mm (va_up v 0 0) g z4 z5 nl (MI_v rfl rfl hMI) (by first | assumption | omega) hpar (by first | assumption | omega) (by first | assumption | omega)) (cwV 2 hT (wT_V k4r_20 k4r_21 k4r_22 k4r_9 k4r_19) rfl rfl rfl (by decide +kernel) ⟨Nat.le_of_ble_eq_true rfl, Nat.le_of_ble_eq_true rfl⟩) (x_preV hK hP hD 0 rfl rfl) rfl rfl hl.1 rfl (lv_room (Nat.le_of_ble_eq_true rfl)) xd_Mo_reads_34 ⟨Nat.le_of_ble_eq_true rfl, Nat.le_of_ble_eq_true rfl⟩) hS (fun q _ h => hFc q h) hFc (fun u20 t H1 locs ht hvm hp21 hB hz1 hk1 hS => ?_)
      obtain ⟨hP1, hD1⟩ := hB
      rw [ht] at hP1
      have hD1 := hD1.weaken (fun _ _ _ h => hFc _ h)
      obtain ⟨v22, g23⟩ := u20
      generalize H1 = H at hP1 hS ⊢
      have hP := hP1
      have hD := hD1
      have hP : va_P D xcl (moW h mm kA v22 g23) H := hP
      have hD : va_D A (moW h mm kA v22 g23) := hD
      obtain ⟨hu9, hfr9, hbz9, hsn9⟩ := hp21
      have hu9 : v22 = (va_up v 0 0) := hu9
      subst hu9
      have hfr9 : ∀ j, j ≠ 24 → g23 j = g j := hfr9
      have hbz9 : bz (g23 24) := hbz9
      have hP : va_P D xcl (moW h mm kA (va_up v 0 0) g23) H := hP
      have hD : va_D A (moW h mm kA (va_up v 0 0) g23) := hD
      refine lv_aload_n hx hb xd_Mo_reads_37 rfl (lv_at hl 1 rfl) ?_
      refine va_get (D := D) (ci := 4) (v := .ref (mm 24)) (C := xR_Mo) (T := xT_Mo) (N := 31) hx hb hT xi_Mo hown hK.1 hP 0 rfl rfl 30 (by decide) (hT _ k4r_23) (fun _ h9 => h9) rfl xd_Mo_reads_38 ?_
      refine lv_bipush (v := 12) hx hb xd_Mo_reads_41 (by decide) ?_
      refine lv_iload_n hx hb xd_Mo_reads_43 rfl (lv_at hl 4 rfl) ?_
      refine lv_imul hx hb xd_Mo_reads_44 ?_
      refine xn_top (y := nI (12 * z13)) (pk_mul 12 z13) ?_
      refine lv_iload hx hb xd_Mo_reads_45 (lv_at hl 5 rfl) ?_
      refine lv_iadd hx hb xd_Mo_reads_47 ?_
      refine xn_top (y := nI ((12 * z13) + z14)) (nI_add (12 * z13) z14) ?_
      refine xn_zald (i := (12 * z13) + z14) hx hb hK.1 hP 25 2 rfl rfl (by omega) (by decide) xd_Mo_reads_48 ?_
      exact W.zret (v := (g23 24 ((12 * z13) + z14))) hx hb hr (hbz9 _ (by omega)) (fun t ht hW => ⟨⟨(g23 24 ((12 * z13) + z14)), ((va_up v 0 0), g23), rfl, ⟨MI_g (hfr9 0 (by decide)) (hfr9 3 (by decide)) (hfr9 4 (by decide)) (hfr9 5 (by decide)) (hfr9 12 (by decide)) (hfr9 19 (by decide)) (hfr9 20 (by decide)) (hfr9 21 (by decide)) (MI_v rfl rfl hMI), rfl, rfl, rfl, rfl, fun j h1 h2 h3 => hfr9 j h3⟩, by rw [ht]; exact hP, hD⟩, hS.F ht⟩) hS.2.2 xd_Mo_reads_49
set_option maxHeartbeats 4000000 in
set_option maxRecDepth 100000 in
theorem xc_Mo_peekK (l : Launch) (D : va_G) (kA : Nat → ClassId) (sz h : Nat) (mm : Nat → Nat) (v : Nat → Int32) (g : Nat → Nat → Int32) (ly : Int32) (kx : Int32) (ly2 : Int32) (dx : Int32) (wr : Nat) (hMI : MI v g) (hwr : v 2 = nI wr) (hwr40 : wr ≤ 40) : Met l xy_Mo_peek (.code xy_Mo_peek xb_Mo_peek 8 (some .boolean) :: wT) { frames := 2, cells := 0, slots := 0, locals := 50 } (va_Pc [.ref h, .int ly, .int kx, .int ly2, .int dx] (xPre D kA sz (moW h mm kA v g))) (va_Qi (fun (r : Int32) (u : (Nat → Int32) × (Nat → Nat → Int32)) => MI u.1 u.2 ∧ u.1 2 = 0 ∧ u.1 1 = v 1 ∧ u.1 4 = v 4 ∧ u.1 5 = v 5 ∧ ∀ j, j ≠ 1 → j ≠ 2 → j ≠ 24 → u.2 j = g j) (fun (u : (Nat → Int32) × (Nat → Nat → Int32)) t => va_P D xcl (moW h mm kA u.1 u.2) t.heap ∧ va_D (va_A (moW h mm kA v g) sz) (moW h mm kA u.1 u.2)) (va_A (moW h mm kA v g) sz)) 0 0 (va_A (moW h mm kA v g) sz) := by
  refine Met.ofW (cc := xb_Mo_peek) (maxL := 8) (ret := (some .boolean)) (by decide) rfl ?_
  intro p e s m args below meth c s₁ B hml hv
  obtain ⟨rfl, hsz, hP, hK, hD0⟩ := hv
  have hx := B.exec
  have hb := B.bytes
  have hr := B.returns
  have hT := x_hT B.pre
  have hown : s.vm.findClass xR_Mo = some m.cls := findClass_of_methodNamed B.named
  have hlocks := B.notSynchronized
  subst hsz
  have hD := hD0.self (sz := s.heap.size)
  generalize hAe : va_A (moW h mm kA v g) s.heap.size = A at hD ⊢
  have hA : ∀ q : Nat, s.heap.size ≤ q → A q := fun q h => by rw [← hAe]; exact Or.inr h
  have hS : va_S A s.heap s.heap [] := va_S.rf
  have hl := lv_entry ([.ref h, .int ly, .int kx, .int ly2, .int dx]) (n := 8) (Nat.le_of_ble_eq_true rfl)
  rw [lg_entry_eq]
  generalize (lg_sl ([.ref h, .int ly, .int kx, .int ly2, .int dx]) ++ List.replicate (8 - (lg_sl ([.ref h, .int ly, .int kx, .int ly2, .int dx])).length) Slot.unset).toArray = ls at hl ⊢
  have hl : lv_has ls 8 [(0, .ref h), (1, .int ly), (2, .int kx), (3, .int ly2), (4, .int dx)] := hl
  have hP : va_P D xcl (moW h mm kA v g) s.heap := hP
  refine lv_aload_n hx hb xd_Mo_peek_0 rfl (lv_at hl 0 rfl) ?_
  refine lv_iconst (v := 0) hx hb xd_Mo_peek_1 (by decide) ?_
  refine va_put (D := D) (ci := 4) (v := .int 0) (ty := .int) (C := xR_Mo) (T := xT_Mo) (N := 31) hx hb hT xi_Mo xt_Mo xt_Mo_ok xn_Mo hown hK.1 hP hD hS 0 rfl rfl 0 (by decide) (hT _ k4r_0) (fun _ h9 => h9) rfl (by decide +kernel) rfl rfl (Nat.le_of_ble_eq_true rfl) xd_Mo_peek_2 (fun H locs hP hD hS => ?_)
  have hP : va_P D xcl (moW h mm kA (va_up v 0 0) g) H := hP
  have hD : va_D A (moW h mm kA (va_up v 0 0) g) := hD
  refine lv_aload_n hx hb xd_Mo_peek_5 rfl (lv_at hl 0 rfl) ?_
  have hFc := va_free (wc := (moW h mm kA (va_up v 0 0) g)) hD hS hA [0, 1, 2, 3, 4, 5, 6, 7, 8, 9, 10, 11, 12, 13, 14, 15, 16, 17, 18, 19, 20, 21, 22, 23, 24, 25] rfl
  refine va_calli (va_runV (As := []) (rest := []) ⟨hx, hb, hml, hown, hT⟩ (xc_Mo_oneName l D kA H.size h mm (va_up v 0 0) g wr (by first | assumption | omega) (by first | assumption | omega)) (cwV 0 hT (wT_V k4r_25 k4r_26 k4r_27 k4r_9 k4r_24) rfl rfl rfl (by decide +kernel) ⟨Nat.le_of_ble_eq_true rfl, Nat.le_of_ble_eq_true rfl⟩) (x_preV hK hP hD 0 rfl rfl) rfl rfl hl.1 rfl (lv_room (Nat.le_of_ble_eq_true rfl)) xd_Mo_peek_6 ⟨Nat.le_of_ble_eq_true rfl, Nat.le_of_ble_eq_true rfl⟩) hS (fun q _ h => hFc q h) hFc (fun r1 u2 t H1 locs ht hvm hp3 hB hz1 hk1 hS => ?_)
  obtain ⟨hP1, hD1⟩ := hB
  rw [ht] at hP1
  have hD1 := hD1.weaken (fun _ _ _ h => hFc _ h)
  obtain ⟨v4, g5⟩ := u2
  generalize H1 = H at hP1 hS ⊢
  have hP := hP1
  have hD := hD1
  have hP : va_P D xcl (moW h mm kA v4 g5) H := hP
  have hD : va_D A (moW h mm kA v4 g5) := hD
  obtain ⟨wn, hv9, hgk⟩ := hp3
  have hv9 : v4 = (va_up (va_up (va_up v 0 0) 2 0) 3 (nI wn)) := hv9
  subst hv9
  have hgk : ∀ j, j ≠ 1 → j ≠ 2 → g5 j = g j := hgk
  have hM1 : MI (va_up (va_up (va_up v 0 0) 2 0) 3 (nI wn)) g5 := MI_g (hgk 0 (by decide) (by decide)) (hgk 3 (by decide) (by decide)) (hgk 4 (by decide) (by decide)) (hgk 5 (by decide) (by decide)) (hgk 12 (by decide) (by decide)) (hgk 19 (by decide) (by decide)) (hgk 20 (by decide) (by decide)) (hgk 21 (by decide) (by decide)) (MI_v rfl rfl hMI)
  obtain ⟨⟨nd, hnd12, hnd⟩, ⟨nl, hnl5, hnl, hpar⟩, hch, hpk, hrq, hmd, huq⟩ := id hM1
  have hP : va_P D xcl (moW h mm kA (va_up (va_up (va_up v 0 0) 2 0) 3 (nI wn)) g5) H := hP
  have hD : va_D A (moW h mm kA (va_up (va_up (va_up v 0 0) 2 0) 3 (nI wn)) g5) := hD
  refine lv_istore hx hb xd_Mo_peek_9 hl (Nat.le_of_ble_eq_true rfl) rfl (fun ls hl => ?_)
  have hl : lv_has ls 8 [(5, .int r1), (0, .ref h), (1, .int ly), (2, .int kx), (3, .int ly2), (4, .int dx)] := hl
  refine lv_aload_n hx hb xd_Mo_peek_11 rfl (lv_at hl 1 rfl) ?_
  refine lv_iload_n hx hb xd_Mo_peek_12 rfl (lv_at hl 2 rfl) ?_
  refine lv_iload_n hx hb xd_Mo_peek_13 rfl (lv_at hl 3 rfl) ?_
  have hFc := va_free (wc := (moW h mm kA (va_up (va_up (va_up v 0 0) 2 0) 3 (nI wn)) g5)) hD hS hA [0, 1, 2, 3, 4, 5, 6, 7, 8, 9, 10, 11, 12, 13, 14, 15, 16, 17, 18, 19, 20, 21, 22, 23, 24, 25] rfl
  refine va_calli (va_runV (As := [.int ly, .int kx]) (rest := []) ⟨hx, hb, hml, hown, hT⟩ (xc_Mo_moduleOf l D kA H.size h mm (va_up (va_up (va_up v 0 0) 2 0) 3 (nI wn)) g5 ly kx nl (by first | assumption | omega) (by first | assumption | omega) (by first | assumption | omega)) (cwV 2 hT (wT_V k4r_12 k4r_13 k4r_14 k4r_9 k4r_11) rfl rfl rfl (by decide +kernel) ⟨Nat.le_of_ble_eq_true rfl, Nat.le_of_ble_eq_true rfl⟩) (x_preV hK hP hD 0 rfl rfl) rfl rfl hl.1 rfl (lv_room (Nat.le_of_ble_eq_true rfl)) xd_Mo_peek_14 ⟨Nat.le_of_ble_eq_true rfl, Nat.le_of_ble_eq_true rfl⟩) hS (fun q _ h => hFc q h) hFc (fun r6 u7 t H1 locs ht hvm hp8 hB hz1 hk1 hS => ?_)
  obtain ⟨hP1, hD1⟩ := hB
  rw [ht] at hP1
  have hD1 := hD1.weaken (fun _ _ _ h => hFc _ h)
  generalize H1 = H at hP1 hS ⊢
  have hP := hP1
  have hD := hD1
  have hP : va_P D xcl (moW h mm kA (va_up (va_up (va_up v 0 0) 2 0) 3 (nI wn)) g5) H := hP
  have hD : va_D A (moW h mm kA (va_up (va_up (va_up v 0 0) 2 0) 3 (nI wn)) g5) := hD
  rcases hp8 with rfl | ⟨z9, z10, z11, rfl, z12, rfl⟩
  · refine lv_istore hx hb xd_Mo_peek_17 hl (Nat.le_of_ble_eq_true rfl) rfl (fun ls hl => ?_)
    have hl : lv_has ls 8 [(6, .int (-1)), (5, .int r1), (0, .ref h), (1, .int ly), (2, .int kx), (3, .int ly2), (4, .int dx)] := hl
    refine lv_iload hx hb xd_Mo_peek_19 (lv_at hl 1 rfl) ?_
    refine lv_if_eq (tgt := 39) hx hb xd_Mo_peek_21 (by decide) (fun hc13 => ?_) (fun hc13 => ?_)
    · refine lv_aload_n hx hb xd_Mo_peek_39 rfl (lv_at hl 2 rfl) ?_
      refine lv_iconst (v := 1) hx hb xd_Mo_peek_40 (by decide) ?_
      refine va_put (D := D) (ci := 4) (v := .int 1) (ty := .int) (C := xR_Mo) (T := xT_Mo) (N := 31) hx hb hT xi_Mo xt_Mo xt_Mo_ok xn_Mo hown hK.1 hP hD hS 0 rfl rfl 0 (by decide) (hT _ k4r_0) (fun _ h9 => h9) rfl (by decide +kernel) rfl rfl (Nat.le_of_ble_eq_true rfl) xd_Mo_peek_41 (fun H locs hP hD hS => ?_)
      have hP : va_P D xcl (moW h mm kA (va_up (va_up (va_up v 0 1) 2 0) 3 (nI wn)) g5) H := hP
      have hD : va_D A (moW h mm kA (va_up (va_up (va_up v 0 1) 2 0) 3 (nI wn)) g5) := hD
      refine lv_iconst (v := 0) hx hb xd_Mo_peek_44 (by decide) ?_
      exact W.zret (v := 0) hx hb hr rfl (fun t ht hW => ⟨⟨0, ((va_up (va_up (va_up v 0 1) 2 0) 3 (nI wn)), g5), rfl, ⟨MI_v rfl rfl hM1, rfl, rfl, rfl, rfl, fun j h1 h2 h3 => hgk j h1 h2⟩, by rw [ht]; exact hP, hD⟩, hS.F ht⟩) hS.2.2 xd_Mo_peek_45
    · refine lv_iload hx hb xd_Mo_peek_24 (lv_at hl 0 rfl) ?_
      refine lv_if_lt (tgt := 39) hx hb xd_Mo_peek_26 (by decide) (fun _ => ?_) (fun hc14 => absurd hc14 (by decide))
      refine lv_aload_n hx hb xd_Mo_peek_39 rfl (lv_at hl 2 rfl) ?_
      refine lv_iconst (v := 1) hx hb xd_Mo_peek_40 (by decide) ?_
      refine va_put (D := D) (ci := 4) (v := .int 1) (ty := .int) (C := xR_Mo) (T := xT_Mo) (N := 31) hx hb hT xi_Mo xt_Mo xt_Mo_ok xn_Mo hown hK.1 hP hD hS 0 rfl rfl 0 (by decide) (hT _ k4r_0) (fun _ h9 => h9) rfl (by decide +kernel) rfl rfl (Nat.le_of_ble_eq_true rfl) xd_Mo_peek_41 (fun H locs hP hD hS => ?_)
      have hP : va_P D xcl (moW h mm kA (va_up (va_up (va_up v 0 1) 2 0) 3 (nI wn)) g5) H := hP
      have hD : va_D A (moW h mm kA (va_up (va_up (va_up v 0 1) 2 0) 3 (nI wn)) g5) := hD
      refine lv_iconst (v := 0) hx hb xd_Mo_peek_44 (by decide) ?_
      exact W.zret (v := 0) hx hb hr rfl (fun t ht hW => ⟨⟨0, ((va_up (va_up (va_up v 0 1) 2 0) 3 (nI wn)), g5), rfl, ⟨MI_v rfl rfl hM1, rfl, rfl, rfl, rfl, fun j h1 h2 h3 => hgk j h1 h2⟩, by rw [ht]; exact hP, hD⟩, hS.F ht⟩) hS.2.2 xd_Mo_peek_45
  · have hl : lv_has ls 8 [(5, .int r1), (0, .ref h), (1, .int (nI z9)), (2, .int kx), (3, .int ly2), (4, .int dx)] := hl
    refine lv_istore hx hb xd_Mo_peek_17 hl (Nat.le_of_ble_eq_true rfl) rfl (fun ls hl => ?_)
    have hl : lv_has ls 8 [(6, .int (nI z10)), (5, .int r1), (0, .ref h), (1, .int (nI z9)), (2, .int kx), (3, .int ly2), (4, .int dx)] := hl
    refine lv_iload hx hb xd_Mo_peek_19 (lv_at hl 1 rfl) ?_
    refine lv_if_eq (tgt := 39) hx hb xd_Mo_peek_21 (by decide) (fun hc15 => ?_) (fun hc15 => ?_)
    · refine lv_aload_n hx hb xd_Mo_peek_39 rfl (lv_at hl 2 rfl) ?_
      refine lv_iconst (v := 1) hx hb xd_Mo_peek_40 (by decide) ?_
      refine va_put (D := D) (ci := 4) (v := .int 1) (ty := .int) (C := xR_Mo) (T := xT_Mo) (N := 31) hx hb hT xi_Mo xt_Mo xt_Mo_ok xn_Mo hown hK.1 hP hD hS 0 rfl rfl 0 (by decide) (hT _ k4r_0) (fun _ h9 => h9) rfl (by decide +kernel) rfl rfl (Nat.le_of_ble_eq_true rfl) xd_Mo_peek_41 (fun H locs hP hD hS => ?_)
      have hP : va_P D xcl (moW h mm kA (va_up (va_up (va_up v 0 1) 2 0) 3 (nI wn)) g5) H := hP
      have hD : va_D A (moW h mm kA (va_up (va_up (va_up v 0 1) 2 0) 3 (nI wn)) g5) := hD
      refine lv_iconst (v := 0) hx hb xd_Mo_peek_44 (by decide) ?_
      exact W.zret (v := 0) hx hb hr rfl (fun t ht hW => ⟨⟨0, ((va_up (va_up (va_up v 0 1) 2 0) 3 (nI wn)), g5), rfl, ⟨MI_v rfl rfl hM1, rfl, rfl, rfl, rfl, fun j h1 h2 h3 => hgk j h1 h2⟩, by rw [ht]; exact hP, hD⟩, hS.F ht⟩) hS.2.2 xd_Mo_peek_45
    · refine lv_iload hx hb xd_Mo_peek_24 (lv_at hl 0 rfl) ?_
      refine xz_lt (a := z10) (tgt := 39) hx hb xd_Mo_peek_26 (by decide) (by omega) ?_
      refine lv_aload_n hx hb xd_Mo_peek_29 rfl (lv_at hl 2 rfl) ?_
      refine lv_iload_n hx hb xd_Mo_peek_30 rfl (lv_at hl 5 rfl) ?_
      refine lv_iload hx hb xd_Mo_peek_31 (lv_at hl 6 rfl) ?_
      have hFc := va_free (wc := (moW h mm kA (va_up (va_up (va_up v 0 0) 2 0) 3 (nI wn)) g5)) hD hS hA [0, 1, 2, 3, 4, 5, 6, 7, 8, 9, 10, 11, 12, 13, 14, 15, 16, 17, 18, 19, 20, 21, 22, 23, 24, 25] rfl
      refine va_calli (va_runV (As := [.int ly2, .int dx]) (rest := []) ⟨hx, hb, hml, hown, hT⟩ (xc_Mo_isThere l D kA H.size h mm (va_up (va_up (va_up v 0 0) 2 0) 3 (nI wn)) g5 ly2 dx nl nd (by first | assumption | omega) (by first | assumption | omega) (by first | assumption | omega) (by first | assumption | omega) (by first | assumption | omega)) (cwV 2 hT (wT_V k4r_16 k4r_17 k4r_18 k4r_9 k4r_15) rfl rfl rfl (by decide +kernel) ⟨Nat.le_of_ble_eq_true rfl, Nat.le_of_ble_eq_true rfl⟩) (x_preV hK hP hD 0 rfl rfl) rfl rfl hl.1 rfl (lv_room (Nat.le_of_ble_eq_true rfl)) xd_Mo_peek_33 ⟨Nat.le_of_ble_eq_true rfl, Nat.le_of_ble_eq_true rfl⟩) hS (fun q _ h => hFc q h) hFc (fun r17 u18 t H1 locs ht hvm hp19 hB hz1 hk1 hS => ?_)
      obtain ⟨hP1, hD1⟩ := hB
      rw [ht] at hP1
      have hD1 := hD1.weaken (fun _ _ _ h => hFc _ h)
      generalize H1 = H at hP1 hS ⊢
      have hP := hP1
      have hD := hD1
      have hP : va_P D xcl (moW h mm kA (va_up (va_up (va_up v 0 0) 2 0) 3 (nI wn)) g5) H := hP
      have hD : va_D A (moW h mm kA (va_up (va_up (va_up v 0 0) 2 0) 3 (nI wn)) g5) := hD
      rcases hp19 with rfl | ⟨rfl, z20, z21, z22, rfl, z23, rfl⟩
      · refine xz_ne (a := 0) (tgt := 46) hx hb xd_Mo_peek_36 (by decide) (by omega) (fun hc24 => absurd hc24 (by omega)) (fun _ => ?_)
        refine lv_aload_n hx hb xd_Mo_peek_39 rfl (lv_at hl 2 rfl) ?_
        refine lv_iconst (v := 1) hx hb xd_Mo_peek_40 (by decide) ?_
        refine va_put (D := D) (ci := 4) (v := .int 1) (ty := .int) (C := xR_Mo) (T := xT_Mo) (N := 31) hx hb hT xi_Mo xt_Mo xt_Mo_ok xn_Mo hown hK.1 hP hD hS 0 rfl rfl 0 (by decide) (hT _ k4r_0) (fun _ h9 => h9) rfl (by decide +kernel) rfl rfl (Nat.le_of_ble_eq_true rfl) xd_Mo_peek_41 (fun H locs hP hD hS => ?_)
        have hP : va_P D xcl (moW h mm kA (va_up (va_up (va_up v 0 1) 2 0) 3 (nI wn)) g5) H := hP
        have hD : va_D A (moW h mm kA (va_up (va_up (va_up v 0 1) 2 0) 3 (nI wn)) g5) := hD
        refine lv_iconst (v := 0) hx hb xd_Mo_peek_44 (by decide) ?_
        exact W.zret (v := 0) hx hb hr rfl (fun t ht hW => ⟨⟨0, ((va_up (va_up (va_up v 0 1) 2 0) 3 (nI wn)), g5), rfl, ⟨MI_v rfl rfl hM1, rfl, rfl, rfl, rfl, fun j h1 h2 h3 => hgk j h1 h2⟩, by rw [ht]; exact hP, hD⟩, hS.F ht⟩) hS.2.2 xd_Mo_peek_45
      · have hl : lv_has ls 8 [(6, .int (nI z10)), (5, .int r1), (0, .ref h), (1, .int (nI z9)), (2, .int kx), (3, .int (nI z20)), (4, .int (nI z21))] := hl
        refine xz_ne (a := 1) (tgt := 46) hx hb xd_Mo_peek_36 (by decide) (by omega) (fun _ => ?_) (fun hc25 => absurd hc25 (by omega))
        obtain ⟨pke, hpke, epke⟩ := hpk z21 (by omega)
        refine lv_aload_n hx hb xd_Mo_peek_46 rfl (lv_at hl 2 rfl) ?_
        refine lv_iload hx hb xd_Mo_peek_47 (lv_at hl 6 rfl) ?_
        refine lv_iload hx hb xd_Mo_peek_49 (lv_at hl 1 rfl) ?_
        have hFc := va_free (wc := (moW h mm kA (va_up (va_up (va_up v 0 0) 2 0) 3 (nI wn)) g5)) hD hS hA [0, 1, 2, 3, 4, 5, 6, 7, 8, 9, 10, 11, 12, 13, 14, 15, 16, 17, 18, 19, 20, 21, 22, 23, 24, 25] rfl
        refine va_calli (va_runV (As := [.int (nI z21), .int r1]) (rest := []) ⟨hx, hb, hml, hown, hT⟩ (xc_Mo_packageOf l D kA H.size h mm (va_up (va_up (va_up v 0 0) 2 0) 3 (nI wn)) g5 z21 r1 pke (by first | assumption | omega) (by first | assumption | omega) (by first | assumption | omega)) (cwV 2 hT (wT_V k4r_33 k4r_34 k4r_35 k4r_9 k4r_32) rfl rfl rfl (by decide +kernel) ⟨Nat.le_of_ble_eq_true rfl, Nat.le_of_ble_eq_true rfl⟩) (x_preV hK hP hD 0 rfl rfl) rfl rfl hl.1 rfl (lv_room (Nat.le_of_ble_eq_true rfl)) xd_Mo_peek_51 ⟨Nat.le_of_ble_eq_true rfl, Nat.le_of_ble_eq_true rfl⟩) hS (fun q _ h => hFc q h) hFc (fun r26 u27 t H1 locs ht hvm hp28 hB hz1 hk1 hS => ?_)
        obtain ⟨hP1, hD1⟩ := hB
        rw [ht] at hP1
        have hD1 := hD1.weaken (fun _ _ _ h => hFc _ h)
        generalize H1 = H at hP1 hS ⊢
        have hP := hP1
        have hD := hD1
        have hP : va_P D xcl (moW h mm kA (va_up (va_up (va_up v 0 0) 2 0) 3 (nI wn)) g5) H := hP
        have hD : va_D A (moW h mm kA (va_up (va_up (va_up v 0 0) 2 0) 3 (nI wn)) g5) := hD
        rcases hp28 with ⟨z29, z30, z31, rfl, z32⟩ | ⟨rfl, z33⟩
        · refine lv_istore hx hb xd_Mo_peek_54 hl (Nat.le_of_ble_eq_true rfl) rfl (fun ls hl => ?_)
          have hl : lv_has ls 8 [(7, .int (nI z29)), (6, .int (nI z10)), (5, .int r1), (0, .ref h), (1, .int (nI z9)), (2, .int kx), (3, .int (nI z20)), (4, .int (nI z21))] := hl
          refine lv_aload_n hx hb xd_Mo_peek_56 rfl (lv_at hl 3 rfl) ?_
          refine lv_iload hx hb xd_Mo_peek_57 (lv_at hl 0 rfl) ?_
          refine xz_ge (a := z29) (tgt := 66) hx hb xd_Mo_peek_59 (by decide) (by omega) ?_
          refine lv_iconst (v := 0) hx hb xd_Mo_peek_66 (by decide) ?_
          refine va_put (D := D) (ci := 4) (v := .int 0) (ty := .int) (C := xR_Mo) (T := xT_Mo) (N := 31) hx hb hT xi_Mo xt_Mo xt_Mo_ok xn_Mo hown hK.1 hP hD hS 0 rfl rfl 0 (by decide) (hT _ k4r_0) (fun _ h9 => h9) rfl (by decide +kernel) rfl rfl (Nat.le_of_ble_eq_true rfl) xd_Mo_peek_67 (fun H locs hP hD hS => ?_)
          have hP : va_P D xcl (moW h mm kA (va_up (va_up (va_up v 0 0) 2 0) 3 (nI wn)) g5) H := hP
          have hD : va_D A (moW h mm kA (va_up (va_up (va_up v 0 0) 2 0) 3 (nI wn)) g5) := hD
          refine lv_iload hx hb xd_Mo_peek_70 (lv_at hl 0 rfl) ?_
          refine xz_ge (a := z29) (tgt := 77) hx hb xd_Mo_peek_72 (by decide) (by omega) ?_
          refine lv_iload_n hx hb xd_Mo_peek_77 rfl (lv_at hl 4 rfl) ?_
          refine lv_iload_n hx hb xd_Mo_peek_78 rfl (lv_at hl 6 rfl) ?_
          refine xn_ne (a := z9) (b := z20) (tgt := 91) hx hb xd_Mo_peek_79 (by decide) (by omega) (by omega) (fun hc36 => ?_) (fun hc36 => ?_)
          · refine lv_aload_n hx hb xd_Mo_peek_91 rfl (lv_at hl 3 rfl) ?_
            refine lv_iload_n hx hb xd_Mo_peek_92 rfl (lv_at hl 4 rfl) ?_
            refine lv_iload hx hb xd_Mo_peek_93 (lv_at hl 1 rfl) ?_
            have hFc := va_free (wc := (moW h mm kA (va_up (va_up (va_up v 0 0) 2 0) 3 (nI wn)) g5)) hD hS hA [0, 1, 2, 3, 4, 5, 6, 7, 8, 9, 10, 11, 12, 13, 14, 15, 16, 17, 18, 19, 20, 21, 22, 23, 24, 25] rfl
            refine va_callv (va_runV (As := [.int (nI z9), .int (nI z10)]) (rest := []) ⟨hx, hb, hml, hown, hT⟩ (xc_Mo_reading l D kA H.size h mm (va_up (va_up (va_up v 0 0) 2 0) 3 (nI wn)) g5 z9 z10 nl (MI_v rfl rfl hM1) (by first | assumption | omega) hpar (by first | assumption | omega) (by first | assumption | omega)) (cwV 2 hT (wT_V k4r_20 k4r_21 k4r_22 k4r_9 k4r_19) rfl rfl rfl (by decide +kernel) ⟨Nat.le_of_ble_eq_true rfl, Nat.le_of_ble_eq_true rfl⟩) (x_preV hK hP hD 0 rfl rfl) rfl rfl hl.1 rfl (lv_room (Nat.le_of_ble_eq_true rfl)) xd_Mo_peek_95 ⟨Nat.le_of_ble_eq_true rfl, Nat.le_of_ble_eq_true rfl⟩) hS (fun q _ h => hFc q h) hFc (fun u38 t H1 locs ht hvm hp39 hB hz1 hk1 hS => ?_)
            obtain ⟨hP1, hD1⟩ := hB
            rw [ht] at hP1
            have hD1 := hD1.weaken (fun _ _ _ h => hFc _ h)
            obtain ⟨v40, g41⟩ := u38
            generalize H1 = H at hP1 hS ⊢
            have hP := hP1
            have hD := hD1
            have hP : va_P D xcl (moW h mm kA v40 g41) H := hP
            have hD : va_D A (moW h mm kA v40 g41) := hD
            obtain ⟨hu9, hfr9, hbz9, hsn9⟩ := hp39
            have hu9 : v40 = (va_up (va_up (va_up v 0 0) 2 0) 3 (nI wn)) := hu9
            subst hu9
            have hfr9 : ∀ j, j ≠ 24 → g41 j = g5 j := hfr9
            have hbz9 : bz (g41 24) := hbz9
            have hP : va_P D xcl (moW h mm kA (va_up (va_up (va_up v 0 0) 2 0) 3 (nI wn)) g41) H := hP
            have hD : va_D A (moW h mm kA (va_up (va_up (va_up v 0 0) 2 0) 3 (nI wn)) g41) := hD
            have hpk : ∀ d, d < 12 → ∃ k, k ≤ 6 ∧ g41 5 d = nI k := by rw [hfr9 5 (by decide)]; exact hpk
            refine lv_aload_n hx hb xd_Mo_peek_98 rfl (lv_at hl 3 rfl) ?_
            refine va_get (D := D) (ci := 4) (v := .ref (mm 24)) (C := xR_Mo) (T := xT_Mo) (N := 31) hx hb hT xi_Mo hown hK.1 hP 0 rfl rfl 30 (by decide) (hT _ k4r_23) (fun _ h9 => h9) rfl xd_Mo_peek_99 ?_
            refine lv_bipush (v := 12) hx hb xd_Mo_peek_102 (by decide) ?_
            refine lv_iload_n hx hb xd_Mo_peek_104 rfl (lv_at hl 6 rfl) ?_
            refine lv_imul hx hb xd_Mo_peek_105 ?_
            refine xn_top (y := nI (12 * z20)) (pk_mul 12 z20) ?_
            refine lv_iload hx hb xd_Mo_peek_106 (lv_at hl 7 rfl) ?_
            refine lv_iadd hx hb xd_Mo_peek_108 ?_
            refine xn_top (y := nI ((12 * z20) + z21)) (nI_add (12 * z20) z21) ?_
            refine xn_zald (i := (12 * z20) + z21) hx hb hK.1 hP 25 2 rfl rfl (by omega) (by decide) xd_Mo_peek_109 ?_
            refine lv_if_eq (tgt := 169) hx hb xd_Mo_peek_110 (by decide) (fun hc42 => ?_) (fun hc42 => ?_)
            · refine lv_iconst (v := 0) hx hb xd_Mo_peek_169 (by decide) ?_
              exact W.zret (v := 0) hx hb hr rfl (fun t ht hW => ⟨⟨0, ((va_up (va_up (va_up v 0 0) 2 0) 3 (nI wn)), g41), rfl, ⟨MI_g (hfr9 0 (by decide)) (hfr9 3 (by decide)) (hfr9 4 (by decide)) (hfr9 5 (by decide)) (hfr9 12 (by decide)) (hfr9 19 (by decide)) (hfr9 20 (by decide)) (hfr9 21 (by decide)) (MI_v rfl rfl hM1), rfl, rfl, rfl, rfl, fun j h1 h2 h3 => (hfr9 j h3).trans (hgk j h1 h2)⟩, by rw [ht]; exact hP, hD⟩, hS.F ht⟩) hS.2.2 xd_Mo_peek_170
            · refine lv_aload_n hx hb xd_Mo_peek_113 rfl (lv_at hl 3 rfl) ?_
              refine lv_aload_n hx hb xd_Mo_peek_114 rfl (lv_at hl 3 rfl) ?_
              refine va_get (D := D) (ci := 4) (v := .ref (mm 10)) (C := xR_Mo) (T := xT_Mo) (N := 31) hx hb hT xi_Mo hown hK.1 hP 0 rfl rfl 15 (by decide) (hT _ k4r_41) (fun _ h9 => h9) rfl xd_Mo_peek_115 ?_
              refine lv_iload hx hb xd_Mo_peek_118 (lv_at hl 0 rfl) ?_
              refine xn_zald (i := z29) hx hb hK.1 hP 11 2 rfl rfl (by omega) (by decide) xd_Mo_peek_120 ?_
              refine lv_aload_n hx hb xd_Mo_peek_121 rfl (lv_at hl 3 rfl) ?_
              refine va_get (D := D) (ci := 4) (v := .ref (mm 8)) (C := xR_Mo) (T := xT_Mo) (N := 31) hx hb hT xi_Mo hown hK.1 hP 0 rfl rfl 13 (by decide) (hT _ k4r_42) (fun _ h9 => h9) rfl xd_Mo_peek_122 ?_
              refine lv_iconst (v := 3) hx hb xd_Mo_peek_125 (by decide) ?_
              refine lv_iload hx hb xd_Mo_peek_126 (lv_at hl 0 rfl) ?_
              refine lv_imul hx hb xd_Mo_peek_128 ?_
              refine xn_top (y := nI (3 * z29)) (pk_mul 3 z29) ?_
              refine xn_iald (i := 3 * z29) hx hb hK.1 hP 9 0 rfl rfl (by omega) (by decide) xd_Mo_peek_129 ?_
              refine lv_aload_n hx hb xd_Mo_peek_130 rfl (lv_at hl 3 rfl) ?_
              refine va_get (D := D) (ci := 4) (v := .ref (mm 8)) (C := xR_Mo) (T := xT_Mo) (N := 31) hx hb hT xi_Mo hown hK.1 hP 0 rfl rfl 13 (by decide) (hT _ k4r_42) (fun _ h9 => h9) rfl xd_Mo_peek_131 ?_
              refine lv_iconst (v := 3) hx hb xd_Mo_peek_134 (by decide) ?_
              refine lv_iload hx hb xd_Mo_peek_135 (lv_at hl 0 rfl) ?_
              refine lv_imul hx hb xd_Mo_peek_137 ?_
              refine xn_top (y := nI (3 * z29)) (pk_mul 3 z29) ?_
              refine lv_iconst (v := 1) hx hb xd_Mo_peek_138 (by decide) ?_
              refine lv_iadd hx hb xd_Mo_peek_139 ?_
              refine xn_top (y := nI ((3 * z29) + 1)) (nI_add (3 * z29) 1) ?_
              refine xn_iald (i := (3 * z29) + 1) hx hb hK.1 hP 9 0 rfl rfl (by omega) (by decide) xd_Mo_peek_140 ?_
              refine lv_aload_n hx hb xd_Mo_peek_141 rfl (lv_at hl 3 rfl) ?_
              refine va_get (D := D) (ci := 4) (v := .ref (mm 8)) (C := xR_Mo) (T := xT_Mo) (N := 31) hx hb hT xi_Mo hown hK.1 hP 0 rfl rfl 13 (by decide) (hT _ k4r_42) (fun _ h9 => h9) rfl xd_Mo_peek_142 ?_
              refine lv_iconst (v := 3) hx hb xd_Mo_peek_145 (by decide) ?_
              refine lv_iload hx hb xd_Mo_peek_146 (lv_at hl 0 rfl) ?_
              refine lv_imul hx hb xd_Mo_peek_148 ?_
              refine xn_top (y := nI (3 * z29)) (pk_mul 3 z29) ?_
              refine lv_iconst (v := 2) hx hb xd_Mo_peek_149 (by decide) ?_
              refine lv_iadd hx hb xd_Mo_peek_150 ?_
              refine xn_top (y := nI ((3 * z29) + 2)) (nI_add (3 * z29) 2) ?_
              refine xn_iald (i := (3 * z29) + 2) hx hb hK.1 hP 9 0 rfl rfl (by omega) (by decide) xd_Mo_peek_151 ?_
              refine lv_aload_n hx hb xd_Mo_peek_152 rfl (lv_at hl 3 rfl) ?_
              refine va_get (D := D) (ci := 4) (v := .ref (mm 4)) (C := xR_Mo) (T := xT_Mo) (N := 31) hx hb hT xi_Mo hown hK.1 hP 0 rfl rfl 9 (by decide) (hT _ k4r_36) (fun _ h9 => h9) rfl xd_Mo_peek_153 ?_
              refine lv_iload hx hb xd_Mo_peek_156 (lv_at hl 1 rfl) ?_
              refine xn_iald (i := z10) hx hb hK.1 hP 5 0 rfl rfl (by omega) (by decide) xd_Mo_peek_158 ?_
              have hFc := va_free (wc := (moW h mm kA (va_up (va_up (va_up v 0 0) 2 0) 3 (nI wn)) g41)) hD hS hA [0, 1, 2, 3, 4, 5, 6, 7, 8, 9, 10, 11, 12, 13, 14, 15, 16, 17, 18, 19, 20, 21, 22, 23, 24, 25] rfl
              refine va_calli (va_runV (As := [.int (g41 10 z29), .int (g41 8 (3 * z29)), .int (g41 8 ((3 * z29) + 1)), .int (g41 8 ((3 * z29) + 2)), .int (g41 4 z10)]) (rest := []) ⟨hx, hb, hml, hown, hT⟩ (xc_Mo_isTo l D kA H.size h mm (va_up (va_up (va_up v 0 0) 2 0) 3 (nI wn)) g41 (g41 10 z29) (g41 8 (3 * z29)) (g41 8 ((3 * z29) + 1)) (g41 8 ((3 * z29) + 2)) (g41 4 z10)) (cwV 5 hT (wT_V k4r_44 k4r_45 k4r_46 k4r_9 k4r_43) rfl rfl rfl (by decide +kernel) ⟨Nat.le_of_ble_eq_true rfl, Nat.le_of_ble_eq_true rfl⟩) (x_preV hK hP hD 0 rfl rfl) rfl rfl hl.1 rfl (lv_room (Nat.le_of_ble_eq_true rfl)) xd_Mo_peek_159 ⟨Nat.le_of_ble_eq_true rfl, Nat.le_of_ble_eq_true rfl⟩) hS (fun q _ h => hFc q h) hFc (fun r43 u44 t H1 locs ht hvm hp45 hB hz1 hk1 hS => ?_)
              obtain ⟨hP1, hD1⟩ := hB
              rw [ht] at hP1
              have hD1 := hD1.weaken (fun _ _ _ h => hFc _ h)
              generalize H1 = H at hP1 hS ⊢
              have hP := hP1
              have hD := hD1
              have hP : va_P D xcl (moW h mm kA (va_up (va_up (va_up v 0 0) 2 0) 3 (nI wn)) g41) H := hP
              have hD : va_D A (moW h mm kA (va_up (va_up (va_up v 0 0) 2 0) 3 (nI wn)) g41) := hD
              rcases hp45 with rfl | rfl
              · refine xz_eq (a := 0) (tgt := 169) hx hb xd_Mo_peek_162 (by decide) (by omega) (fun _ => ?_) (fun hc46 => absurd hc46 (by omega))
                refine lv_iconst (v := 0) hx hb xd_Mo_peek_169 (by decide) ?_
                exact W.zret (v := 0) hx hb hr rfl (fun t ht hW => ⟨⟨0, ((va_up (va_up (va_up v 0 0) 2 0) 3 (nI wn)), g41), rfl, ⟨MI_g (hfr9 0 (by decide)) (hfr9 3 (by decide)) (hfr9 4 (by decide)) (hfr9 5 (by decide)) (hfr9 12 (by decide)) (hfr9 19 (by decide)) (hfr9 20 (by decide)) (hfr9 21 (by decide)) (MI_v rfl rfl hM1), rfl, rfl, rfl, rfl, fun j h1 h2 h3 => (hfr9 j h3).trans (hgk j h1 h2)⟩, by rw [ht]; exact hP, hD⟩, hS.F ht⟩) hS.2.2 xd_Mo_peek_170
              · refine xz_eq (a := 1) (tgt := 169) hx hb xd_Mo_peek_162 (by decide) (by omega) (fun hc47 => absurd hc47 (by omega)) (fun _ => ?_)
                refine lv_iconst (v := 1) hx hb xd_Mo_peek_165 (by decide) ?_
                refine lv_goto (tgt := 170) hx hb xd_Mo_peek_166 (by decide) ?_
                exact W.zret (v := 1) hx hb hr rfl (fun t ht hW => ⟨⟨1, ((va_up (va_up (va_up v 0 0) 2 0) 3 (nI wn)), g41), rfl, ⟨MI_g (hfr9 0 (by decide)) (hfr9 3 (by decide)) (hfr9 4 (by decide)) (hfr9 5 (by decide)) (hfr9 12 (by decide)) (hfr9 19 (by decide)) (hfr9 20 (by decide)) (hfr9 21 (by decide)) (MI_v rfl rfl hM1), rfl, rfl, rfl, rfl, fun j h1 h2 h3 => (hfr9 j h3).trans (hgk j h1 h2)⟩, by rw [ht]; exact hP, hD⟩, hS.F ht⟩) hS.2.2 xd_Mo_peek_170
          · refine lv_iload hx hb xd_Mo_peek_82 (lv_at hl 1 rfl) ?_
            refine lv_iload hx hb xd_Mo_peek_84 (lv_at hl 7 rfl) ?_
            refine xn_ne (a := z10) (b := z21) (tgt := 91) hx hb xd_Mo_peek_86 (by decide) (by omega) (by omega) (fun hc48 => ?_) (fun hc48 => ?_)
            · refine lv_aload_n hx hb xd_Mo_peek_91 rfl (lv_at hl 3 rfl) ?_
              refine lv_iload_n hx hb xd_Mo_peek_92 rfl (lv_at hl 4 rfl) ?_
              refine lv_iload hx hb xd_Mo_peek_93 (lv_at hl 1 rfl) ?_
              have hFc := va_free (wc := (moW h mm kA (va_up (va_up (va_up v 0 0) 2 0) 3 (nI wn)) g5)) hD hS hA [0, 1, 2, 3, 4, 5, 6, 7, 8, 9, 10, 11, 12, 13, 14, 15, 16, 17, 18, 19, 20, 21, 22, 23, 24, 25] rfl
              refine va_callv (va_runV (As := [.int (nI z9), .int (nI z10)]) (rest := []) ⟨hx, hb, hml, hown, hT⟩ (xc_Mo_reading l D kA H.size h mm (va_up (va_up (va_up v 0 0) 2 0) 3 (nI wn)) g5 z9 z10 nl (MI_v rfl rfl hM1) (by first | assumption | omega) hpar (by first | assumption | omega) (by first | assumption | omega)) (cwV 2 hT (wT_V k4r_20 k4r_21 k4r_22 k4r_9 k4r_19) rfl rfl rfl (by decide +kernel) ⟨Nat.le_of_ble_eq_true rfl, Nat.le_of_ble_eq_true rfl⟩) (x_preV hK hP hD 0 rfl rfl) rfl rfl hl.1 rfl (lv_room (Nat.le_of_ble_eq_true rfl)) xd_Mo_peek_95 ⟨Nat.le_of_ble_eq_true rfl, Nat.le_of_ble_eq_true rfl⟩) hS (fun q _ h => hFc q h) hFc (fun u50 t H1 locs ht hvm hp51 hB hz1 hk1 hS => ?_)
              obtain ⟨hP1, hD1⟩ := hB
              rw [ht] at hP1
              have hD1 := hD1.weaken (fun _ _ _ h => hFc _ h)
              obtain ⟨v52, g53⟩ := u50
              generalize H1 = H at hP1 hS ⊢
              have hP := hP1
              have hD := hD1
              have hP : va_P D xcl (moW h mm kA v52 g53) H := hP
              have hD : va_D A (moW h mm kA v52 g53) := hD
              obtain ⟨hu9, hfr9, hbz9, hsn9⟩ := hp51
              have hu9 : v52 = (va_up (va_up (va_up v 0 0) 2 0) 3 (nI wn)) := hu9
              subst hu9
              have hfr9 : ∀ j, j ≠ 24 → g53 j = g5 j := hfr9
              have hbz9 : bz (g53 24) := hbz9
              have hP : va_P D xcl (moW h mm kA (va_up (va_up (va_up v 0 0) 2 0) 3 (nI wn)) g53) H := hP
              have hD : va_D A (moW h mm kA (va_up (va_up (va_up v 0 0) 2 0) 3 (nI wn)) g53) := hD
              have hpk : ∀ d, d < 12 → ∃ k, k ≤ 6 ∧ g53 5 d = nI k := by rw [hfr9 5 (by decide)]; exact hpk
              refine lv_aload_n hx hb xd_Mo_peek_98 rfl (lv_at hl 3 rfl) ?_
              refine va_get (D := D) (ci := 4) (v := .ref (mm 24)) (C := xR_Mo) (T := xT_Mo) (N := 31) hx hb hT xi_Mo hown hK.1 hP 0 rfl rfl 30 (by decide) (hT _ k4r_23) (fun _ h9 => h9) rfl xd_Mo_peek_99 ?_
              refine lv_bipush (v := 12) hx hb xd_Mo_peek_102 (by decide) ?_
              refine lv_iload_n hx hb xd_Mo_peek_104 rfl (lv_at hl 6 rfl) ?_
              refine lv_imul hx hb xd_Mo_peek_105 ?_
              refine xn_top (y := nI (12 * z20)) (pk_mul 12 z20) ?_
              refine lv_iload hx hb xd_Mo_peek_106 (lv_at hl 7 rfl) ?_
              refine lv_iadd hx hb xd_Mo_peek_108 ?_
              refine xn_top (y := nI ((12 * z20) + z21)) (nI_add (12 * z20) z21) ?_
              refine xn_zald (i := (12 * z20) + z21) hx hb hK.1 hP 25 2 rfl rfl (by omega) (by decide) xd_Mo_peek_109 ?_
              refine lv_if_eq (tgt := 169) hx hb xd_Mo_peek_110 (by decide) (fun hc54 => ?_) (fun hc54 => ?_)
              · refine lv_iconst (v := 0) hx hb xd_Mo_peek_169 (by decide) ?_
                exact W.zret (v := 0) hx hb hr rfl (fun t ht hW => ⟨⟨0, ((va_up (va_up (va_up v 0 0) 2 0) 3 (nI wn)), g53), rfl, ⟨MI_g (hfr9 0 (by decide)) (hfr9 3 (by decide)) (hfr9 4 (by decide)) (hfr9 5 (by decide)) (hfr9 12 (by decide)) (hfr9 19 (by decide)) (hfr9 20 (by decide)) (hfr9 21 (by decide)) (MI_v rfl rfl hM1), rfl, rfl, rfl, rfl, fun j h1 h2 h3 => (hfr9 j h3).trans (hgk j h1 h2)⟩, by rw [ht]; exact hP, hD⟩, hS.F ht⟩) hS.2.2 xd_Mo_peek_170
              · refine lv_aload_n hx hb xd_Mo_peek_113 rfl (lv_at hl 3 rfl) ?_
                refine lv_aload_n hx hb xd_Mo_peek_114 rfl (lv_at hl 3 rfl) ?_
                refine va_get (D := D) (ci := 4) (v := .ref (mm 10)) (C := xR_Mo) (T := xT_Mo) (N := 31) hx hb hT xi_Mo hown hK.1 hP 0 rfl rfl 15 (by decide) (hT _ k4r_41) (fun _ h9 => h9) rfl xd_Mo_peek_115 ?_
                refine lv_iload hx hb xd_Mo_peek_118 (lv_at hl 0 rfl) ?_
                refine xn_zald (i := z29) hx hb hK.1 hP 11 2 rfl rfl (by omega) (by decide) xd_Mo_peek_120 ?_
                refine lv_aload_n hx hb xd_Mo_peek_121 rfl (lv_at hl 3 rfl) ?_
                refine va_get (D := D) (ci := 4) (v := .ref (mm 8)) (C := xR_Mo) (T := xT_Mo) (N := 31) hx hb hT xi_Mo hown hK.1 hP 0 rfl rfl 13 (by decide) (hT _ k4r_42) (fun _ h9 => h9) rfl xd_Mo_peek_122 ?_
                refine lv_iconst (v := 3) hx hb xd_Mo_peek_125 (by decide) ?_
                refine lv_iload hx hb xd_Mo_peek_126 (lv_at hl 0 rfl) ?_
                refine lv_imul hx hb xd_Mo_peek_128 ?_
                refine xn_top (y := nI (3 * z29)) (pk_mul 3 z29) ?_
                refine xn_iald (i := 3 * z29) hx hb hK.1 hP 9 0 rfl rfl (by omega) (by decide) xd_Mo_peek_129 ?_
                refine lv_aload_n hx hb xd_Mo_peek_130 rfl (lv_at hl 3 rfl) ?_
                refine va_get (D := D) (ci := 4) (v := .ref (mm 8)) (C := xR_Mo) (T := xT_Mo) (N := 31) hx hb hT xi_Mo hown hK.1 hP 0 rfl rfl 13 (by decide) (hT _ k4r_42) (fun _ h9 => h9) rfl xd_Mo_peek_131 ?_
                refine lv_iconst (v := 3) hx hb xd_Mo_peek_134 (by decide) ?_
                refine lv_iload hx hb xd_Mo_peek_135 (lv_at hl 0 rfl) ?_
                refine lv_imul hx hb xd_Mo_peek_137 ?_
                refine xn_top (y := nI (3 * z29)) (pk_mul 3 z29) ?_
                refine lv_iconst (v := 1) hx hb xd_Mo_peek_138 (by decide) ?_
                refine lv_iadd hx hb xd_Mo_peek_139 ?_
                refine xn_top (y := nI ((3 * z29) + 1)) (nI_add (3 * z29) 1) ?_
                refine xn_iald (i := (3 * z29) + 1) hx hb hK.1 hP 9 0 rfl rfl (by omega) (by decide) xd_Mo_peek_140 ?_
                refine lv_aload_n hx hb xd_Mo_peek_141 rfl (lv_at hl 3 rfl) ?_
                refine va_get (D := D) (ci := 4) (v := .ref (mm 8)) (C := xR_Mo) (T := xT_Mo) (N := 31) hx hb hT xi_Mo hown hK.1 hP 0 rfl rfl 13 (by decide) (hT _ k4r_42) (fun _ h9 => h9) rfl xd_Mo_peek_142 ?_
                refine lv_iconst (v := 3) hx hb xd_Mo_peek_145 (by decide) ?_
                refine lv_iload hx hb xd_Mo_peek_146 (lv_at hl 0 rfl) ?_
                refine lv_imul hx hb xd_Mo_peek_148 ?_
                refine xn_top (y := nI (3 * z29)) (pk_mul 3 z29) ?_
                refine lv_iconst (v := 2) hx hb xd_Mo_peek_149 (by decide) ?_
                refine lv_iadd hx hb xd_Mo_peek_150 ?_
                refine xn_top (y := nI ((3 * z29) + 2)) (nI_add (3 * z29) 2) ?_
                refine xn_iald (i := (3 * z29) + 2) hx hb hK.1 hP 9 0 rfl rfl (by omega) (by decide) xd_Mo_peek_151 ?_
                refine lv_aload_n hx hb xd_Mo_peek_152 rfl (lv_at hl 3 rfl) ?_
                refine va_get (D := D) (ci := 4) (v := .ref (mm 4)) (C := xR_Mo) (T := xT_Mo) (N := 31) hx hb hT xi_Mo hown hK.1 hP 0 rfl rfl 9 (by decide) (hT _ k4r_36) (fun _ h9 => h9) rfl xd_Mo_peek_153 ?_
                refine lv_iload hx hb xd_Mo_peek_156 (lv_at hl 1 rfl) ?_
                refine xn_iald (i := z10) hx hb hK.1 hP 5 0 rfl rfl (by omega) (by decide) xd_Mo_peek_158 ?_
                have hFc := va_free (wc := (moW h mm kA (va_up (va_up (va_up v 0 0) 2 0) 3 (nI wn)) g53)) hD hS hA [0, 1, 2, 3, 4, 5, 6, 7, 8, 9, 10, 11, 12, 13, 14, 15, 16, 17, 18, 19, 20, 21, 22, 23, 24, 25] rfl
                refine va_calli (va_runV (As := [.int (g53 10 z29), .int (g53 8 (3 * z29)), .int (g53 8 ((3 * z29) + 1)), .int (g53 8 ((3 * z29) + 2)), .int (g53 4 z10)]) (rest := []) ⟨hx, hb, hml, hown, hT⟩ (xc_Mo_isTo l D kA H.size h mm (va_up (va_up (va_up v 0 0) 2 0) 3 (nI wn)) g53 (g53 10 z29) (g53 8 (3 * z29)) (g53 8 ((3 * z29) + 1)) (g53 8 ((3 * z29) + 2)) (g53 4 z10)) (cwV 5 hT (wT_V k4r_44 k4r_45 k4r_46 k4r_9 k4r_43) rfl rfl rfl (by decide +kernel) ⟨Nat.le_of_ble_eq_true rfl, Nat.le_of_ble_eq_true rfl⟩) (x_preV hK hP hD 0 rfl rfl) rfl rfl hl.1 rfl (lv_room (Nat.le_of_ble_eq_true rfl)) xd_Mo_peek_159 ⟨Nat.le_of_ble_eq_true rfl, Nat.le_of_ble_eq_true rfl⟩) hS (fun q _ h => hFc q h) hFc (fun r55 u56 t H1 locs ht hvm hp57 hB hz1 hk1 hS => ?_)
                obtain ⟨hP1, hD1⟩ := hB
                rw [ht] at hP1
                have hD1 := hD1.weaken (fun _ _ _ h => hFc _ h)
                generalize H1 = H at hP1 hS ⊢
                have hP := hP1
                have hD := hD1
                have hP : va_P D xcl (moW h mm kA (va_up (va_up (va_up v 0 0) 2 0) 3 (nI wn)) g53) H := hP
                have hD : va_D A (moW h mm kA (va_up (va_up (va_up v 0 0) 2 0) 3 (nI wn)) g53) := hD
                rcases hp57 with rfl | rfl
                · refine xz_eq (a := 0) (tgt := 169) hx hb xd_Mo_peek_162 (by decide) (by omega) (fun _ => ?_) (fun hc58 => absurd hc58 (by omega))
                  refine lv_iconst (v := 0) hx hb xd_Mo_peek_169 (by decide) ?_
                  exact W.zret (v := 0) hx hb hr rfl (fun t ht hW => ⟨⟨0, ((va_up (va_up (va_up v 0 0) 2 0) 3 (nI wn)), g53), rfl, ⟨MI_g (hfr9 0 (by decide)) (hfr9 3 (by decide)) (hfr9 4 (by decide)) (hfr9 5 (by decide)) (hfr9 12 (by decide)) (hfr9 19 (by decide)) (hfr9 20 (by decide)) (hfr9 21 (by decide)) (MI_v rfl rfl hM1), rfl, rfl, rfl, rfl, fun j h1 h2 h3 => (hfr9 j h3).trans (hgk j h1 h2)⟩, by rw [ht]; exact hP, hD⟩, hS.F ht⟩) hS.2.2 xd_Mo_peek_170
                · refine xz_eq (a := 1) (tgt := 169) hx hb xd_Mo_peek_162 (by decide) (by omega) (fun hc59 => absurd hc59 (by omega)) (fun _ => ?_)
                  refine lv_iconst (v := 1) hx hb xd_Mo_peek_165 (by decide) ?_
                  refine lv_goto (tgt := 170) hx hb xd_Mo_peek_166 (by decide) ?_
                  exact W.zret (v := 1) hx hb hr rfl (fun t ht hW => ⟨⟨1, ((va_up (va_up (va_up v 0 0) 2 0) 3 (nI wn)), g53), rfl, ⟨MI_g (hfr9 0 (by decide)) (hfr9 3 (by decide)) (hfr9 4 (by decide)) (hfr9 5 (by decide)) (hfr9 12 (by decide)) (hfr9 19 (by decide)) (hfr9 20 (by decide)) (hfr9 21 (by decide)) (MI_v rfl rfl hM1), rfl, rfl, rfl, rfl, fun j h1 h2 h3 => (hfr9 j h3).trans (hgk j h1 h2)⟩, by rw [ht]; exact hP, hD⟩, hS.F ht⟩) hS.2.2 xd_Mo_peek_170
            · refine lv_iconst (v := 1) hx hb xd_Mo_peek_89 (by decide) ?_
              exact W.zret (v := 1) hx hb hr rfl (fun t ht hW => ⟨⟨1, ((va_up (va_up (va_up v 0 0) 2 0) 3 (nI wn)), g5), rfl, ⟨MI_v rfl rfl hM1, rfl, rfl, rfl, rfl, fun j h1 h2 h3 => hgk j h1 h2⟩, by rw [ht]; exact hP, hD⟩, hS.F ht⟩) hS.2.2 xd_Mo_peek_90
        · refine lv_istore hx hb xd_Mo_peek_54 hl (Nat.le_of_ble_eq_true rfl) rfl (fun ls hl => ?_)
          have hl : lv_has ls 8 [(7, .int (-1)), (6, .int (nI z10)), (5, .int r1), (0, .ref h), (1, .int (nI z9)), (2, .int kx), (3, .int (nI z20)), (4, .int (nI z21))] := hl
          refine lv_aload_n hx hb xd_Mo_peek_56 rfl (lv_at hl 3 rfl) ?_
          refine lv_iload hx hb xd_Mo_peek_57 (lv_at hl 0 rfl) ?_
          refine lv_if_ge (tgt := 66) hx hb xd_Mo_peek_59 (by decide) (fun hc60 => absurd hc60 (by decide)) (fun _ => ?_)
          refine lv_iconst (v := 2) hx hb xd_Mo_peek_62 (by decide) ?_
          refine lv_goto (tgt := 67) hx hb xd_Mo_peek_63 (by decide) ?_
          refine va_put (D := D) (ci := 4) (v := .int 2) (ty := .int) (C := xR_Mo) (T := xT_Mo) (N := 31) hx hb hT xi_Mo xt_Mo xt_Mo_ok xn_Mo hown hK.1 hP hD hS 0 rfl rfl 0 (by decide) (hT _ k4r_0) (fun _ h9 => h9) rfl (by decide +kernel) rfl rfl (Nat.le_of_ble_eq_true rfl) xd_Mo_peek_67 (fun H locs hP hD hS => ?_)
          have hP : va_P D xcl (moW h mm kA (va_up (va_up (va_up v 0 2) 2 0) 3 (nI wn)) g5) H := hP
          have hD : va_D A (moW h mm kA (va_up (va_up (va_up v 0 2) 2 0) 3 (nI wn)) g5) := hD
          refine lv_iload hx hb xd_Mo_peek_70 (lv_at hl 0 rfl) ?_
          refine lv_if_ge (tgt := 77) hx hb xd_Mo_peek_72 (by decide) (fun hc61 => absurd hc61 (by decide)) (fun _ => ?_)
          refine lv_iconst (v := 0) hx hb xd_Mo_peek_75 (by decide) ?_
          exact W.zret (v := 0) hx hb hr rfl (fun t ht hW => ⟨⟨0, ((va_up (va_up (va_up v 0 2) 2 0) 3 (nI wn)), g5), rfl, ⟨MI_v rfl rfl hM1, rfl, rfl, rfl, rfl, fun j h1 h2 h3 => hgk j h1 h2⟩, by rw [ht]; exact hP, hD⟩, hS.F ht⟩) hS.2.2 xd_Mo_peek_76
set_option maxHeartbeats 4000000 in
set_option maxRecDepth 100000 in
theorem xc_Mo_providerK (l : Launch) (D : va_G) (kA : Nat → ClassId) (sz h : Nat) (mm : Nat → Nat) (v : Nat → Int32) (g : Nat → Nat → Int32) (ly : Int32) (ix : Int32) (wr : Nat) (hMI : MI v g) (hwr : v 2 = nI wr) (hwr40 : wr ≤ 40) : Met l xy_Mo_provider (.code xy_Mo_provider xb_Mo_provider 9 (some .int) :: wT) { frames := 2, cells := 0, slots := 0, locals := 43 } (va_Pc [.ref h, .int ly, .int ix] (xPre D kA sz (moW h mm kA v g))) (va_Qi (fun (r : Int32) (u : (Nat → Int32) × (Nat → Nat → Int32)) => MI u.1 u.2 ∧ u.1 2 = 0 ∧ u.1 1 = v 1 ∧ u.1 4 = v 4 ∧ u.1 5 = v 5 ∧ ∀ j, j ≠ 1 → j ≠ 2 → j ≠ 24 → u.2 j = g j) (fun (u : (Nat → Int32) × (Nat → Nat → Int32)) t => va_P D xcl (moW h mm kA u.1 u.2) t.heap ∧ va_D (va_A (moW h mm kA v g) sz) (moW h mm kA u.1 u.2)) (va_A (moW h mm kA v g) sz)) 0 0 (va_A (moW h mm kA v g) sz) := by
  refine Met.ofW (cc := xb_Mo_provider) (maxL := 9) (ret := (some .int)) (by decide) rfl ?_
  intro p e s m args below meth c s₁ B hml hv
  obtain ⟨rfl, hsz, hP, hK, hD0⟩ := hv
  have hx := B.exec
  have hb := B.bytes
  have hr := B.returns
  have hT := x_hT B.pre
  have hown : s.vm.findClass xR_Mo = some m.cls := findClass_of_methodNamed B.named
  have hlocks := B.notSynchronized
  subst hsz
  have hD := hD0.self (sz := s.heap.size)
  generalize hAe : va_A (moW h mm kA v g) s.heap.size = A at hD ⊢
  have hA : ∀ q : Nat, s.heap.size ≤ q → A q := fun q h => by rw [← hAe]; exact Or.inr h
  have hS : va_S A s.heap s.heap [] := va_S.rf
  have hl := lv_entry ([.ref h, .int ly, .int ix]) (n := 9) (Nat.le_of_ble_eq_true rfl)
  rw [lg_entry_eq]
  generalize (lg_sl ([.ref h, .int ly, .int ix]) ++ List.replicate (9 - (lg_sl ([.ref h, .int ly, .int ix])).length) Slot.unset).toArray = ls at hl ⊢
  have hl : lv_has ls 9 [(0, .ref h), (1, .int ly), (2, .int ix)] := hl
  have hP : va_P D xcl (moW h mm kA v g) s.heap := hP
  refine lv_aload_n hx hb xd_Mo_provider_0 rfl (lv_at hl 0 rfl) ?_
  refine lv_iconst (v := 0) hx hb xd_Mo_provider_1 (by decide) ?_
  refine va_put (D := D) (ci := 4) (v := .int 0) (ty := .int) (C := xR_Mo) (T := xT_Mo) (N := 31) hx hb hT xi_Mo xt_Mo xt_Mo_ok xn_Mo hown hK.1 hP hD hS 0 rfl rfl 0 (by decide) (hT _ k4r_0) (fun _ h9 => h9) rfl (by decide +kernel) rfl rfl (Nat.le_of_ble_eq_true rfl) xd_Mo_provider_2 (fun H locs hP hD hS => ?_)
  have hP : va_P D xcl (moW h mm kA (va_up v 0 0) g) H := hP
  have hD : va_D A (moW h mm kA (va_up v 0 0) g) := hD
  refine lv_aload_n hx hb xd_Mo_provider_5 rfl (lv_at hl 0 rfl) ?_
  have hFc := va_free (wc := (moW h mm kA (va_up v 0 0) g)) hD hS hA [0, 1, 2, 3, 4, 5, 6, 7, 8, 9, 10, 11, 12, 13, 14, 15, 16, 17, 18, 19, 20, 21, 22, 23, 24, 25] rfl
  refine va_calli (va_runV (As := []) (rest := []) ⟨hx, hb, hml, hown, hT⟩ (xc_Mo_oneName l D kA H.size h mm (va_up v 0 0) g wr (by first | assumption | omega) (by first | assumption | omega)) (cwV 0 hT (wT_V k4r_25 k4r_26 k4r_27 k4r_9 k4r_24) rfl rfl rfl (by decide +kernel) ⟨Nat.le_of_ble_eq_true rfl, Nat.le_of_ble_eq_true rfl⟩) (x_preV hK hP hD 0 rfl rfl) rfl rfl hl.1 rfl (lv_room (Nat.le_of_ble_eq_true rfl)) xd_Mo_provider_6 ⟨Nat.le_of_ble_eq_true rfl, Nat.le_of_ble_eq_true rfl⟩) hS (fun q _ h => hFc q h) hFc (fun r1 u2 t H1 locs ht hvm hp3 hB hz1 hk1 hS => ?_)
  obtain ⟨hP1, hD1⟩ := hB
  rw [ht] at hP1
  have hD1 := hD1.weaken (fun _ _ _ h => hFc _ h)
  obtain ⟨v4, g5⟩ := u2
  generalize H1 = H at hP1 hS ⊢
  have hP := hP1
  have hD := hD1
  have hP : va_P D xcl (moW h mm kA v4 g5) H := hP
  have hD : va_D A (moW h mm kA v4 g5) := hD
  obtain ⟨wn, hv9, hgk⟩ := hp3
  have hv9 : v4 = (va_up (va_up (va_up v 0 0) 2 0) 3 (nI wn)) := hv9
  subst hv9
  have hgk : ∀ j, j ≠ 1 → j ≠ 2 → g5 j = g j := hgk
  have hM1 : MI (va_up (va_up (va_up v 0 0) 2 0) 3 (nI wn)) g5 := MI_g (hgk 0 (by decide) (by decide)) (hgk 3 (by decide) (by decide)) (hgk 4 (by decide) (by decide)) (hgk 5 (by decide) (by decide)) (hgk 12 (by decide) (by decide)) (hgk 19 (by decide) (by decide)) (hgk 20 (by decide) (by decide)) (hgk 21 (by decide) (by decide)) (MI_v rfl rfl hMI)
  obtain ⟨⟨nd, hnd12, hnd⟩, ⟨nl, hnl5, hnl, hpar⟩, hch, hpk, hrq, hmd, huq⟩ := id hM1
  have hP : va_P D xcl (moW h mm kA (va_up (va_up (va_up v 0 0) 2 0) 3 (nI wn)) g5) H := hP
  have hD : va_D A (moW h mm kA (va_up (va_up (va_up v 0 0) 2 0) 3 (nI wn)) g5) := hD
  refine lv_istore_n hx hb xd_Mo_provider_9 rfl hl (Nat.le_of_ble_eq_true rfl) rfl (fun ls hl => ?_)
  have hl : lv_has ls 9 [(3, .int r1), (0, .ref h), (1, .int ly), (2, .int ix)] := hl
  refine lv_iload_n hx hb xd_Mo_provider_10 rfl (lv_at hl 0 rfl) ?_
  refine lv_if_eq (tgt := 22) hx hb xd_Mo_provider_11 (by decide) (fun hc6 => ?_) (fun hc6 => ?_)
  · refine lv_aload_n hx hb xd_Mo_provider_22 rfl (lv_at hl 1 rfl) ?_
    refine lv_iconst (v := 1) hx hb xd_Mo_provider_23 (by decide) ?_
    have hFc := va_free (wc := (moW h mm kA (va_up (va_up (va_up v 0 0) 2 0) 3 (nI wn)) g5)) hD hS hA [0, 1, 2, 3, 4, 5, 6, 7, 8, 9, 10, 11, 12, 13, 14, 15, 16, 17, 18, 19, 20, 21, 22, 23, 24, 25] rfl
    refine va_calli (va_runV (As := [.int 1]) (rest := []) ⟨hx, hb, hml, hown, hT⟩ (xc_Mo_fails l D kA H.size h mm (va_up (va_up (va_up v 0 0) 2 0) 3 (nI wn)) g5 1) (cwV 1 hT (wT_V k4r_29 k4r_30 k4r_31 k4r_9 k4r_28) rfl rfl rfl (by decide +kernel) ⟨Nat.le_of_ble_eq_true rfl, Nat.le_of_ble_eq_true rfl⟩) (x_preV hK hP hD 0 rfl rfl) rfl rfl hl.1 rfl (lv_room (Nat.le_of_ble_eq_true rfl)) xd_Mo_provider_24 ⟨Nat.le_of_ble_eq_true rfl, Nat.le_of_ble_eq_true rfl⟩) hS (fun q _ h => hFc q h) hFc (fun r7 u8 t H1 locs ht hvm hp9 hB hz1 hk1 hS => ?_)
    obtain ⟨hP1, hD1⟩ := hB
    rw [ht] at hP1
    have hD1 := hD1.weaken (fun _ _ _ h => hFc _ h)
    obtain ⟨v10, g11⟩ := u8
    generalize H1 = H at hP1 hS ⊢
    have hP := hP1
    have hD := hD1
    have hP : va_P D xcl (moW h mm kA v10 g11) H := hP
    have hD : va_D A (moW h mm kA v10 g11) := hD
    obtain ⟨hr9, hu9⟩ := hp9
    subst hr9
    obtain ⟨hu1, hu2⟩ := Prod.mk.inj hu9
    subst hu1
    have hu2 := hu2.symm
    subst hu2
    have hP : va_P D xcl (moW h mm kA (va_up (va_up (va_up v 0 1) 2 0) 3 (nI wn)) g5) H := hP
    have hD : va_D A (moW h mm kA (va_up (va_up (va_up v 0 1) 2 0) 3 (nI wn)) g5) := hD
    exact W.iret (v := 0) hx hb hr (fun t ht hW => ⟨⟨0, ((va_up (va_up (va_up v 0 1) 2 0) 3 (nI wn)), g5), rfl, ⟨MI_v rfl rfl hM1, rfl, rfl, rfl, rfl, fun j h1 h2 h3 => hgk j h1 h2⟩, by rw [ht]; exact hP, hD⟩, hS.F ht⟩) hS.2.2 xd_Mo_provider_27
  · refine lv_aload_n hx hb xd_Mo_provider_14 rfl (lv_at hl 1 rfl) ?_
    refine lv_iload_n hx hb xd_Mo_provider_15 rfl (lv_at hl 2 rfl) ?_
    have hFc := va_free (wc := (moW h mm kA (va_up (va_up (va_up v 0 0) 2 0) 3 (nI wn)) g5)) hD hS hA [0, 1, 2, 3, 4, 5, 6, 7, 8, 9, 10, 11, 12, 13, 14, 15, 16, 17, 18, 19, 20, 21, 22, 23, 24, 25] rfl
    refine va_calli (va_runV (As := [.int ly]) (rest := []) ⟨hx, hb, hml, hown, hT⟩ (xc_Mo_isOpen l D kA H.size h mm (va_up (va_up (va_up v 0 0) 2 0) 3 (nI wn)) g5 ly nl (by first | assumption | omega) (by first | assumption | omega)) (cwV 1 hT (wT_V k4r_6 k4r_7 k4r_8 k4r_9 k4r_5) rfl rfl rfl (by decide +kernel) ⟨Nat.le_of_ble_eq_true rfl, Nat.le_of_ble_eq_true rfl⟩) (x_preV hK hP hD 0 rfl rfl) rfl rfl hl.1 rfl (lv_room (Nat.le_of_ble_eq_true rfl)) xd_Mo_provider_16 ⟨Nat.le_of_ble_eq_true rfl, Nat.le_of_ble_eq_true rfl⟩) hS (fun q _ h => hFc q h) hFc (fun r12 u13 t H1 locs ht hvm hp14 hB hz1 hk1 hS => ?_)
    obtain ⟨hP1, hD1⟩ := hB
    rw [ht] at hP1
    have hD1 := hD1.weaken (fun _ _ _ h => hFc _ h)
    generalize H1 = H at hP1 hS ⊢
    have hP := hP1
    have hD := hD1
    have hP : va_P D xcl (moW h mm kA (va_up (va_up (va_up v 0 0) 2 0) 3 (nI wn)) g5) H := hP
    have hD : va_D A (moW h mm kA (va_up (va_up (va_up v 0 0) 2 0) 3 (nI wn)) g5) := hD
    rcases hp14 with rfl | ⟨rfl, z15, z16, rfl⟩
    · refine xz_ne (a := 0) (tgt := 28) hx hb xd_Mo_provider_19 (by decide) (by omega) (fun hc17 => absurd hc17 (by omega)) (fun _ => ?_)
      refine lv_aload_n hx hb xd_Mo_provider_22 rfl (lv_at hl 1 rfl) ?_
      refine lv_iconst (v := 1) hx hb xd_Mo_provider_23 (by decide) ?_
      have hFc := va_free (wc := (moW h mm kA (va_up (va_up (va_up v 0 0) 2 0) 3 (nI wn)) g5)) hD hS hA [0, 1, 2, 3, 4, 5, 6, 7, 8, 9, 10, 11, 12, 13, 14, 15, 16, 17, 18, 19, 20, 21, 22, 23, 24, 25] rfl
      refine va_calli (va_runV (As := [.int 1]) (rest := []) ⟨hx, hb, hml, hown, hT⟩ (xc_Mo_fails l D kA H.size h mm (va_up (va_up (va_up v 0 0) 2 0) 3 (nI wn)) g5 1) (cwV 1 hT (wT_V k4r_29 k4r_30 k4r_31 k4r_9 k4r_28) rfl rfl rfl (by decide +kernel) ⟨Nat.le_of_ble_eq_true rfl, Nat.le_of_ble_eq_true rfl⟩) (x_preV hK hP hD 0 rfl rfl) rfl rfl hl.1 rfl (lv_room (Nat.le_of_ble_eq_true rfl)) xd_Mo_provider_24 ⟨Nat.le_of_ble_eq_true rfl, Nat.le_of_ble_eq_true rfl⟩) hS (fun q _ h => hFc q h) hFc (fun r18 u19 t H1 locs ht hvm hp20 hB hz1 hk1 hS => ?_)
      obtain ⟨hP1, hD1⟩ := hB
      rw [ht] at hP1
      have hD1 := hD1.weaken (fun _ _ _ h => hFc _ h)
      obtain ⟨v21, g22⟩ := u19
      generalize H1 = H at hP1 hS ⊢
      have hP := hP1
      have hD := hD1
      have hP : va_P D xcl (moW h mm kA v21 g22) H := hP
      have hD : va_D A (moW h mm kA v21 g22) := hD
      obtain ⟨hr9, hu9⟩ := hp20
      subst hr9
      obtain ⟨hu1, hu2⟩ := Prod.mk.inj hu9
      subst hu1
      have hu2 := hu2.symm
      subst hu2
      have hP : va_P D xcl (moW h mm kA (va_up (va_up (va_up v 0 1) 2 0) 3 (nI wn)) g5) H := hP
      have hD : va_D A (moW h mm kA (va_up (va_up (va_up v 0 1) 2 0) 3 (nI wn)) g5) := hD
      exact W.iret (v := 0) hx hb hr (fun t ht hW => ⟨⟨0, ((va_up (va_up (va_up v 0 1) 2 0) 3 (nI wn)), g5), rfl, ⟨MI_v rfl rfl hM1, rfl, rfl, rfl, rfl, fun j h1 h2 h3 => hgk j h1 h2⟩, by rw [ht]; exact hP, hD⟩, hS.F ht⟩) hS.2.2 xd_Mo_provider_27
    · have hl : lv_has ls 9 [(3, .int r1), (0, .ref h), (1, .int (nI z15)), (2, .int ix)] := hl
      refine xz_ne (a := 1) (tgt := 28) hx hb xd_Mo_provider_19 (by decide) (by omega) (fun _ => ?_) (fun hc23 => absurd hc23 (by omega))
      refine lv_iconst (v := 0) hx hb xd_Mo_provider_28 (by decide) ?_
      refine lv_istore hx hb xd_Mo_provider_29 hl (Nat.le_of_ble_eq_true rfl) rfl (fun ls hl => ?_)
      have hl : lv_has ls 9 [(4, .int 0), (3, .int r1), (0, .ref h), (1, .int (nI z15)), (2, .int ix)] := hl
      refine lv_iload_n hx hb xd_Mo_provider_31 rfl (lv_at hl 3 rfl) ?_
      refine lv_istore hx hb xd_Mo_provider_32 hl (Nat.le_of_ble_eq_true rfl) rfl (fun ls hl => ?_)
      have hl : lv_has ls 9 [(5, .int (nI z15)), (4, .int 0), (3, .int r1), (0, .ref h), (1, .int (nI z15)), (2, .int ix)] := hl
      rw [← nI_pred z15] at hl
      have hl : lv_has ls 9 [(5, .int (nI (z15 + 1) - 1)), (4, .int 0), (3, .int r1), (0, .ref h), (1, .int (nI (z15 + 1) - 1)), (2, .int ix)] := hl
      refine xlab (σ := Nat × Int32) (ml := 9) 34 (fun (lq5, c5) => [(5, .int (nI lq5 - 1)), (4, .int c5), (0, .ref h), (2, .int ix), (3, .int r1)]) (fun (lq5, c5) => []) (fun (lq5, c5) => moW h mm kA (va_up (va_up (va_up v 0 0) 2 0) 3 (nI wn)) g5) (fun (lq5, c5) => (lq5 ≤ nl)) (fun (lq5, c5) => lq5) ?_ (z15 + 1, 0) _ _ _ (lv_sub hl [0, 1, 3, 5, 2] rfl) hP hD hS (show (z15 + 1) ≤ nl from by first | assumption | omega)
      intro n9 ih24 a9 ls H locs hμ hl hP hD hS hI
      subst hμ
      obtain ⟨lq5, c5⟩ := a9
      have hlq5 : lq5 ≤ nl := hI
      have hl : lv_has ls 9 [(5, .int (nI lq5 - 1)), (4, .int c5), (0, .ref h), (2, .int ix), (3, .int r1)] := hl
      have hP : va_P D xcl (moW h mm kA (va_up (va_up (va_up v 0 0) 2 0) 3 (nI wn)) g5) H := hP
      have hD : va_D A (moW h mm kA (va_up (va_up (va_up v 0 0) 2 0) 3 (nI wn)) g5) := hD
      rcases Nat.eq_zero_or_pos lq5 with hz5 | hz5
      · have e5 : nI lq5 - 1 = -1 := by rw [hz5]; decide
        rw [e5] at hl
        refine lv_iload hx hb xd_Mo_provider_34 (lv_at hl 0 rfl) ?_
        refine lv_if_lt (tgt := 177) hx hb xd_Mo_provider_36 (by decide) (fun _ => ?_) (fun hc25 => absurd hc25 (by decide))
        refine lv_iconst (v := (-1)) hx hb xd_Mo_provider_177 (by decide) ?_
        exact W.iret (v := (-1)) hx hb hr (fun t ht hW => ⟨⟨(-1), ((va_up (va_up (va_up v 0 0) 2 0) 3 (nI wn)), g5), rfl, ⟨MI_v rfl rfl hM1, rfl, rfl, rfl, rfl, fun j h1 h2 h3 => hgk j h1 h2⟩, by rw [ht]; exact hP, hD⟩, hS.F ht⟩) hS.2.2 xd_Mo_provider_178
      · have e5 : nI lq5 - 1 = nI (lq5 - 1) := pk_sub (a := lq5) (b := 1) hz5
        rw [e5] at hl
        refine lv_iload hx hb xd_Mo_provider_34 (lv_at hl 0 rfl) ?_
        refine xz_lt (a := lq5 - 1) (tgt := 177) hx hb xd_Mo_provider_36 (by decide) (by omega) ?_
        obtain ⟨mdk, hmdk, emdk, hent⟩ := hmd (lq5 - 1) (by omega)
        have hent2 : ∀ i, 12 * (lq5 - 1) ≤ i → i < 12 * (lq5 - 1) + mdk → ∃ d, d < 12 ∧ g5 21 i = nI d := fun i h1 h2 => by
          have h3 := hent (i - 12 * (lq5 - 1)) (by omega)
          rwa [show 12 * (lq5 - 1) + (i - 12 * (lq5 - 1)) = i by omega] at h3
        refine lv_bipush (v := 12) hx hb xd_Mo_provider_39 (by decide) ?_
        refine lv_iload hx hb xd_Mo_provider_41 (lv_at hl 0 rfl) ?_
        refine lv_imul hx hb xd_Mo_provider_43 ?_
        refine xn_top (y := nI (12 * (lq5 - 1))) (pk_mul 12 (lq5 - 1)) ?_
        refine lv_istore hx hb xd_Mo_provider_44 hl (Nat.le_of_ble_eq_true rfl) rfl (fun ls hl => ?_)
        have hl : lv_has ls 9 [(6, .int (nI (12 * (lq5 - 1)))), (5, .int (nI (lq5 - 1))), (4, .int c5), (0, .ref h), (2, .int ix), (3, .int r1)] := hl
        refine xlab (σ := Nat × Int32) (ml := 9) 46 (fun (i6, c6) => [(6, .int (nI i6)), (5, .int (nI (lq5 - 1))), (4, .int c6), (0, .ref h), (2, .int ix), (3, .int r1)]) (fun (i6, c6) => []) (fun (i6, c6) => moW h mm kA (va_up (va_up (va_up v 0 0) 2 0) 3 (nI wn)) g5) (fun (i6, c6) => (12 * (lq5 - 1) ≤ i6) ∧ (i6 ≤ 12 * (lq5 - 1) + mdk)) (fun (i6, c6) => 12 * (lq5 - 1) + mdk - i6) ?_ (12 * (lq5 - 1), c5) _ _ _ (lv_sub hl [0, 1, 2, 3, 4, 5] rfl) hP hD hS ⟨(show 12 * (lq5 - 1) ≤ (12 * (lq5 - 1)) from by first | assumption | omega), (show (12 * (lq5 - 1)) ≤ 12 * (lq5 - 1) + mdk from by first | assumption | omega)⟩
        intro n9 ih27 a9 ls H locs hμ hl hP hD hS hI
        subst hμ
        obtain ⟨i6, c6⟩ := a9
        obtain ⟨hi61, hi62⟩ := hI
        have hi61 : 12 * (lq5 - 1) ≤ i6 := hi61
        have hi62 : i6 ≤ 12 * (lq5 - 1) + mdk := hi62
        have hl : lv_has ls 9 [(6, .int (nI i6)), (5, .int (nI (lq5 - 1))), (4, .int c6), (0, .ref h), (2, .int ix), (3, .int r1)] := hl
        have hP : va_P D xcl (moW h mm kA (va_up (va_up (va_up v 0 0) 2 0) 3 (nI wn)) g5) H := hP
        have hD : va_D A (moW h mm kA (va_up (va_up (va_up v 0 0) 2 0) 3 (nI wn)) g5) := hD
        refine lv_iload hx hb xd_Mo_provider_46 (lv_at hl 0 rfl) ?_
        refine lv_bipush (v := 12) hx hb xd_Mo_provider_48 (by decide) ?_
        refine lv_iload hx hb xd_Mo_provider_50 (lv_at hl 1 rfl) ?_
        refine lv_imul hx hb xd_Mo_provider_52 ?_
        refine xn_top (y := nI (12 * (lq5 - 1))) (pk_mul 12 (lq5 - 1)) ?_
        refine lv_aload_n hx hb xd_Mo_provider_53 rfl (lv_at hl 3 rfl) ?_
        refine va_get (D := D) (ci := 4) (v := .ref (mm 20)) (C := xR_Mo) (T := xT_Mo) (N := 31) hx hb hT xi_Mo hown hK.1 hP 0 rfl rfl 26 (by decide) (hT _ k4r_10) (fun _ h9 => h9) rfl xd_Mo_provider_54 ?_
        refine lv_iload hx hb xd_Mo_provider_57 (lv_at hl 1 rfl) ?_
        refine xn_iald (i := lq5 - 1) hx hb hK.1 hP 21 0 rfl rfl (by omega) (by decide) xd_Mo_provider_59 ?_
        refine xn_top (x := (g5 20 (lq5 - 1))) (y := nI mdk) emdk ?_
        refine lv_iadd hx hb xd_Mo_provider_60 ?_
        refine xn_top (y := nI ((12 * (lq5 - 1)) + mdk)) (nI_add (12 * (lq5 - 1)) mdk) ?_
        refine xn_ge (a := i6) (b := (12 * (lq5 - 1)) + mdk) (tgt := 165) hx hb xd_Mo_provider_61 (by decide) (by omega) (by omega) (fun hc28 => ?_) (fun hc28 => ?_)
        · refine lv_aload_n hx hb xd_Mo_provider_165 rfl (lv_at hl 3 rfl) ?_
          refine va_get (D := D) (ci := 4) (v := .ref (mm 19)) (C := xR_Mo) (T := xT_Mo) (N := 31) hx hb hT xi_Mo hown hK.1 hP 0 rfl rfl 25 (by decide) (hT _ k4r_47) (fun _ h9 => h9) rfl xd_Mo_provider_166 ?_
          refine lv_iload hx hb xd_Mo_provider_169 (lv_at hl 1 rfl) ?_
          refine xn_iald (i := lq5 - 1) hx hb hK.1 hP 20 0 rfl rfl (by omega) (by decide) xd_Mo_provider_171 ?_
          obtain ⟨q29, hq30, eq31⟩ := hpar (lq5 - 1) (by omega)
          refine xn_top (x := (g5 19 (lq5 - 1))) eq31 ?_
          refine lv_istore hx hb xd_Mo_provider_172 hl (Nat.le_of_ble_eq_true rfl) rfl (fun ls hl => ?_)
          have hl : lv_has ls 9 [(5, .int (nI q29 - 1)), (6, .int (nI i6)), (4, .int c6), (0, .ref h), (2, .int ix), (3, .int r1)] := hl
          refine lv_goto (tgt := 34) hx hb xd_Mo_provider_174 (by decide) ?_
          exact ih24 (q29, c6) _ _ _ (show q29 < lq5 by omega) (lv_sub hl [0, 2, 3, 4, 5] rfl) hP hD hS (show q29 ≤ nl from by first | assumption | omega)
        · refine lv_aload_n hx hb xd_Mo_provider_64 rfl (lv_at hl 3 rfl) ?_
          refine va_get (D := D) (ci := 4) (v := .ref (mm 21)) (C := xR_Mo) (T := xT_Mo) (N := 31) hx hb hT xi_Mo hown hK.1 hP 0 rfl rfl 27 (by decide) (hT _ k4r_48) (fun _ h9 => h9) rfl xd_Mo_provider_65 ?_
          refine lv_iload hx hb xd_Mo_provider_68 (lv_at hl 0 rfl) ?_
          refine xn_iald (i := i6) hx hb hK.1 hP 22 0 rfl rfl (by omega) (by decide) xd_Mo_provider_70 ?_
          obtain ⟨k32, hk33, ek34⟩ := hent2 i6 (by omega) (by omega)
          refine xn_top (x := (g5 21 i6)) ek34 ?_
          refine lv_istore hx hb xd_Mo_provider_71 hl (Nat.le_of_ble_eq_true rfl) rfl (fun ls hl => ?_)
          have hl : lv_has ls 9 [(7, .int (nI k32)), (6, .int (nI i6)), (5, .int (nI (lq5 - 1))), (4, .int c6), (0, .ref h), (2, .int ix), (3, .int r1)] := hl
          refine xjoin (D := D) (cl := xcl) (A := A) (H0 := s.heap) (σ := Int32) (ml := 9) 123 (fun (gv : Int32) => [(8, .int gv), (7, .int (nI k32)), (6, .int (nI i6)), (5, .int (nI (lq5 - 1))), (4, .int c6), (0, .ref h), (2, .int ix), (3, .int r1)]) (fun (gv : Int32) => []) (fun (gv : Int32) => moW h mm kA (va_up (va_up (va_up v 0 0) 2 0) 3 (nI wn)) g5) (fun (gv : Int32) => True) ?_ (fun jn35 => ?_)
          · intro a9 ls H locs hl hP hD hS hI
            obtain ⟨gv, rfl⟩ : ∃ z, z = a9 := ⟨_, rfl⟩
            have hl : lv_has ls 9 [(8, .int gv), (7, .int (nI k32)), (6, .int (nI i6)), (5, .int (nI (lq5 - 1))), (4, .int c6), (0, .ref h), (2, .int ix), (3, .int r1)] := hl
            have hP : va_P D xcl (moW h mm kA (va_up (va_up (va_up v 0 0) 2 0) 3 (nI wn)) g5) H := hP
            have hD : va_D A (moW h mm kA (va_up (va_up (va_up v 0 0) 2 0) 3 (nI wn)) g5) := hD
            refine lv_iload hx hb xd_Mo_provider_123 (lv_at hl 0 rfl) ?_
            refine lv_if_eq (tgt := 143) hx hb xd_Mo_provider_125 (by decide) (fun hc36 => ?_) (fun hc36 => ?_)
            · refine lv_iload hx hb xd_Mo_provider_143 (lv_at hl 0 rfl) ?_
              refine lv_if_eq (tgt := 155) hx hb xd_Mo_provider_145 (by decide) (fun hc37 => ?_) (fun hc37 => ?_)
              · refine lv_iload hx hb xd_Mo_provider_155 (lv_at hl 4 rfl) ?_
                refine lv_istore hx hb xd_Mo_provider_157 hl (Nat.le_of_ble_eq_true rfl) rfl (fun ls hl => ?_)
                have hl : lv_has ls 9 [(4, .int c6), (8, .int gv), (7, .int (nI k32)), (6, .int (nI i6)), (5, .int (nI (lq5 - 1))), (0, .ref h), (2, .int ix), (3, .int r1)] := hl
                refine lv_iinc (k := 3) (x := (nI i6)) (v := (nI (i6 + 1))) hx hb xd_Mo_provider_159 hl rfl (xb_inc i6 1) (Nat.le_of_ble_eq_true rfl) rfl (fun ls hl => ?_)
                have hl : lv_has ls 9 [(6, .int (nI (i6 + 1))), (4, .int c6), (8, .int gv), (7, .int (nI k32)), (5, .int (nI (lq5 - 1))), (0, .ref h), (2, .int ix), (3, .int r1)] := hl
                refine lv_goto (tgt := 46) hx hb xd_Mo_provider_162 (by decide) ?_
                exact ih27 (i6 + 1, c6) _ _ _ (show 12 * (lq5 - 1) + mdk - (i6 + 1) < 12 * (lq5 - 1) + mdk - i6 by omega) (lv_sub hl [0, 4, 1, 5, 6, 7] rfl) hP hD hS ⟨(show 12 * (lq5 - 1) ≤ (i6 + 1) from by first | assumption | omega), (show (i6 + 1) ≤ 12 * (lq5 - 1) + mdk from by first | assumption | omega)⟩
              · refine lv_iload hx hb xd_Mo_provider_148 (lv_at hl 4 rfl) ?_
                refine lv_iconst (v := 1) hx hb xd_Mo_provider_150 (by decide) ?_
                refine lv_iadd hx hb xd_Mo_provider_151 ?_
                refine lv_goto (tgt := 157) hx hb xd_Mo_provider_152 (by decide) ?_
                refine lv_istore hx hb xd_Mo_provider_157 hl (Nat.le_of_ble_eq_true rfl) rfl (fun ls hl => ?_)
                have hl : lv_has ls 9 [(4, .int (c6 + 1)), (8, .int gv), (7, .int (nI k32)), (6, .int (nI i6)), (5, .int (nI (lq5 - 1))), (0, .ref h), (2, .int ix), (3, .int r1)] := hl
                refine lv_iinc (k := 3) (x := (nI i6)) (v := (nI (i6 + 1))) hx hb xd_Mo_provider_159 hl rfl (xb_inc i6 1) (Nat.le_of_ble_eq_true rfl) rfl (fun ls hl => ?_)
                have hl : lv_has ls 9 [(6, .int (nI (i6 + 1))), (4, .int (c6 + 1)), (8, .int gv), (7, .int (nI k32)), (5, .int (nI (lq5 - 1))), (0, .ref h), (2, .int ix), (3, .int r1)] := hl
                refine lv_goto (tgt := 46) hx hb xd_Mo_provider_162 (by decide) ?_
                exact ih27 (i6 + 1, (c6 + 1)) _ _ _ (show 12 * (lq5 - 1) + mdk - (i6 + 1) < 12 * (lq5 - 1) + mdk - i6 by omega) (lv_sub hl [0, 4, 1, 5, 6, 7] rfl) hP hD hS ⟨(show 12 * (lq5 - 1) ≤ (i6 + 1) from by first | assumption | omega), (show (i6 + 1) ≤ 12 * (lq5 - 1) + mdk from by first | assumption | omega)⟩
            · refine lv_iload hx hb xd_Mo_provider_128 (lv_at hl 4 rfl) ?_
              refine lv_iload_n hx hb xd_Mo_provider_130 rfl (lv_at hl 6 rfl) ?_
              refine lv_icmp_ne (tgt := 143) hx hb xd_Mo_provider_131 (by decide) (fun hc38 => ?_) (fun hc38 => ?_)
              · refine lv_iload hx hb xd_Mo_provider_143 (lv_at hl 0 rfl) ?_
                refine lv_if_eq (tgt := 155) hx hb xd_Mo_provider_145 (by decide) (fun hc39 => ?_) (fun hc39 => ?_)
                · refine lv_iload hx hb xd_Mo_provider_155 (lv_at hl 4 rfl) ?_
                  refine lv_istore hx hb xd_Mo_provider_157 hl (Nat.le_of_ble_eq_true rfl) rfl (fun ls hl => ?_)
                  have hl : lv_has ls 9 [(4, .int c6), (8, .int gv), (7, .int (nI k32)), (6, .int (nI i6)), (5, .int (nI (lq5 - 1))), (0, .ref h), (2, .int ix), (3, .int r1)] := hl
                  refine lv_iinc (k := 3) (x := (nI i6)) (v := (nI (i6 + 1))) hx hb xd_Mo_provider_159 hl rfl (xb_inc i6 1) (Nat.le_of_ble_eq_true rfl) rfl (fun ls hl => ?_)
                  have hl : lv_has ls 9 [(6, .int (nI (i6 + 1))), (4, .int c6), (8, .int gv), (7, .int (nI k32)), (5, .int (nI (lq5 - 1))), (0, .ref h), (2, .int ix), (3, .int r1)] := hl
                  refine lv_goto (tgt := 46) hx hb xd_Mo_provider_162 (by decide) ?_
                  exact ih27 (i6 + 1, c6) _ _ _ (show 12 * (lq5 - 1) + mdk - (i6 + 1) < 12 * (lq5 - 1) + mdk - i6 by omega) (lv_sub hl [0, 4, 1, 5, 6, 7] rfl) hP hD hS ⟨(show 12 * (lq5 - 1) ≤ (i6 + 1) from by first | assumption | omega), (show (i6 + 1) ≤ 12 * (lq5 - 1) + mdk from by first | assumption | omega)⟩
                · refine lv_iload hx hb xd_Mo_provider_148 (lv_at hl 4 rfl) ?_
                  refine lv_iconst (v := 1) hx hb xd_Mo_provider_150 (by decide) ?_
                  refine lv_iadd hx hb xd_Mo_provider_151 ?_
                  refine lv_goto (tgt := 157) hx hb xd_Mo_provider_152 (by decide) ?_
                  refine lv_istore hx hb xd_Mo_provider_157 hl (Nat.le_of_ble_eq_true rfl) rfl (fun ls hl => ?_)
                  have hl : lv_has ls 9 [(4, .int (c6 + 1)), (8, .int gv), (7, .int (nI k32)), (6, .int (nI i6)), (5, .int (nI (lq5 - 1))), (0, .ref h), (2, .int ix), (3, .int r1)] := hl
                  refine lv_iinc (k := 3) (x := (nI i6)) (v := (nI (i6 + 1))) hx hb xd_Mo_provider_159 hl rfl (xb_inc i6 1) (Nat.le_of_ble_eq_true rfl) rfl (fun ls hl => ?_)
                  have hl : lv_has ls 9 [(6, .int (nI (i6 + 1))), (4, .int (c6 + 1)), (8, .int gv), (7, .int (nI k32)), (5, .int (nI (lq5 - 1))), (0, .ref h), (2, .int ix), (3, .int r1)] := hl
                  refine lv_goto (tgt := 46) hx hb xd_Mo_provider_162 (by decide) ?_
                  exact ih27 (i6 + 1, (c6 + 1)) _ _ _ (show 12 * (lq5 - 1) + mdk - (i6 + 1) < 12 * (lq5 - 1) + mdk - i6 by omega) (lv_sub hl [0, 4, 1, 5, 6, 7] rfl) hP hD hS ⟨(show 12 * (lq5 - 1) ≤ (i6 + 1) from by first | assumption | omega), (show (i6 + 1) ≤ 12 * (lq5 - 1) + mdk from by first | assumption | omega)⟩
              · refine lv_bipush (v := 16) hx hb xd_Mo_provider_134 (by decide) ?_
                refine lv_iload hx hb xd_Mo_provider_136 (lv_at hl 3 rfl) ?_
                refine lv_imul hx hb xd_Mo_provider_138 ?_
                refine xn_top (y := nI (16 * (lq5 - 1))) (pk_mul 16 (lq5 - 1)) ?_
                refine lv_iload hx hb xd_Mo_provider_139 (lv_at hl 1 rfl) ?_
                refine lv_iadd hx hb xd_Mo_provider_141 ?_
                refine xn_top (y := nI ((16 * (lq5 - 1)) + k32)) (nI_add (16 * (lq5 - 1)) k32) ?_
                exact W.iret (v := (nI ((16 * (lq5 - 1)) + k32))) hx hb hr (fun t ht hW => ⟨⟨(nI ((16 * (lq5 - 1)) + k32)), ((va_up (va_up (va_up v 0 0) 2 0) 3 (nI wn)), g5), rfl, ⟨MI_v rfl rfl hM1, rfl, rfl, rfl, rfl, fun j h1 h2 h3 => hgk j h1 h2⟩, by rw [ht]; exact hP, hD⟩, hS.F ht⟩) hS.2.2 xd_Mo_provider_142
          refine lv_aload_n hx hb xd_Mo_provider_73 rfl (lv_at hl 4 rfl) ?_
          refine va_get (D := D) (ci := 4) (v := .ref (mm 15)) (C := xR_Mo) (T := xT_Mo) (N := 31) hx hb hT xi_Mo hown hK.1 hP 0 rfl rfl 20 (by decide) (hT _ k4r_49) (fun _ h9 => h9) rfl xd_Mo_provider_74 ?_
          refine lv_iconst (v := 3) hx hb xd_Mo_provider_77 (by decide) ?_
          refine lv_iload hx hb xd_Mo_provider_78 (lv_at hl 0 rfl) ?_
          refine lv_imul hx hb xd_Mo_provider_80 ?_
          refine xn_top (y := nI (3 * k32)) (pk_mul 3 k32) ?_
          refine xn_iald (i := 3 * k32) hx hb hK.1 hP 16 0 rfl rfl (by omega) (by decide) xd_Mo_provider_81 ?_
          refine lv_iload_n hx hb xd_Mo_provider_82 rfl (lv_at hl 6 rfl) ?_
          refine lv_icmp_eq (tgt := 116) hx hb xd_Mo_provider_83 (by decide) (fun hc40 => ?_) (fun hc40 => ?_)
          · refine lv_iconst (v := 1) hx hb xd_Mo_provider_116 (by decide) ?_
            refine lv_goto (tgt := 121) hx hb xd_Mo_provider_117 (by decide) ?_
            refine lv_istore hx hb xd_Mo_provider_121 hl (Nat.le_of_ble_eq_true rfl) rfl (fun ls hl => ?_)
            have hl : lv_has ls 9 [(8, .int 1), (7, .int (nI k32)), (6, .int (nI i6)), (5, .int (nI (lq5 - 1))), (4, .int c6), (0, .ref h), (2, .int ix), (3, .int r1)] := hl
            exact jn35 1 _ _ _ (lv_sub hl [0, 1, 2, 3, 4, 5, 6, 7] rfl) hP hD hS trivial
          · refine lv_aload_n hx hb xd_Mo_provider_86 rfl (lv_at hl 4 rfl) ?_
            refine va_get (D := D) (ci := 4) (v := .ref (mm 15)) (C := xR_Mo) (T := xT_Mo) (N := 31) hx hb hT xi_Mo hown hK.1 hP 0 rfl rfl 20 (by decide) (hT _ k4r_49) (fun _ h9 => h9) rfl xd_Mo_provider_87 ?_
            refine lv_iconst (v := 3) hx hb xd_Mo_provider_90 (by decide) ?_
            refine lv_iload hx hb xd_Mo_provider_91 (lv_at hl 0 rfl) ?_
            refine lv_imul hx hb xd_Mo_provider_93 ?_
            refine xn_top (y := nI (3 * k32)) (pk_mul 3 k32) ?_
            refine lv_iconst (v := 1) hx hb xd_Mo_provider_94 (by decide) ?_
            refine lv_iadd hx hb xd_Mo_provider_95 ?_
            refine xn_top (y := nI ((3 * k32) + 1)) (nI_add (3 * k32) 1) ?_
            refine xn_iald (i := (3 * k32) + 1) hx hb hK.1 hP 16 0 rfl rfl (by omega) (by decide) xd_Mo_provider_96 ?_
            refine lv_iload_n hx hb xd_Mo_provider_97 rfl (lv_at hl 6 rfl) ?_
            refine lv_icmp_eq (tgt := 116) hx hb xd_Mo_provider_98 (by decide) (fun hc41 => ?_) (fun hc41 => ?_)
            · refine lv_iconst (v := 1) hx hb xd_Mo_provider_116 (by decide) ?_
              refine lv_goto (tgt := 121) hx hb xd_Mo_provider_117 (by decide) ?_
              refine lv_istore hx hb xd_Mo_provider_121 hl (Nat.le_of_ble_eq_true rfl) rfl (fun ls hl => ?_)
              have hl : lv_has ls 9 [(8, .int 1), (7, .int (nI k32)), (6, .int (nI i6)), (5, .int (nI (lq5 - 1))), (4, .int c6), (0, .ref h), (2, .int ix), (3, .int r1)] := hl
              exact jn35 1 _ _ _ (lv_sub hl [0, 1, 2, 3, 4, 5, 6, 7] rfl) hP hD hS trivial
            · refine lv_aload_n hx hb xd_Mo_provider_101 rfl (lv_at hl 4 rfl) ?_
              refine va_get (D := D) (ci := 4) (v := .ref (mm 15)) (C := xR_Mo) (T := xT_Mo) (N := 31) hx hb hT xi_Mo hown hK.1 hP 0 rfl rfl 20 (by decide) (hT _ k4r_49) (fun _ h9 => h9) rfl xd_Mo_provider_102 ?_
              refine lv_iconst (v := 3) hx hb xd_Mo_provider_105 (by decide) ?_
              refine lv_iload hx hb xd_Mo_provider_106 (lv_at hl 0 rfl) ?_
              refine lv_imul hx hb xd_Mo_provider_108 ?_
              refine xn_top (y := nI (3 * k32)) (pk_mul 3 k32) ?_
              refine lv_iconst (v := 2) hx hb xd_Mo_provider_109 (by decide) ?_
              refine lv_iadd hx hb xd_Mo_provider_110 ?_
              refine xn_top (y := nI ((3 * k32) + 2)) (nI_add (3 * k32) 2) ?_
              refine xn_iald (i := (3 * k32) + 2) hx hb hK.1 hP 16 0 rfl rfl (by omega) (by decide) xd_Mo_provider_111 ?_
              refine lv_iload_n hx hb xd_Mo_provider_112 rfl (lv_at hl 6 rfl) ?_
              refine lv_icmp_ne (tgt := 120) hx hb xd_Mo_provider_113 (by decide) (fun hc42 => ?_) (fun hc42 => ?_)
              · refine lv_iconst (v := 0) hx hb xd_Mo_provider_120 (by decide) ?_
                refine lv_istore hx hb xd_Mo_provider_121 hl (Nat.le_of_ble_eq_true rfl) rfl (fun ls hl => ?_)
                have hl : lv_has ls 9 [(8, .int 0), (7, .int (nI k32)), (6, .int (nI i6)), (5, .int (nI (lq5 - 1))), (4, .int c6), (0, .ref h), (2, .int ix), (3, .int r1)] := hl
                exact jn35 0 _ _ _ (lv_sub hl [0, 1, 2, 3, 4, 5, 6, 7] rfl) hP hD hS trivial
              · refine lv_iconst (v := 1) hx hb xd_Mo_provider_116 (by decide) ?_
                refine lv_goto (tgt := 121) hx hb xd_Mo_provider_117 (by decide) ?_
                refine lv_istore hx hb xd_Mo_provider_121 hl (Nat.le_of_ble_eq_true rfl) rfl (fun ls hl => ?_)
                have hl : lv_has ls 9 [(8, .int 1), (7, .int (nI k32)), (6, .int (nI i6)), (5, .int (nI (lq5 - 1))), (4, .int c6), (0, .ref h), (2, .int ix), (3, .int r1)] := hl
                exact jn35 1 _ _ _ (lv_sub hl [0, 1, 2, 3, 4, 5, 6, 7] rfl) hP hD hS trivial
set_option maxHeartbeats 4000000 in
set_option maxRecDepth 100000 in
theorem xc_Mo_writeK (l : Launch) (D : va_G) (kA : Nat → ClassId) (sz h : Nat) (mm : Nat → Nat) (v : Nat → Int32) (g : Nat → Nat → Int32) (cc9 : Int32) (wr : Nat) (hMI : MI v g) (hwr : v 2 = nI wr) (hwr40 : wr ≤ 40) : Met l xy_Mo_write (.code xy_Mo_write xb_Mo_write 2 (some .boolean) :: wT) { frames := 0, cells := 0, slots := 0, locals := 0 } (va_Pc [.ref h, .int cc9] (xPre D kA sz (moW h mm kA v g))) (va_Qi (fun (r : Int32) (u : (Nat → Int32) × (Nat → Nat → Int32)) => MI u.1 u.2 ∧ u.1 1 = v 1 ∧ u.1 4 = v 4 ∧ u.1 5 = v 5 ∧ ((u.1 2 = nI wr ∧ u.2 = g ∧ r = 0 ∧ (cc9 < 32 ∨ 126 < cc9 ∨ wr = 40)) ∨ (u.1 2 = nI (wr + 1) ∧ u.2 = va_up g 0 (upd (g 0) wr (vp_nar .char cc9)) ∧ r = 1 ∧ wr < 40 ∧ ¬ cc9 < 32 ∧ ¬ 126 < cc9))) (fun (u : (Nat → Int32) × (Nat → Nat → Int32)) t => va_P D xcl (moW h mm kA u.1 u.2) t.heap ∧ va_D (va_A (moW h mm kA v g) sz) (moW h mm kA u.1 u.2)) (va_A (moW h mm kA v g) sz)) 0 0 (va_A (moW h mm kA v g) sz) := by
  refine Met.ofW (cc := xb_Mo_write) (maxL := 2) (ret := (some .boolean)) (by decide) rfl ?_
  intro p e s m args below meth c s₁ B hml hv
  obtain ⟨rfl, hsz, hP, hK, hD0⟩ := hv
  have hx := B.exec
  have hb := B.bytes
  have hr := B.returns
  have hT := x_hT B.pre
  have hown : s.vm.findClass xR_Mo = some m.cls := findClass_of_methodNamed B.named
  have hlocks := B.notSynchronized
  subst hsz
  have hD := hD0.self (sz := s.heap.size)
  generalize hAe : va_A (moW h mm kA v g) s.heap.size = A at hD ⊢
  have hA : ∀ q : Nat, s.heap.size ≤ q → A q := fun q h => by rw [← hAe]; exact Or.inr h
  have hS : va_S A s.heap s.heap [] := va_S.rf
  have hl := lv_entry ([.ref h, .int cc9]) (n := 2) (Nat.le_of_ble_eq_true rfl)
  rw [lg_entry_eq]
  generalize (lg_sl ([.ref h, .int cc9]) ++ List.replicate (2 - (lg_sl ([.ref h, .int cc9])).length) Slot.unset).toArray = ls at hl ⊢
  have hl : lv_has ls 2 [(0, .ref h), (1, .int cc9)] := hl
  have hP : va_P D xcl (moW h mm kA v g) s.heap := hP
  refine lv_aload_n hx hb xd_Mo_write_0 rfl (lv_at hl 0 rfl) ?_
  refine lv_iconst (v := 0) hx hb xd_Mo_write_1 (by decide) ?_
  refine va_put (D := D) (ci := 4) (v := .int 0) (ty := .int) (C := xR_Mo) (T := xT_Mo) (N := 31) hx hb hT xi_Mo xt_Mo xt_Mo_ok xn_Mo hown hK.1 hP hD hS 0 rfl rfl 0 (by decide) (hT _ k4r_0) (fun _ h9 => h9) rfl (by decide +kernel) rfl rfl (Nat.le_of_ble_eq_true rfl) xd_Mo_write_2 (fun H locs hP hD hS => ?_)
  have hP : va_P D xcl (moW h mm kA (va_up v 0 0) g) H := hP
  have hD : va_D A (moW h mm kA (va_up v 0 0) g) := hD
  refine lv_iload_n hx hb xd_Mo_write_5 rfl (lv_at hl 1 rfl) ?_
  refine lv_bipush (v := 32) hx hb xd_Mo_write_6 (by decide) ?_
  refine lv_icmp_lt (tgt := 26) hx hb xd_Mo_write_8 (by decide) (fun hc1 => ?_) (fun hc1 => ?_)
  · refine lv_iconst (v := 0) hx hb xd_Mo_write_26 (by decide) ?_
    exact W.zret (v := 0) hx hb hr rfl (fun t ht hW => ⟨⟨0, ((va_up v 0 0), g), rfl, ⟨MI_v rfl rfl hMI, rfl, rfl, rfl, Or.inl ⟨hwr, rfl, rfl, Or.inl hc1⟩⟩, by rw [ht]; exact hP, hD⟩, hS.F ht⟩) hS.2.2 xd_Mo_write_27
  · refine lv_iload_n hx hb xd_Mo_write_11 rfl (lv_at hl 1 rfl) ?_
    refine lv_bipush (v := 126) hx hb xd_Mo_write_12 (by decide) ?_
    refine lv_icmp_gt (tgt := 26) hx hb xd_Mo_write_14 (by decide) (fun hc2 => ?_) (fun hc2 => ?_)
    · refine lv_iconst (v := 0) hx hb xd_Mo_write_26 (by decide) ?_
      exact W.zret (v := 0) hx hb hr rfl (fun t ht hW => ⟨⟨0, ((va_up v 0 0), g), rfl, ⟨MI_v rfl rfl hMI, rfl, rfl, rfl, Or.inl ⟨hwr, rfl, rfl, Or.inr (Or.inl hc2)⟩⟩, by rw [ht]; exact hP, hD⟩, hS.F ht⟩) hS.2.2 xd_Mo_write_27
    · refine lv_aload_n hx hb xd_Mo_write_17 rfl (lv_at hl 0 rfl) ?_
      refine va_get (D := D) (ci := 4) (v := .int (v 2)) (C := xR_Mo) (T := xT_Mo) (N := 31) hx hb hT xi_Mo hown hK.1 hP 0 rfl rfl 3 (by decide) (hT _ k4r_50) (fun _ h9 => h9) rfl xd_Mo_write_18 ?_
      refine xn_top (x := (v 2)) (y := nI wr) hwr ?_
      refine lv_bipush (v := 40) hx hb xd_Mo_write_21 (by decide) ?_
      refine xn_lt (a := wr) (b := 40) (tgt := 28) hx hb xd_Mo_write_23 (by decide) (by omega) (by omega) (fun hc3 => ?_) (fun hc3 => ?_)
      · refine lv_aload_n hx hb xd_Mo_write_28 rfl (lv_at hl 0 rfl) ?_
        refine va_get (D := D) (ci := 4) (v := .ref (mm 0)) (C := xR_Mo) (T := xT_Mo) (N := 31) hx hb hT xi_Mo hown hK.1 hP 0 rfl rfl 2 (by decide) (hT _ k4r_51) (fun _ h9 => h9) rfl xd_Mo_write_29 ?_
        refine lv_aload_n hx hb xd_Mo_write_32 rfl (lv_at hl 0 rfl) ?_
        refine va_get (D := D) (ci := 4) (v := .int (v 2)) (C := xR_Mo) (T := xT_Mo) (N := 31) hx hb hT xi_Mo hown hK.1 hP 0 rfl rfl 3 (by decide) (hT _ k4r_50) (fun _ h9 => h9) rfl xd_Mo_write_33 ?_
        refine xn_top (x := (v 2)) (y := nI wr) hwr ?_
        refine lv_iload_n hx hb xd_Mo_write_36 rfl (lv_at hl 1 rfl) ?_
        refine xn_cast (i := wr) hx hb hK.1 hP hD hS 1 1 rfl rfl (by omega) (by decide) xd_Mo_write_37 (fun H locs hP hD hS => ?_)
        have hP : va_P D xcl (moW h mm kA (va_up v 0 0) (va_up g 0 (upd (g 0) wr (vp_nar .char cc9)))) H := hP
        have hD : va_D A (moW h mm kA (va_up v 0 0) (va_up g 0 (upd (g 0) wr (vp_nar .char cc9)))) := hD
        refine lv_aload_n hx hb xd_Mo_write_38 rfl (lv_at hl 0 rfl) ?_
        refine lv_dup hx hb xd_Mo_write_39 rfl ?_
        refine va_get (D := D) (ci := 4) (v := .int (v 2)) (C := xR_Mo) (T := xT_Mo) (N := 31) hx hb hT xi_Mo hown hK.1 hP 0 rfl rfl 3 (by decide) (hT _ k4r_50) (fun _ h9 => h9) rfl xd_Mo_write_40 ?_
        refine xn_top (x := (v 2)) (y := nI wr) hwr ?_
        refine lv_iconst (v := 1) hx hb xd_Mo_write_43 (by decide) ?_
        refine lv_iadd hx hb xd_Mo_write_44 ?_
        refine xn_top (y := nI (wr + 1)) (nI_add wr 1) ?_
        refine va_put (D := D) (ci := 4) (v := .int (nI (wr + 1))) (ty := .int) (C := xR_Mo) (T := xT_Mo) (N := 31) hx hb hT xi_Mo xt_Mo xt_Mo_ok xn_Mo hown hK.1 hP hD hS 0 rfl rfl 3 (by decide) (hT _ k4r_50) (fun _ h9 => h9) rfl (by decide +kernel) rfl rfl (Nat.le_of_ble_eq_true rfl) xd_Mo_write_45 (fun H locs hP hD hS => ?_)
        have hP : va_P D xcl (moW h mm kA (va_up (va_up v 0 0) 2 (nI (wr + 1))) (va_up g 0 (upd (g 0) wr (vp_nar .char cc9)))) H := hP
        have hD : va_D A (moW h mm kA (va_up (va_up v 0 0) 2 (nI (wr + 1))) (va_up g 0 (upd (g 0) wr (vp_nar .char cc9)))) := hD
        refine lv_iconst (v := 1) hx hb xd_Mo_write_48 (by decide) ?_
        exact W.zret (v := 1) hx hb hr rfl (fun t ht hW => ⟨⟨1, ((va_up (va_up v 0 0) 2 (nI (wr + 1))), (va_up g 0 (upd (g 0) wr (vp_nar .char cc9)))), rfl, ⟨MI_v (v := v) rfl rfl (MI_tx (by omega) hMI), rfl, rfl, rfl, Or.inr ⟨rfl, rfl, rfl, by omega, hc1, hc2⟩⟩, by rw [ht]; exact hP, hD⟩, hS.F ht⟩) hS.2.2 xd_Mo_write_49
      · refine lv_iconst (v := 0) hx hb xd_Mo_write_26 (by decide) ?_
        exact W.zret (v := 0) hx hb hr rfl (fun t ht hW => ⟨⟨0, ((va_up v 0 0), g), rfl, ⟨MI_v rfl rfl hMI, rfl, rfl, rfl, Or.inl ⟨hwr, rfl, rfl, Or.inr (Or.inr (by omega))⟩⟩, by rw [ht]; exact hP, hD⟩, hS.F ht⟩) hS.2.2 xd_Mo_write_27
def moQ (g : gT) (nl : Nat) (ly kx : Int32) (la kn : Nat) : Prop := la < nl ∧ ly = nI la ∧ ¬ g 22 la = 0 ∧ kx = nI kn ∧ kn < mcv g la
def moA (g : gT) (nl : Nat) (ly kx r : Int32) : Prop := (r = -1 ∧ ¬ ∃ la kn, moQ g nl ly kx la kn) ∨ ∃ la kn, moQ g nl ly kx la kn ∧ r = nI (mdv g la kn) ∧ mdv g la kn < 12
theorem nI_inj9 {a b : Nat} (ha : a < 2147483648) (hb : b < 2147483648) (h : nI a = nI b) : a = b := (nI_eq (by rw [xb_31]; exact ha) (by rw [xb_31]; exact hb)).mp h
theorem moQ_u {g : gT} {nl la la2 kn kn2 : Nat} {ly kx : Int32} (hn : nl ≤ 6) (hm : ∀ la, la < nl → mcv g la ≤ 12) (h : moQ g nl ly kx la kn) (h2 : moQ g nl ly kx la2 kn2) : la = la2 ∧ kn = kn2 := by
  obtain ⟨a1, a2, _, a4, a5⟩ := h
  obtain ⟨b1, b2, _, b4, b5⟩ := h2
  have q1 := hm la a1
  have q2 := hm la2 b1
  exact ⟨nI_inj9 (by omega) (by omega) (a2.symm.trans b2), nI_inj9 (by omega) (by omega) (a4.symm.trans b4)⟩
theorem gX24 {g g2 : gT} (h : ∀ j, j ≠ 24 → g2 j = g j) : g2 = va_up g 24 (g2 24) := g24 h
theorem gX12 {g g2 : gT} (h : ∀ j, j ≠ 1 → j ≠ 2 → g2 j = g j) : g2 = va_up (va_up g 1 (g2 1)) 2 (g2 2) := by
  funext j
  by_cases e1 : j = 1
  · subst e1; rfl
  · by_cases e2 : j = 2
    · subst e2; rfl
    · rw [h j e1 e2]; simp [va_up, e1, e2]
noncomputable def n1 (t : Nat → Int32) (wl : List (Nat × Nat)) : Int32 := cif (wl.length = 1) (wN t wl 0) 0
def srQ (g : gT) (la d : Nat) (nm : Int32) (m : Nat) : Prop := m < 72 ∧ rdQ g la d m ∧ ∃ i, pI g (m % 12) nm = some i ∧ exP g (6 * (m % 12) + i) (g 4 d)
def ldA (g : gT) (nl : Nat) (nm ly kx c r : Int32) : Prop := (c = 1 ∧ (nm = 0 ∨ ¬ ∃ la kn, moQ g nl ly kx la kn)) ∨ (¬ nm = 0 ∧ ∃ la kn, moQ g nl ly kx la kn ∧ ((c = 0 ∧ (∃ i, pI g (mdv g la kn) nm = some i) ∧ r = nI (16 * la + mdv g la kn)) ∨ ((¬ ∃ i, pI g (mdv g la kn) nm = some i) ∧ ((c = 2 ∧ ¬ ∃ m, srQ g la (mdv g la kn) nm m) ∨ (c = 0 ∧ ∃ m, srQ g la (mdv g la kn) nm m ∧ r = nI (16 * (m / 12) + m % 12))))))
theorem ldA_u {g : gT} {nl : Nat} {nm ly kx c r c2 r2 : Int32} (hn : nl ≤ 6) (hm : ∀ la, la < nl → mcv g la ≤ 12) (hs : ∀ la, la < nl → ∀ k, k < mcv g la → ∀ m m2, srQ g la (mdv g la k) nm m → srQ g la (mdv g la k) nm m2 → m = m2) (h : ldA g nl nm ly kx c r) (h2 : ldA g nl nm ly kx c2 r2) : c = c2 ∧ (c = 0 → r = r2) := by
  rcases h with ⟨h, n⟩ | ⟨n, la, kn, q1, e⟩ <;> rcases h2 with ⟨h2, n2⟩ | ⟨n2, la2, kn2, w1, e2⟩
  · exact ⟨by rw [h, h2], fun z => absurd (h.symm.trans z) (by decide)⟩
  · rcases n with n | n
    · exact absurd n n2
    · exact absurd ⟨_, _, w1⟩ n
  · rcases n2 with n2 | n2
    · exact absurd n2 n
    · exact absurd ⟨_, _, q1⟩ n2
  · obtain ⟨z1, z2⟩ := moQ_u hn hm q1 w1
    subst z1
    subst z2
    rcases e with ⟨e, f, fr⟩ | ⟨f, e⟩ <;> rcases e2 with ⟨e2, k, kr⟩ | ⟨k, e2⟩
    · exact ⟨by rw [e, e2], fun _ => by rw [fr, kr]⟩
    · exact absurd f k
    · exact absurd k f
    · rcases e with ⟨e, a⟩ | ⟨e, m, a, b⟩ <;> rcases e2 with ⟨e2, a2⟩ | ⟨e2, m2, a2, b2⟩
      · exact ⟨by rw [e, e2], fun z => absurd (e.symm.trans z) (by decide)⟩
      · exact absurd ⟨m2, a2⟩ a
      · exact absurd ⟨m, a⟩ a2
      · exact ⟨by rw [e, e2], fun _ => by rw [b, b2, hs la q1.1 kn q1.2.2.2.2 m m2 a a2]⟩
theorem k4t_2 : (Cond.code xy_Mo_isOpen xb_Mo_isOpen 2 (some .boolean)) ∈ wT := wT_t (List.mem_append_right _ (List.mem_append_right _ (List.mem_append_right _ (List.mem_append_right _ (List.mem_of_getElem? (i := 12) rfl))))) rfl
theorem k4t_3 : (Cond.methodLink "LayerDeskModel" 190 xy_Mo_isOpen) ∈ wT := wT_t (List.mem_append_right _ (List.mem_append_right _ (List.mem_append_right _ (List.mem_append_right _ (List.mem_of_getElem? (i := 9) rfl))))) rfl
theorem k4t_4 : (Cond.instanceMethod xy_Mo_isOpen) ∈ wT := wT_t (List.mem_append_right _ (List.mem_append_right _ (List.mem_append_right _ (List.mem_append_right _ (List.mem_of_getElem? (i := 11) rfl))))) rfl
theorem k4t_5 : (Cond.selects "LayerDeskModel" xy_Mo_isOpen xy_Mo_isOpen) ∈ wT := wT_s (q := (xy_Mo_isOpen, 31)) (by decide +kernel) rfl
theorem k4t_6 : (Cond.initialized "LayerDeskModel") ∈ wT := wT_t (List.mem_append_left _ (List.mem_of_getElem? (i := 5) rfl)) rfl
theorem k4t_11 : (Cond.fieldLink "LayerDeskModel" 72 "LayerDeskModel" "modules" "[I") ∈ wT := wT_t (List.mem_append_right _ (List.mem_append_right _ (List.mem_append_right _ (List.mem_append_left _ (List.mem_of_getElem? (i := 110) rfl))))) rfl
theorem k4t_12 : (Cond.fieldLink "LayerDeskModel" 75 "LayerDeskModel" "module" "[I") ∈ wT := wT_t (List.mem_append_right _ (List.mem_append_right _ (List.mem_append_right _ (List.mem_append_left _ (List.mem_of_getElem? (i := 111) rfl))))) rfl
set_option maxHeartbeats 4000000 in
set_option maxRecDepth 100000 in
theorem xc_Mo_moduleOfA (l : Launch) (D : va_G) (kA : Nat → ClassId) (sz h : Nat) (mm : Nat → Nat) (v : Nat → Int32) (g : Nat → Nat → Int32) (ly : Int32) (kx : Int32) (nl : Nat) (hnl : v 5 = nI nl) (hnl5 : nl ≤ 5) (hmd : ∀ la, la < 6 → ∃ k, k ≤ 12 ∧ g 20 la = nI k ∧ ∀ j, j < k → ∃ d, d < 12 ∧ g 21 (12 * la + j) = nI d) : Met l xy_Mo_moduleOf (.code xy_Mo_moduleOf xb_Mo_moduleOf 3 (some .int) :: wT) { frames := 1, cells := 0, slots := 0, locals := 21 } (va_Pc [.ref h, .int ly, .int kx] (xPre D kA sz (moW h mm kA v g))) (va_Qi (fun (r : Int32) (u : Unit) => moA g nl ly kx r) (fun (u : Unit) t => va_P D xcl (moW h mm kA v g) t.heap ∧ va_D (va_A (moW h mm kA v g) sz) (moW h mm kA v g)) (va_A (moW h mm kA v g) sz)) 0 0 (va_A (moW h mm kA v g) sz) := by
  refine Met.ofW (cc := xb_Mo_moduleOf) (maxL := 3) (ret := (some .int)) (by decide) rfl ?_
  intro p e s m args below meth c s₁ B hml hv
  obtain ⟨rfl, hsz, hP, hK, hD0⟩ := hv
  have hx := B.exec
  have hb := B.bytes
  have hr := B.returns
  have hT := x_hT B.pre
  have hown : s.vm.findClass xR_Mo = some m.cls := findClass_of_methodNamed B.named
  have hlocks := B.notSynchronized
  subst hsz
  have hD := hD0.self (sz := s.heap.size)
  generalize hAe : va_A (moW h mm kA v g) s.heap.size = A at hD ⊢
  have hA : ∀ q : Nat, s.heap.size ≤ q → A q := fun q h => by rw [← hAe]; exact Or.inr h
  have hS : va_S A s.heap s.heap [] := va_S.rf
  have hl := lv_entry ([.ref h, .int ly, .int kx]) (n := 3) (Nat.le_of_ble_eq_true rfl)
  rw [lg_entry_eq]
  generalize (lg_sl ([.ref h, .int ly, .int kx]) ++ List.replicate (3 - (lg_sl ([.ref h, .int ly, .int kx])).length) Slot.unset).toArray = ls at hl ⊢
  have hl : lv_has ls 3 [(0, .ref h), (1, .int ly), (2, .int kx)] := hl
  have hP : va_P D xcl (moW h mm kA v g) s.heap := hP
  refine lv_aload_n hx hb xd_Mo_moduleOf_0 rfl (lv_at hl 0 rfl) ?_
  refine lv_iload_n hx hb xd_Mo_moduleOf_1 rfl (lv_at hl 1 rfl) ?_
  have hFc := va_free (wc := (moW h mm kA v g)) hD hS hA [0, 1, 2, 3, 4, 5, 6, 7, 8, 9, 10, 11, 12, 13, 14, 15, 16, 17, 18, 19, 20, 21, 22, 23, 24, 25] rfl
  refine va_calli (va_runV (As := [.int ly]) (rest := []) ⟨hx, hb, hml, hown, hT⟩ (xc_Mo_isOpenX l D kA s.heap.size h mm v g ly nl (by first | assumption | omega) (by first | assumption | omega)) (cwV 1 hT (wT_V k4t_3 k4t_4 k4t_5 k4t_6 k4t_2) rfl rfl rfl (by decide +kernel) ⟨Nat.le_of_ble_eq_true rfl, Nat.le_of_ble_eq_true rfl⟩) (x_preV hK hP hD 0 rfl rfl) rfl rfl hl.1 rfl (lv_room (Nat.le_of_ble_eq_true rfl)) xd_Mo_moduleOf_2 ⟨Nat.le_of_ble_eq_true rfl, Nat.le_of_ble_eq_true rfl⟩) hS (fun q _ h => hFc q h) hFc (fun r1 u2 t H1 locs ht hvm hp3 hB hz1 hk1 hS => ?_)
  obtain ⟨hP1, hD1⟩ := hB
  rw [ht] at hP1
  have hD1 := hD1.weaken (fun _ _ _ h => hFc _ h)
  generalize H1 = H at hP1 hS ⊢
  have hP := hP1
  have hD := hD1
  have hP : va_P D xcl (moW h mm kA v g) H := hP
  have hD : va_D A (moW h mm kA v g) := hD
  rcases hp3 with ⟨rfl, z4⟩ | ⟨rfl, z5, z6, z7, z8⟩
  · refine xz_eq (a := 0) (tgt := 36) hx hb xd_Mo_moduleOf_5 (by decide) (by omega) (fun _ => ?_) (fun hc9 => absurd hc9 (by omega))
    refine lv_iconst (v := (-1)) hx hb xd_Mo_moduleOf_36 (by decide) ?_
    exact W.iret (v := (-1)) hx hb hr (fun t ht hW => ⟨⟨(-1), (), rfl, Or.inl ⟨rfl, fun ⟨la9, kn9, q⟩ => z4 ⟨la9, q.1, q.2.1, q.2.2.1⟩⟩, by rw [ht]; exact hP, hD⟩, hS.F ht⟩) hS.2.2 xd_Mo_moduleOf_37
  · rw [z7] at hl
    have hl : lv_has ls 3 [(0, .ref h), (1, .int (nI z5)), (2, .int kx)] := hl
    refine xz_eq (a := 1) (tgt := 36) hx hb xd_Mo_moduleOf_5 (by decide) (by omega) (fun hc10 => absurd hc10 (by omega)) (fun _ => ?_)
    refine lv_iload_n hx hb xd_Mo_moduleOf_8 rfl (lv_at hl 2 rfl) ?_
    refine lv_if_lt (tgt := 36) hx hb xd_Mo_moduleOf_9 (by decide) (fun hc11 => ?_) (fun hc11 => ?_)
    · refine lv_iconst (v := (-1)) hx hb xd_Mo_moduleOf_36 (by decide) ?_
      exact W.iret (v := (-1)) hx hb hr (fun t ht hW => ⟨⟨(-1), (), rfl, Or.inl ⟨rfl, fun ⟨la9, kn9, q⟩ => absurd (show nI kn9 < 0 by rw [← q.2.2.2.1]; exact hc11) (nI_pos (by rw [xb_31]; have z1 := q.2.2.2.2; have z2 := q.1; obtain ⟨mdk, hmdk, emdk, _⟩ := hmd la9 (by omega); unfold mcv at z1; rw [emdk, iN_nI (by omega)] at z1; omega))⟩, by rw [ht]; exact hP, hD⟩, hS.F ht⟩) hS.2.2 xd_Mo_moduleOf_37
    · obtain ⟨kn, hkn31, hkx⟩ := nI_of hc11
      rw [xb_31] at hkn31
      rw [hkx] at hl
      obtain ⟨mdk, hmdk, emdk, hent⟩ := hmd z5 (by omega)
      refine lv_iload_n hx hb xd_Mo_moduleOf_12 rfl (lv_at hl 2 rfl) ?_
      refine lv_aload_n hx hb xd_Mo_moduleOf_13 rfl (lv_at hl 0 rfl) ?_
      refine va_get (D := D) (ci := 4) (v := .ref (mm 20)) (C := xR_Mo) (T := xT_Mo) (N := 31) hx hb hT xi_Mo hown hK.1 hP 0 rfl rfl 26 (by decide) (hT _ k4t_11) (fun _ h9 => h9) rfl xd_Mo_moduleOf_14 ?_
      refine lv_iload_n hx hb xd_Mo_moduleOf_17 rfl (lv_at hl 1 rfl) ?_
      refine xn_iald (i := z5) hx hb hK.1 hP 21 0 rfl rfl (by omega) (by decide) xd_Mo_moduleOf_18 ?_
      refine xn_top (x := (g 20 z5)) (y := nI mdk) emdk ?_
      refine xn_ge (a := kn) (b := mdk) (tgt := 36) hx hb xd_Mo_moduleOf_19 (by decide) (by omega) (by omega) (fun hc12 => ?_) (fun hc12 => ?_)
      · refine lv_iconst (v := (-1)) hx hb xd_Mo_moduleOf_36 (by decide) ?_
        exact W.iret (v := (-1)) hx hb hr (fun t ht hW => ⟨⟨(-1), (), rfl, Or.inl ⟨rfl, fun ⟨la9, kn9, q⟩ => by
        obtain ⟨q1, q2, q3, q4, q5⟩ := q
        have e1 := nI_inj9 (by omega) (by omega) (z7.symm.trans q2)
        rw [← e1] at q5
        unfold mcv at q5
        rw [emdk, iN_nI (by omega)] at q5
        have e2 := nI_inj9 (by omega) (by omega) (hkx.symm.trans q4)
        omega⟩, by rw [ht]; exact hP, hD⟩, hS.F ht⟩) hS.2.2 xd_Mo_moduleOf_37
      · refine lv_aload_n hx hb xd_Mo_moduleOf_22 rfl (lv_at hl 0 rfl) ?_
        refine va_get (D := D) (ci := 4) (v := .ref (mm 21)) (C := xR_Mo) (T := xT_Mo) (N := 31) hx hb hT xi_Mo hown hK.1 hP 0 rfl rfl 27 (by decide) (hT _ k4t_12) (fun _ h9 => h9) rfl xd_Mo_moduleOf_23 ?_
        refine lv_bipush (v := 12) hx hb xd_Mo_moduleOf_26 (by decide) ?_
        refine lv_iload_n hx hb xd_Mo_moduleOf_28 rfl (lv_at hl 1 rfl) ?_
        refine lv_imul hx hb xd_Mo_moduleOf_29 ?_
        refine xn_top (y := nI (12 * z5)) (pk_mul 12 z5) ?_
        refine lv_iload_n hx hb xd_Mo_moduleOf_30 rfl (lv_at hl 2 rfl) ?_
        refine lv_iadd hx hb xd_Mo_moduleOf_31 ?_
        refine xn_top (y := nI ((12 * z5) + kn)) (nI_add (12 * z5) kn) ?_
        refine xn_iald (i := (12 * z5) + kn) hx hb hK.1 hP 22 0 rfl rfl (by omega) (by decide) xd_Mo_moduleOf_32 ?_
        obtain ⟨k13, hk14, ek15⟩ := hent kn (by omega)
        refine xn_top (x := (g 21 ((12 * z5) + kn))) ek15 ?_
        refine lv_goto (tgt := 37) hx hb xd_Mo_moduleOf_33 (by decide) ?_
        exact W.iret (v := (nI k13)) hx hb hr (fun t ht hW => ⟨⟨(nI k13), (), rfl, Or.inr ⟨z5, kn, ⟨z6, z7, z8, hkx, by unfold mcv; rw [emdk, iN_nI (by omega)]; omega⟩, by rw [(show mdv g z5 kn = k13 from by unfold mdv; rw [ek15, iN_nI (by omega)])], by rw [(show mdv g z5 kn = k13 from by unfold mdv; rw [ek15, iN_nI (by omega)])]; exact hk14⟩, by rw [ht]; exact hP, hD⟩, hS.F ht⟩) hS.2.2 xd_Mo_moduleOf_37
