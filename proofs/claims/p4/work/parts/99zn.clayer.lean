theorem k6e_0 : (Cond.fieldLink "LayerDesk" 42 "LayerDesk" "latestFault" "I") ∈ wT := wT_t (List.mem_append_left _ (List.mem_of_getElem? (i := 104) rfl)) rfl
theorem k6e_1 : (Cond.fieldLink "LayerDesk" 10 "LayerDesk" "written" "LLayerDesk$Line;") ∈ wT := wT_t (List.mem_append_left _ (List.mem_of_getElem? (i := 99) rfl)) rfl
theorem k6e_2 : (Cond.code xy_Li_take xb_Li_take 3 none) ∈ wT := wT_t (List.mem_append_left _ (List.mem_of_getElem? (i := 190) rfl)) rfl
theorem k6e_3 : (Cond.methodLink "LayerDesk" 49 xy_Li_take) ∈ wT := wT_t (List.mem_append_left _ (List.mem_of_getElem? (i := 187) rfl)) rfl
theorem k6e_4 : (Cond.instanceMethod xy_Li_take) ∈ wT := wT_t (List.mem_append_left _ (List.mem_of_getElem? (i := 188) rfl)) rfl
theorem k6e_5 : (Cond.selects "LayerDesk$Line" xy_Li_take xy_Li_take) ∈ wT := wT_t (List.mem_append_left _ (List.mem_of_getElem? (i := 189) rfl)) rfl
theorem k6e_6 : (Cond.initialized "LayerDesk$Line") ∈ wT := wT_t (List.mem_append_left _ (List.mem_of_getElem? (i := 2) rfl)) rfl
theorem k6e_7 : (Cond.fieldLink "LayerDesk" 28 "LayerDesk" "chooser" "LLayerDesk$Chooser;") ∈ wT := wT_t (List.mem_append_left _ (List.mem_of_getElem? (i := 101) rfl)) rfl
theorem k6e_8 : (Cond.fieldLink "LayerDesk" 38 "LayerDesk" "made" "I") ∈ wT := wT_t (List.mem_append_left _ (List.mem_of_getElem? (i := 103) rfl)) rfl
theorem k6e_9 : (Cond.code xy_Ch_draft xb_Ch_draft 4 (some (.object "LayerDesk$Layer"))) ∈ wT := wT_t (List.mem_append_right _ (List.mem_append_right _ (List.mem_append_left _ (List.mem_of_getElem? (i := 130) rfl)))) rfl
theorem k6e_10 : (Cond.methodLink "LayerDesk" 97 xy_Ch_draft) ∈ wT := wT_t (List.mem_append_right _ (List.mem_append_right _ (List.mem_append_left _ (List.mem_of_getElem? (i := 127) rfl)))) rfl
theorem k6e_11 : (Cond.instanceMethod xy_Ch_draft) ∈ wT := wT_t (List.mem_append_right _ (List.mem_append_right _ (List.mem_append_left _ (List.mem_of_getElem? (i := 128) rfl)))) rfl
theorem k6e_12 : (Cond.selects "LayerDesk$Chooser" xy_Ch_draft xy_Ch_draft) ∈ wT := wT_t (List.mem_append_right _ (List.mem_append_right _ (List.mem_append_left _ (List.mem_of_getElem? (i := 129) rfl)))) rfl
theorem k6e_13 : (Cond.initialized "LayerDesk$Chooser") ∈ wT := wT_t (List.mem_append_left _ (List.mem_of_getElem? (i := 4) rfl)) rfl
theorem k6e_14 : (Cond.code xy_De_faultOf xb_De_faultOf 2 (some .int)) ∈ wT := wT_t (List.mem_append_right _ (List.mem_append_right _ (List.mem_append_right _ (List.mem_append_left _ (List.mem_of_getElem? (i := 3) rfl))))) rfl
theorem k6e_15 : (Cond.methodLink "LayerDesk" 100 xy_De_faultOf) ∈ wT := wT_t (List.mem_append_right _ (List.mem_append_right _ (List.mem_append_right _ (List.mem_append_left _ (List.mem_of_getElem? (i := 0) rfl))))) rfl
theorem k6e_16 : (Cond.instanceMethod xy_De_faultOf) ∈ wT := wT_t (List.mem_append_right _ (List.mem_append_right _ (List.mem_append_right _ (List.mem_append_left _ (List.mem_of_getElem? (i := 2) rfl))))) rfl
theorem k6e_17 : (Cond.selects "LayerDesk" xy_De_faultOf xy_De_faultOf) ∈ wT := wT_s (q := (xy_De_faultOf, 6)) (by decide +kernel) rfl
theorem k6e_18 : (Cond.initialized "LayerDesk") ∈ wT := wT_t (List.mem_append_left _ (List.mem_of_getElem? (i := 1) rfl)) rfl
theorem k6e_19 : (Cond.code xy_De_keep xb_De_keep 3 none) ∈ wT := wT_t (List.mem_append_right _ (List.mem_append_right _ (List.mem_append_right _ (List.mem_append_left _ (List.mem_of_getElem? (i := 31) rfl))))) rfl
theorem k6e_20 : (Cond.methodLink "LayerDesk" 106 xy_De_keep) ∈ wT := wT_t (List.mem_append_right _ (List.mem_append_right _ (List.mem_append_right _ (List.mem_append_left _ (List.mem_of_getElem? (i := 28) rfl))))) rfl
theorem k6e_21 : (Cond.instanceMethod xy_De_keep) ∈ wT := wT_t (List.mem_append_right _ (List.mem_append_right _ (List.mem_append_right _ (List.mem_append_left _ (List.mem_of_getElem? (i := 30) rfl))))) rfl
theorem k6e_22 : (Cond.selects "LayerDesk" xy_De_keep xy_De_keep) ∈ wT := wT_s (q := (xy_De_keep, 6)) (by decide +kernel) rfl
theorem k6e_23 : (Cond.fieldLink "LayerDesk" 110 "LayerDesk$Layer" "number" "I") ∈ wT := wT_t (List.mem_append_right _ (List.mem_append_right _ (List.mem_append_left _ (List.mem_of_getElem? (i := 141) rfl)))) rfl
theorem k6e_24 : (Cond.classLink "LayerDesk" 63 "java/lang/IllegalStateException") ∈ wT := wT_t (List.mem_append_right _ (List.mem_append_right _ (List.mem_append_left _ (List.mem_of_getElem? (i := 32) rfl)))) rfl
theorem k6e_25 : (Cond.initialized "java/lang/IllegalStateException") ∈ wT := wT_t (List.mem_append_left _ (List.mem_of_getElem? (i := 17) rfl)) rfl
theorem k6e_26 : (Cond.code xy_Ch_begin xb_Ch_begin 3 none) ∈ wT := wT_t (List.mem_append_right _ (List.mem_append_right _ (List.mem_append_left _ (List.mem_of_getElem? (i := 68) rfl)))) rfl
theorem k6e_27 : (Cond.methodLink "LayerDesk" 82 xy_Ch_begin) ∈ wT := wT_t (List.mem_append_right _ (List.mem_append_right _ (List.mem_append_left _ (List.mem_of_getElem? (i := 65) rfl)))) rfl
theorem k6e_28 : (Cond.instanceMethod xy_Ch_begin) ∈ wT := wT_t (List.mem_append_right _ (List.mem_append_right _ (List.mem_append_left _ (List.mem_of_getElem? (i := 66) rfl)))) rfl
theorem k6e_29 : (Cond.selects "LayerDesk$Chooser" xy_Ch_begin xy_Ch_begin) ∈ wT := wT_t (List.mem_append_right _ (List.mem_append_right _ (List.mem_append_left _ (List.mem_of_getElem? (i := 67) rfl)))) rfl
theorem k6e_30 : (Cond.code xy_De_addRoots xb_De_addRoots 2 (some .boolean)) ∈ wT := wT_t (List.mem_append_right _ (List.mem_append_right _ (List.mem_append_left _ (List.mem_of_getElem? (i := 72) rfl)))) rfl
theorem k6e_31 : (Cond.methodLink "LayerDesk" 86 xy_De_addRoots) ∈ wT := wT_t (List.mem_append_right _ (List.mem_append_right _ (List.mem_append_left _ (List.mem_of_getElem? (i := 69) rfl)))) rfl
theorem k6e_32 : (Cond.instanceMethod xy_De_addRoots) ∈ wT := wT_t (List.mem_append_right _ (List.mem_append_right _ (List.mem_append_left _ (List.mem_of_getElem? (i := 71) rfl)))) rfl
theorem k6e_33 : (Cond.selects "LayerDesk" xy_De_addRoots xy_De_addRoots) ∈ wT := wT_s (q := (xy_De_addRoots, 6)) (by decide +kernel) rfl
theorem k6e_34 : (Cond.code xy_Ch_bind xb_Ch_bind 3 none) ∈ wT := wT_t (List.mem_append_right _ (List.mem_append_right _ (List.mem_append_left _ (List.mem_of_getElem? (i := 113) rfl)))) rfl
theorem k6e_35 : (Cond.methodLink "LayerDesk" 94 xy_Ch_bind) ∈ wT := wT_t (List.mem_append_right _ (List.mem_append_right _ (List.mem_append_left _ (List.mem_of_getElem? (i := 110) rfl)))) rfl
theorem k6e_36 : (Cond.instanceMethod xy_Ch_bind) ∈ wT := wT_t (List.mem_append_right _ (List.mem_append_right _ (List.mem_append_left _ (List.mem_of_getElem? (i := 111) rfl)))) rfl
theorem k6e_37 : (Cond.selects "LayerDesk$Chooser" xy_Ch_bind xy_Ch_bind) ∈ wT := wT_t (List.mem_append_right _ (List.mem_append_right _ (List.mem_append_left _ (List.mem_of_getElem? (i := 112) rfl)))) rfl
theorem k6e_38 : (Cond.classLink "LayerDesk" 89 "java/util/NoSuchElementException") ∈ wT := wT_t (List.mem_append_right _ (List.mem_append_right _ (List.mem_append_left _ (List.mem_of_getElem? (i := 94) rfl)))) rfl
theorem k6e_39 : (Cond.initialized "java/util/NoSuchElementException") ∈ wT := wT_t (List.mem_append_left _ (List.mem_of_getElem? (i := 18) rfl)) rfl
theorem k6e_40 : (Cond.code xy_De_openLayer xb_De_openLayer 3 (some (.object "LayerDesk$Layer"))) ∈ wT := wT_t (List.mem_append_left _ (List.mem_of_getElem? (i := 137) rfl)) rfl
theorem k6e_41 : (Cond.methodLink "LayerDesk" 68 xy_De_openLayer) ∈ wT := wT_t (List.mem_append_left _ (List.mem_of_getElem? (i := 134) rfl)) rfl
theorem k6e_42 : (Cond.instanceMethod xy_De_openLayer) ∈ wT := wT_t (List.mem_append_left _ (List.mem_of_getElem? (i := 136) rfl)) rfl
theorem k6e_43 : (Cond.selects "LayerDesk" xy_De_openLayer xy_De_openLayer) ∈ wT := wT_s (q := (xy_De_openLayer, 6)) (by decide +kernel) rfl
theorem k6e_44 : (Cond.code xy_De_rootsAreNames xb_De_rootsAreNames 2 (some .boolean)) ∈ wT := wT_t (List.mem_append_right _ (List.mem_append_right _ (List.mem_append_left _ (List.mem_of_getElem? (i := 59) rfl)))) rfl
theorem k6e_45 : (Cond.methodLink "LayerDesk" 72 xy_De_rootsAreNames) ∈ wT := wT_t (List.mem_append_right _ (List.mem_append_right _ (List.mem_append_left _ (List.mem_of_getElem? (i := 56) rfl)))) rfl
theorem k6e_46 : (Cond.instanceMethod xy_De_rootsAreNames) ∈ wT := wT_t (List.mem_append_right _ (List.mem_append_right _ (List.mem_append_left _ (List.mem_of_getElem? (i := 58) rfl)))) rfl
theorem k6e_47 : (Cond.selects "LayerDesk" xy_De_rootsAreNames xy_De_rootsAreNames) ∈ wT := wT_s (q := (xy_De_rootsAreNames, 6)) (by decide +kernel) rfl
theorem k6e_48 : (Cond.code xy_Sh_isFinder xb_Sh_isFinder 1 (some .boolean)) ∈ wT := wT_t (List.mem_append_right _ (List.mem_append_right _ (List.mem_append_left _ (List.mem_of_getElem? (i := 63) rfl)))) rfl
theorem k6e_49 : (Cond.methodLink "LayerDesk" 76 xy_Sh_isFinder) ∈ wT := wT_t (List.mem_append_right _ (List.mem_append_right _ (List.mem_append_left _ (List.mem_of_getElem? (i := 61) rfl)))) rfl
theorem k6e_50 : (Cond.static xy_Sh_isFinder) ∈ wT := wT_t (List.mem_append_right _ (List.mem_append_right _ (List.mem_append_left _ (List.mem_of_getElem? (i := 62) rfl)))) rfl
theorem k6e_51 : (Cond.initialized "LayerDesk$Shelf") ∈ wT := wT_t (List.mem_append_left _ (List.mem_of_getElem? (i := 3) rfl)) rfl
theorem k6e_52 : (Cond.classLink "LayerDesk" 56 "java/lang/IllegalArgumentException") ∈ wT := wT_t (List.mem_append_right _ (List.mem_append_left _ (List.mem_of_getElem? (i := 205) rfl))) rfl
theorem k6e_53 : (Cond.initialized "java/lang/IllegalArgumentException") ∈ wT := wT_t (List.mem_append_left _ (List.mem_of_getElem? (i := 16) rfl)) rfl
set_option maxHeartbeats 4000000 in
set_option maxRecDepth 100000 in
theorem xc_Sh_isFinderX (l : Launch) (D : va_G) (kA : Nat → ClassId) (sz : Nat) (ad : Nat → Nat → Nat) (E : Nat → Nat → va_E) (RL : List (Nat × Nat)) (fi : Int32) : Met l xy_Sh_isFinder (.code xy_Sh_isFinder xb_Sh_isFinder 1 (some .boolean) :: wT) { frames := 0, cells := 0, slots := 0, locals := 0 } (va_Pc [.int fi] (xPre D kA sz (rp ad E RL))) (va_Qi (fun (r : Int32) (u : Unit) => (r = 1 ∧ (fi = 0 ∨ fi = 1)) ∨ (r = 0 ∧ ¬ fi = 0 ∧ ¬ fi = 1)) (fun (u : Unit) t => va_P D xcl (rp ad E RL) t.heap ∧ va_D (va_A (rp ad E RL) sz) (rp ad E RL)) (va_A (rp ad E RL) sz)) 0 0 (va_A (rp ad E RL) sz) := by
  refine Met.ofW (cc := xb_Sh_isFinder) (maxL := 1) (ret := (some .boolean)) (by decide) rfl ?_
  intro p e s m args below meth c s₁ B hml hv
  obtain ⟨rfl, hsz, hP, hK, hD0⟩ := hv
  have hx := B.exec
  have hb := B.bytes
  have hr := B.returns
  have hT := x_hT B.pre
  have hown : s.vm.findClass xR_Sh = some m.cls := findClass_of_methodNamed B.named
  have hlocks := B.notSynchronized
  subst hsz
  have hD := hD0.self (sz := s.heap.size)
  generalize hAe : va_A (rp ad E RL) s.heap.size = A at hD ⊢
  have hA : ∀ q : Nat, s.heap.size ≤ q → A q := fun q h => by rw [← hAe]; exact Or.inr h
  have hS : va_S A s.heap s.heap [] := va_S.rf
  have hl := lv_entry ([.int fi]) (n := 1) (Nat.le_of_ble_eq_true rfl)
  rw [lg_entry_eq]
  generalize (lg_sl ([.int fi]) ++ List.replicate (1 - (lg_sl ([.int fi])).length) Slot.unset).toArray = ls at hl ⊢
  have hl : lv_has ls 1 [(0, .int fi)] := hl
  have hP : va_P D xcl (rp ad E RL) s.heap := hP
  refine lv_iload_n hx hb xd_Sh_isFinder_0 rfl (lv_at hl 0 rfl) ?_
  refine lv_if_eq (tgt := 9) hx hb xd_Sh_isFinder_1 (by decide) (fun hc1 => ?_) (fun hc1 => ?_)
  · refine lv_iconst (v := 1) hx hb xd_Sh_isFinder_9 (by decide) ?_
    refine lv_goto (tgt := 14) hx hb xd_Sh_isFinder_10 (by decide) ?_
    exact W.zret (v := 1) hx hb hr rfl (fun t ht hW => ⟨⟨1, (), rfl, Or.inl ⟨rfl, Or.inl hc1⟩, by rw [ht]; exact hP, hD⟩, hS.F ht⟩) hS.2.2 xd_Sh_isFinder_14
  · refine lv_iload_n hx hb xd_Sh_isFinder_4 rfl (lv_at hl 0 rfl) ?_
    refine lv_iconst (v := 1) hx hb xd_Sh_isFinder_5 (by decide) ?_
    refine lv_icmp_ne (tgt := 13) hx hb xd_Sh_isFinder_6 (by decide) (fun hc2 => ?_) (fun hc2 => ?_)
    · refine lv_iconst (v := 0) hx hb xd_Sh_isFinder_13 (by decide) ?_
      exact W.zret (v := 0) hx hb hr rfl (fun t ht hW => ⟨⟨0, (), rfl, Or.inr ⟨rfl, hc1, hc2⟩, by rw [ht]; exact hP, hD⟩, hS.F ht⟩) hS.2.2 xd_Sh_isFinder_14
    · refine lv_iconst (v := 1) hx hb xd_Sh_isFinder_9 (by decide) ?_
      refine lv_goto (tgt := 14) hx hb xd_Sh_isFinder_10 (by decide) ?_
      exact W.zret (v := 1) hx hb hr rfl (fun t ht hW => ⟨⟨1, (), rfl, Or.inl ⟨rfl, Or.inr hc2⟩, by rw [ht]; exact hP, hD⟩, hS.F ht⟩) hS.2.2 xd_Sh_isFinder_14
set_option maxHeartbeats 4000000 in
set_option maxRecDepth 100000 in
theorem xc_De_layerX (l : Launch) (hlt : l.stackTraces = false) (D : va_G) (kA : Nat → ClassId) (sz : Nat) (ad : Nat → Nat → Nat) (E : Nat → Nat → va_E) (RL : List (Nat × Nat)) (Z : zT) (g : Nat → Nat → Int32) (ml : Nat) (nd : Nat) (len : Nat) (wn : Nat) (cs : Nat) (fi : Int32) (px : Int32) (bi : Int32) (hCI : CI kA ad E RL ml nd len wn cs) (hTD : TDs g E nd) (hTL : TLas g ad E nd ml) (hCB : CBs g E ml) (hTX : ∀ i, i < len → eA (E 0 2) i = g 0 i) (hNZ : NZ g nd) (hUQ : ∀ d, d < nd → UQ1 g d) (hND : NDq g ml) : vx_Met l xy_De_layer (.code xy_De_layer xb_De_layer 7 (some .int) :: wT) { frames := 23, cells := 101, slots := 430, locals := 1284 } (va_Pc [.ref (ad 0 0), .int fi, .int px, .int bi] (xPreZ D kA sz (rp ad E RL) Z)) (va_Qi (fun (r : Int32) (u : (Nat → Nat → Nat) × (Nat → Nat → va_E) × List (Nat × Nat)) => (r = nI ml ∧ ml < 5 ∧ u.1 0 0 = ad 0 0 ∧ eI (u.2.1 0 0) 5 = 0) ∧ ∃ L9 wn2 cs2, yL g (w_all (g 0) len) nd ml fi px bi L9 ∧ yW g ml px L9 = 0 ∧ CI kA u.1 u.2.1 u.2.2 (ml + 1) nd 0 wn2 cs2 ∧ TDs (gKl (gDr g ml (iN (px + 1)) L9) L9) u.2.1 nd ∧ TLas (gDr g ml (iN (px + 1)) L9) u.1 u.2.1 nd (ml + 1) ∧ CBs (gDr g ml (iN (px + 1)) L9) u.2.1 (ml + 1) ∧ RBs (gDr g ml (iN (px + 1)) L9) u.2.1 ml ∧ (∀ n9, n9 < ml → u.2.1 (20 + n9) = E (20 + n9)) ∧ (∀ n9, n9 < ml → u.1 (20 + n9) 0 = ad (20 + n9) 0) ∧ ∀ d9, d9 < nd → u.1 (1 + d9) 0 = ad (1 + d9) 0) (fun (u : (Nat → Nat → Nat) × (Nat → Nat → va_E) × List (Nat × Nat)) t => va_P D xcl (rp u.1 u.2.1 u.2.2) t.heap ∧ va_D (va_A (rp ad E RL) sz) (rp u.1 u.2.1 u.2.2)) (va_A (rp ad E RL) sz)) (vx_X (fun (u : (Nat → Nat → Nat) × (Nat → Nat → va_E) × List (Nat × Nat)) => ((∃ wn2 cs2, CI kA u.1 u.2.1 u.2.2 ml nd 0 wn2 cs2) ∧ u.1 0 0 = ad 0 0 ∧ FRX ml nd ad u.1 E u.2.1) ∧ ((¬ ok1 g (g 0) (w_all (g 0) len) ml fi px ∧ eI (u.2.1 0 0) 5 = 0) ∨ (yN g (w_all (g 0) len) nd ml fi px ∧ eI (u.2.1 0 0) 5 = 0) ∨ ∃ L9, yL g (w_all (g 0) len) nd ml fi px bi L9 ∧ ¬ yW g ml px L9 = 0 ∧ eI (u.2.1 0 0) 5 = nI (yW g ml px L9))) (fun E9 u t => ((E9 = "java/lang/IllegalArgumentException" ∧ ¬ ok1 g (g 0) (w_all (g 0) len) ml fi px) ∨ (E9 = "java/util/NoSuchElementException" ∧ yN g (w_all (g 0) len) nd ml fi px) ∨ (E9 = "java/lang/IllegalStateException" ∧ ∃ L9, yL g (w_all (g 0) len) nd ml fi px bi L9 ∧ ¬ yW g ml px L9 = 0)) ∧ va_P D xcl (rp u.1 u.2.1 u.2.2) t.heap ∧ va_D (va_A (rp ad E RL) sz) (rp u.1 u.2.1 u.2.2)) (va_A (rp ad E RL) sz)) 101 430 (va_A (rp ad E RL) sz) := by
  refine vx_ofW (cc := xb_De_layer) (maxL := 7) (ret := (some .int)) (by decide) rfl ?_
  intro p e s m args below meth c s₁ B hml htab hv
  obtain ⟨rfl, ⟨hsz, hP, hK, hD0⟩, hZ⟩ := hv
  have hx := B.exec
  have hb := B.bytes
  have hr := B.returns
  have hT := x_hT B.pre
  have hown : s.vm.findClass xR_De = some m.cls := findClass_of_methodNamed B.named
  have hlocks := B.notSynchronized
  subst hsz
  have hD := hD0.self (sz := s.heap.size)
  generalize hAe : va_A (rp ad E RL) s.heap.size = A at hD hZ ⊢
  have hA : ∀ q : Nat, s.heap.size ≤ q → A q := fun q h => by rw [← hAe]; exact Or.inr h
  have hS : va_S A s.heap s.heap [] := va_S.rf
  have hl := lv_entry ([.ref (ad 0 0), .int fi, .int px, .int bi]) (n := 7) (Nat.le_of_ble_eq_true rfl)
  rw [lg_entry_eq]
  generalize (lg_sl ([.ref (ad 0 0), .int fi, .int px, .int bi]) ++ List.replicate (7 - (lg_sl ([.ref (ad 0 0), .int fi, .int px, .int bi])).length) Slot.unset).toArray = ls at hl ⊢
  have hl : lv_has ls 7 [(0, .ref (ad 0 0)), (1, .int fi), (2, .int px), (3, .int bi)] := hl
  have hP : va_P D xcl (rp ad E RL) s.heap := hP
  obtain ⟨hmB, hDk, hLi, hSh, hCh, hLa, hDIs, hLIs⟩ := id hCI
  obtain ⟨lf_1, q_1⟩ := id (hDk)
  have c_2 : E 0 0 = .inr (0, [.ref (ad 0 1), .ref (ad 0 5), .ref (ad 0 7), .ref (ad 0 9), .int (nI ml), .int lf_1]) := q_1
  have m_3 : (0, 0) ∈ RL := hmB 0 (by omega)
  obtain ⟨tx_4, fb_4, fe_4, hl1_4, hw2_4, q1_4, q2_4, q3_4, q4_4, hws_4⟩ := id (hLi)
  have c_5 : E 0 1 = .inr (1, [.ref (ad 0 2), .ref (ad 0 3), .ref (ad 0 4), .int (nI len), .int (nI wn)]) := q1_4
  have m_6 : (0, 1) ∈ RL := hmB 1 (by omega)
  have c_7 : E 0 2 = .inl (kA 1, 40, .inl tx_4) := q2_4
  have m_8 : (0, 2) ∈ RL := hmB 2 (by omega)
  have c_9 : E 0 3 = .inl (kA 0, 20, .inl fb_4) := q3_4
  have m_10 : (0, 3) ∈ RL := hmB 3 (by omega)
  have c_11 : E 0 4 = .inl (kA 0, 20, .inl fe_4) := q4_4
  have m_12 : (0, 4) ∈ RL := hmB 4 (by omega)
  obtain ⟨fd_13, hnd_13, q5_13, q6_13, hds_13⟩ := id (hSh)
  have c_14 : E 0 5 = .inr (2, [.ref (ad 0 6), .int (nI nd)]) := q5_13
  have m_15 : (0, 5) ∈ RL := hmB 5 (by omega)
  have c_16 : E 0 6 = .inl (kA 4, 12, .inr (.inr (.inr (.inr fd_13)))) := q6_13
  have m_17 : (0, 6) ∈ RL := hmB 6 (by omega)
  obtain ⟨cf_18, pv_18, fc_18, hcs_18, hpv_18, q7_18, q8_18, hfc_18⟩ := id (hCh)
  have c_19 : E 0 7 = .inr (3, [.ref (ad 0 5), .ref (ad 0 8), .int (nI cs), .int cf_18, pv_18]) := q7_18
  have m_20 : (0, 7) ∈ RL := hmB 7 (by omega)
  have c_21 : E 0 8 = .inl (kA 4, 12, .inr (.inr (.inr (.inr fc_18)))) := q8_18
  have m_22 : (0, 8) ∈ RL := hmB 8 (by omega)
  obtain ⟨fl_23, hml_23, q9_23, hla_23⟩ := id (hLa)
  have c_24 : E 0 9 = .inl (kA 5, 5, .inr (.inr (.inr (.inr fl_23)))) := q9_23
  have m_25 : (0, 9) ∈ RL := hmB 9 (by omega)
  refine lv_aload_n hx hb xd_De_layer_0 rfl (lv_at hl 0 rfl) ?_
  refine lv_iconst (v := 0) hx hb xd_De_layer_1 (by decide) ?_
  refine px_put (D := D) (ci := 0) (v := .int 0) (ty := .int) (C := xR_De) (T := xT_De) (N := 6) hx hb hT xi_De xt_De xt_De_ok xn_De hown hK.1 hP hD hS m_3 c_2 rfl 5 (by decide) (hT _ k6e_0) (fun _ h9 => h9) rfl (by decide +kernel) rfl rfl (Nat.le_of_ble_eq_true rfl) xd_De_layer_2 (fun H locs hP hD hS => ?_)
  have hP : va_P D xcl (rp ad (up2 E 0 0 (.inr (0, [.ref (ad 0 1), .ref (ad 0 5), .ref (ad 0 7), .ref (ad 0 9), .int (nI ml), .int 0]))) RL) H := hP
  have hD : va_D A (rp ad (up2 E 0 0 (.inr (0, [.ref (ad 0 1), .ref (ad 0 5), .ref (ad 0 7), .ref (ad 0 9), .int (nI ml), .int 0]))) RL) := hD
  generalize hE27 : up2 E 0 0 (.inr (0, [.ref (ad 0 1), .ref (ad 0 5), .ref (ad 0 7), .ref (ad 0 9), .int (nI ml), .int 0])) = E26 at hP hD
  have fE28 : ∀ b2 o2, ¬ (b2 = 0 ∧ o2 = 0) → E26 b2 o2 = E b2 o2 := fun b2 o2 h9 => by rw [← hE27]; exact up2_ne (by omega)
  have c_29 : E26 0 0 = .inr (0, [.ref (ad 0 1), .ref (ad 0 5), .ref (ad 0 7), .ref (ad 0 9), .int (nI ml), .int 0]) := by rw [← hE27]; exact up2_eq
  have c_30 : E26 0 1 = .inr (1, [.ref (ad 0 2), .ref (ad 0 3), .ref (ad 0 4), .int (nI len), .int (nI wn)]) := (fE28 0 1 (by omega)).trans c_5
  have c_31 : E26 0 2 = .inl (kA 1, 40, .inl tx_4) := (fE28 0 2 (by omega)).trans c_7
  have c_32 : E26 0 3 = .inl (kA 0, 20, .inl fb_4) := (fE28 0 3 (by omega)).trans c_9
  have c_33 : E26 0 4 = .inl (kA 0, 20, .inl fe_4) := (fE28 0 4 (by omega)).trans c_11
  have c_34 : E26 0 5 = .inr (2, [.ref (ad 0 6), .int (nI nd)]) := (fE28 0 5 (by omega)).trans c_14
  have c_35 : E26 0 6 = .inl (kA 4, 12, .inr (.inr (.inr (.inr fd_13)))) := (fE28 0 6 (by omega)).trans c_16
  have c_36 : E26 0 7 = .inr (3, [.ref (ad 0 5), .ref (ad 0 8), .int (nI cs), .int cf_18, pv_18]) := (fE28 0 7 (by omega)).trans c_19
  have c_37 : E26 0 8 = .inl (kA 4, 12, .inr (.inr (.inr (.inr fc_18)))) := (fE28 0 8 (by omega)).trans c_21
  have c_38 : E26 0 9 = .inl (kA 5, 5, .inr (.inr (.inr (.inr fl_23)))) := (fE28 0 9 (by omega)).trans c_24
  refine lv_aload_n hx hb xd_De_layer_5 rfl (lv_at hl 0 rfl) ?_
  refine px_get (D := D) (ci := 0) (v := .ref (ad 0 1)) (C := xR_De) (T := xT_De) (N := 6) hx hb hT xi_De hown hK.1 hP m_3 c_29 rfl 0 (by decide) (hT _ k6e_1) (fun _ h9 => h9) rfl xd_De_layer_6 ?_
  have hFc := px_free hD hS hA
  refine va_callv (va_runV (As := []) (rest := []) ⟨hx, hb, hml, hown, hT⟩ (xc_Li_takeX l D kA H.size ad E26 RL len wn tx_4 fb_4 fe_4 m_6 c_30 m_8 c_31 m_10 c_32 m_12 c_33 (by first | assumption | omega)) (cwV 0 hT (wT_V k6e_3 k6e_4 k6e_5 k6e_6 k6e_2) rfl rfl rfl (by decide +kernel) ⟨Nat.le_of_ble_eq_true rfl, Nat.le_of_ble_eq_true rfl⟩) (px_preV hK hP hD m_6 c_30 rfl) rfl rfl hl.1 rfl (lv_room (Nat.le_of_ble_eq_true rfl)) xd_De_layer_9 ⟨(Nat.le_of_ble_eq_true rfl), (Nat.le_of_ble_eq_true rfl)⟩) hS (fun q _ h => hFc q h) hFc (fun u40 t H1 locs ht hvm hp41 hB hz1 hk1 hS => ?_)
  obtain ⟨hP1, hD1⟩ := hB
  rw [ht] at hP1
  have hD1 := hD1.weaken (fun _ _ _ h => hFc _ h)
  generalize H1 = H at hP1 hS ⊢
  have hP := hP1
  have hD := hD1
  obtain ⟨E42, rfl⟩ : ∃ z, z = u40 := ⟨_, rfl⟩
  obtain ⟨w43, w44, w45, hp50, p_46, p_47, p_48, p_49⟩ := hp41
  have p_46 : E42 0 1 = .inr (1, [.ref (ad 0 2), .ref (ad 0 3), .ref (ad 0 4), .int 0, .int (nI w43)]) := p_46
  have p_47 : E42 0 3 = .inl (kA 0, 20, .inl w44) := p_47
  have p_48 : E42 0 4 = .inl (kA 0, 20, .inl w45) := p_48
  have p_49 : (∀ b2 o2, ¬ (b2 = 0 ∧ o2 = 1) → ¬ (b2 = 0 ∧ o2 = 3) → ¬ (b2 = 0 ∧ o2 = 4) → E42 b2 o2 = E26 b2 o2) := p_49
  have c_51 : E42 0 0 = .inr (0, [.ref (ad 0 1), .ref (ad 0 5), .ref (ad 0 7), .ref (ad 0 9), .int (nI ml), .int 0]) := (p_49 0 0 (by omega) (by omega) (by omega)).trans c_29
  have c_52 : E42 0 2 = .inl (kA 1, 40, .inl tx_4) := (p_49 0 2 (by omega) (by omega) (by omega)).trans c_31
  have c_53 : E42 0 5 = .inr (2, [.ref (ad 0 6), .int (nI nd)]) := (p_49 0 5 (by omega) (by omega) (by omega)).trans c_34
  have c_54 : E42 0 6 = .inl (kA 4, 12, .inr (.inr (.inr (.inr fd_13)))) := (p_49 0 6 (by omega) (by omega) (by omega)).trans c_35
  have c_55 : E42 0 7 = .inr (3, [.ref (ad 0 5), .ref (ad 0 8), .int (nI cs), .int cf_18, pv_18]) := (p_49 0 7 (by omega) (by omega) (by omega)).trans c_36
  have c_56 : E42 0 8 = .inl (kA 4, 12, .inr (.inr (.inr (.inr fc_18)))) := (p_49 0 8 (by omega) (by omega) (by omega)).trans c_37
  have c_57 : E42 0 9 = .inl (kA 5, 5, .inr (.inr (.inr (.inr fl_23)))) := (p_49 0 9 (by omega) (by omega) (by omega)).trans c_38
  have hP : va_P D xcl (rp ad E42 RL) H := hP
  have hD : va_D A (rp ad E42 RL) := hD
  obtain ⟨hw20, hWP, hTQ1, hTQ2⟩ := hp50
  obtain ⟨wl, hwl⟩ : ∃ z, z = w_all (g 0) len := ⟨_, rfl⟩
  have htx9 : ∀ j, j < len → tx_4 j = g 0 j := fun j hj => by
    have q := hTX j hj
    rw [← (show E42 0 2 = E 0 2 from by show E42 0 2 = _; rw [p_49 0 2 (by omega) (by omega) (by omega), fE28 0 2 (by omega)]), c_52] at q; exact q
  have hwx : w_all tx_4 len = wl := by rw [hwl]; exact w_all_congr htx9
  rw [hwx] at hTQ1 hTQ2
  have hLW : LW g E42 len wl := LW_mk hwl (by omega) c_52 p_47 p_48 htx9 hTQ2
  have c1w : E42 0 1 = .inr (1, [.ref (ad 0 2), .ref (ad 0 3), .ref (ad 0 4), .int 0, .int (nI (wl.length))]) := by rw [← hTQ1]; exact p_46
  have hB0 : ∀ b2 o2, ¬ b2 = 0 → E42 b2 o2 = E b2 o2 := fun b2 o2 h9 => by show E42 b2 o2 = _; rw [p_49 b2 o2 (by omega) (by omega) (by omega), fE28 b2 o2 (by omega)]
  have hTD1 : TDs g E42 nd := TDs_same (fun d9 hd9 => fun2 fun o9 => hB0 (1 + d9) o9 (by omega)) hTD
  have hTL1 : TLas g ad E42 nd ml := TLas_same (Nat.le_refl _) (fun n9 hn9 => fun2 fun o9 => hB0 (20 + n9) o9 (by omega)) (fun _ _ => rfl) (fun _ _ => rfl) hTL
  have hCB1 : CBs g E42 ml := CBs_same (fun la o9 hla => hB0 (20 + la) o9 (by omega)) hCB
  have hFX1 : FRX ml nd ad ad E E42 := FRX_B hB0
  have h051 : eI (E42 0 0) 5 = 0 := by rw [c_51]; rfl
  have hCI : CI kA ad E42 RL ml nd 0 wl.length cs := ⟨hmB, ⟨0, c_51⟩, ⟨tx_4, w44, w45, (by omega), (by omega), c1w, c_52, p_47, p_48, (by rw [← hTQ1]; exact hWP)⟩, ⟨fd_13, (by omega), c_53, c_54, hds_13⟩, ⟨cf_18, pv_18, fc_18, (by omega), hpv_18, c_55, c_56, hfc_18⟩, ⟨fl_23, (by omega), c_57, hla_23⟩, (DIs_same (fun d9 hd9 => fun2 fun o9 => by show E42 (1 + d9) o9 = _; rw [p_49 (1 + d9) o9 (by omega) (by omega) (by omega), fE28 (1 + d9) o9 (by omega)]) (fun _ _ => rfl) (fun _ h9 => h9) hDIs), (LIs_same (Nat.le_refl _) (fun n9 hn9 => fun2 fun o9 => by show E42 (20 + n9) o9 = _; rw [p_49 (20 + n9) o9 (by omega) (by omega) (by omega), fE28 (20 + n9) o9 (by omega)]) (fun _ _ => rfl) (fun _ _ => rfl) (fun _ h9 => h9) hLIs)⟩
  obtain ⟨hmB, hDk, hLi, hSh, hCh, hLa, hDIs, hLIs⟩ := id hCI
  obtain ⟨lf_58, q_58⟩ := id (hDk)
  have c_59 : E42 0 0 = .inr (0, [.ref (ad 0 1), .ref (ad 0 5), .ref (ad 0 7), .ref (ad 0 9), .int (nI ml), .int lf_58]) := q_58
  have m_60 : (0, 0) ∈ RL := hmB 0 (by omega)
  obtain ⟨tx_61, fb_61, fe_61, hl1_61, hw2_61, q1_61, q2_61, q3_61, q4_61, hws_61⟩ := id (hLi)
  have c_62 : E42 0 1 = .inr (1, [.ref (ad 0 2), .ref (ad 0 3), .ref (ad 0 4), .int (nI 0), .int (nI (wl.length))]) := q1_61
  have m_63 : (0, 1) ∈ RL := hmB 1 (by omega)
  have c_64 : E42 0 2 = .inl (kA 1, 40, .inl tx_61) := q2_61
  have m_65 : (0, 2) ∈ RL := hmB 2 (by omega)
  have c_66 : E42 0 3 = .inl (kA 0, 20, .inl fb_61) := q3_61
  have m_67 : (0, 3) ∈ RL := hmB 3 (by omega)
  have c_68 : E42 0 4 = .inl (kA 0, 20, .inl fe_61) := q4_61
  have m_69 : (0, 4) ∈ RL := hmB 4 (by omega)
  obtain ⟨fd_70, hnd_70, q5_70, q6_70, hds_70⟩ := id (hSh)
  have c_71 : E42 0 5 = .inr (2, [.ref (ad 0 6), .int (nI nd)]) := q5_70
  have m_72 : (0, 5) ∈ RL := hmB 5 (by omega)
  have c_73 : E42 0 6 = .inl (kA 4, 12, .inr (.inr (.inr (.inr fd_70)))) := q6_70
  have m_74 : (0, 6) ∈ RL := hmB 6 (by omega)
  obtain ⟨cf_75, pv_75, fc_75, hcs_75, hpv_75, q7_75, q8_75, hfc_75⟩ := id (hCh)
  have c_76 : E42 0 7 = .inr (3, [.ref (ad 0 5), .ref (ad 0 8), .int (nI cs), .int cf_75, pv_75]) := q7_75
  have m_77 : (0, 7) ∈ RL := hmB 7 (by omega)
  have c_78 : E42 0 8 = .inl (kA 4, 12, .inr (.inr (.inr (.inr fc_75)))) := q8_75
  have m_79 : (0, 8) ∈ RL := hmB 8 (by omega)
  obtain ⟨fl_80, hml_80, q9_80, hla_80⟩ := id (hLa)
  have c_81 : E42 0 9 = .inl (kA 5, 5, .inr (.inr (.inr (.inr fl_80)))) := q9_80
  have m_82 : (0, 9) ∈ RL := hmB 9 (by omega)
  refine xjoin (D := D) (cl := xcl) (A := A) (H0 := s.heap) (σ := Nat) (ml := 7) 65 (fun (y : Nat) => [(4, (lyv ad y)), (3, .int bi), (2, .int px), (1, .int fi), (0, .ref (ad 0 0))]) (fun (y : Nat) => []) (fun (y : Nat) => rp ad E42 RL) (fun (y : Nat) => (y ≤ ml) ∧ (ok1 g (g 0) wl ml fi px) ∧ (iN (px + 1) = y)) ?_ (fun jn83 => ?_)
  · intro a9 ls H locs hl hP hD hS hI
    obtain ⟨y, rfl⟩ : ∃ z, z = a9 := ⟨_, rfl⟩
    obtain ⟨hy, hok, hyq9⟩ := hI
    have hy : y ≤ ml := hy
    have hok : ok1 g (g 0) wl ml fi px := hok
    have hyq9 : iN (px + 1) = y := hyq9
    have hl : lv_has ls 7 [(4, (lyv ad y)), (3, .int bi), (2, .int px), (1, .int fi), (0, .ref (ad 0 0))] := hl
    have hP : va_P D xcl (rp ad E42 RL) H := hP
    have hD : va_D A (rp ad E42 RL) := hD
    refine xjoin (D := D) (cl := xcl) (A := A) (H0 := s.heap) (σ := (Nat → Nat → va_E) × List Nat × List Nat) (ml := 7) 103 (fun (Ej9, L1, L7) => [(0, .ref (ad 0 0))]) (fun (Ej9, L1, L7) => []) (fun (Ej9, L1, L7) => rp ad Ej9 RL) (fun (Ej9, L1, L7) => (CI kA ad Ej9 RL ml nd 0 wl.length L7.length) ∧ (CX ad Ej9 nd fi y L7) ∧ (F78 E42 Ej9) ∧ (aF (adG g nd fi y) [] (nmL (g 0) wl wl.length 0) = (true, L1)) ∧ (L7 = cif (¬ bi = 0) (bIt (bUg g nd fi y) g y 13 L1) L1)) ?_ (fun jn84 => ?_)
    · intro a9 ls H locs hl hP hD hS hI
      obtain ⟨Ej9, L1, L7⟩ := a9
      obtain ⟨hCI, hCX7, hF7, hN1, hL7⟩ := hI
      have hCI : CI kA ad Ej9 RL ml nd 0 wl.length L7.length := hCI
      have hCX7 : CX ad Ej9 nd fi y L7 := hCX7
      have hF7 : F78 E42 Ej9 := hF7
      have hN1 : aF (adG g nd fi y) [] (nmL (g 0) wl wl.length 0) = (true, L1) := hN1
      have hL7 : L7 = cif (¬ bi = 0) (bIt (bUg g nd fi y) g y 13 L1) L1 := hL7
      have hl : lv_has ls 7 [(0, .ref (ad 0 0))] := hl
      have hP : va_P D xcl (rp ad Ej9 RL) H := hP
      have hD : va_D A (rp ad Ej9 RL) := hD
      have hTD7 : TDs g Ej9 nd := TDs_78 hF7 hTD1
      have hTL7 : TLas g ad Ej9 nd ml := TLas_78 hF7 hTL1
      have hCB7 : CBs g Ej9 ml := CBs_same (fun la o9 hla => hF7 (20 + la) o9 (by omega) (by omega)) hCB1
      have hFX7 : FRX ml nd ad ad E Ej9 := FRX_tr hFX1 (FRX_78 hF7)
      obtain ⟨hmB, hDk, hLi, hSh, hCh, hLa, hDIs, hLIs⟩ := id hCI
      obtain ⟨lf_85, q_85⟩ := id (hDk)
      have c_86 : Ej9 0 0 = .inr (0, [.ref (ad 0 1), .ref (ad 0 5), .ref (ad 0 7), .ref (ad 0 9), .int (nI ml), .int lf_85]) := q_85
      have m_87 : (0, 0) ∈ RL := hmB 0 (by omega)
      obtain ⟨fd_88, hnd_88, q5_88, q6_88, hds_88⟩ := id (hSh)
      have c_89 : Ej9 0 5 = .inr (2, [.ref (ad 0 6), .int (nI nd)]) := q5_88
      have m_90 : (0, 5) ∈ RL := hmB 5 (by omega)
      have c_91 : Ej9 0 6 = .inl (kA 4, 12, .inr (.inr (.inr (.inr fd_88)))) := q6_88
      have m_92 : (0, 6) ∈ RL := hmB 6 (by omega)
      obtain ⟨cf_93, pv_93, fc_93, hcs_93, hpv_93, q7_93, q8_93, hfc_93⟩ := id (hCh)
      have c_94 : Ej9 0 7 = .inr (3, [.ref (ad 0 5), .ref (ad 0 8), .int (nI (L7.length)), .int cf_93, pv_93]) := q7_93
      have m_95 : (0, 7) ∈ RL := hmB 7 (by omega)
      have c_96 : Ej9 0 8 = .inl (kA 4, 12, .inr (.inr (.inr (.inr fc_93)))) := q8_93
      have m_97 : (0, 8) ∈ RL := hmB 8 (by omega)
      obtain ⟨fl_98, hml_98, q9_98, hla_98⟩ := id (hLa)
      have c_99 : Ej9 0 9 = .inl (kA 5, 5, .inr (.inr (.inr (.inr fl_98)))) := q9_98
      have m_100 : (0, 9) ∈ RL := hmB 9 (by omega)
      have hnd12 : nd ≤ 12 := by omega
      have hml5 : ml ≤ 5 := by omega
      have hGL7 := hCX7.2.2.2
      have hln7 := GL_len hGL7
      have hLKP7 : LKP g ml := LKP_L (by omega) hnd12 hLIs hTL7
      have hyL : yL g wl nd ml fi px bi L7 := ⟨hok, L1, (by rw [hyq9]; exact hN1), (by rw [hyq9]; exact hL7), hGL7⟩
      refine lv_aload_n hx hb xd_De_layer_103 rfl (lv_at hl 0 rfl) ?_
      refine px_get (D := D) (ci := 0) (v := .ref (ad 0 7)) (C := xR_De) (T := xT_De) (N := 6) hx hb hT xi_De hown hK.1 hP m_87 c_86 rfl 2 (by decide) (hT _ k6e_7) (fun _ h9 => h9) rfl xd_De_layer_104 ?_
      refine lv_aload_n hx hb xd_De_layer_107 rfl (lv_at hl 0 rfl) ?_
      refine px_get (D := D) (ci := 0) (v := .int (nI ml)) (C := xR_De) (T := xT_De) (N := 6) hx hb hT xi_De hown hK.1 hP m_87 c_86 rfl 4 (by decide) (hT _ k6e_8) (fun _ h9 => h9) rfl xd_De_layer_108 ?_
      have hFc := px_free hD hS hA
      refine va_callq (va_runV (As := [.int (nI ml)]) (rest := []) ⟨hx, hb, hml, hown, hT⟩ (xc_Ch_draftX l D kA H.size ad Ej9 RL g ml nd 0 wl.length fi y L7 (by first | assumption | omega) hCX7 hTD7 hTL7 hy hCB7) (cwV 1 hT (wT_V k6e_10 k6e_11 k6e_12 k6e_13 k6e_9) rfl rfl rfl (by decide +kernel) ⟨Nat.le_of_ble_eq_true rfl, Nat.le_of_ble_eq_true rfl⟩) (px_preV hK hP hD m_95 c_94 rfl) rfl rfl hl.1 rfl (lv_room (Nat.le_of_ble_eq_true rfl)) xd_De_layer_111 ⟨(Nat.le_of_ble_eq_true rfl), (Nat.le_of_ble_eq_true rfl)⟩) hS (fun q _ h => hFc q h) hFc (fun r101 u102 t H1 locs ht hvm hp103 hB hz1 hk1 hS => ?_)
      obtain ⟨hP1, hD1⟩ := hB
      rw [ht] at hP1
      have hD1 := hD1.weaken (fun _ _ _ h => hFc _ h)
      generalize H1 = H at hP1 hS ⊢
      have hP := hP1
      have hD := hD1
      obtain ⟨ad104, E105, RL106⟩ := u102
      obtain ⟨hp110, p_107, p_108, p_109⟩ := hp103
      have p_107 : (∀ b2 o2, ¬ (b2 = 20 + ml) → E105 b2 o2 = Ej9 b2 o2) := p_107
      have p_108 : (∀ b2 o2, ¬ (b2 = 20 + ml) → ad104 b2 o2 = ad b2 o2) := p_108
      have p_109 : (∀ x ∈ RL, x ∈ RL106) := p_109
      have hl : lv_has ls 7 [(0, .ref (ad104 0 0))] := by
        rw [p_108 0 0 (by omega)]; exact hl
      have m_111 : (0, 0) ∈ RL106 := p_109 _ m_87
      have m_112 : (0, 5) ∈ RL106 := p_109 _ m_90
      have m_113 : (0, 6) ∈ RL106 := p_109 _ m_92
      have m_114 : (0, 7) ∈ RL106 := p_109 _ m_95
      have m_115 : (0, 8) ∈ RL106 := p_109 _ m_97
      have m_116 : (0, 9) ∈ RL106 := p_109 _ m_100
      have c_117 : E105 0 0 = .inr (0, [.ref (ad104 0 1), .ref (ad104 0 5), .ref (ad104 0 7), .ref (ad104 0 9), .int (nI ml), .int lf_85]) := by rw [p_107 0 0 (by omega), p_108 0 1 (by omega), p_108 0 5 (by omega), p_108 0 7 (by omega), p_108 0 9 (by omega)]; exact c_86
      have c_118 : E105 0 5 = .inr (2, [.ref (ad104 0 6), .int (nI nd)]) := by rw [p_107 0 5 (by omega), p_108 0 6 (by omega)]; exact c_89
      have c_119 : E105 0 6 = .inl (kA 4, 12, .inr (.inr (.inr (.inr fd_88)))) := by rw [p_107 0 6 (by omega)]; exact c_91
      have c_120 : E105 0 7 = .inr (3, [.ref (ad104 0 5), .ref (ad104 0 8), .int (nI (L7.length)), .int cf_93, pv_93]) := by rw [p_107 0 7 (by omega), p_108 0 5 (by omega), p_108 0 8 (by omega)]; exact c_94
      have c_121 : E105 0 8 = .inl (kA 4, 12, .inr (.inr (.inr (.inr fc_93)))) := by rw [p_107 0 8 (by omega)]; exact c_96
      have c_122 : E105 0 9 = .inl (kA 5, 5, .inr (.inr (.inr (.inr fl_98)))) := by rw [p_107 0 9 (by omega)]; exact c_99
      have hP : va_P D xcl (rp ad104 E105 RL106) H := hP
      have hD : va_D A (rp ad104 E105 RL106) := hD
      rcases hp110 with ⟨⟨rfl, z123, z124⟩, z125, z126, z127, z128⟩
      · refine W.eq (g2 := F0 m 114 ls [.ref (ad104 (20 + ml) 0)]) rfl ?_
        have hA00 : ad104 0 0 = ad 0 0 := by show ad104 0 0 = _; rw [p_108 0 0 (by omega)]
        have hDE : ∀ b2 o2, ¬ b2 = 20 + ml → E105 b2 o2 = Ej9 b2 o2 := fun b2 o2 h9 => by show E105 b2 o2 = _; rw [p_107 b2 o2 (by omega)]
        have hDA : ∀ b2 o2, ¬ b2 = 20 + ml → ad104 b2 o2 = ad b2 o2 := fun b2 o2 h9 => by show ad104 b2 o2 = _; rw [p_108 b2 o2 (by omega)]
        have hFXd : FRX ml nd ad ad104 E E105 := FRX_tr hFX7 (FRX_D hnd12 hDE hDA)
        have hCI : CI kA ad104 E105 RL106 ml nd 0 wl.length L7.length := z123
        have hLI : LI kA ad104 E105 RL106 nd ml := z124
        have hTLd : TLas (gDr g ml y L7) ad104 E105 nd (ml + 1) := z125
        have hCBd : CBs (gDr g ml y L7) E105 (ml + 1) := z126
        have hLBd : LBs (gDr g ml y L7) E105 ml := z127
        have hRBd : RBs (gDr g ml y L7) E105 ml := z128
        have hTDd0 : TDs g E105 nd := TDs_same (fun d9 hd9 => fun2 fun o9 => hDE (1 + d9) o9 (by omega)) hTD7
        obtain ⟨hmB, hDk, hLi, hSh, hCh, hLa, hDIs, hLIs⟩ := id hCI
        obtain ⟨lf_129, q_129⟩ := id (hDk)
        have c_130 : E105 0 0 = .inr (0, [.ref (ad104 0 1), .ref (ad104 0 5), .ref (ad104 0 7), .ref (ad104 0 9), .int (nI ml), .int lf_129]) := q_129
        have m_131 : (0, 0) ∈ RL106 := hmB 0 (by omega)
        obtain ⟨tx_132, fb_132, fe_132, hl1_132, hw2_132, q1_132, q2_132, q3_132, q4_132, hws_132⟩ := id (hLi)
        have c_133 : E105 0 1 = .inr (1, [.ref (ad104 0 2), .ref (ad104 0 3), .ref (ad104 0 4), .int (nI 0), .int (nI (wl.length))]) := q1_132
        have m_134 : (0, 1) ∈ RL106 := hmB 1 (by omega)
        have c_135 : E105 0 2 = .inl (kA 1, 40, .inl tx_132) := q2_132
        have m_136 : (0, 2) ∈ RL106 := hmB 2 (by omega)
        have c_137 : E105 0 3 = .inl (kA 0, 20, .inl fb_132) := q3_132
        have m_138 : (0, 3) ∈ RL106 := hmB 3 (by omega)
        have c_139 : E105 0 4 = .inl (kA 0, 20, .inl fe_132) := q4_132
        have m_140 : (0, 4) ∈ RL106 := hmB 4 (by omega)
        obtain ⟨fd_141, hnd_141, q5_141, q6_141, hds_141⟩ := id (hSh)
        have c_142 : E105 0 5 = .inr (2, [.ref (ad104 0 6), .int (nI nd)]) := q5_141
        have m_143 : (0, 5) ∈ RL106 := hmB 5 (by omega)
        have c_144 : E105 0 6 = .inl (kA 4, 12, .inr (.inr (.inr (.inr fd_141)))) := q6_141
        have m_145 : (0, 6) ∈ RL106 := hmB 6 (by omega)
        obtain ⟨cf_146, pv_146, fc_146, hcs_146, hpv_146, q7_146, q8_146, hfc_146⟩ := id (hCh)
        have c_147 : E105 0 7 = .inr (3, [.ref (ad104 0 5), .ref (ad104 0 8), .int (nI (L7.length)), .int cf_146, pv_146]) := q7_146
        have m_148 : (0, 7) ∈ RL106 := hmB 7 (by omega)
        have c_149 : E105 0 8 = .inl (kA 4, 12, .inr (.inr (.inr (.inr fc_146)))) := q8_146
        have m_150 : (0, 8) ∈ RL106 := hmB 8 (by omega)
        obtain ⟨fl_151, hml_151, q9_151, hla_151⟩ := id (hLa)
        have c_152 : E105 0 9 = .inl (kA 5, 5, .inr (.inr (.inr (.inr fl_151)))) := q9_151
        have m_153 : (0, 9) ∈ RL106 := hmB 9 (by omega)
        have hTDd : TDs (gDr g ml y L7) E105 nd := TDs_gDr hDIs hTDd0
        have hNZd : NZ (gDr g ml y L7) nd := NZ_gDr hNZ
        have hNDd : NDq (gDr g ml y L7) (ml + 1) := ND_gDr hLKP7 hGL7 hnd12 (by omega) hND
        have hUd := UQ_gDr hnd12 (LIs_add hLIs hLI) hTLd hUQ
        have hmcd : mcv (gDr g ml y L7) ml = L7.length := gDr_mc (by omega)
        refine lv_astore hx hb xd_De_layer_114 hl (Nat.le_of_ble_eq_true rfl) rfl (fun ls hl => ?_)
        have hl : lv_has ls 7 [(6, .ref (ad104 (20 + ml) 0)), (0, .ref (ad104 0 0))] := hl
        refine lv_aload_n hx hb xd_De_layer_116 rfl (lv_at hl 1 rfl) ?_
        refine lv_aload_n hx hb xd_De_layer_117 rfl (lv_at hl 1 rfl) ?_
        refine lv_aload hx hb xd_De_layer_118 (lv_at hl 0 rfl) ?_
        have hFc := px_free hD hS hA
        refine va_calli (va_runV (As := [.ref (ad104 (20 + ml) 0)]) (rest := [.ref (ad104 0 0)]) ⟨hx, hb, hml, hown, hT⟩ (xc_De_faultOfX l D kA H.size ad104 E105 RL106 (gDr g ml y L7) ml nd 0 wl.length L7.length (by first | assumption | omega) hLI hTDd hTLd hLBd hRBd hNZd hNDd hUd) (cwV 1 hT (wT_V k6e_15 k6e_16 k6e_17 k6e_18 k6e_14) rfl rfl rfl (by decide +kernel) ⟨Nat.le_of_ble_eq_true rfl, Nat.le_of_ble_eq_true rfl⟩) (px_preV hK hP hD m_131 c_130 rfl) rfl rfl hl.1 rfl (lv_room (Nat.le_of_ble_eq_true rfl)) xd_De_layer_120 ⟨(Nat.le_of_ble_eq_true rfl), (Nat.le_of_ble_eq_true rfl)⟩) hS (fun q _ h => hFc q h) hFc (fun r154 u155 t H1 locs ht hvm hp156 hB hz1 hk1 hS => ?_)
        obtain ⟨hP1, hD1⟩ := hB
        rw [ht] at hP1
        have hD1 := hD1.weaken (fun _ _ _ h => hFc _ h)
        generalize H1 = H at hP1 hS ⊢
        have hP := hP1
        have hD := hD1
        have hP : va_P D xcl (rp ad104 E105 RL106) H := hP
        have hD : va_D A (rp ad104 E105 RL106) := hD
        have hfo : r154 = nI (rsW (gDr g ml y L7) ml L7.length) := by rw [← hmcd]; exact hp156
        refine px_put (D := D) (ci := 0) (v := .int r154) (ty := .int) (C := xR_De) (T := xT_De) (N := 6) hx hb hT xi_De xt_De xt_De_ok xn_De hown hK.1 hP hD hS m_131 c_130 rfl 5 (by decide) (hT _ k6e_0) (fun _ h9 => h9) rfl (by decide +kernel) rfl rfl (Nat.le_of_ble_eq_true rfl) xd_De_layer_123 (fun H locs hP hD hS => ?_)
        have hP : va_P D xcl (rp ad104 (up2 E105 0 0 (.inr (0, [.ref (ad104 0 1), .ref (ad104 0 5), .ref (ad104 0 7), .ref (ad104 0 9), .int (nI ml), .int r154]))) RL106) H := hP
        have hD : va_D A (rp ad104 (up2 E105 0 0 (.inr (0, [.ref (ad104 0 1), .ref (ad104 0 5), .ref (ad104 0 7), .ref (ad104 0 9), .int (nI ml), .int r154]))) RL106) := hD
        generalize hE158 : up2 E105 0 0 (.inr (0, [.ref (ad104 0 1), .ref (ad104 0 5), .ref (ad104 0 7), .ref (ad104 0 9), .int (nI ml), .int r154])) = E157 at hP hD
        have fE159 : ∀ b2 o2, ¬ (b2 = 0 ∧ o2 = 0) → E157 b2 o2 = E105 b2 o2 := fun b2 o2 h9 => by rw [← hE158]; exact up2_ne (by omega)
        have c_160 : E157 0 0 = .inr (0, [.ref (ad104 0 1), .ref (ad104 0 5), .ref (ad104 0 7), .ref (ad104 0 9), .int (nI ml), .int r154]) := by rw [← hE158]; exact up2_eq
        have c_161 : E157 0 1 = .inr (1, [.ref (ad104 0 2), .ref (ad104 0 3), .ref (ad104 0 4), .int (nI 0), .int (nI (wl.length))]) := (fE159 0 1 (by omega)).trans c_133
        have c_162 : E157 0 2 = .inl (kA 1, 40, .inl tx_132) := (fE159 0 2 (by omega)).trans c_135
        have c_163 : E157 0 3 = .inl (kA 0, 20, .inl fb_132) := (fE159 0 3 (by omega)).trans c_137
        have c_164 : E157 0 4 = .inl (kA 0, 20, .inl fe_132) := (fE159 0 4 (by omega)).trans c_139
        have c_165 : E157 0 5 = .inr (2, [.ref (ad104 0 6), .int (nI nd)]) := (fE159 0 5 (by omega)).trans c_142
        have c_166 : E157 0 6 = .inl (kA 4, 12, .inr (.inr (.inr (.inr fd_141)))) := (fE159 0 6 (by omega)).trans c_144
        have c_167 : E157 0 7 = .inr (3, [.ref (ad104 0 5), .ref (ad104 0 8), .int (nI (L7.length)), .int cf_146, pv_146]) := (fE159 0 7 (by omega)).trans c_147
        have c_168 : E157 0 8 = .inl (kA 4, 12, .inr (.inr (.inr (.inr fc_146)))) := (fE159 0 8 (by omega)).trans c_149
        have c_169 : E157 0 9 = .inl (kA 5, 5, .inr (.inr (.inr (.inr fl_151)))) := (fE159 0 9 (by omega)).trans c_152
        have hB1 : ∀ b2 o2, ¬ b2 = 0 → E157 b2 o2 = E105 b2 o2 := fun b2 o2 h9 => by show E157 b2 o2 = _; rw [fE159 b2 o2 (by omega)]
        have hTDe : TDs (gDr g ml y L7) E157 nd := TDs_same (fun d9 hd9 => fun2 fun o9 => hB1 (1 + d9) o9 (by omega)) hTDd
        have hTLe : TLas (gDr g ml y L7) ad104 E157 nd (ml + 1) := TLas_same (Nat.le_refl _) (fun n9 hn9 => fun2 fun o9 => hB1 (20 + n9) o9 (by omega)) (fun _ _ => rfl) (fun _ _ => rfl) hTLd
        have hCBe : CBs (gDr g ml y L7) E157 (ml + 1) := CBs_same (fun la o9 hla => hB1 (20 + la) o9 (by omega)) hCBd
        have hRBe : RBs (gDr g ml y L7) E157 ml := fun k9 hk9 t9 ht9 => by rw [hB1 (20 + ml) (17 + 10 * k9) (by omega)]; exact hRBd k9 hk9 t9 ht9
        have hFXe : FRX ml nd ad ad104 E E157 := FRX_tr hFXd (FRX_B hB1)
        have h05e : eI (E157 0 0) 5 = r154 := by rw [c_160]; rfl
        have hLI : LI kA ad104 E157 RL106 nd ml := LI_same (Nat.le_refl _) (fun2 fun o9 => by show E157 (20 + ml) o9 = _; rw [fE159 (20 + ml) o9 (by omega)]) rfl (fun _ _ => rfl) (fun _ _ => rfl) (fun _ h => h) hLI
        have hCI : CI kA ad104 E157 RL106 ml nd 0 wl.length L7.length := ⟨hmB, ⟨r154, c_160⟩, ⟨tx_132, fb_132, fe_132, (by omega), (by omega), c_161, c_162, c_163, c_164, hws_132⟩, ⟨fd_141, (by omega), c_165, c_166, hds_141⟩, ⟨cf_146, pv_146, fc_146, (by omega), hpv_146, c_167, c_168, hfc_146⟩, ⟨fl_151, (by omega), c_169, hla_151⟩, (DIs_same (fun d9 hd9 => fun2 fun o9 => by show E157 (1 + d9) o9 = _; rw [fE159 (1 + d9) o9 (by omega)]) (fun _ _ => rfl) (fun _ h9 => h9) hDIs), (LIs_same (Nat.le_refl _) (fun n9 hn9 => fun2 fun o9 => by show E157 (20 + n9) o9 = _; rw [fE159 (20 + n9) o9 (by omega)]) (fun _ _ => rfl) (fun _ _ => rfl) (fun _ h9 => h9) hLIs)⟩
        obtain ⟨hmB, hDk, hLi, hSh, hCh, hLa, hDIs, hLIs⟩ := id hCI
        have m_00 : (0, 0) ∈ RL106 := hmB 0 (by omega)
        refine lv_aload_n hx hb xd_De_layer_126 rfl (lv_at hl 1 rfl) ?_
        refine px_get (D := D) (ci := 0) (v := .int r154) (C := xR_De) (T := xT_De) (N := 6) hx hb hT xi_De hown hK.1 hP m_00 c_160 rfl 5 (by decide) (hT _ k6e_0) (fun _ h9 => h9) rfl xd_De_layer_127 ?_
        refine lv_if_eq (tgt := 143) hx hb xd_De_layer_130 (by decide) (fun hc170 => ?_) (fun hc170 => ?_)
        · have hrs0 : rsW (gDr g ml y L7) ml L7.length = 0 := by
            have q := hc170
            rw [hfo] at q
            have q2 := rsW_le (g := (gDr g ml y L7)) (nl := ml) (md := L7.length)
            exact nI_inj (b := 0) (by omega) (by omega) q
          have hne5 := rsW_0 hrs0
          refine lv_aload_n hx hb xd_De_layer_143 rfl (lv_at hl 1 rfl) ?_
          refine lv_aload hx hb xd_De_layer_144 (lv_at hl 0 rfl) ?_
          have hFc := px_free hD hS hA
          refine va_callv (va_runV (As := [.ref (ad104 (20 + ml) 0)]) (rest := []) ⟨hx, hb, hml, hown, hT⟩ (xc_De_keepX l D kA H.size ad104 E157 RL106 (gDr g ml y L7) ml nd 0 wl.length L7.length L7 (by first | assumption | omega) hLI (by omega) hTDe hTLe hmcd (fun k9 hk9 => gDr_md hGL7 hnd12 hk9)) (cwV 1 hT (wT_V k6e_20 k6e_21 k6e_22 k6e_18 k6e_19) rfl rfl rfl (by decide +kernel) ⟨Nat.le_of_ble_eq_true rfl, Nat.le_of_ble_eq_true rfl⟩) (px_preV hK hP hD m_00 c_160 rfl) rfl rfl hl.1 rfl (lv_room (Nat.le_of_ble_eq_true rfl)) xd_De_layer_146 ⟨(Nat.le_of_ble_eq_true rfl), (Nat.le_of_ble_eq_true rfl)⟩) hS (fun q _ h => hFc q h) hFc (fun u172 t H1 locs ht hvm hp173 hB hz1 hk1 hS => ?_)
          obtain ⟨hP1, hD1⟩ := hB
          rw [ht] at hP1
          have hD1 := hD1.weaken (fun _ _ _ h => hFc _ h)
          generalize H1 = H at hP1 hS ⊢
          have hP := hP1
          have hD := hD1
          obtain ⟨E174, rfl⟩ : ∃ z, z = u172 := ⟨_, rfl⟩
          have hP : va_P D xcl (rp ad104 E174 RL106) H := hP
          have hD : va_D A (rp ad104 E174 RL106) := hD
          obtain ⟨hCI, hTDk, hLyK, h05k⟩ := hp173
          have hCI : CI kA ad104 E174 RL106 (ml + 1) nd 0 wl.length L7.length := hCI
          have hLyK : ∀ n9, n9 < ml + 1 → E174 (20 + n9) = E157 (20 + n9) := hLyK
          have hTLk : TLas (gDr g ml y L7) ad104 E174 nd (ml + 1) := TLas_same (Nat.le_refl _) hLyK (fun _ _ => rfl) (fun _ _ => rfl) hTLe
          have hCBk : CBs (gDr g ml y L7) E174 (ml + 1) := CBs_same (fun la o9 hla => by rw [hLyK la hla]) hCBe
          have hRBk : RBs (gDr g ml y L7) E174 ml := fun k9 hk9 t9 ht9 => by rw [hLyK ml (by omega)]; exact hRBe k9 hk9 t9 ht9
          have h05z : eI (E174 0 0) 5 = 0 := h05k.trans (h05e.trans hc170)
          obtain ⟨hmB, hDk, hLi, hSh, hCh, hLa, hDIs, hLIs⟩ := id hCI
          obtain ⟨fd_175, hnd_175, q5_175, q6_175, hds_175⟩ := id (hSh)
          have c_176 : E174 0 5 = .inr (2, [.ref (ad104 0 6), .int (nI nd)]) := q5_175
          have m_177 : (0, 5) ∈ RL106 := hmB 5 (by omega)
          have c_178 : E174 0 6 = .inl (kA 4, 12, .inr (.inr (.inr (.inr fd_175)))) := q6_175
          have m_179 : (0, 6) ∈ RL106 := hmB 6 (by omega)
          obtain ⟨fl_180, hml_180, q9_180, hla_180⟩ := id (hLa)
          have c_181 : E174 0 9 = .inl (kA 5, 5, .inr (.inr (.inr (.inr fl_180)))) := q9_180
          have m_182 : (0, 9) ∈ RL106 := hmB 9 (by omega)
          refine lv_aload hx hb xd_De_layer_149 (lv_at hl 0 rfl) ?_
          obtain ⟨m0_183, m1_183, pv_183, op_183, mk_183, fm_183, hmk_183, hpv_183, q0_183, q1_183, hk_183⟩ := id (hLIs ml (by omega))
          have c_184 : E174 (20 + ml) 0 = .inr (5, [.int (nI ml), pv_183, .ref (ad104 (20 + ml) 1), .int op_183]) := q0_183
          have m_185 : (20 + ml, 0) ∈ RL106 := m0_183
          have c_186 : E174 (20 + ml) 1 = .inl (kA 6, mk_183, .inr (.inr (.inr (.inr fm_183)))) := q1_183
          have m_187 : (20 + ml, 1) ∈ RL106 := m1_183
          refine px_get (D := D) (ci := 5) (v := .int (nI ml)) (C := xR_Ly) (T := xT_Ly) (N := 4) hx hb hT xi_Ly hown hK.1 hP m_185 c_184 rfl 0 (by decide) (hT _ k6e_23) (fun _ h9 => h9) rfl xd_De_layer_151 ?_
          refine W.widen (k := 101) (n := 430) (Nat.le_of_ble_eq_true rfl) (Nat.le_of_ble_eq_true rfl) ?_
          refine vx_ret ?_
          exact W.iret (v := (nI ml)) hx hb hr (fun t ht hW => ⟨⟨(nI ml), (ad104, E174, RL106), rfl, ⟨⟨rfl, by omega, hA00, h05z⟩, L7, wl.length, L7.length, (by rw [← hwl]; exact hyL), (by unfold yW; rw [hyq9]; exact hrs0), hCI, (by rw [hyq9]; exact hTDk), (by rw [hyq9]; exact hTLk), (by rw [hyq9]; exact hCBk), (by rw [hyq9]; exact hRBk), (fun n9 hn9 => (hLyK n9 (by omega)).trans (hFXe.1 n9 hn9)), hFXe.2.1, hFXe.2.2.2⟩, by rw [ht]; exact hP, hD⟩, hS.F ht⟩) hS.2.2 xd_De_layer_154
        · have hyW : ¬ yW g ml px L7 = 0 := fun q => hc170 (by rw [hfo]; unfold yW at q; rw [hyq9] at q; rw [q]; rfl)
          exact y_throwB (ik := 63) (is := 104) (wf := fun (u : (Nat → Nat → Nat) × (Nat → Nat → va_E) × List (Nat × Nat)) => rp u.1 u.2.1 u.2.2) (ad104, E157, RL106) (⟨⟨⟨wl.length, L7.length, hCI⟩, hA00, hFXe⟩, Or.inr (Or.inr ⟨L7, (by rw [← hwl]; exact hyL), hyW, (by rw [h05e, hfo]; unfold yW; rw [hyq9])⟩)⟩) (Or.inr (Or.inr ⟨rfl, L7, (by rw [← hwl]; exact hyL), hyW⟩)) hx hb hlt hown hT hK k6e_24 k6e_25 hZ.2.2.2.1.2.2.2.2.2.2.2.2.2.2.2.2.2.2.2.2.1 hZ.1 hS hP hD (hl.1.trans hml.symm) xd_De_layer_133 xd_De_layer_136 xd_De_layer_137 xd_De_layer_139 xd_De_layer_142 htab (Nat.le_of_ble_eq_true rfl) (Nat.le_of_ble_eq_true rfl) (Nat.le_of_ble_eq_true rfl) (Nat.le_of_ble_eq_true rfl) hlocks (Nat.le_of_ble_eq_true rfl) (Nat.le_of_ble_eq_true rfl)
    rcases (show y = 0 ∨ ∃ yq, y = yq + 1 from by rcases Nat.eq_zero_or_pos y with q | q; exact Or.inl q; exact Or.inr ⟨y - 1, by omega⟩) with hyq | ⟨yq, hyq⟩
    · rw [lyv_0 hyq] at hl
      have hl : lv_has ls 7 [(4, .null), (3, .int bi), (2, .int px), (1, .int fi), (0, .ref (ad 0 0))] := hl
      refine lv_aload_n hx hb xd_De_layer_65 rfl (lv_at hl 4 rfl) ?_
      refine px_get (D := D) (ci := 0) (v := .ref (ad 0 7)) (C := xR_De) (T := xT_De) (N := 6) hx hb hT xi_De hown hK.1 hP m_60 c_59 rfl 2 (by decide) (hT _ k6e_7) (fun _ h9 => h9) rfl xd_De_layer_66 ?_
      refine lv_iload_n hx hb xd_De_layer_69 rfl (lv_at hl 3 rfl) ?_
      refine lv_aloadN hx hb xd_De_layer_70 (lv_at hl 0 rfl) ?_
      have hFc := px_free hD hS hA
      refine va_callv (va_runV (As := [.int fi, .null]) (rest := []) ⟨hx, hb, hml, hown, hT⟩ (xc_Ch_beginN l D kA H.size ad E42 RL cs cf_75 pv_75 fi m_77 c_76) (cwV 2 hT (wT_V k6e_27 k6e_28 k6e_29 k6e_13 k6e_26) rfl rfl rfl (by decide +kernel) ⟨Nat.le_of_ble_eq_true rfl, Nat.le_of_ble_eq_true rfl⟩) (px_preV hK hP hD m_77 c_76 rfl) rfl rfl hl.1 rfl (lv_room (Nat.le_of_ble_eq_true rfl)) xd_De_layer_72 ⟨(Nat.le_of_ble_eq_true rfl), (Nat.le_of_ble_eq_true rfl)⟩) hS (fun q _ h => hFc q h) hFc (fun u189 t H1 locs ht hvm hp190 hB hz1 hk1 hS => ?_)
      obtain ⟨hP1, hD1⟩ := hB
      rw [ht] at hP1
      have hD1 := hD1.weaken (fun _ _ _ h => hFc _ h)
      generalize H1 = H at hP1 hS ⊢
      have hP := hP1
      have hD := hD1
      obtain ⟨E191, rfl⟩ : ∃ z, z = u189 := ⟨_, rfl⟩
      obtain ⟨hp194, p_192, p_193⟩ := hp190
      have p_192 : E191 0 7 = .inr (3, [.ref (ad 0 5), .ref (ad 0 8), .int 0, .int fi, .null]) := p_192
      have p_193 : (∀ b2 o2, ¬ (b2 = 0 ∧ o2 = 7) → E191 b2 o2 = E42 b2 o2) := p_193
      have c_195 : E191 0 0 = .inr (0, [.ref (ad 0 1), .ref (ad 0 5), .ref (ad 0 7), .ref (ad 0 9), .int (nI ml), .int lf_58]) := (p_193 0 0 (by omega)).trans c_59
      have c_196 : E191 0 1 = .inr (1, [.ref (ad 0 2), .ref (ad 0 3), .ref (ad 0 4), .int (nI 0), .int (nI (wl.length))]) := (p_193 0 1 (by omega)).trans c_62
      have c_197 : E191 0 2 = .inl (kA 1, 40, .inl tx_61) := (p_193 0 2 (by omega)).trans c_64
      have c_198 : E191 0 3 = .inl (kA 0, 20, .inl fb_61) := (p_193 0 3 (by omega)).trans c_66
      have c_199 : E191 0 4 = .inl (kA 0, 20, .inl fe_61) := (p_193 0 4 (by omega)).trans c_68
      have c_200 : E191 0 5 = .inr (2, [.ref (ad 0 6), .int (nI nd)]) := (p_193 0 5 (by omega)).trans c_71
      have c_201 : E191 0 6 = .inl (kA 4, 12, .inr (.inr (.inr (.inr fd_70)))) := (p_193 0 6 (by omega)).trans c_73
      have c_202 : E191 0 8 = .inl (kA 4, 12, .inr (.inr (.inr (.inr fc_75)))) := (p_193 0 8 (by omega)).trans c_78
      have c_203 : E191 0 9 = .inl (kA 5, 5, .inr (.inr (.inr (.inr fl_80)))) := (p_193 0 9 (by omega)).trans c_81
      have hP : va_P D xcl (rp ad E191 RL) H := hP
      have hD : va_D A (rp ad E191 RL) := hD
      have hCX0 : CX ad E191 nd fi y [] := ⟨by rw [p_192]; rfl, by rw [p_192, lyv_0 hyq]; rfl, fun k9 hk9 => absurd hk9 (Nat.not_lt_zero _), GL_nil⟩
      have hF65 : F78 E42 E191 := fun b2 o2 h79 h89 => by show E191 b2 o2 = _; rw [p_193 b2 o2 (by omega)]
      have hTD2 : TDs g E191 nd := TDs_78 hF65 hTD1
      have hTL2 : TLas g ad E191 nd ml := TLas_78 hF65 hTL1
      have hLW2 : LW g E191 len wl := LW_78 hF65 hLW
      have hCI : CI kA ad E191 RL ml nd 0 wl.length 0 := ⟨hmB, ⟨lf_58, c_195⟩, ⟨tx_61, fb_61, fe_61, (by omega), (by omega), c_196, c_197, c_198, c_199, hws_61⟩, ⟨fd_70, (by omega), c_200, c_201, hds_70⟩, ⟨fi, .null, fc_75, (by omega), (Or.inl rfl), p_192, c_202, (fun k9 hk9 => absurd hk9 (by omega))⟩, ⟨fl_80, (by omega), c_203, hla_80⟩, (DIs_same (fun d9 hd9 => fun2 fun o9 => by show E191 (1 + d9) o9 = _; rw [p_193 (1 + d9) o9 (by omega)]) (fun _ _ => rfl) (fun _ h9 => h9) hDIs), (LIs_same (Nat.le_refl _) (fun n9 hn9 => fun2 fun o9 => by show E191 (20 + n9) o9 = _; rw [p_193 (20 + n9) o9 (by omega)]) (fun _ _ => rfl) (fun _ _ => rfl) (fun _ h9 => h9) hLIs)⟩
      obtain ⟨hmB, hDk, hLi, hSh, hCh, hLa, hDIs, hLIs⟩ := id hCI
      refine lv_aload_n hx hb xd_De_layer_75 rfl (lv_at hl 4 rfl) ?_
      have hFc := px_free hD hS hA
      obtain ⟨lf_204, q_204⟩ := id (hDk)
      have c_205 : E191 0 0 = .inr (0, [.ref (ad 0 1), .ref (ad 0 5), .ref (ad 0 7), .ref (ad 0 9), .int (nI ml), .int lf_204]) := q_204
      have m_206 : (0, 0) ∈ RL := hmB 0 (by omega)
      refine va_calli (va_runV (As := []) (rest := []) ⟨hx, hb, hml, hown, hT⟩ (xc_De_addRootsX l D kA H.size ad E191 RL g ml nd 0 len wl fi y ([]) (by first | assumption | omega) hCX0 hTD2 hTL2 hy hLW2) (cwV 0 hT (wT_V k6e_31 k6e_32 k6e_33 k6e_18 k6e_30) rfl rfl rfl (by decide +kernel) ⟨Nat.le_of_ble_eq_true rfl, Nat.le_of_ble_eq_true rfl⟩) (px_preV hK hP hD m_206 c_205 rfl) rfl rfl hl.1 rfl (lv_room (Nat.le_of_ble_eq_true rfl)) xd_De_layer_76 ⟨(Nat.le_of_ble_eq_true rfl), (Nat.le_of_ble_eq_true rfl)⟩) hS (fun q _ h => hFc q h) hFc (fun r207 u208 t H1 locs ht hvm hp209 hB hz1 hk1 hS => ?_)
      obtain ⟨hP1, hD1⟩ := hB
      rw [ht] at hP1
      have hD1 := hD1.weaken (fun _ _ _ h => hFc _ h)
      generalize H1 = H at hP1 hS ⊢
      have hP := hP1
      have hD := hD1
      obtain ⟨E210, rfl⟩ : ∃ z, z = u208 := ⟨_, rfl⟩
      have hP : va_P D xcl (rp ad E210 RL) H := hP
      have hD : va_D A (rp ad E210 RL) := hD
      obtain ⟨L1, hCI, hCX1, hF76, hres⟩ := hp209
      have hCI : CI kA ad E210 RL ml nd 0 wl.length L1.length := hCI
      have hF2 : F78 E42 E210 := F78_tr hF65 hF76
      have hTD3 : TDs g E210 nd := TDs_78 hF2 hTD1
      have hTL3 : TLas g ad E210 nd ml := TLas_78 hF2 hTL1
      have hFX2 : FRX ml nd ad ad E E210 := FRX_tr hFX1 (FRX_78 hF2)
      have h052 : eI (E210 0 0) 5 = 0 := by rw [hF2 0 0 (by omega) (by omega)]; exact h051
      obtain ⟨hmB, hDk, hLi, hSh, hCh, hLa, hDIs, hLIs⟩ := id hCI
      obtain ⟨cf_211, pv_211, fc_211, hcs_211, hpv_211, q7_211, q8_211, hfc_211⟩ := id (hCh)
      have c_212 : E210 0 7 = .inr (3, [.ref (ad 0 5), .ref (ad 0 8), .int (nI (L1.length)), .int cf_211, pv_211]) := q7_211
      have m_213 : (0, 7) ∈ RL := hmB 7 (by omega)
      have c_214 : E210 0 8 = .inl (kA 4, 12, .inr (.inr (.inr (.inr fc_211)))) := q8_211
      have m_215 : (0, 8) ∈ RL := hmB 8 (by omega)
      rcases hres with ⟨rfl, hok9⟩ | ⟨rfl, hok9⟩
      · have hok8 := hok9
        refine lv_if_ne (tgt := 92) hx hb xd_De_layer_79 (by decide) (fun _ => ?_) (fun hc216 => absurd hc216 (by decide))
        refine lv_iload_n hx hb xd_De_layer_92 rfl (lv_at hl 1 rfl) ?_
        refine lv_if_eq (tgt := 103) hx hb xd_De_layer_93 (by decide) (fun hc217 => ?_) (fun hc217 => ?_)
        · exact jn84 (E210, L1, L1) _ _ _ (lv_sub hl [4] rfl) hP hD hS ⟨(show CI kA ad E210 RL ml nd 0 wl.length L1.length from hCI), (show CX ad E210 nd fi y L1 from hCX1), (show F78 E42 E210 from hF2), (show aF (adG g nd fi y) [] (nmL (g 0) wl wl.length 0) = (true, L1) from hok9), (show L1 = cif (¬ bi = 0) (bIt (bUg g nd fi y) g y 13 L1) L1 from (cif_neg (fun q => q hc217)).symm)⟩
        · refine lv_aload_n hx hb xd_De_layer_96 rfl (lv_at hl 4 rfl) ?_
          obtain ⟨lf_218, q_218⟩ := id (hDk)
          have c_219 : E210 0 0 = .inr (0, [.ref (ad 0 1), .ref (ad 0 5), .ref (ad 0 7), .ref (ad 0 9), .int (nI ml), .int lf_218]) := q_218
          have m_220 : (0, 0) ∈ RL := hmB 0 (by omega)
          refine px_get (D := D) (ci := 0) (v := .ref (ad 0 7)) (C := xR_De) (T := xT_De) (N := 6) hx hb hT xi_De hown hK.1 hP m_220 c_219 rfl 2 (by decide) (hT _ k6e_7) (fun _ h9 => h9) rfl xd_De_layer_97 ?_
          have hFc := px_free hD hS hA
          refine va_callv (va_runV (As := []) (rest := []) ⟨hx, hb, hml, hown, hT⟩ (xc_Ch_bindX l D kA H.size ad E210 RL g ml nd 0 wl.length fi y L1 (by first | assumption | omega) hCX1 hTD3 hTL3 hy) (cwV 0 hT (wT_V k6e_35 k6e_36 k6e_37 k6e_13 k6e_34) rfl rfl rfl (by decide +kernel) ⟨Nat.le_of_ble_eq_true rfl, Nat.le_of_ble_eq_true rfl⟩) (px_preV hK hP hD m_213 c_212 rfl) rfl rfl hl.1 rfl (lv_room (Nat.le_of_ble_eq_true rfl)) xd_De_layer_100 ⟨(Nat.le_of_ble_eq_true rfl), (Nat.le_of_ble_eq_true rfl)⟩) hS (fun q _ h => hFc q h) hFc (fun u222 t H1 locs ht hvm hp223 hB hz1 hk1 hS => ?_)
          obtain ⟨hP1, hD1⟩ := hB
          rw [ht] at hP1
          have hD1 := hD1.weaken (fun _ _ _ h => hFc _ h)
          generalize H1 = H at hP1 hS ⊢
          have hP := hP1
          have hD := hD1
          obtain ⟨E224, rfl⟩ : ∃ z, z = u222 := ⟨_, rfl⟩
          have hP : va_P D xcl (rp ad E224 RL) H := hP
          have hD : va_D A (rp ad E224 RL) := hD
          obtain ⟨L2, hCI, hCX2, hF9, hsp9⟩ := hp223
          have hCI : CI kA ad E224 RL ml nd 0 wl.length L2.length := hCI
          have hF2b : F78 E42 E224 := F78_tr hF2 hF9
          obtain ⟨hmB, hDk, hLi, hSh, hCh, hLa, hDIs, hLIs⟩ := id hCI
          exact jn84 (E224, L1, L2) _ _ _ (lv_sub hl [4] rfl) hP hD hS ⟨(show CI kA ad E224 RL ml nd 0 wl.length L2.length from hCI), (show CX ad E224 nd fi y L2 from hCX2), (show F78 E42 E224 from hF2b), (show aF (adG g nd fi y) [] (nmL (g 0) wl wl.length 0) = (true, L1) from hok9), (show L2 = cif (¬ bi = 0) (bIt (bUg g nd fi y) g y 13 L1) L1 from by rw [cif_pos hc217, hsp9])⟩
      · have hok8 := hok9
        refine lv_if_ne (tgt := 92) hx hb xd_De_layer_79 (by decide) (fun hc225 => absurd (by decide) hc225) (fun _ => ?_)
        exact y_throwC (ik := 89) (is := 91) (wf := fun (u : (Nat → Nat → Nat) × (Nat → Nat → va_E) × List (Nat × Nat)) => rp u.1 u.2.1 u.2.2) (ad, E210, RL) (⟨⟨⟨wl.length, L1.length, hCI⟩, rfl, hFX2⟩, Or.inr (Or.inl ⟨(by rw [← hwl]; exact ⟨hok, L1, (by rw [hyq9]; exact hok9)⟩), h052⟩)⟩) (Or.inr (Or.inl ⟨rfl, (by rw [← hwl]; exact ⟨hok, L1, (by rw [hyq9]; exact hok9)⟩)⟩)) hx hb hlt hown hT hK k6e_38 k6e_39 hZ.2.2.2.1.2.2.2.2.2.2.2.2.2.2.2.2.2.2.2.1 hZ.1 hS hP hD (hl.1.trans hml.symm) xd_De_layer_82 xd_De_layer_85 xd_De_layer_86 xd_De_layer_88 xd_De_layer_91 htab (Nat.le_of_ble_eq_true rfl) (Nat.le_of_ble_eq_true rfl) (Nat.le_of_ble_eq_true rfl) (Nat.le_of_ble_eq_true rfl) hlocks (Nat.le_of_ble_eq_true rfl) (Nat.le_of_ble_eq_true rfl)
    · rw [lyv_s hyq] at hl
      have hl : lv_has ls 7 [(4, .ref (ad (20 + yq) 0)), (3, .int bi), (2, .int px), (1, .int fi), (0, .ref (ad 0 0))] := hl
      refine lv_aload_n hx hb xd_De_layer_65 rfl (lv_at hl 4 rfl) ?_
      refine px_get (D := D) (ci := 0) (v := .ref (ad 0 7)) (C := xR_De) (T := xT_De) (N := 6) hx hb hT xi_De hown hK.1 hP m_60 c_59 rfl 2 (by decide) (hT _ k6e_7) (fun _ h9 => h9) rfl xd_De_layer_66 ?_
      refine lv_iload_n hx hb xd_De_layer_69 rfl (lv_at hl 3 rfl) ?_
      refine lv_aload hx hb xd_De_layer_70 (lv_at hl 0 rfl) ?_
      have hFc := px_free hD hS hA
      refine va_callv (va_runV (As := [.int fi, .ref (ad (20 + yq) 0)]) (rest := []) ⟨hx, hb, hml, hown, hT⟩ (xc_Ch_beginR l D kA H.size ad E42 RL cs cf_75 pv_75 fi (ad (20 + yq) 0) m_77 c_76) (cwV 2 hT (wT_V k6e_27 k6e_28 k6e_29 k6e_13 k6e_26) rfl rfl rfl (by decide +kernel) ⟨Nat.le_of_ble_eq_true rfl, Nat.le_of_ble_eq_true rfl⟩) (px_preV hK hP hD m_77 c_76 rfl) rfl rfl hl.1 rfl (lv_room (Nat.le_of_ble_eq_true rfl)) xd_De_layer_72 ⟨(Nat.le_of_ble_eq_true rfl), (Nat.le_of_ble_eq_true rfl)⟩) hS (fun q _ h => hFc q h) hFc (fun u227 t H1 locs ht hvm hp228 hB hz1 hk1 hS => ?_)
      obtain ⟨hP1, hD1⟩ := hB
      rw [ht] at hP1
      have hD1 := hD1.weaken (fun _ _ _ h => hFc _ h)
      generalize H1 = H at hP1 hS ⊢
      have hP := hP1
      have hD := hD1
      obtain ⟨E229, rfl⟩ : ∃ z, z = u227 := ⟨_, rfl⟩
      obtain ⟨hp232, p_230, p_231⟩ := hp228
      have p_230 : E229 0 7 = .inr (3, [.ref (ad 0 5), .ref (ad 0 8), .int 0, .int fi, .ref (ad (20 + yq) 0)]) := p_230
      have p_231 : (∀ b2 o2, ¬ (b2 = 0 ∧ o2 = 7) → E229 b2 o2 = E42 b2 o2) := p_231
      have c_233 : E229 0 0 = .inr (0, [.ref (ad 0 1), .ref (ad 0 5), .ref (ad 0 7), .ref (ad 0 9), .int (nI ml), .int lf_58]) := (p_231 0 0 (by omega)).trans c_59
      have c_234 : E229 0 1 = .inr (1, [.ref (ad 0 2), .ref (ad 0 3), .ref (ad 0 4), .int (nI 0), .int (nI (wl.length))]) := (p_231 0 1 (by omega)).trans c_62
      have c_235 : E229 0 2 = .inl (kA 1, 40, .inl tx_61) := (p_231 0 2 (by omega)).trans c_64
      have c_236 : E229 0 3 = .inl (kA 0, 20, .inl fb_61) := (p_231 0 3 (by omega)).trans c_66
      have c_237 : E229 0 4 = .inl (kA 0, 20, .inl fe_61) := (p_231 0 4 (by omega)).trans c_68
      have c_238 : E229 0 5 = .inr (2, [.ref (ad 0 6), .int (nI nd)]) := (p_231 0 5 (by omega)).trans c_71
      have c_239 : E229 0 6 = .inl (kA 4, 12, .inr (.inr (.inr (.inr fd_70)))) := (p_231 0 6 (by omega)).trans c_73
      have c_240 : E229 0 8 = .inl (kA 4, 12, .inr (.inr (.inr (.inr fc_75)))) := (p_231 0 8 (by omega)).trans c_78
      have c_241 : E229 0 9 = .inl (kA 5, 5, .inr (.inr (.inr (.inr fl_80)))) := (p_231 0 9 (by omega)).trans c_81
      have hP : va_P D xcl (rp ad E229 RL) H := hP
      have hD : va_D A (rp ad E229 RL) := hD
      have hCX0 : CX ad E229 nd fi y [] := ⟨by rw [p_230]; rfl, by rw [p_230, lyv_s hyq]; rfl, fun k9 hk9 => absurd hk9 (Nat.not_lt_zero _), GL_nil⟩
      have hF65 : F78 E42 E229 := fun b2 o2 h79 h89 => by show E229 b2 o2 = _; rw [p_231 b2 o2 (by omega)]
      have hTD2 : TDs g E229 nd := TDs_78 hF65 hTD1
      have hTL2 : TLas g ad E229 nd ml := TLas_78 hF65 hTL1
      have hLW2 : LW g E229 len wl := LW_78 hF65 hLW
      have hCI : CI kA ad E229 RL ml nd 0 wl.length 0 := ⟨hmB, ⟨lf_58, c_233⟩, ⟨tx_61, fb_61, fe_61, (by omega), (by omega), c_234, c_235, c_236, c_237, hws_61⟩, ⟨fd_70, (by omega), c_238, c_239, hds_70⟩, ⟨fi, (.ref (ad (20 + yq) 0)), fc_75, (by omega), (Or.inr ⟨yq, by omega, rfl⟩), p_230, c_240, (fun k9 hk9 => absurd hk9 (by omega))⟩, ⟨fl_80, (by omega), c_241, hla_80⟩, (DIs_same (fun d9 hd9 => fun2 fun o9 => by show E229 (1 + d9) o9 = _; rw [p_231 (1 + d9) o9 (by omega)]) (fun _ _ => rfl) (fun _ h9 => h9) hDIs), (LIs_same (Nat.le_refl _) (fun n9 hn9 => fun2 fun o9 => by show E229 (20 + n9) o9 = _; rw [p_231 (20 + n9) o9 (by omega)]) (fun _ _ => rfl) (fun _ _ => rfl) (fun _ h9 => h9) hLIs)⟩
      obtain ⟨hmB, hDk, hLi, hSh, hCh, hLa, hDIs, hLIs⟩ := id hCI
      refine lv_aload_n hx hb xd_De_layer_75 rfl (lv_at hl 4 rfl) ?_
      have hFc := px_free hD hS hA
      obtain ⟨lf_242, q_242⟩ := id (hDk)
      have c_243 : E229 0 0 = .inr (0, [.ref (ad 0 1), .ref (ad 0 5), .ref (ad 0 7), .ref (ad 0 9), .int (nI ml), .int lf_242]) := q_242
      have m_244 : (0, 0) ∈ RL := hmB 0 (by omega)
      refine va_calli (va_runV (As := []) (rest := []) ⟨hx, hb, hml, hown, hT⟩ (xc_De_addRootsX l D kA H.size ad E229 RL g ml nd 0 len wl fi y ([]) (by first | assumption | omega) hCX0 hTD2 hTL2 hy hLW2) (cwV 0 hT (wT_V k6e_31 k6e_32 k6e_33 k6e_18 k6e_30) rfl rfl rfl (by decide +kernel) ⟨Nat.le_of_ble_eq_true rfl, Nat.le_of_ble_eq_true rfl⟩) (px_preV hK hP hD m_244 c_243 rfl) rfl rfl hl.1 rfl (lv_room (Nat.le_of_ble_eq_true rfl)) xd_De_layer_76 ⟨(Nat.le_of_ble_eq_true rfl), (Nat.le_of_ble_eq_true rfl)⟩) hS (fun q _ h => hFc q h) hFc (fun r245 u246 t H1 locs ht hvm hp247 hB hz1 hk1 hS => ?_)
      obtain ⟨hP1, hD1⟩ := hB
      rw [ht] at hP1
      have hD1 := hD1.weaken (fun _ _ _ h => hFc _ h)
      generalize H1 = H at hP1 hS ⊢
      have hP := hP1
      have hD := hD1
      obtain ⟨E248, rfl⟩ : ∃ z, z = u246 := ⟨_, rfl⟩
      have hP : va_P D xcl (rp ad E248 RL) H := hP
      have hD : va_D A (rp ad E248 RL) := hD
      obtain ⟨L1, hCI, hCX1, hF76, hres⟩ := hp247
      have hCI : CI kA ad E248 RL ml nd 0 wl.length L1.length := hCI
      have hF2 : F78 E42 E248 := F78_tr hF65 hF76
      have hTD3 : TDs g E248 nd := TDs_78 hF2 hTD1
      have hTL3 : TLas g ad E248 nd ml := TLas_78 hF2 hTL1
      have hFX2 : FRX ml nd ad ad E E248 := FRX_tr hFX1 (FRX_78 hF2)
      have h052 : eI (E248 0 0) 5 = 0 := by rw [hF2 0 0 (by omega) (by omega)]; exact h051
      obtain ⟨hmB, hDk, hLi, hSh, hCh, hLa, hDIs, hLIs⟩ := id hCI
      obtain ⟨cf_249, pv_249, fc_249, hcs_249, hpv_249, q7_249, q8_249, hfc_249⟩ := id (hCh)
      have c_250 : E248 0 7 = .inr (3, [.ref (ad 0 5), .ref (ad 0 8), .int (nI (L1.length)), .int cf_249, pv_249]) := q7_249
      have m_251 : (0, 7) ∈ RL := hmB 7 (by omega)
      have c_252 : E248 0 8 = .inl (kA 4, 12, .inr (.inr (.inr (.inr fc_249)))) := q8_249
      have m_253 : (0, 8) ∈ RL := hmB 8 (by omega)
      rcases hres with ⟨rfl, hok9⟩ | ⟨rfl, hok9⟩
      · have hok8 := hok9
        refine lv_if_ne (tgt := 92) hx hb xd_De_layer_79 (by decide) (fun _ => ?_) (fun hc254 => absurd hc254 (by decide))
        refine lv_iload_n hx hb xd_De_layer_92 rfl (lv_at hl 1 rfl) ?_
        refine lv_if_eq (tgt := 103) hx hb xd_De_layer_93 (by decide) (fun hc255 => ?_) (fun hc255 => ?_)
        · exact jn84 (E248, L1, L1) _ _ _ (lv_sub hl [4] rfl) hP hD hS ⟨(show CI kA ad E248 RL ml nd 0 wl.length L1.length from hCI), (show CX ad E248 nd fi y L1 from hCX1), (show F78 E42 E248 from hF2), (show aF (adG g nd fi y) [] (nmL (g 0) wl wl.length 0) = (true, L1) from hok9), (show L1 = cif (¬ bi = 0) (bIt (bUg g nd fi y) g y 13 L1) L1 from (cif_neg (fun q => q hc255)).symm)⟩
        · refine lv_aload_n hx hb xd_De_layer_96 rfl (lv_at hl 4 rfl) ?_
          obtain ⟨lf_256, q_256⟩ := id (hDk)
          have c_257 : E248 0 0 = .inr (0, [.ref (ad 0 1), .ref (ad 0 5), .ref (ad 0 7), .ref (ad 0 9), .int (nI ml), .int lf_256]) := q_256
          have m_258 : (0, 0) ∈ RL := hmB 0 (by omega)
          refine px_get (D := D) (ci := 0) (v := .ref (ad 0 7)) (C := xR_De) (T := xT_De) (N := 6) hx hb hT xi_De hown hK.1 hP m_258 c_257 rfl 2 (by decide) (hT _ k6e_7) (fun _ h9 => h9) rfl xd_De_layer_97 ?_
          have hFc := px_free hD hS hA
          refine va_callv (va_runV (As := []) (rest := []) ⟨hx, hb, hml, hown, hT⟩ (xc_Ch_bindX l D kA H.size ad E248 RL g ml nd 0 wl.length fi y L1 (by first | assumption | omega) hCX1 hTD3 hTL3 hy) (cwV 0 hT (wT_V k6e_35 k6e_36 k6e_37 k6e_13 k6e_34) rfl rfl rfl (by decide +kernel) ⟨Nat.le_of_ble_eq_true rfl, Nat.le_of_ble_eq_true rfl⟩) (px_preV hK hP hD m_251 c_250 rfl) rfl rfl hl.1 rfl (lv_room (Nat.le_of_ble_eq_true rfl)) xd_De_layer_100 ⟨(Nat.le_of_ble_eq_true rfl), (Nat.le_of_ble_eq_true rfl)⟩) hS (fun q _ h => hFc q h) hFc (fun u260 t H1 locs ht hvm hp261 hB hz1 hk1 hS => ?_)
          obtain ⟨hP1, hD1⟩ := hB
          rw [ht] at hP1
          have hD1 := hD1.weaken (fun _ _ _ h => hFc _ h)
          generalize H1 = H at hP1 hS ⊢
          have hP := hP1
          have hD := hD1
          obtain ⟨E262, rfl⟩ : ∃ z, z = u260 := ⟨_, rfl⟩
          have hP : va_P D xcl (rp ad E262 RL) H := hP
          have hD : va_D A (rp ad E262 RL) := hD
          obtain ⟨L2, hCI, hCX2, hF9, hsp9⟩ := hp261
          have hCI : CI kA ad E262 RL ml nd 0 wl.length L2.length := hCI
          have hF2b : F78 E42 E262 := F78_tr hF2 hF9
          obtain ⟨hmB, hDk, hLi, hSh, hCh, hLa, hDIs, hLIs⟩ := id hCI
          exact jn84 (E262, L1, L2) _ _ _ (lv_sub hl [4] rfl) hP hD hS ⟨(show CI kA ad E262 RL ml nd 0 wl.length L2.length from hCI), (show CX ad E262 nd fi y L2 from hCX2), (show F78 E42 E262 from hF2b), (show aF (adG g nd fi y) [] (nmL (g 0) wl wl.length 0) = (true, L1) from hok9), (show L2 = cif (¬ bi = 0) (bIt (bUg g nd fi y) g y 13 L1) L1 from by rw [cif_pos hc255, hsp9])⟩
      · have hok8 := hok9
        refine lv_if_ne (tgt := 92) hx hb xd_De_layer_79 (by decide) (fun hc263 => absurd (by decide) hc263) (fun _ => ?_)
        exact y_throwC (ik := 89) (is := 91) (wf := fun (u : (Nat → Nat → Nat) × (Nat → Nat → va_E) × List (Nat × Nat)) => rp u.1 u.2.1 u.2.2) (ad, E248, RL) (⟨⟨⟨wl.length, L1.length, hCI⟩, rfl, hFX2⟩, Or.inr (Or.inl ⟨(by rw [← hwl]; exact ⟨hok, L1, (by rw [hyq9]; exact hok9)⟩), h052⟩)⟩) (Or.inr (Or.inl ⟨rfl, (by rw [← hwl]; exact ⟨hok, L1, (by rw [hyq9]; exact hok9)⟩)⟩)) hx hb hlt hown hT hK k6e_38 k6e_39 hZ.2.2.2.1.2.2.2.2.2.2.2.2.2.2.2.2.2.2.2.1 hZ.1 hS hP hD (hl.1.trans hml.symm) xd_De_layer_82 xd_De_layer_85 xd_De_layer_86 xd_De_layer_88 xd_De_layer_91 htab (Nat.le_of_ble_eq_true rfl) (Nat.le_of_ble_eq_true rfl) (Nat.le_of_ble_eq_true rfl) (Nat.le_of_ble_eq_true rfl) hlocks (Nat.le_of_ble_eq_true rfl) (Nat.le_of_ble_eq_true rfl)
  refine lv_aload_n hx hb xd_De_layer_12 rfl (lv_at hl 0 rfl) ?_
  refine lv_iload_n hx hb xd_De_layer_13 rfl (lv_at hl 2 rfl) ?_
  have hFc := px_free hD hS hA
  refine va_callq (va_runV (As := [.int px]) (rest := []) ⟨hx, hb, hml, hown, hT⟩ (xc_De_openLayerX l D kA H.size ad E42 RL g ml nd 0 wl.length cs px (by first | assumption | omega) hTL1) (cwV 1 hT (wT_V k6e_41 k6e_42 k6e_43 k6e_18 k6e_40) rfl rfl rfl (by decide +kernel) ⟨Nat.le_of_ble_eq_true rfl, Nat.le_of_ble_eq_true rfl⟩) (px_preV hK hP hD m_60 c_59 rfl) rfl rfl hl.1 rfl (lv_room (Nat.le_of_ble_eq_true rfl)) xd_De_layer_14 ⟨(Nat.le_of_ble_eq_true rfl), (Nat.le_of_ble_eq_true rfl)⟩) hS (fun q _ h => hFc q h) hFc (fun r264 u265 t H1 locs ht hvm hp266 hB hz1 hk1 hS => ?_)
  obtain ⟨hP1, hD1⟩ := hB
  rw [ht] at hP1
  have hD1 := hD1.weaken (fun _ _ _ h => hFc _ h)
  generalize H1 = H at hP1 hS ⊢
  have hP := hP1
  have hD := hD1
  have hP : va_P D xcl (rp ad E42 RL) H := hP
  have hD : va_D A (rp ad E42 RL) := hD
  rcases hp266 with ⟨rfl, z267⟩ | ⟨z268, z269, z270, z271, rfl⟩
  · refine W.eq (g2 := F0 m 17 ls [.null]) rfl ?_
    refine lv_astoreN hx hb xd_De_layer_17 hl (Nat.le_of_ble_eq_true rfl) rfl (fun ls hl => ?_)
    have hl : lv_has ls 7 [(4, .null), (0, .ref (ad 0 0)), (1, .int fi), (2, .int px), (3, .int bi)] := hl
    refine lv_iload_n hx hb xd_De_layer_19 rfl (lv_at hl 3 rfl) ?_
    refine lv_iconst (v := (-1)) hx hb xd_De_layer_20 (by decide) ?_
    refine lv_icmp_eq (tgt := 29) hx hb xd_De_layer_21 (by decide) (fun hc272 => ?_) (fun hc272 => ?_)
    · refine lv_iconst (v := 1) hx hb xd_De_layer_29 (by decide) ?_
      refine lv_goto (tgt := 34) hx hb xd_De_layer_30 (by decide) ?_
      refine lv_istore hx hb xd_De_layer_34 hl (Nat.le_of_ble_eq_true rfl) rfl (fun ls hl => ?_)
      have hl : lv_has ls 7 [(5, .int 1), (4, .null), (0, .ref (ad 0 0)), (1, .int fi), (2, .int px), (3, .int bi)] := hl
      refine lv_aload_n hx hb xd_De_layer_36 rfl (lv_at hl 2 rfl) ?_
      have hFc := px_free hD hS hA
      refine va_calli (va_runV (As := []) (rest := []) ⟨hx, hb, hml, hown, hT⟩ (xc_De_rootsAreNamesX l D kA H.size ad E42 RL g ml nd 0 len wl cs (by first | assumption | omega) hLW) (cwV 0 hT (wT_V k6e_45 k6e_46 k6e_47 k6e_18 k6e_44) rfl rfl rfl (by decide +kernel) ⟨Nat.le_of_ble_eq_true rfl, Nat.le_of_ble_eq_true rfl⟩) (px_preV hK hP hD m_60 c_59 rfl) rfl rfl hl.1 rfl (lv_room (Nat.le_of_ble_eq_true rfl)) xd_De_layer_37 ⟨(Nat.le_of_ble_eq_true rfl), (Nat.le_of_ble_eq_true rfl)⟩) hS (fun q _ h => hFc q h) hFc (fun r273 u274 t H1 locs ht hvm hp275 hB hz1 hk1 hS => ?_)
      obtain ⟨hP1, hD1⟩ := hB
      rw [ht] at hP1
      have hD1 := hD1.weaken (fun _ _ _ h => hFc _ h)
      generalize H1 = H at hP1 hS ⊢
      have hP := hP1
      have hD := hD1
      have hP : va_P D xcl (rp ad E42 RL) H := hP
      have hD : va_D A (rp ad E42 RL) := hD
      rcases hp275 with ⟨rfl, z276⟩ | ⟨rfl, z277⟩
      · refine W.eq (g2 := F0 m 40 ls [.int 1]) rfl ?_
        refine lv_if_eq (tgt := 55) hx hb xd_De_layer_40 (by decide) (fun hc278 => absurd hc278 (by decide)) (fun _ => ?_)
        refine lv_iload_n hx hb xd_De_layer_43 rfl (lv_at hl 3 rfl) ?_
        have hFc := px_free hD hS hA
        refine va_calli (va_runS (As := [.int fi]) (rest := []) ⟨hx, hb, hml, hown, hT⟩ (xc_Sh_isFinderX l D kA H.size ad E42 RL fi) (va_cwS 1 hT (wT_S k6e_49 k6e_50 k6e_51 k6e_48) rfl rfl rfl (by decide +kernel) ⟨Nat.le_of_ble_eq_true rfl, Nat.le_of_ble_eq_true rfl⟩) (x_preS hK hP hD) rfl rfl hl.1 rfl (lv_room (Nat.le_of_ble_eq_true rfl)) xd_De_layer_44 ⟨(Nat.le_of_ble_eq_true rfl), (Nat.le_of_ble_eq_true rfl)⟩) hS (fun q _ h => hFc q h) hFc (fun r279 u280 t H1 locs ht hvm hp281 hB hz1 hk1 hS => ?_)
        obtain ⟨hP1, hD1⟩ := hB
        rw [ht] at hP1
        have hD1 := hD1.weaken (fun _ _ _ h => hFc _ h)
        generalize H1 = H at hP1 hS ⊢
        have hP := hP1
        have hD := hD1
        have hP : va_P D xcl (rp ad E42 RL) H := hP
        have hD : va_D A (rp ad E42 RL) := hD
        rcases hp281 with ⟨rfl, z282⟩ | ⟨rfl, z283, z284⟩
        · refine W.eq (g2 := F0 m 47 ls [.int 1]) rfl ?_
          refine lv_if_eq (tgt := 55) hx hb xd_De_layer_47 (by decide) (fun hc285 => absurd hc285 (by decide)) (fun _ => ?_)
          refine lv_iload hx hb xd_De_layer_50 (lv_at hl 0 rfl) ?_
          refine lv_if_ne (tgt := 65) hx hb xd_De_layer_52 (by decide) (fun _ => ?_) (fun hc286 => absurd hc286 (by decide))
          exact jn83 0 _ _ _ (lv_sub hl [1, 5, 4, 3, 2] rfl) hP hD hS ⟨(show 0 ≤ ml from by first | assumption | omega), (show ok1 g (g 0) wl ml fi px from ⟨z276.1.1, z276.1.2, z276.2, fin_iff.mpr z282, Or.inl hc272⟩), (show iN (px + 1) = 0 from (by rw [hc272]; exact lq_m1))⟩
        · refine W.eq (g2 := F0 m 47 ls [.int 0]) rfl ?_
          refine lv_if_eq (tgt := 55) hx hb xd_De_layer_47 (by decide) (fun _ => ?_) (fun hc287 => absurd (by decide) hc287)
          exact y_throwA (ik := 56) (is := 80) (wf := fun (u : (Nat → Nat → Nat) × (Nat → Nat → va_E) × List (Nat × Nat)) => rp u.1 u.2.1 u.2.2) (ad, E42, RL) (⟨⟨⟨wl.length, cs, hCI⟩, rfl, hFX1⟩, Or.inl ⟨(by rw [← hwl]; exact (fun q => (fin_iff.mp q.2.2.2.1).elim z283 z284)), h051⟩⟩) (Or.inl ⟨rfl, (by rw [← hwl]; exact (fun q => (fin_iff.mp q.2.2.2.1).elim z283 z284))⟩) hx hb hlt hown hT hK k6e_52 k6e_53 hZ.2.2.2.1.2.2.2.2.2.2.2.2.2.2.2.2.2.2.1 hZ.1 hS hP hD (hl.1.trans hml.symm) xd_De_layer_55 xd_De_layer_58 xd_De_layer_59 xd_De_layer_61 xd_De_layer_64 htab (Nat.le_of_ble_eq_true rfl) (Nat.le_of_ble_eq_true rfl) (Nat.le_of_ble_eq_true rfl) (Nat.le_of_ble_eq_true rfl) hlocks (Nat.le_of_ble_eq_true rfl) (Nat.le_of_ble_eq_true rfl)
      · refine W.eq (g2 := F0 m 40 ls [.int 0]) rfl ?_
        refine lv_if_eq (tgt := 55) hx hb xd_De_layer_40 (by decide) (fun _ => ?_) (fun hc288 => absurd (by decide) hc288)
        exact y_throwA (ik := 56) (is := 80) (wf := fun (u : (Nat → Nat → Nat) × (Nat → Nat → va_E) × List (Nat × Nat)) => rp u.1 u.2.1 u.2.2) (ad, E42, RL) (⟨⟨⟨wl.length, cs, hCI⟩, rfl, hFX1⟩, Or.inl ⟨(by rw [← hwl]; exact (fun q => z277 ⟨⟨q.1, q.2.1⟩, q.2.2.1⟩)), h051⟩⟩) (Or.inl ⟨rfl, (by rw [← hwl]; exact (fun q => z277 ⟨⟨q.1, q.2.1⟩, q.2.2.1⟩))⟩) hx hb hlt hown hT hK k6e_52 k6e_53 hZ.2.2.2.1.2.2.2.2.2.2.2.2.2.2.2.2.2.2.1 hZ.1 hS hP hD (hl.1.trans hml.symm) xd_De_layer_55 xd_De_layer_58 xd_De_layer_59 xd_De_layer_61 xd_De_layer_64 htab (Nat.le_of_ble_eq_true rfl) (Nat.le_of_ble_eq_true rfl) (Nat.le_of_ble_eq_true rfl) (Nat.le_of_ble_eq_true rfl) hlocks (Nat.le_of_ble_eq_true rfl) (Nat.le_of_ble_eq_true rfl)
    · refine lv_aloadN hx hb xd_De_layer_24 (lv_at hl 0 rfl) ?_
      refine lv_ifnullN (tgt := 33) hx hb xd_De_layer_26 (by decide) ?_
      refine lv_iconst (v := 0) hx hb xd_De_layer_33 (by decide) ?_
      refine lv_istore hx hb xd_De_layer_34 hl (Nat.le_of_ble_eq_true rfl) rfl (fun ls hl => ?_)
      have hl : lv_has ls 7 [(5, .int 0), (4, .null), (0, .ref (ad 0 0)), (1, .int fi), (2, .int px), (3, .int bi)] := hl
      refine lv_aload_n hx hb xd_De_layer_36 rfl (lv_at hl 2 rfl) ?_
      have hFc := px_free hD hS hA
      refine va_calli (va_runV (As := []) (rest := []) ⟨hx, hb, hml, hown, hT⟩ (xc_De_rootsAreNamesX l D kA H.size ad E42 RL g ml nd 0 len wl cs (by first | assumption | omega) hLW) (cwV 0 hT (wT_V k6e_45 k6e_46 k6e_47 k6e_18 k6e_44) rfl rfl rfl (by decide +kernel) ⟨Nat.le_of_ble_eq_true rfl, Nat.le_of_ble_eq_true rfl⟩) (px_preV hK hP hD m_60 c_59 rfl) rfl rfl hl.1 rfl (lv_room (Nat.le_of_ble_eq_true rfl)) xd_De_layer_37 ⟨(Nat.le_of_ble_eq_true rfl), (Nat.le_of_ble_eq_true rfl)⟩) hS (fun q _ h => hFc q h) hFc (fun r289 u290 t H1 locs ht hvm hp291 hB hz1 hk1 hS => ?_)
      obtain ⟨hP1, hD1⟩ := hB
      rw [ht] at hP1
      have hD1 := hD1.weaken (fun _ _ _ h => hFc _ h)
      generalize H1 = H at hP1 hS ⊢
      have hP := hP1
      have hD := hD1
      have hP : va_P D xcl (rp ad E42 RL) H := hP
      have hD : va_D A (rp ad E42 RL) := hD
      rcases hp291 with ⟨rfl, z292⟩ | ⟨rfl, z293⟩
      · refine W.eq (g2 := F0 m 40 ls [.int 1]) rfl ?_
        refine lv_if_eq (tgt := 55) hx hb xd_De_layer_40 (by decide) (fun hc294 => absurd hc294 (by decide)) (fun _ => ?_)
        refine lv_iload_n hx hb xd_De_layer_43 rfl (lv_at hl 3 rfl) ?_
        have hFc := px_free hD hS hA
        refine va_calli (va_runS (As := [.int fi]) (rest := []) ⟨hx, hb, hml, hown, hT⟩ (xc_Sh_isFinderX l D kA H.size ad E42 RL fi) (va_cwS 1 hT (wT_S k6e_49 k6e_50 k6e_51 k6e_48) rfl rfl rfl (by decide +kernel) ⟨Nat.le_of_ble_eq_true rfl, Nat.le_of_ble_eq_true rfl⟩) (x_preS hK hP hD) rfl rfl hl.1 rfl (lv_room (Nat.le_of_ble_eq_true rfl)) xd_De_layer_44 ⟨(Nat.le_of_ble_eq_true rfl), (Nat.le_of_ble_eq_true rfl)⟩) hS (fun q _ h => hFc q h) hFc (fun r295 u296 t H1 locs ht hvm hp297 hB hz1 hk1 hS => ?_)
        obtain ⟨hP1, hD1⟩ := hB
        rw [ht] at hP1
        have hD1 := hD1.weaken (fun _ _ _ h => hFc _ h)
        generalize H1 = H at hP1 hS ⊢
        have hP := hP1
        have hD := hD1
        have hP : va_P D xcl (rp ad E42 RL) H := hP
        have hD : va_D A (rp ad E42 RL) := hD
        rcases hp297 with ⟨rfl, z298⟩ | ⟨rfl, z299, z300⟩
        · refine W.eq (g2 := F0 m 47 ls [.int 1]) rfl ?_
          refine lv_if_eq (tgt := 55) hx hb xd_De_layer_47 (by decide) (fun hc301 => absurd hc301 (by decide)) (fun _ => ?_)
          refine lv_iload hx hb xd_De_layer_50 (lv_at hl 0 rfl) ?_
          refine lv_if_ne (tgt := 65) hx hb xd_De_layer_52 (by decide) (fun hc302 => absurd (by decide) hc302) (fun _ => ?_)
          exact y_throwA (ik := 56) (is := 80) (wf := fun (u : (Nat → Nat → Nat) × (Nat → Nat → va_E) × List (Nat × Nat)) => rp u.1 u.2.1 u.2.2) (ad, E42, RL) (⟨⟨⟨wl.length, cs, hCI⟩, rfl, hFX1⟩, Or.inl ⟨(by rw [← hwl]; exact (fun q => q.2.2.2.2.elim hc272 z267)), h051⟩⟩) (Or.inl ⟨rfl, (by rw [← hwl]; exact (fun q => q.2.2.2.2.elim hc272 z267))⟩) hx hb hlt hown hT hK k6e_52 k6e_53 hZ.2.2.2.1.2.2.2.2.2.2.2.2.2.2.2.2.2.2.1 hZ.1 hS hP hD (hl.1.trans hml.symm) xd_De_layer_55 xd_De_layer_58 xd_De_layer_59 xd_De_layer_61 xd_De_layer_64 htab (Nat.le_of_ble_eq_true rfl) (Nat.le_of_ble_eq_true rfl) (Nat.le_of_ble_eq_true rfl) (Nat.le_of_ble_eq_true rfl) hlocks (Nat.le_of_ble_eq_true rfl) (Nat.le_of_ble_eq_true rfl)
        · refine W.eq (g2 := F0 m 47 ls [.int 0]) rfl ?_
          refine lv_if_eq (tgt := 55) hx hb xd_De_layer_47 (by decide) (fun _ => ?_) (fun hc303 => absurd (by decide) hc303)
          exact y_throwA (ik := 56) (is := 80) (wf := fun (u : (Nat → Nat → Nat) × (Nat → Nat → va_E) × List (Nat × Nat)) => rp u.1 u.2.1 u.2.2) (ad, E42, RL) (⟨⟨⟨wl.length, cs, hCI⟩, rfl, hFX1⟩, Or.inl ⟨(by rw [← hwl]; exact (fun q => (fin_iff.mp q.2.2.2.1).elim z299 z300)), h051⟩⟩) (Or.inl ⟨rfl, (by rw [← hwl]; exact (fun q => (fin_iff.mp q.2.2.2.1).elim z299 z300))⟩) hx hb hlt hown hT hK k6e_52 k6e_53 hZ.2.2.2.1.2.2.2.2.2.2.2.2.2.2.2.2.2.2.1 hZ.1 hS hP hD (hl.1.trans hml.symm) xd_De_layer_55 xd_De_layer_58 xd_De_layer_59 xd_De_layer_61 xd_De_layer_64 htab (Nat.le_of_ble_eq_true rfl) (Nat.le_of_ble_eq_true rfl) (Nat.le_of_ble_eq_true rfl) (Nat.le_of_ble_eq_true rfl) hlocks (Nat.le_of_ble_eq_true rfl) (Nat.le_of_ble_eq_true rfl)
      · refine W.eq (g2 := F0 m 40 ls [.int 0]) rfl ?_
        refine lv_if_eq (tgt := 55) hx hb xd_De_layer_40 (by decide) (fun _ => ?_) (fun hc304 => absurd (by decide) hc304)
        exact y_throwA (ik := 56) (is := 80) (wf := fun (u : (Nat → Nat → Nat) × (Nat → Nat → va_E) × List (Nat × Nat)) => rp u.1 u.2.1 u.2.2) (ad, E42, RL) (⟨⟨⟨wl.length, cs, hCI⟩, rfl, hFX1⟩, Or.inl ⟨(by rw [← hwl]; exact (fun q => z293 ⟨⟨q.1, q.2.1⟩, q.2.2.1⟩)), h051⟩⟩) (Or.inl ⟨rfl, (by rw [← hwl]; exact (fun q => z293 ⟨⟨q.1, q.2.1⟩, q.2.2.1⟩))⟩) hx hb hlt hown hT hK k6e_52 k6e_53 hZ.2.2.2.1.2.2.2.2.2.2.2.2.2.2.2.2.2.2.1 hZ.1 hS hP hD (hl.1.trans hml.symm) xd_De_layer_55 xd_De_layer_58 xd_De_layer_59 xd_De_layer_61 xd_De_layer_64 htab (Nat.le_of_ble_eq_true rfl) (Nat.le_of_ble_eq_true rfl) (Nat.le_of_ble_eq_true rfl) (Nat.le_of_ble_eq_true rfl) hlocks (Nat.le_of_ble_eq_true rfl) (Nat.le_of_ble_eq_true rfl)
  · refine W.eq (g2 := F0 m 17 ls [.ref (ad (20 + z268) 0)]) rfl ?_
    refine lv_astore hx hb xd_De_layer_17 hl (Nat.le_of_ble_eq_true rfl) rfl (fun ls hl => ?_)
    have hl : lv_has ls 7 [(4, .ref (ad (20 + z268) 0)), (0, .ref (ad 0 0)), (1, .int fi), (2, .int px), (3, .int bi)] := hl
    refine lv_iload_n hx hb xd_De_layer_19 rfl (lv_at hl 3 rfl) ?_
    refine lv_iconst (v := (-1)) hx hb xd_De_layer_20 (by decide) ?_
    refine lv_icmp_eq (tgt := 29) hx hb xd_De_layer_21 (by decide) (fun hc305 => ?_) (fun hc305 => ?_)
    · refine lv_iconst (v := 1) hx hb xd_De_layer_29 (by decide) ?_
      refine lv_goto (tgt := 34) hx hb xd_De_layer_30 (by decide) ?_
      refine lv_istore hx hb xd_De_layer_34 hl (Nat.le_of_ble_eq_true rfl) rfl (fun ls hl => ?_)
      have hl : lv_has ls 7 [(5, .int 1), (4, .ref (ad (20 + z268) 0)), (0, .ref (ad 0 0)), (1, .int fi), (2, .int px), (3, .int bi)] := hl
      refine lv_aload_n hx hb xd_De_layer_36 rfl (lv_at hl 2 rfl) ?_
      have hFc := px_free hD hS hA
      refine va_calli (va_runV (As := []) (rest := []) ⟨hx, hb, hml, hown, hT⟩ (xc_De_rootsAreNamesX l D kA H.size ad E42 RL g ml nd 0 len wl cs (by first | assumption | omega) hLW) (cwV 0 hT (wT_V k6e_45 k6e_46 k6e_47 k6e_18 k6e_44) rfl rfl rfl (by decide +kernel) ⟨Nat.le_of_ble_eq_true rfl, Nat.le_of_ble_eq_true rfl⟩) (px_preV hK hP hD m_60 c_59 rfl) rfl rfl hl.1 rfl (lv_room (Nat.le_of_ble_eq_true rfl)) xd_De_layer_37 ⟨(Nat.le_of_ble_eq_true rfl), (Nat.le_of_ble_eq_true rfl)⟩) hS (fun q _ h => hFc q h) hFc (fun r306 u307 t H1 locs ht hvm hp308 hB hz1 hk1 hS => ?_)
      obtain ⟨hP1, hD1⟩ := hB
      rw [ht] at hP1
      have hD1 := hD1.weaken (fun _ _ _ h => hFc _ h)
      generalize H1 = H at hP1 hS ⊢
      have hP := hP1
      have hD := hD1
      have hP : va_P D xcl (rp ad E42 RL) H := hP
      have hD : va_D A (rp ad E42 RL) := hD
      rcases hp308 with ⟨rfl, z309⟩ | ⟨rfl, z310⟩
      · refine W.eq (g2 := F0 m 40 ls [.int 1]) rfl ?_
        refine lv_if_eq (tgt := 55) hx hb xd_De_layer_40 (by decide) (fun hc311 => absurd hc311 (by decide)) (fun _ => ?_)
        refine lv_iload_n hx hb xd_De_layer_43 rfl (lv_at hl 3 rfl) ?_
        have hFc := px_free hD hS hA
        refine va_calli (va_runS (As := [.int fi]) (rest := []) ⟨hx, hb, hml, hown, hT⟩ (xc_Sh_isFinderX l D kA H.size ad E42 RL fi) (va_cwS 1 hT (wT_S k6e_49 k6e_50 k6e_51 k6e_48) rfl rfl rfl (by decide +kernel) ⟨Nat.le_of_ble_eq_true rfl, Nat.le_of_ble_eq_true rfl⟩) (x_preS hK hP hD) rfl rfl hl.1 rfl (lv_room (Nat.le_of_ble_eq_true rfl)) xd_De_layer_44 ⟨(Nat.le_of_ble_eq_true rfl), (Nat.le_of_ble_eq_true rfl)⟩) hS (fun q _ h => hFc q h) hFc (fun r312 u313 t H1 locs ht hvm hp314 hB hz1 hk1 hS => ?_)
        obtain ⟨hP1, hD1⟩ := hB
        rw [ht] at hP1
        have hD1 := hD1.weaken (fun _ _ _ h => hFc _ h)
        generalize H1 = H at hP1 hS ⊢
        have hP := hP1
        have hD := hD1
        have hP : va_P D xcl (rp ad E42 RL) H := hP
        have hD : va_D A (rp ad E42 RL) := hD
        rcases hp314 with ⟨rfl, z315⟩ | ⟨rfl, z316, z317⟩
        · refine W.eq (g2 := F0 m 47 ls [.int 1]) rfl ?_
          refine lv_if_eq (tgt := 55) hx hb xd_De_layer_47 (by decide) (fun hc318 => absurd hc318 (by decide)) (fun _ => ?_)
          refine lv_iload hx hb xd_De_layer_50 (lv_at hl 0 rfl) ?_
          refine lv_if_ne (tgt := 65) hx hb xd_De_layer_52 (by decide) (fun _ => ?_) (fun hc319 => absurd hc319 (by decide))
          exact jn83 (z268 + 1) _ _ _ (lv_sub hl [1, 5, 4, 3, 2] rfl) hP hD hS ⟨(show (z268 + 1) ≤ ml from by first | assumption | omega), (show ok1 g (g 0) wl ml fi px from ⟨z309.1.1, z309.1.2, z309.2, fin_iff.mpr z315, Or.inr ⟨z268, z269, z270, z271⟩⟩), (show iN (px + 1) = (z268 + 1) from (by rw [z270]; exact lq_la (by omega)))⟩
        · refine W.eq (g2 := F0 m 47 ls [.int 0]) rfl ?_
          refine lv_if_eq (tgt := 55) hx hb xd_De_layer_47 (by decide) (fun _ => ?_) (fun hc320 => absurd (by decide) hc320)
          exact y_throwA (ik := 56) (is := 80) (wf := fun (u : (Nat → Nat → Nat) × (Nat → Nat → va_E) × List (Nat × Nat)) => rp u.1 u.2.1 u.2.2) (ad, E42, RL) (⟨⟨⟨wl.length, cs, hCI⟩, rfl, hFX1⟩, Or.inl ⟨(by rw [← hwl]; exact (fun q => (fin_iff.mp q.2.2.2.1).elim z316 z317)), h051⟩⟩) (Or.inl ⟨rfl, (by rw [← hwl]; exact (fun q => (fin_iff.mp q.2.2.2.1).elim z316 z317))⟩) hx hb hlt hown hT hK k6e_52 k6e_53 hZ.2.2.2.1.2.2.2.2.2.2.2.2.2.2.2.2.2.2.1 hZ.1 hS hP hD (hl.1.trans hml.symm) xd_De_layer_55 xd_De_layer_58 xd_De_layer_59 xd_De_layer_61 xd_De_layer_64 htab (Nat.le_of_ble_eq_true rfl) (Nat.le_of_ble_eq_true rfl) (Nat.le_of_ble_eq_true rfl) (Nat.le_of_ble_eq_true rfl) hlocks (Nat.le_of_ble_eq_true rfl) (Nat.le_of_ble_eq_true rfl)
      · refine W.eq (g2 := F0 m 40 ls [.int 0]) rfl ?_
        refine lv_if_eq (tgt := 55) hx hb xd_De_layer_40 (by decide) (fun _ => ?_) (fun hc321 => absurd (by decide) hc321)
        exact y_throwA (ik := 56) (is := 80) (wf := fun (u : (Nat → Nat → Nat) × (Nat → Nat → va_E) × List (Nat × Nat)) => rp u.1 u.2.1 u.2.2) (ad, E42, RL) (⟨⟨⟨wl.length, cs, hCI⟩, rfl, hFX1⟩, Or.inl ⟨(by rw [← hwl]; exact (fun q => z310 ⟨⟨q.1, q.2.1⟩, q.2.2.1⟩)), h051⟩⟩) (Or.inl ⟨rfl, (by rw [← hwl]; exact (fun q => z310 ⟨⟨q.1, q.2.1⟩, q.2.2.1⟩))⟩) hx hb hlt hown hT hK k6e_52 k6e_53 hZ.2.2.2.1.2.2.2.2.2.2.2.2.2.2.2.2.2.2.1 hZ.1 hS hP hD (hl.1.trans hml.symm) xd_De_layer_55 xd_De_layer_58 xd_De_layer_59 xd_De_layer_61 xd_De_layer_64 htab (Nat.le_of_ble_eq_true rfl) (Nat.le_of_ble_eq_true rfl) (Nat.le_of_ble_eq_true rfl) (Nat.le_of_ble_eq_true rfl) hlocks (Nat.le_of_ble_eq_true rfl) (Nat.le_of_ble_eq_true rfl)
    · refine lv_aload hx hb xd_De_layer_24 (lv_at hl 0 rfl) ?_
      refine lv_ifnull hx hb xd_De_layer_26 ?_
      refine lv_iconst (v := 1) hx hb xd_De_layer_29 (by decide) ?_
      refine lv_goto (tgt := 34) hx hb xd_De_layer_30 (by decide) ?_
      refine lv_istore hx hb xd_De_layer_34 hl (Nat.le_of_ble_eq_true rfl) rfl (fun ls hl => ?_)
      have hl : lv_has ls 7 [(5, .int 1), (4, .ref (ad (20 + z268) 0)), (0, .ref (ad 0 0)), (1, .int fi), (2, .int px), (3, .int bi)] := hl
      refine lv_aload_n hx hb xd_De_layer_36 rfl (lv_at hl 2 rfl) ?_
      have hFc := px_free hD hS hA
      refine va_calli (va_runV (As := []) (rest := []) ⟨hx, hb, hml, hown, hT⟩ (xc_De_rootsAreNamesX l D kA H.size ad E42 RL g ml nd 0 len wl cs (by first | assumption | omega) hLW) (cwV 0 hT (wT_V k6e_45 k6e_46 k6e_47 k6e_18 k6e_44) rfl rfl rfl (by decide +kernel) ⟨Nat.le_of_ble_eq_true rfl, Nat.le_of_ble_eq_true rfl⟩) (px_preV hK hP hD m_60 c_59 rfl) rfl rfl hl.1 rfl (lv_room (Nat.le_of_ble_eq_true rfl)) xd_De_layer_37 ⟨(Nat.le_of_ble_eq_true rfl), (Nat.le_of_ble_eq_true rfl)⟩) hS (fun q _ h => hFc q h) hFc (fun r322 u323 t H1 locs ht hvm hp324 hB hz1 hk1 hS => ?_)
      obtain ⟨hP1, hD1⟩ := hB
      rw [ht] at hP1
      have hD1 := hD1.weaken (fun _ _ _ h => hFc _ h)
      generalize H1 = H at hP1 hS ⊢
      have hP := hP1
      have hD := hD1
      have hP : va_P D xcl (rp ad E42 RL) H := hP
      have hD : va_D A (rp ad E42 RL) := hD
      rcases hp324 with ⟨rfl, z325⟩ | ⟨rfl, z326⟩
      · refine W.eq (g2 := F0 m 40 ls [.int 1]) rfl ?_
        refine lv_if_eq (tgt := 55) hx hb xd_De_layer_40 (by decide) (fun hc327 => absurd hc327 (by decide)) (fun _ => ?_)
        refine lv_iload_n hx hb xd_De_layer_43 rfl (lv_at hl 3 rfl) ?_
        have hFc := px_free hD hS hA
        refine va_calli (va_runS (As := [.int fi]) (rest := []) ⟨hx, hb, hml, hown, hT⟩ (xc_Sh_isFinderX l D kA H.size ad E42 RL fi) (va_cwS 1 hT (wT_S k6e_49 k6e_50 k6e_51 k6e_48) rfl rfl rfl (by decide +kernel) ⟨Nat.le_of_ble_eq_true rfl, Nat.le_of_ble_eq_true rfl⟩) (x_preS hK hP hD) rfl rfl hl.1 rfl (lv_room (Nat.le_of_ble_eq_true rfl)) xd_De_layer_44 ⟨(Nat.le_of_ble_eq_true rfl), (Nat.le_of_ble_eq_true rfl)⟩) hS (fun q _ h => hFc q h) hFc (fun r328 u329 t H1 locs ht hvm hp330 hB hz1 hk1 hS => ?_)
        obtain ⟨hP1, hD1⟩ := hB
        rw [ht] at hP1
        have hD1 := hD1.weaken (fun _ _ _ h => hFc _ h)
        generalize H1 = H at hP1 hS ⊢
        have hP := hP1
        have hD := hD1
        have hP : va_P D xcl (rp ad E42 RL) H := hP
        have hD : va_D A (rp ad E42 RL) := hD
        rcases hp330 with ⟨rfl, z331⟩ | ⟨rfl, z332, z333⟩
        · refine W.eq (g2 := F0 m 47 ls [.int 1]) rfl ?_
          refine lv_if_eq (tgt := 55) hx hb xd_De_layer_47 (by decide) (fun hc334 => absurd hc334 (by decide)) (fun _ => ?_)
          refine lv_iload hx hb xd_De_layer_50 (lv_at hl 0 rfl) ?_
          refine lv_if_ne (tgt := 65) hx hb xd_De_layer_52 (by decide) (fun _ => ?_) (fun hc335 => absurd hc335 (by decide))
          exact jn83 (z268 + 1) _ _ _ (lv_sub hl [1, 5, 4, 3, 2] rfl) hP hD hS ⟨(show (z268 + 1) ≤ ml from by first | assumption | omega), (show ok1 g (g 0) wl ml fi px from ⟨z325.1.1, z325.1.2, z325.2, fin_iff.mpr z331, Or.inr ⟨z268, z269, z270, z271⟩⟩), (show iN (px + 1) = (z268 + 1) from (by rw [z270]; exact lq_la (by omega)))⟩
        · refine W.eq (g2 := F0 m 47 ls [.int 0]) rfl ?_
          refine lv_if_eq (tgt := 55) hx hb xd_De_layer_47 (by decide) (fun _ => ?_) (fun hc336 => absurd (by decide) hc336)
          exact y_throwA (ik := 56) (is := 80) (wf := fun (u : (Nat → Nat → Nat) × (Nat → Nat → va_E) × List (Nat × Nat)) => rp u.1 u.2.1 u.2.2) (ad, E42, RL) (⟨⟨⟨wl.length, cs, hCI⟩, rfl, hFX1⟩, Or.inl ⟨(by rw [← hwl]; exact (fun q => (fin_iff.mp q.2.2.2.1).elim z332 z333)), h051⟩⟩) (Or.inl ⟨rfl, (by rw [← hwl]; exact (fun q => (fin_iff.mp q.2.2.2.1).elim z332 z333))⟩) hx hb hlt hown hT hK k6e_52 k6e_53 hZ.2.2.2.1.2.2.2.2.2.2.2.2.2.2.2.2.2.2.1 hZ.1 hS hP hD (hl.1.trans hml.symm) xd_De_layer_55 xd_De_layer_58 xd_De_layer_59 xd_De_layer_61 xd_De_layer_64 htab (Nat.le_of_ble_eq_true rfl) (Nat.le_of_ble_eq_true rfl) (Nat.le_of_ble_eq_true rfl) (Nat.le_of_ble_eq_true rfl) hlocks (Nat.le_of_ble_eq_true rfl) (Nat.le_of_ble_eq_true rfl)
      · refine W.eq (g2 := F0 m 40 ls [.int 0]) rfl ?_
        refine lv_if_eq (tgt := 55) hx hb xd_De_layer_40 (by decide) (fun _ => ?_) (fun hc337 => absurd (by decide) hc337)
        exact y_throwA (ik := 56) (is := 80) (wf := fun (u : (Nat → Nat → Nat) × (Nat → Nat → va_E) × List (Nat × Nat)) => rp u.1 u.2.1 u.2.2) (ad, E42, RL) (⟨⟨⟨wl.length, cs, hCI⟩, rfl, hFX1⟩, Or.inl ⟨(by rw [← hwl]; exact (fun q => z326 ⟨⟨q.1, q.2.1⟩, q.2.2.1⟩)), h051⟩⟩) (Or.inl ⟨rfl, (by rw [← hwl]; exact (fun q => z326 ⟨⟨q.1, q.2.1⟩, q.2.2.1⟩))⟩) hx hb hlt hown hT hK k6e_52 k6e_53 hZ.2.2.2.1.2.2.2.2.2.2.2.2.2.2.2.2.2.2.1 hZ.1 hS hP hD (hl.1.trans hml.symm) xd_De_layer_55 xd_De_layer_58 xd_De_layer_59 xd_De_layer_61 xd_De_layer_64 htab (Nat.le_of_ble_eq_true rfl) (Nat.le_of_ble_eq_true rfl) (Nat.le_of_ble_eq_true rfl) (Nat.le_of_ble_eq_true rfl) hlocks (Nat.le_of_ble_eq_true rfl) (Nat.le_of_ble_eq_true rfl)
