theorem k4o_0 : (Cond.fieldLink "LayerDeskModel" 150 "LayerDeskModel" "layers" "I") ∈ wT := wT_t (List.mem_append_right _ (List.mem_append_right _ (List.mem_append_right _ (List.mem_append_left _ (List.mem_of_getElem? (i := 107) rfl))))) rfl
theorem k4o_1 : (Cond.fieldLink "LayerDeskModel" 72 "LayerDeskModel" "modules" "[I") ∈ wT := wT_t (List.mem_append_right _ (List.mem_append_right _ (List.mem_append_right _ (List.mem_append_left _ (List.mem_of_getElem? (i := 110) rfl))))) rfl
theorem k4o_2 : (Cond.fieldLink "LayerDeskModel" 75 "LayerDeskModel" "module" "[I") ∈ wT := wT_t (List.mem_append_right _ (List.mem_append_right _ (List.mem_append_right _ (List.mem_append_left _ (List.mem_of_getElem? (i := 111) rfl))))) rfl
theorem k4o_3 : (Cond.code xy_Mo_isSplit xb_Mo_isSplit 5 (some .boolean)) ∈ wT := wT_t (List.mem_append_right _ (List.mem_append_right _ (List.mem_append_right _ (List.mem_append_right _ (List.mem_of_getElem? (i := 44) rfl))))) rfl
theorem k4o_4 : (Cond.methodLink "LayerDeskModel" 184 xy_Mo_isSplit) ∈ wT := wT_t (List.mem_append_right _ (List.mem_append_right _ (List.mem_append_right _ (List.mem_append_right _ (List.mem_of_getElem? (i := 41) rfl))))) rfl
theorem k4o_5 : (Cond.instanceMethod xy_Mo_isSplit) ∈ wT := wT_t (List.mem_append_right _ (List.mem_append_right _ (List.mem_append_right _ (List.mem_append_right _ (List.mem_of_getElem? (i := 43) rfl))))) rfl
theorem k4o_6 : (Cond.selects "LayerDeskModel" xy_Mo_isSplit xy_Mo_isSplit) ∈ wT := wT_s (q := (xy_Mo_isSplit, 31)) (by decide +kernel) rfl
theorem k4o_7 : (Cond.initialized "LayerDeskModel") ∈ wT := wT_t (List.mem_append_left _ (List.mem_of_getElem? (i := 5) rfl)) rfl
theorem k4o_8 : (Cond.code xy_Mo_isCycle xb_Mo_isCycle 10 (some .boolean)) ∈ wT := wT_t (List.mem_append_right _ (List.mem_append_right _ (List.mem_append_right _ (List.mem_append_right _ (List.mem_of_getElem? (i := 40) rfl))))) rfl
theorem k4o_9 : (Cond.methodLink "LayerDeskModel" 181 xy_Mo_isCycle) ∈ wT := wT_t (List.mem_append_right _ (List.mem_append_right _ (List.mem_append_right _ (List.mem_append_right _ (List.mem_of_getElem? (i := 37) rfl))))) rfl
theorem k4o_10 : (Cond.instanceMethod xy_Mo_isCycle) ∈ wT := wT_t (List.mem_append_right _ (List.mem_append_right _ (List.mem_append_right _ (List.mem_append_right _ (List.mem_of_getElem? (i := 39) rfl))))) rfl
theorem k4o_11 : (Cond.selects "LayerDeskModel" xy_Mo_isCycle xy_Mo_isCycle) ∈ wT := wT_s (q := (xy_Mo_isCycle, 31)) (by decide +kernel) rfl
set_option maxHeartbeats 4000000 in
set_option maxRecDepth 100000 in
theorem xc_Mo_reasonX (l : Launch) (D : va_G) (kA : Nat → ClassId) (sz h : Nat) (mm : Nat → Nat) (v : Nat → Int32) (g : Nat → Nat → Int32) (nl : Nat) (md0 : Nat) (hMI : MI v g) (hnl : v 5 = nI nl) (hnl5 : nl ≤ 5) (hpn : ∀ la, la < nl + 1 → ∃ lq, lq ≤ la ∧ g 19 la = nI lq - 1) (hmd0 : g 20 nl = nI md0) (hmd012 : md0 ≤ 12) : Met l xy_Mo_reason (.code xy_Mo_reason xb_Mo_reason 4 (some .int) :: wT) { frames := 4, cells := 0, slots := 0, locals := 97 } (va_Pc [.ref h] (xPre D kA sz (moW h mm kA v g))) (va_Qi (fun (r : Int32) (u : (Nat → Int32) × (Nat → Nat → Int32)) => u.1 = v ∧ (∀ j, j ≠ 24 → u.2 j = g j) ∧ r = nI (rsW g nl md0)) (fun (u : (Nat → Int32) × (Nat → Nat → Int32)) t => va_P D xcl (moW h mm kA u.1 u.2) t.heap ∧ va_D (va_A (moW h mm kA v g) sz) (moW h mm kA u.1 u.2)) (va_A (moW h mm kA v g) sz)) 0 0 (va_A (moW h mm kA v g) sz) := by
  refine Met.ofW (cc := xb_Mo_reason) (maxL := 4) (ret := (some .int)) (by decide) rfl ?_
  intro p e s m args below meth c s₁ B hml hv
  obtain ⟨rfl, hsz, hP, hK, hD0⟩ := hv
  have hx := B.exec
  have hb := B.bytes
  have hr := B.returns
  have hT := x_hT B.pre
  have hown : s.vm.findClass xR_Mo = some m.cls := findClass_of_methodNamed B.named
  have hlocks := B.notSynchronized
  subst hsz
  have hD := hD0.self (sz := s.heap.size)
  generalize hAe : va_A (moW h mm kA v g) s.heap.size = A at hD ⊢
  have hA : ∀ q : Nat, s.heap.size ≤ q → A q := fun q h => by rw [← hAe]; exact Or.inr h
  have hS : va_S A s.heap s.heap [] := va_S.rf
  have hl := lv_entry ([.ref h]) (n := 4) (Nat.le_of_ble_eq_true rfl)
  rw [lg_entry_eq]
  generalize (lg_sl ([.ref h]) ++ List.replicate (4 - (lg_sl ([.ref h])).length) Slot.unset).toArray = ls at hl ⊢
  have hl : lv_has ls 4 [(0, .ref h)] := hl
  have hP : va_P D xcl (moW h mm kA v g) s.heap := hP
  obtain ⟨-, -, -, -, hrq, hmd, -⟩ := id hMI
  obtain ⟨mdk, hmdk, emdk, hent⟩ := hmd nl (by omega)
  have emd : md0 = mdk := (nI_eq (by rw [xb_31]; omega) (by rw [xb_31]; omega)).mp (hmd0.symm.trans emdk)
  have hent2 : ∀ i, 12 * nl ≤ i → i < 12 * nl + md0 → ∃ d, d < 12 ∧ g 21 i = nI d := fun i h1 h2 => by
    have h3 := hent (i - 12 * nl) (by omega)
    rwa [show 12 * nl + (i - 12 * nl) = i by omega] at h3
  refine lv_iconst (v := 0) hx hb xd_Mo_reason_0 (by decide) ?_
  refine lv_istore_n hx hb xd_Mo_reason_1 rfl hl (Nat.le_of_ble_eq_true rfl) rfl (fun ls hl => ?_)
  have hl : lv_has ls 4 [(1, .int 0), (0, .ref h)] := hl
  refine lv_iconst (v := 0) hx hb xd_Mo_reason_2 (by decide) ?_
  refine lv_istore_n hx hb xd_Mo_reason_3 rfl hl (Nat.le_of_ble_eq_true rfl) rfl (fun ls hl => ?_)
  have hl : lv_has ls 4 [(2, .int 0), (1, .int 0), (0, .ref h)] := hl
  refine lv_bipush (v := 12) hx hb xd_Mo_reason_4 (by decide) ?_
  refine lv_aload_n hx hb xd_Mo_reason_6 rfl (lv_at hl 2 rfl) ?_
  refine va_get (D := D) (ci := 4) (v := .int (v 5)) (C := xR_Mo) (T := xT_Mo) (N := 31) hx hb hT xi_Mo hown hK.1 hP 0 rfl rfl 23 (by decide) (hT _ k4o_0) (fun _ h9 => h9) rfl xd_Mo_reason_7 ?_
  refine xn_top (x := (v 5)) (y := nI nl) hnl ?_
  refine lv_imul hx hb xd_Mo_reason_10 ?_
  refine xn_top (y := nI (12 * nl)) (pk_mul 12 nl) ?_
  refine lv_istore_n hx hb xd_Mo_reason_11 rfl hl (Nat.le_of_ble_eq_true rfl) rfl (fun ls hl => ?_)
  have hl : lv_has ls 4 [(3, .int (nI (12 * nl))), (2, .int 0), (1, .int 0), (0, .ref h)] := hl
  refine xlab (σ := Nat × Nat × (Nat → Int32)) (ml := 4) 12 (fun (i1, cy, f1) => [(3, .int (nI i1)), (1, .int (nI cy)), (2, .int 0), (0, .ref h)]) (fun (i1, cy, f1) => []) (fun (i1, cy, f1) => moW h mm kA v (va_up g 24 f1)) (fun (i1, cy, f1) => (12 * nl ≤ i1) ∧ (i1 ≤ 12 * nl + md0) ∧ (cy ≤ 1) ∧ ((cy = 1 ∧ cyK g nl i1) ∨ (cy = 0 ∧ ¬ cyK g nl i1))) (fun (i1, cy, f1) => 12 * nl + md0 - i1) ?_ (12 * nl, 0, (g 24)) _ _ _ (lv_sub hl [0, 2, 1, 3] rfl) hP hD hS ⟨(show 12 * nl ≤ (12 * nl) from by first | assumption | omega), (show (12 * nl) ≤ 12 * nl + md0 from by first | assumption | omega), (show 0 ≤ 1 from by first | assumption | omega), (show (0 = 1 ∧ cyK g nl (12 * nl)) ∨ (0 = 0 ∧ ¬ cyK g nl (12 * nl)) from Or.inr ⟨rfl, fun ⟨j, h1, h2, _⟩ => absurd h2 (by omega)⟩)⟩
  intro n9 ih1 a9 ls H locs hμ hl hP hD hS hI
  subst hμ
  obtain ⟨i1, cy, f1⟩ := a9
  obtain ⟨hi11, hi12, hcy1, hcy⟩ := hI
  have hi11 : 12 * nl ≤ i1 := hi11
  have hi12 : i1 ≤ 12 * nl + md0 := hi12
  have hcy1 : cy ≤ 1 := hcy1
  have hcy : (cy = 1 ∧ cyK g nl i1) ∨ (cy = 0 ∧ ¬ cyK g nl i1) := hcy
  have hl : lv_has ls 4 [(3, .int (nI i1)), (1, .int (nI cy)), (2, .int 0), (0, .ref h)] := hl
  have hP : va_P D xcl (moW h mm kA v (va_up g 24 f1)) H := hP
  have hD : va_D A (moW h mm kA v (va_up g 24 f1)) := hD
  refine lv_iload_n hx hb xd_Mo_reason_12 rfl (lv_at hl 0 rfl) ?_
  refine lv_bipush (v := 12) hx hb xd_Mo_reason_13 (by decide) ?_
  refine lv_aload_n hx hb xd_Mo_reason_15 rfl (lv_at hl 3 rfl) ?_
  refine va_get (D := D) (ci := 4) (v := .int (v 5)) (C := xR_Mo) (T := xT_Mo) (N := 31) hx hb hT xi_Mo hown hK.1 hP 0 rfl rfl 23 (by decide) (hT _ k4o_0) (fun _ h9 => h9) rfl xd_Mo_reason_16 ?_
  refine xn_top (x := (v 5)) (y := nI nl) hnl ?_
  refine lv_imul hx hb xd_Mo_reason_19 ?_
  refine xn_top (y := nI (12 * nl)) (pk_mul 12 nl) ?_
  refine lv_aload_n hx hb xd_Mo_reason_20 rfl (lv_at hl 3 rfl) ?_
  refine va_get (D := D) (ci := 4) (v := .ref (mm 20)) (C := xR_Mo) (T := xT_Mo) (N := 31) hx hb hT xi_Mo hown hK.1 hP 0 rfl rfl 26 (by decide) (hT _ k4o_1) (fun _ h9 => h9) rfl xd_Mo_reason_21 ?_
  refine lv_aload_n hx hb xd_Mo_reason_24 rfl (lv_at hl 3 rfl) ?_
  refine va_get (D := D) (ci := 4) (v := .int (v 5)) (C := xR_Mo) (T := xT_Mo) (N := 31) hx hb hT xi_Mo hown hK.1 hP 0 rfl rfl 23 (by decide) (hT _ k4o_0) (fun _ h9 => h9) rfl xd_Mo_reason_25 ?_
  refine xn_top (x := (v 5)) (y := nI nl) hnl ?_
  refine xn_iald (i := nl) hx hb hK.1 hP 21 0 rfl rfl (by omega) (by decide) xd_Mo_reason_28 ?_
  refine xn_top (x := (g 20 nl)) (y := nI md0) hmd0 ?_
  refine lv_iadd hx hb xd_Mo_reason_29 ?_
  refine xn_top (y := nI ((12 * nl) + md0)) (nI_add (12 * nl) md0) ?_
  refine xn_ge (a := i1) (b := (12 * nl) + md0) (tgt := 62) hx hb xd_Mo_reason_30 (by decide) (by omega) (by omega) (fun hc2 => ?_) (fun hc2 => ?_)
  · refine lv_bipush (v := 12) hx hb xd_Mo_reason_62 (by decide) ?_
    refine lv_aload_n hx hb xd_Mo_reason_64 rfl (lv_at hl 3 rfl) ?_
    refine va_get (D := D) (ci := 4) (v := .int (v 5)) (C := xR_Mo) (T := xT_Mo) (N := 31) hx hb hT xi_Mo hown hK.1 hP 0 rfl rfl 23 (by decide) (hT _ k4o_0) (fun _ h9 => h9) rfl xd_Mo_reason_65 ?_
    refine xn_top (x := (v 5)) (y := nI nl) hnl ?_
    refine lv_imul hx hb xd_Mo_reason_68 ?_
    refine xn_top (y := nI (12 * nl)) (pk_mul 12 nl) ?_
    refine lv_istore_n hx hb xd_Mo_reason_69 rfl hl (Nat.le_of_ble_eq_true rfl) rfl (fun ls hl => ?_)
    have hl : lv_has ls 4 [(3, .int (nI (12 * nl))), (1, .int (nI cy)), (2, .int 0), (0, .ref h)] := hl
    refine xlab (σ := Nat × Nat × (Nat → Int32)) (ml := 4) 70 (fun (i2, sp, f2) => [(3, .int (nI i2)), (2, .int (nI sp)), (1, .int (nI cy)), (0, .ref h)]) (fun (i2, sp, f2) => []) (fun (i2, sp, f2) => moW h mm kA v (va_up g 24 f2)) (fun (i2, sp, f2) => (12 * nl ≤ i2) ∧ (i2 ≤ 12 * nl + md0) ∧ (sp ≤ 1) ∧ ((sp = 1 ∧ spK g nl i2) ∨ (sp = 0 ∧ ¬ spK g nl i2))) (fun (i2, sp, f2) => 12 * nl + md0 - i2) ?_ (12 * nl, 0, f1) _ _ _ (lv_sub hl [0, 2, 1, 3] rfl) hP hD hS ⟨(show 12 * nl ≤ (12 * nl) from by first | assumption | omega), (show (12 * nl) ≤ 12 * nl + md0 from by first | assumption | omega), (show 0 ≤ 1 from by first | assumption | omega), (show (0 = 1 ∧ spK g nl (12 * nl)) ∨ (0 = 0 ∧ ¬ spK g nl (12 * nl)) from Or.inr ⟨rfl, fun ⟨j, h1, h2, _⟩ => absurd h2 (by omega)⟩)⟩
    intro n9 ih3 a9 ls H locs hμ hl hP hD hS hI
    subst hμ
    obtain ⟨i2, sp, f2⟩ := a9
    obtain ⟨hi21, hi22, hsp1, hsp⟩ := hI
    have hi21 : 12 * nl ≤ i2 := hi21
    have hi22 : i2 ≤ 12 * nl + md0 := hi22
    have hsp1 : sp ≤ 1 := hsp1
    have hsp : (sp = 1 ∧ spK g nl i2) ∨ (sp = 0 ∧ ¬ spK g nl i2) := hsp
    have hl : lv_has ls 4 [(3, .int (nI i2)), (2, .int (nI sp)), (1, .int (nI cy)), (0, .ref h)] := hl
    have hP : va_P D xcl (moW h mm kA v (va_up g 24 f2)) H := hP
    have hD : va_D A (moW h mm kA v (va_up g 24 f2)) := hD
    refine lv_iload_n hx hb xd_Mo_reason_70 rfl (lv_at hl 0 rfl) ?_
    refine lv_bipush (v := 12) hx hb xd_Mo_reason_71 (by decide) ?_
    refine lv_aload_n hx hb xd_Mo_reason_73 rfl (lv_at hl 3 rfl) ?_
    refine va_get (D := D) (ci := 4) (v := .int (v 5)) (C := xR_Mo) (T := xT_Mo) (N := 31) hx hb hT xi_Mo hown hK.1 hP 0 rfl rfl 23 (by decide) (hT _ k4o_0) (fun _ h9 => h9) rfl xd_Mo_reason_74 ?_
    refine xn_top (x := (v 5)) (y := nI nl) hnl ?_
    refine lv_imul hx hb xd_Mo_reason_77 ?_
    refine xn_top (y := nI (12 * nl)) (pk_mul 12 nl) ?_
    refine lv_aload_n hx hb xd_Mo_reason_78 rfl (lv_at hl 3 rfl) ?_
    refine va_get (D := D) (ci := 4) (v := .ref (mm 20)) (C := xR_Mo) (T := xT_Mo) (N := 31) hx hb hT xi_Mo hown hK.1 hP 0 rfl rfl 26 (by decide) (hT _ k4o_1) (fun _ h9 => h9) rfl xd_Mo_reason_79 ?_
    refine lv_aload_n hx hb xd_Mo_reason_82 rfl (lv_at hl 3 rfl) ?_
    refine va_get (D := D) (ci := 4) (v := .int (v 5)) (C := xR_Mo) (T := xT_Mo) (N := 31) hx hb hT xi_Mo hown hK.1 hP 0 rfl rfl 23 (by decide) (hT _ k4o_0) (fun _ h9 => h9) rfl xd_Mo_reason_83 ?_
    refine xn_top (x := (v 5)) (y := nI nl) hnl ?_
    refine xn_iald (i := nl) hx hb hK.1 hP 21 0 rfl rfl (by omega) (by decide) xd_Mo_reason_86 ?_
    refine xn_top (x := (g 20 nl)) (y := nI md0) hmd0 ?_
    refine lv_iadd hx hb xd_Mo_reason_87 ?_
    refine xn_top (y := nI ((12 * nl) + md0)) (nI_add (12 * nl) md0) ?_
    refine xn_ge (a := i2) (b := (12 * nl) + md0) (tgt := 128) hx hb xd_Mo_reason_88 (by decide) (by omega) (by omega) (fun hc4 => ?_) (fun hc4 => ?_)
    · refine lv_iload_n hx hb xd_Mo_reason_128 rfl (lv_at hl 2 rfl) ?_
      refine xz_eq (a := cy) (tgt := 136) hx hb xd_Mo_reason_129 (by decide) (by omega) (fun hc5 => ?_) (fun hc5 => ?_)
      · refine lv_iload_n hx hb xd_Mo_reason_136 rfl (lv_at hl 1 rfl) ?_
        refine xz_eq (a := sp) (tgt := 144) hx hb xd_Mo_reason_137 (by decide) (by omega) (fun hc6 => ?_) (fun hc6 => ?_)
        · refine lv_aload_n hx hb xd_Mo_reason_144 rfl (lv_at hl 3 rfl) ?_
          refine va_get (D := D) (ci := 4) (v := .int (v 5)) (C := xR_Mo) (T := xT_Mo) (N := 31) hx hb hT xi_Mo hown hK.1 hP 0 rfl rfl 23 (by decide) (hT _ k4o_0) (fun _ h9 => h9) rfl xd_Mo_reason_145 ?_
          refine xn_top (x := (v 5)) (y := nI nl) hnl ?_
          refine lv_iconst (v := 5) hx hb xd_Mo_reason_148 (by decide) ?_
          refine xn_ne (a := nl) (b := 5) (tgt := 156) hx hb xd_Mo_reason_149 (by decide) (by omega) (by omega) (fun hc7 => ?_) (fun hc7 => ?_)
          · refine lv_iconst (v := 0) hx hb xd_Mo_reason_156 (by decide) ?_
            exact W.iret (v := 0) hx hb hr (fun t ht hW => ⟨⟨0, (v, (va_up g 24 f2)), rfl, ⟨rfl, fun j h1 => by simp [va_up, h1], (by
        unfold rsW
        rw [cif_neg (fun z => by
          have z2 := cyK_all.mpr z
          rw [← show i1 = 12 * nl + md0 by omega] at z2
          rcases hcy with ⟨q, _⟩ | ⟨_, q⟩
          · omega
          · exact q z2), cif_neg (fun z => by
          have z2 := spK_all.mpr z
          rw [← show i2 = 12 * nl + md0 by omega] at z2
          rcases hsp with ⟨q, _⟩ | ⟨_, q⟩
          · omega
          · exact q z2), cif_neg (show ¬ nl = 5 by omega)]
        rfl)⟩, by rw [ht]; exact hP, hD⟩, hS.F ht⟩) hS.2.2 xd_Mo_reason_157
          · refine lv_iconst (v := 3) hx hb xd_Mo_reason_152 (by decide) ?_
            refine lv_goto (tgt := 157) hx hb xd_Mo_reason_153 (by decide) ?_
            exact W.iret (v := 3) hx hb hr (fun t ht hW => ⟨⟨3, (v, (va_up g 24 f2)), rfl, ⟨rfl, fun j h1 => by simp [va_up, h1], (by
        unfold rsW
        rw [cif_neg (fun z => by
          have z2 := cyK_all.mpr z
          rw [← show i1 = 12 * nl + md0 by omega] at z2
          rcases hcy with ⟨q, _⟩ | ⟨_, q⟩
          · omega
          · exact q z2), cif_neg (fun z => by
          have z2 := spK_all.mpr z
          rw [← show i2 = 12 * nl + md0 by omega] at z2
          rcases hsp with ⟨q, _⟩ | ⟨_, q⟩
          · omega
          · exact q z2), cif_pos (show nl = 5 by omega)]
        rfl)⟩, by rw [ht]; exact hP, hD⟩, hS.F ht⟩) hS.2.2 xd_Mo_reason_157
        · refine lv_iconst (v := 2) hx hb xd_Mo_reason_140 (by decide) ?_
          refine lv_goto (tgt := 157) hx hb xd_Mo_reason_141 (by decide) ?_
          exact W.iret (v := 2) hx hb hr (fun t ht hW => ⟨⟨2, (v, (va_up g 24 f2)), rfl, ⟨rfl, fun j h1 => by simp [va_up, h1], (by
        unfold rsW
        rw [cif_neg (fun z => by
          have z2 := cyK_all.mpr z
          rw [← show i1 = 12 * nl + md0 by omega] at z2
          rcases hcy with ⟨q, _⟩ | ⟨_, q⟩
          · omega
          · exact q z2), cif_pos (spK_all.mp (by rw [← show i2 = 12 * nl + md0 by omega]; rcases hsp with ⟨_, q⟩ | ⟨q, _⟩; exact q; omega))]
        rfl)⟩, by rw [ht]; exact hP, hD⟩, hS.F ht⟩) hS.2.2 xd_Mo_reason_157
      · refine lv_iconst (v := 1) hx hb xd_Mo_reason_132 (by decide) ?_
        refine lv_goto (tgt := 157) hx hb xd_Mo_reason_133 (by decide) ?_
        exact W.iret (v := 1) hx hb hr (fun t ht hW => ⟨⟨1, (v, (va_up g 24 f2)), rfl, ⟨rfl, fun j h1 => by simp [va_up, h1], (by
        unfold rsW
        rw [cif_pos (cyK_all.mp (by rw [← show i1 = 12 * nl + md0 by omega]; rcases hcy with ⟨_, q⟩ | ⟨q, _⟩; exact q; omega))]
        rfl)⟩, by rw [ht]; exact hP, hD⟩, hS.F ht⟩) hS.2.2 xd_Mo_reason_157
    · refine lv_iload_n hx hb xd_Mo_reason_91 rfl (lv_at hl 2 rfl) ?_
      refine xz_ne (a := cy) (tgt := 128) hx hb xd_Mo_reason_92 (by decide) (by omega) (fun hc8 => ?_) (fun hc8 => ?_)
      · refine lv_iload_n hx hb xd_Mo_reason_128 rfl (lv_at hl 2 rfl) ?_
        refine xz_eq (a := cy) (tgt := 136) hx hb xd_Mo_reason_129 (by decide) (by omega) (fun hc9 => ?_) (fun hc9 => ?_)
        · refine lv_iload_n hx hb xd_Mo_reason_136 rfl (lv_at hl 1 rfl) ?_
          refine xz_eq (a := sp) (tgt := 144) hx hb xd_Mo_reason_137 (by decide) (by omega) (fun hc10 => ?_) (fun hc10 => ?_)
          · refine lv_aload_n hx hb xd_Mo_reason_144 rfl (lv_at hl 3 rfl) ?_
            refine va_get (D := D) (ci := 4) (v := .int (v 5)) (C := xR_Mo) (T := xT_Mo) (N := 31) hx hb hT xi_Mo hown hK.1 hP 0 rfl rfl 23 (by decide) (hT _ k4o_0) (fun _ h9 => h9) rfl xd_Mo_reason_145 ?_
            refine xn_top (x := (v 5)) (y := nI nl) hnl ?_
            refine lv_iconst (v := 5) hx hb xd_Mo_reason_148 (by decide) ?_
            refine xn_ne (a := nl) (b := 5) (tgt := 156) hx hb xd_Mo_reason_149 (by decide) (by omega) (by omega) (fun hc11 => ?_) (fun hc11 => ?_)
            · refine lv_iconst (v := 0) hx hb xd_Mo_reason_156 (by decide) ?_
              exact W.iret (v := 0) hx hb hr (fun t ht hW => ⟨⟨0, (v, (va_up g 24 f2)), rfl, ⟨rfl, fun j h1 => by simp [va_up, h1], (by
        unfold rsW
        rw [cif_neg (fun z => by
          have z2 := cyK_all.mpr z
          rw [← show i1 = 12 * nl + md0 by omega] at z2
          rcases hcy with ⟨q, _⟩ | ⟨_, q⟩
          · omega
          · exact q z2), cif_neg (fun z => by
          have z2 := spK_all.mpr z
          rw [← show i2 = 12 * nl + md0 by omega] at z2
          rcases hsp with ⟨q, _⟩ | ⟨_, q⟩
          · omega
          · exact q z2), cif_neg (show ¬ nl = 5 by omega)]
        rfl)⟩, by rw [ht]; exact hP, hD⟩, hS.F ht⟩) hS.2.2 xd_Mo_reason_157
            · refine lv_iconst (v := 3) hx hb xd_Mo_reason_152 (by decide) ?_
              refine lv_goto (tgt := 157) hx hb xd_Mo_reason_153 (by decide) ?_
              exact W.iret (v := 3) hx hb hr (fun t ht hW => ⟨⟨3, (v, (va_up g 24 f2)), rfl, ⟨rfl, fun j h1 => by simp [va_up, h1], (by
        unfold rsW
        rw [cif_neg (fun z => by
          have z2 := cyK_all.mpr z
          rw [← show i1 = 12 * nl + md0 by omega] at z2
          rcases hcy with ⟨q, _⟩ | ⟨_, q⟩
          · omega
          · exact q z2), cif_neg (fun z => by
          have z2 := spK_all.mpr z
          rw [← show i2 = 12 * nl + md0 by omega] at z2
          rcases hsp with ⟨q, _⟩ | ⟨_, q⟩
          · omega
          · exact q z2), cif_pos (show nl = 5 by omega)]
        rfl)⟩, by rw [ht]; exact hP, hD⟩, hS.F ht⟩) hS.2.2 xd_Mo_reason_157
          · refine lv_iconst (v := 2) hx hb xd_Mo_reason_140 (by decide) ?_
            refine lv_goto (tgt := 157) hx hb xd_Mo_reason_141 (by decide) ?_
            exact W.iret (v := 2) hx hb hr (fun t ht hW => ⟨⟨2, (v, (va_up g 24 f2)), rfl, ⟨rfl, fun j h1 => by simp [va_up, h1], (by
        unfold rsW
        rw [cif_neg (fun z => by
          have z2 := cyK_all.mpr z
          rw [← show i1 = 12 * nl + md0 by omega] at z2
          rcases hcy with ⟨q, _⟩ | ⟨_, q⟩
          · omega
          · exact q z2), cif_pos (spK_all.mp (by rw [← show i2 = 12 * nl + md0 by omega]; rcases hsp with ⟨_, q⟩ | ⟨q, _⟩; exact q; omega))]
        rfl)⟩, by rw [ht]; exact hP, hD⟩, hS.F ht⟩) hS.2.2 xd_Mo_reason_157
        · refine lv_iconst (v := 1) hx hb xd_Mo_reason_132 (by decide) ?_
          refine lv_goto (tgt := 157) hx hb xd_Mo_reason_133 (by decide) ?_
          exact W.iret (v := 1) hx hb hr (fun t ht hW => ⟨⟨1, (v, (va_up g 24 f2)), rfl, ⟨rfl, fun j h1 => by simp [va_up, h1], (by
        unfold rsW
        rw [cif_pos (cyK_all.mp (by rw [← show i1 = 12 * nl + md0 by omega]; rcases hcy with ⟨_, q⟩ | ⟨q, _⟩; exact q; omega))]
        rfl)⟩, by rw [ht]; exact hP, hD⟩, hS.F ht⟩) hS.2.2 xd_Mo_reason_157
      · refine lv_iload_n hx hb xd_Mo_reason_95 rfl (lv_at hl 1 rfl) ?_
        refine xz_ne (a := sp) (tgt := 116) hx hb xd_Mo_reason_96 (by decide) (by omega) (fun hc12 => ?_) (fun hc12 => ?_)
        · refine lv_iconst (v := 1) hx hb xd_Mo_reason_116 (by decide) ?_
          refine lv_goto (tgt := 121) hx hb xd_Mo_reason_117 (by decide) ?_
          refine lv_istore_n hx hb xd_Mo_reason_121 rfl hl (Nat.le_of_ble_eq_true rfl) rfl (fun ls hl => ?_)
          have hl : lv_has ls 4 [(2, .int 1), (3, .int (nI i2)), (1, .int (nI cy)), (0, .ref h)] := hl
          refine lv_iinc (k := 1) (x := (nI i2)) (v := (nI (i2 + 1))) hx hb xd_Mo_reason_122 hl rfl (xb_inc i2 1) (Nat.le_of_ble_eq_true rfl) rfl (fun ls hl => ?_)
          have hl : lv_has ls 4 [(3, .int (nI (i2 + 1))), (2, .int 1), (1, .int (nI cy)), (0, .ref h)] := hl
          refine lv_goto (tgt := 70) hx hb xd_Mo_reason_125 (by decide) ?_
          exact ih3 (i2 + 1, 1, f2) _ _ _ (show 12 * nl + md0 - (i2 + 1) < 12 * nl + md0 - i2 by omega) (lv_sub hl [0, 1, 2, 3] rfl) hP hD hS ⟨(show 12 * nl ≤ (i2 + 1) from by first | assumption | omega), (show (i2 + 1) ≤ 12 * nl + md0 from by first | assumption | omega), (show 1 ≤ 1 from by first | assumption | omega), (show (1 = 1 ∧ spK g nl (i2 + 1)) ∨ (1 = 0 ∧ ¬ spK g nl (i2 + 1)) from by
        rcases hsp with ⟨_, j, q1, q2, q3⟩ | ⟨q, _⟩
        · exact Or.inl ⟨rfl, j, q1, by omega, q3⟩
        · omega)⟩
        · refine lv_aload_n hx hb xd_Mo_reason_99 rfl (lv_at hl 3 rfl) ?_
          refine lv_aload_n hx hb xd_Mo_reason_100 rfl (lv_at hl 3 rfl) ?_
          refine va_get (D := D) (ci := 4) (v := .int (v 5)) (C := xR_Mo) (T := xT_Mo) (N := 31) hx hb hT xi_Mo hown hK.1 hP 0 rfl rfl 23 (by decide) (hT _ k4o_0) (fun _ h9 => h9) rfl xd_Mo_reason_101 ?_
          refine xn_top (x := (v 5)) (y := nI nl) hnl ?_
          refine lv_aload_n hx hb xd_Mo_reason_104 rfl (lv_at hl 3 rfl) ?_
          refine va_get (D := D) (ci := 4) (v := .ref (mm 21)) (C := xR_Mo) (T := xT_Mo) (N := 31) hx hb hT xi_Mo hown hK.1 hP 0 rfl rfl 27 (by decide) (hT _ k4o_2) (fun _ h9 => h9) rfl xd_Mo_reason_105 ?_
          refine lv_iload_n hx hb xd_Mo_reason_108 rfl (lv_at hl 0 rfl) ?_
          refine xn_iald (i := i2) hx hb hK.1 hP 22 0 rfl rfl (by omega) (by decide) xd_Mo_reason_109 ?_
          obtain ⟨k13, hk14, ek15⟩ := hent2 i2 (by omega) (by omega)
          refine xn_top (x := (g 21 i2)) ek15 ?_
          have hFc := va_free (wc := (moW h mm kA v (va_up g 24 f2))) hD hS hA [0, 1, 2, 3, 4, 5, 6, 7, 8, 9, 10, 11, 12, 13, 14, 15, 16, 17, 18, 19, 20, 21, 22, 23, 24, 25] rfl
          refine va_calli (va_runV (As := [.int (nI nl), .int (nI k13)]) (rest := []) ⟨hx, hb, hml, hown, hT⟩ (xc_Mo_isSplitX l D kA H.size h mm v (va_up g 24 f2) nl k13 (nl + 1) (MI_g rfl rfl rfl rfl rfl rfl rfl rfl hMI) (by first | assumption | omega) hpn (by first | assumption | omega) (by first | assumption | omega)) (cwV 2 hT (wT_V k4o_4 k4o_5 k4o_6 k4o_7 k4o_3) rfl rfl rfl (by decide +kernel) ⟨Nat.le_of_ble_eq_true rfl, Nat.le_of_ble_eq_true rfl⟩) (x_preV hK hP hD 0 rfl rfl) rfl rfl hl.1 rfl (lv_room (Nat.le_of_ble_eq_true rfl)) xd_Mo_reason_110 ⟨Nat.le_of_ble_eq_true rfl, Nat.le_of_ble_eq_true rfl⟩) hS (fun q _ h => hFc q h) hFc (fun r16 u17 t H1 locs ht hvm hp18 hB hz1 hk1 hS => ?_)
          obtain ⟨hP1, hD1⟩ := hB
          rw [ht] at hP1
          have hD1 := hD1.weaken (fun _ _ _ h => hFc _ h)
          obtain ⟨v19, g20⟩ := u17
          generalize H1 = H at hP1 hS ⊢
          have hP := hP1
          have hD := hD1
          have hP : va_P D xcl (moW h mm kA v19 g20) H := hP
          have hD : va_D A (moW h mm kA v19 g20) := hD
          obtain ⟨hu9, hfr9, hsp9⟩ := hp18
          have hu9 : v = v19 := hu9.symm
          subst hu9
          obtain ⟨fs21, hge⟩ : ∃ z, g20 = va_up g 24 z := ⟨_, g24 (fun j h => (hfr9 j h).trans (by first | rfl | simp [va_up, h]))⟩
          subst hge
          have hP : va_P D xcl (moW h mm kA v (va_up g 24 fs21)) H := hP
          have hD : va_D A (moW h mm kA v (va_up g 24 fs21)) := hD
          have hsp9 : (r16 = 1 ∧ spQ g (rdQ g nl k13) k13) ∨ (r16 = 0 ∧ ¬ spQ g (rdQ g nl k13) k13) := hsp9
          refine lv_if_eq (tgt := 120) hx hb xd_Mo_reason_113 (by decide) (fun hc22 => ?_) (fun hc22 => ?_)
          · refine lv_iconst (v := 0) hx hb xd_Mo_reason_120 (by decide) ?_
            refine lv_istore_n hx hb xd_Mo_reason_121 rfl hl (Nat.le_of_ble_eq_true rfl) rfl (fun ls hl => ?_)
            have hl : lv_has ls 4 [(2, .int 0), (3, .int (nI i2)), (1, .int (nI cy)), (0, .ref h)] := hl
            refine lv_iinc (k := 1) (x := (nI i2)) (v := (nI (i2 + 1))) hx hb xd_Mo_reason_122 hl rfl (xb_inc i2 1) (Nat.le_of_ble_eq_true rfl) rfl (fun ls hl => ?_)
            have hl : lv_has ls 4 [(3, .int (nI (i2 + 1))), (2, .int 0), (1, .int (nI cy)), (0, .ref h)] := hl
            refine lv_goto (tgt := 70) hx hb xd_Mo_reason_125 (by decide) ?_
            exact ih3 (i2 + 1, 0, fs21) _ _ _ (show 12 * nl + md0 - (i2 + 1) < 12 * nl + md0 - i2 by omega) (lv_sub hl [0, 1, 2, 3] rfl) hP hD hS ⟨(show 12 * nl ≤ (i2 + 1) from by first | assumption | omega), (show (i2 + 1) ≤ 12 * nl + md0 from by first | assumption | omega), (show 0 ≤ 1 from by first | assumption | omega), (show (0 = 1 ∧ spK g nl (i2 + 1)) ∨ (0 = 0 ∧ ¬ spK g nl (i2 + 1)) from by
        rcases hsp with ⟨q, _⟩ | ⟨_, q⟩
        · omega
        refine Or.inr ⟨rfl, fun ⟨j, q1, q2, b, q4, q5, q6⟩ => ?_⟩
        rcases Nat.lt_or_ge j i2 with z | z
        · exact q ⟨j, q1, z, b, q4, q5, q6⟩
        · rw [show j = i2 by omega, ek15] at q4
          rw [← nI_inj (by omega) (by omega) q4] at q6
          exact (by rcases hsp9 with ⟨q, _⟩ | ⟨_, q⟩; exact absurd (q.symm.trans hc22) (by decide); exact q q6))⟩
          · refine lv_iconst (v := 1) hx hb xd_Mo_reason_116 (by decide) ?_
            refine lv_goto (tgt := 121) hx hb xd_Mo_reason_117 (by decide) ?_
            refine lv_istore_n hx hb xd_Mo_reason_121 rfl hl (Nat.le_of_ble_eq_true rfl) rfl (fun ls hl => ?_)
            have hl : lv_has ls 4 [(2, .int 1), (3, .int (nI i2)), (1, .int (nI cy)), (0, .ref h)] := hl
            refine lv_iinc (k := 1) (x := (nI i2)) (v := (nI (i2 + 1))) hx hb xd_Mo_reason_122 hl rfl (xb_inc i2 1) (Nat.le_of_ble_eq_true rfl) rfl (fun ls hl => ?_)
            have hl : lv_has ls 4 [(3, .int (nI (i2 + 1))), (2, .int 1), (1, .int (nI cy)), (0, .ref h)] := hl
            refine lv_goto (tgt := 70) hx hb xd_Mo_reason_125 (by decide) ?_
            exact ih3 (i2 + 1, 1, fs21) _ _ _ (show 12 * nl + md0 - (i2 + 1) < 12 * nl + md0 - i2 by omega) (lv_sub hl [0, 1, 2, 3] rfl) hP hD hS ⟨(show 12 * nl ≤ (i2 + 1) from by first | assumption | omega), (show (i2 + 1) ≤ 12 * nl + md0 from by first | assumption | omega), (show 1 ≤ 1 from by first | assumption | omega), (show (1 = 1 ∧ spK g nl (i2 + 1)) ∨ (1 = 0 ∧ ¬ spK g nl (i2 + 1)) from Or.inl ⟨rfl, i2, by omega, by omega, k13, ek15, hk14, (by rcases hsp9 with ⟨_, q⟩ | ⟨q, _⟩; exact q; exact absurd q hc22)⟩)⟩
  · refine lv_iload_n hx hb xd_Mo_reason_33 rfl (lv_at hl 1 rfl) ?_
    refine xz_ne (a := cy) (tgt := 50) hx hb xd_Mo_reason_34 (by decide) (by omega) (fun hc23 => ?_) (fun hc23 => ?_)
    · refine lv_iconst (v := 1) hx hb xd_Mo_reason_50 (by decide) ?_
      refine lv_goto (tgt := 55) hx hb xd_Mo_reason_51 (by decide) ?_
      refine lv_istore_n hx hb xd_Mo_reason_55 rfl hl (Nat.le_of_ble_eq_true rfl) rfl (fun ls hl => ?_)
      have hl : lv_has ls 4 [(1, .int 1), (3, .int (nI i1)), (2, .int 0), (0, .ref h)] := hl
      refine lv_iinc (k := 1) (x := (nI i1)) (v := (nI (i1 + 1))) hx hb xd_Mo_reason_56 hl rfl (xb_inc i1 1) (Nat.le_of_ble_eq_true rfl) rfl (fun ls hl => ?_)
      have hl : lv_has ls 4 [(3, .int (nI (i1 + 1))), (1, .int 1), (2, .int 0), (0, .ref h)] := hl
      refine lv_goto (tgt := 12) hx hb xd_Mo_reason_59 (by decide) ?_
      exact ih1 (i1 + 1, 1, f1) _ _ _ (show 12 * nl + md0 - (i1 + 1) < 12 * nl + md0 - i1 by omega) (lv_sub hl [0, 1, 2, 3] rfl) hP hD hS ⟨(show 12 * nl ≤ (i1 + 1) from by first | assumption | omega), (show (i1 + 1) ≤ 12 * nl + md0 from by first | assumption | omega), (show 1 ≤ 1 from by first | assumption | omega), (show (1 = 1 ∧ cyK g nl (i1 + 1)) ∨ (1 = 0 ∧ ¬ cyK g nl (i1 + 1)) from by
        rcases hcy with ⟨_, j, q1, q2, q3⟩ | ⟨q, _⟩
        · exact Or.inl ⟨rfl, j, q1, by omega, q3⟩
        · omega)⟩
    · refine lv_aload_n hx hb xd_Mo_reason_37 rfl (lv_at hl 3 rfl) ?_
      refine lv_aload_n hx hb xd_Mo_reason_38 rfl (lv_at hl 3 rfl) ?_
      refine va_get (D := D) (ci := 4) (v := .ref (mm 21)) (C := xR_Mo) (T := xT_Mo) (N := 31) hx hb hT xi_Mo hown hK.1 hP 0 rfl rfl 27 (by decide) (hT _ k4o_2) (fun _ h9 => h9) rfl xd_Mo_reason_39 ?_
      refine lv_iload_n hx hb xd_Mo_reason_42 rfl (lv_at hl 0 rfl) ?_
      refine xn_iald (i := i1) hx hb hK.1 hP 22 0 rfl rfl (by omega) (by decide) xd_Mo_reason_43 ?_
      obtain ⟨k24, hk25, ek26⟩ := hent2 i1 (by omega) (by omega)
      refine xn_top (x := (g 21 i1)) ek26 ?_
      have hFc := va_free (wc := (moW h mm kA v (va_up g 24 f1))) hD hS hA [0, 1, 2, 3, 4, 5, 6, 7, 8, 9, 10, 11, 12, 13, 14, 15, 16, 17, 18, 19, 20, 21, 22, 23, 24, 25] rfl
      refine va_calli (va_runV (As := [.int (nI k24)]) (rest := []) ⟨hx, hb, hml, hown, hT⟩ (xc_Mo_isCycleX l D kA H.size h mm v (va_up g 24 f1) k24 nl md0 (MI_g rfl rfl rfl rfl rfl rfl rfl rfl hMI) (by first | assumption | omega) (by first | assumption | omega) (by first | assumption | omega) (by first | assumption | omega) (by first | assumption | omega) (by first | assumption | omega) (⟨hk25, i1, hi11, by omega, ek26⟩)) (cwV 1 hT (wT_V k4o_9 k4o_10 k4o_11 k4o_7 k4o_8) rfl rfl rfl (by decide +kernel) ⟨Nat.le_of_ble_eq_true rfl, Nat.le_of_ble_eq_true rfl⟩) (x_preV hK hP hD 0 rfl rfl) rfl rfl hl.1 rfl (lv_room (Nat.le_of_ble_eq_true rfl)) xd_Mo_reason_44 ⟨Nat.le_of_ble_eq_true rfl, Nat.le_of_ble_eq_true rfl⟩) hS (fun q _ h => hFc q h) hFc (fun r27 u28 t H1 locs ht hvm hp29 hB hz1 hk1 hS => ?_)
      obtain ⟨hP1, hD1⟩ := hB
      rw [ht] at hP1
      have hD1 := hD1.weaken (fun _ _ _ h => hFc _ h)
      obtain ⟨v30, g31⟩ := u28
      generalize H1 = H at hP1 hS ⊢
      have hP := hP1
      have hD := hD1
      have hP : va_P D xcl (moW h mm kA v30 g31) H := hP
      have hD : va_D A (moW h mm kA v30 g31) := hD
      obtain ⟨hu9, hfr9, hcy9⟩ := hp29
      have hu9 : v = v30 := hu9.symm
      subst hu9
      obtain ⟨fs32, hge⟩ : ∃ z, g31 = va_up g 24 z := ⟨_, g24 (fun j h => (hfr9 j h).trans (by first | rfl | simp [va_up, h]))⟩
      subst hge
      have hP : va_P D xcl (moW h mm kA v (va_up g 24 fs32)) H := hP
      have hD : va_D A (moW h mm kA v (va_up g 24 fs32)) := hD
      have hcy9 : ¬ r27 = 0 ↔ tc (stp g nl) k24 k24 := hcy9
      refine lv_if_eq (tgt := 54) hx hb xd_Mo_reason_47 (by decide) (fun hc33 => ?_) (fun hc33 => ?_)
      · refine lv_iconst (v := 0) hx hb xd_Mo_reason_54 (by decide) ?_
        refine lv_istore_n hx hb xd_Mo_reason_55 rfl hl (Nat.le_of_ble_eq_true rfl) rfl (fun ls hl => ?_)
        have hl : lv_has ls 4 [(1, .int 0), (3, .int (nI i1)), (2, .int 0), (0, .ref h)] := hl
        refine lv_iinc (k := 1) (x := (nI i1)) (v := (nI (i1 + 1))) hx hb xd_Mo_reason_56 hl rfl (xb_inc i1 1) (Nat.le_of_ble_eq_true rfl) rfl (fun ls hl => ?_)
        have hl : lv_has ls 4 [(3, .int (nI (i1 + 1))), (1, .int 0), (2, .int 0), (0, .ref h)] := hl
        refine lv_goto (tgt := 12) hx hb xd_Mo_reason_59 (by decide) ?_
        exact ih1 (i1 + 1, 0, fs32) _ _ _ (show 12 * nl + md0 - (i1 + 1) < 12 * nl + md0 - i1 by omega) (lv_sub hl [0, 1, 2, 3] rfl) hP hD hS ⟨(show 12 * nl ≤ (i1 + 1) from by first | assumption | omega), (show (i1 + 1) ≤ 12 * nl + md0 from by first | assumption | omega), (show 0 ≤ 1 from by first | assumption | omega), (show (0 = 1 ∧ cyK g nl (i1 + 1)) ∨ (0 = 0 ∧ ¬ cyK g nl (i1 + 1)) from by
        rcases hcy with ⟨q, _⟩ | ⟨_, q⟩
        · omega
        refine Or.inr ⟨rfl, fun ⟨j, q1, q2, b, q4, q5, q6⟩ => ?_⟩
        rcases Nat.lt_or_ge j i1 with z | z
        · exact q ⟨j, q1, z, b, q4, q5, q6⟩
        · rw [show j = i1 by omega, ek26] at q4
          rw [← nI_inj (by omega) (by omega) q4] at q6
          exact absurd (hcy9.mpr q6) (fun z => z hc33))⟩
      · refine lv_iconst (v := 1) hx hb xd_Mo_reason_50 (by decide) ?_
        refine lv_goto (tgt := 55) hx hb xd_Mo_reason_51 (by decide) ?_
        refine lv_istore_n hx hb xd_Mo_reason_55 rfl hl (Nat.le_of_ble_eq_true rfl) rfl (fun ls hl => ?_)
        have hl : lv_has ls 4 [(1, .int 1), (3, .int (nI i1)), (2, .int 0), (0, .ref h)] := hl
        refine lv_iinc (k := 1) (x := (nI i1)) (v := (nI (i1 + 1))) hx hb xd_Mo_reason_56 hl rfl (xb_inc i1 1) (Nat.le_of_ble_eq_true rfl) rfl (fun ls hl => ?_)
        have hl : lv_has ls 4 [(3, .int (nI (i1 + 1))), (1, .int 1), (2, .int 0), (0, .ref h)] := hl
        refine lv_goto (tgt := 12) hx hb xd_Mo_reason_59 (by decide) ?_
        exact ih1 (i1 + 1, 1, fs32) _ _ _ (show 12 * nl + md0 - (i1 + 1) < 12 * nl + md0 - i1 by omega) (lv_sub hl [0, 1, 2, 3] rfl) hP hD hS ⟨(show 12 * nl ≤ (i1 + 1) from by first | assumption | omega), (show (i1 + 1) ≤ 12 * nl + md0 from by first | assumption | omega), (show 1 ≤ 1 from by first | assumption | omega), (show (1 = 1 ∧ cyK g nl (i1 + 1)) ∨ (1 = 0 ∧ ¬ cyK g nl (i1 + 1)) from Or.inl ⟨rfl, i1, by omega, by omega, k24, ek26, hk25, hcy9.mp hc33⟩)⟩
