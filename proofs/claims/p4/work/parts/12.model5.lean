abbrev xb_Mo_newService : ByteArray := prog_12_method_18_code
def xy_Mo_newService : MethodName := ⟨"LayerDeskModel", "newService", "(Z)I"⟩
theorem xd_Mo_newService_0 : decode xb_Mo_newService 0 = .ok (.aload_n 0, 1) := by decide +kernel
theorem xd_Mo_newService_1 : decode xb_Mo_newService 1 = .ok (.getfield 94, 3) := by decide +kernel
theorem xd_Mo_newService_4 : decode xb_Mo_newService 4 = .ok (.iconst 2, 1) := by decide +kernel
theorem xd_Mo_newService_5 : decode xb_Mo_newService 5 = .ok (.if_icmp .ne 11, 3) := by decide +kernel
theorem xd_Mo_newService_8 : decode xb_Mo_newService 8 = .ok (.aload_n 0, 1) := by decide +kernel
theorem xd_Mo_newService_9 : decode xb_Mo_newService 9 = .ok (.iconst 1, 1) := by decide +kernel
theorem xd_Mo_newService_10 : decode xb_Mo_newService 10 = .ok (.invokevirtual 133, 3) := by decide +kernel
theorem xd_Mo_newService_13 : decode xb_Mo_newService 13 = .ok (.goto 4, 3) := by decide +kernel
theorem xd_Mo_newService_16 : decode xb_Mo_newService 16 = .ok (.iconst 0, 1) := by decide +kernel
theorem xd_Mo_newService_17 : decode xb_Mo_newService 17 = .ok (.istore_n 2, 1) := by decide +kernel
theorem xd_Mo_newService_18 : decode xb_Mo_newService 18 = .ok (.iload_n 2, 1) := by decide +kernel
theorem xd_Mo_newService_19 : decode xb_Mo_newService 19 = .ok (.ifCond .ne 5, 3) := by decide +kernel
theorem xd_Mo_newService_22 : decode xb_Mo_newService 22 = .ok (.iconst (-1), 1) := by decide +kernel
theorem xd_Mo_newService_23 : decode xb_Mo_newService 23 = .ok (.ireturn, 1) := by decide +kernel
theorem xd_Mo_newService_24 : decode xb_Mo_newService 24 = .ok (.aload_n 0, 1) := by decide +kernel
theorem xd_Mo_newService_25 : decode xb_Mo_newService 25 = .ok (.getfield 140, 3) := by decide +kernel
theorem xd_Mo_newService_28 : decode xb_Mo_newService 28 = .ok (.iconst 1, 1) := by decide +kernel
theorem xd_Mo_newService_29 : decode xb_Mo_newService 29 = .ok (.isub, 1) := by decide +kernel
theorem xd_Mo_newService_30 : decode xb_Mo_newService 30 = .ok (.istore_n 3, 1) := by decide +kernel
theorem xd_Mo_newService_31 : decode xb_Mo_newService 31 = .ok (.iconst (-1), 1) := by decide +kernel
theorem xd_Mo_newService_32 : decode xb_Mo_newService 32 = .ok (.istore 4, 2) := by decide +kernel
theorem xd_Mo_newService_34 : decode xb_Mo_newService 34 = .ok (.iconst 2, 1) := by decide +kernel
theorem xd_Mo_newService_35 : decode xb_Mo_newService 35 = .ok (.istore 5, 2) := by decide +kernel
theorem xd_Mo_newService_37 : decode xb_Mo_newService 37 = .ok (.iload_n 3, 1) := by decide +kernel
theorem xd_Mo_newService_38 : decode xb_Mo_newService 38 = .ok (.ifCond .lt 67, 3) := by decide +kernel
theorem xd_Mo_newService_41 : decode xb_Mo_newService 41 = .ok (.iload 5, 2) := by decide +kernel
theorem xd_Mo_newService_43 : decode xb_Mo_newService 43 = .ok (.ifCond .lt 62, 3) := by decide +kernel
theorem xd_Mo_newService_46 : decode xb_Mo_newService 46 = .ok (.iload_n 1, 1) := by decide +kernel
theorem xd_Mo_newService_47 : decode xb_Mo_newService 47 = .ok (.ifCond .eq 17, 3) := by decide +kernel
theorem xd_Mo_newService_50 : decode xb_Mo_newService 50 = .ok (.aload_n 0, 1) := by decide +kernel
theorem xd_Mo_newService_51 : decode xb_Mo_newService 51 = .ok (.getfield 57, 3) := by decide +kernel
theorem xd_Mo_newService_54 : decode xb_Mo_newService 54 = .ok (.iconst 3, 1) := by decide +kernel
theorem xd_Mo_newService_55 : decode xb_Mo_newService 55 = .ok (.iload_n 3, 1) := by decide +kernel
theorem xd_Mo_newService_56 : decode xb_Mo_newService 56 = .ok (.imul, 1) := by decide +kernel
theorem xd_Mo_newService_57 : decode xb_Mo_newService 57 = .ok (.iload 5, 2) := by decide +kernel
theorem xd_Mo_newService_59 : decode xb_Mo_newService 59 = .ok (.iadd, 1) := by decide +kernel
theorem xd_Mo_newService_60 : decode xb_Mo_newService 60 = .ok (.iaload, 1) := by decide +kernel
theorem xd_Mo_newService_61 : decode xb_Mo_newService 61 = .ok (.goto 14, 3) := by decide +kernel
theorem xd_Mo_newService_64 : decode xb_Mo_newService 64 = .ok (.aload_n 0, 1) := by decide +kernel
theorem xd_Mo_newService_65 : decode xb_Mo_newService 65 = .ok (.getfield 54, 3) := by decide +kernel
theorem xd_Mo_newService_68 : decode xb_Mo_newService 68 = .ok (.iconst 3, 1) := by decide +kernel
theorem xd_Mo_newService_69 : decode xb_Mo_newService 69 = .ok (.iload_n 3, 1) := by decide +kernel
theorem xd_Mo_newService_70 : decode xb_Mo_newService 70 = .ok (.imul, 1) := by decide +kernel
theorem xd_Mo_newService_71 : decode xb_Mo_newService 71 = .ok (.iload 5, 2) := by decide +kernel
theorem xd_Mo_newService_73 : decode xb_Mo_newService 73 = .ok (.iadd, 1) := by decide +kernel
theorem xd_Mo_newService_74 : decode xb_Mo_newService 74 = .ok (.iaload, 1) := by decide +kernel
theorem xd_Mo_newService_75 : decode xb_Mo_newService 75 = .ok (.istore 6, 2) := by decide +kernel
theorem xd_Mo_newService_77 : decode xb_Mo_newService 77 = .ok (.iload 6, 2) := by decide +kernel
theorem xd_Mo_newService_79 : decode xb_Mo_newService 79 = .ok (.iload_n 2, 1) := by decide +kernel
theorem xd_Mo_newService_80 : decode xb_Mo_newService 80 = .ok (.if_icmp .ne 5, 3) := by decide +kernel
theorem xd_Mo_newService_83 : decode xb_Mo_newService 83 = .ok (.iconst (-1), 1) := by decide +kernel
theorem xd_Mo_newService_84 : decode xb_Mo_newService 84 = .ok (.ireturn, 1) := by decide +kernel
theorem xd_Mo_newService_85 : decode xb_Mo_newService 85 = .ok (.iload 6, 2) := by decide +kernel
theorem xd_Mo_newService_87 : decode xb_Mo_newService 87 = .ok (.ifCond .ne 8, 3) := by decide +kernel
theorem xd_Mo_newService_90 : decode xb_Mo_newService 90 = .ok (.iload 5, 2) := by decide +kernel
theorem xd_Mo_newService_92 : decode xb_Mo_newService 92 = .ok (.goto 5, 3) := by decide +kernel
theorem xd_Mo_newService_95 : decode xb_Mo_newService 95 = .ok (.iload 4, 2) := by decide +kernel
theorem xd_Mo_newService_97 : decode xb_Mo_newService 97 = .ok (.istore 4, 2) := by decide +kernel
theorem xd_Mo_newService_99 : decode xb_Mo_newService 99 = .ok (.iinc 5 (-1), 3) := by decide +kernel
theorem xd_Mo_newService_102 : decode xb_Mo_newService 102 = .ok (.goto (-65), 3) := by decide +kernel
theorem xd_Mo_newService_105 : decode xb_Mo_newService 105 = .ok (.aload_n 0, 1) := by decide +kernel
theorem xd_Mo_newService_106 : decode xb_Mo_newService 106 = .ok (.invokevirtual 146, 3) := by decide +kernel
theorem xd_Mo_newService_109 : decode xb_Mo_newService 109 = .ok (.ifCond .ne 8, 3) := by decide +kernel
theorem xd_Mo_newService_112 : decode xb_Mo_newService 112 = .ok (.iload 4, 2) := by decide +kernel
theorem xd_Mo_newService_114 : decode xb_Mo_newService 114 = .ok (.ifCond .ge 6, 3) := by decide +kernel
theorem xd_Mo_newService_117 : decode xb_Mo_newService 117 = .ok (.bipush (-2), 2) := by decide +kernel
theorem xd_Mo_newService_119 : decode xb_Mo_newService 119 = .ok (.ireturn, 1) := by decide +kernel
theorem xd_Mo_newService_120 : decode xb_Mo_newService 120 = .ok (.iload_n 1, 1) := by decide +kernel
theorem xd_Mo_newService_121 : decode xb_Mo_newService 121 = .ok (.ifCond .eq 18, 3) := by decide +kernel
theorem xd_Mo_newService_124 : decode xb_Mo_newService 124 = .ok (.aload_n 0, 1) := by decide +kernel
theorem xd_Mo_newService_125 : decode xb_Mo_newService 125 = .ok (.getfield 57, 3) := by decide +kernel
theorem xd_Mo_newService_128 : decode xb_Mo_newService 128 = .ok (.iconst 3, 1) := by decide +kernel
theorem xd_Mo_newService_129 : decode xb_Mo_newService 129 = .ok (.iload_n 3, 1) := by decide +kernel
theorem xd_Mo_newService_130 : decode xb_Mo_newService 130 = .ok (.imul, 1) := by decide +kernel
theorem xd_Mo_newService_131 : decode xb_Mo_newService 131 = .ok (.iload 4, 2) := by decide +kernel
theorem xd_Mo_newService_133 : decode xb_Mo_newService 133 = .ok (.iadd, 1) := by decide +kernel
theorem xd_Mo_newService_134 : decode xb_Mo_newService 134 = .ok (.iload_n 2, 1) := by decide +kernel
theorem xd_Mo_newService_135 : decode xb_Mo_newService 135 = .ok (.iastore, 1) := by decide +kernel
theorem xd_Mo_newService_136 : decode xb_Mo_newService 136 = .ok (.goto 15, 3) := by decide +kernel
theorem xd_Mo_newService_139 : decode xb_Mo_newService 139 = .ok (.aload_n 0, 1) := by decide +kernel
theorem xd_Mo_newService_140 : decode xb_Mo_newService 140 = .ok (.getfield 54, 3) := by decide +kernel
theorem xd_Mo_newService_143 : decode xb_Mo_newService 143 = .ok (.iconst 3, 1) := by decide +kernel
theorem xd_Mo_newService_144 : decode xb_Mo_newService 144 = .ok (.iload_n 3, 1) := by decide +kernel
theorem xd_Mo_newService_145 : decode xb_Mo_newService 145 = .ok (.imul, 1) := by decide +kernel
theorem xd_Mo_newService_146 : decode xb_Mo_newService 146 = .ok (.iload 4, 2) := by decide +kernel
theorem xd_Mo_newService_148 : decode xb_Mo_newService 148 = .ok (.iadd, 1) := by decide +kernel
theorem xd_Mo_newService_149 : decode xb_Mo_newService 149 = .ok (.iload_n 2, 1) := by decide +kernel
theorem xd_Mo_newService_150 : decode xb_Mo_newService 150 = .ok (.iastore, 1) := by decide +kernel
theorem xd_Mo_newService_151 : decode xb_Mo_newService 151 = .ok (.iconst 2, 1) := by decide +kernel
theorem xd_Mo_newService_152 : decode xb_Mo_newService 152 = .ok (.ireturn, 1) := by decide +kernel
theorem xr_0 : (Cond.fieldLink "LayerDeskModel" 94 "LayerDeskModel" "words" "I") ∈ wT := wT_t (List.mem_append_right _ (List.mem_append_right _ (List.mem_append_right _ (List.mem_append_left _ (List.mem_of_getElem? (i := 88) rfl))))) rfl
theorem xr_1 : (Cond.code xy_Mo_nameOf xb_Mo_nameOf 4 (some .int)) ∈ wT := wT_t (List.mem_append_right _ (List.mem_append_right _ (List.mem_append_right _ (List.mem_append_left _ (List.mem_of_getElem? (i := 212) rfl))))) rfl
theorem xr_2 : (Cond.methodLink "LayerDeskModel" 133 xy_Mo_nameOf) ∈ wT := wT_t (List.mem_append_right _ (List.mem_append_right _ (List.mem_append_right _ (List.mem_append_left _ (List.mem_of_getElem? (i := 209) rfl))))) rfl
theorem xr_3 : (Cond.instanceMethod xy_Mo_nameOf) ∈ wT := wT_t (List.mem_append_right _ (List.mem_append_right _ (List.mem_append_right _ (List.mem_append_left _ (List.mem_of_getElem? (i := 211) rfl))))) rfl
theorem xr_4 : (Cond.selects "LayerDeskModel" xy_Mo_nameOf xy_Mo_nameOf) ∈ wT := wT_s (q := (xy_Mo_nameOf, 31)) (by decide +kernel) rfl
theorem xr_5 : (Cond.initialized "LayerDeskModel") ∈ wT := wT_t (List.mem_append_left _ (List.mem_of_getElem? (i := 5) rfl)) rfl
theorem xr_6 : (Cond.fieldLink "LayerDeskModel" 140 "LayerDeskModel" "descriptors" "I") ∈ wT := wT_t (List.mem_append_right _ (List.mem_append_right _ (List.mem_append_right _ (List.mem_append_left _ (List.mem_of_getElem? (i := 91) rfl))))) rfl
theorem xr_7 : (Cond.code xy_Mo_isShut xb_Mo_isShut 1 (some .boolean)) ∈ wT := wT_t (List.mem_append_right _ (List.mem_append_right _ (List.mem_append_right _ (List.mem_append_left _ (List.mem_of_getElem? (i := 228) rfl))))) rfl
theorem xr_8 : (Cond.methodLink "LayerDeskModel" 146 xy_Mo_isShut) ∈ wT := wT_t (List.mem_append_right _ (List.mem_append_right _ (List.mem_append_right _ (List.mem_append_left _ (List.mem_of_getElem? (i := 225) rfl))))) rfl
theorem xr_9 : (Cond.instanceMethod xy_Mo_isShut) ∈ wT := wT_t (List.mem_append_right _ (List.mem_append_right _ (List.mem_append_right _ (List.mem_append_left _ (List.mem_of_getElem? (i := 227) rfl))))) rfl
theorem xr_10 : (Cond.selects "LayerDeskModel" xy_Mo_isShut xy_Mo_isShut) ∈ wT := wT_s (q := (xy_Mo_isShut, 31)) (by decide +kernel) rfl
theorem xr_11 : (Cond.fieldLink "LayerDeskModel" 54 "LayerDeskModel" "use" "[I") ∈ wT := wT_t (List.mem_append_right _ (List.mem_append_right _ (List.mem_append_right _ (List.mem_append_left _ (List.mem_of_getElem? (i := 103) rfl))))) rfl
theorem xr_12 : (Cond.fieldLink "LayerDeskModel" 57 "LayerDeskModel" "provide" "[I") ∈ wT := wT_t (List.mem_append_right _ (List.mem_append_right _ (List.mem_append_right _ (List.mem_append_left _ (List.mem_of_getElem? (i := 104) rfl))))) rfl
set_option maxHeartbeats 4000000 in
set_option maxRecDepth 100000 in
theorem xc_Mo_newService (l : Launch) (D : va_G) (kA : Nat → ClassId) (sz h : Nat) (mm : Nat → Nat) (v : Nat → Int32) (g : Nat → Nat → Int32) (wn : Nat) (zz : Int32) (hMI : MI v g) (hWI : WI v g wn) : Met l xy_Mo_newService (.code xy_Mo_newService xb_Mo_newService 7 (some .int) :: wT) { frames := 1, cells := 0, slots := 0, locals := 23 } (va_Pc [.ref h, .int zz] (xPre D kA sz (moW h mm kA v g))) (va_Qi (fun (r : Int32) (u : (Nat → Int32) × (Nat → Nat → Int32)) => MI u.1 u.2 ∧ u.1 2 = v 2 ∧ (r = -1 ∨ r = -2 ∨ r = 1 ∨ r = 2)) (fun (u : (Nat → Int32) × (Nat → Nat → Int32)) t => va_P D xcl (moW h mm kA u.1 u.2) t.heap ∧ va_D (va_A (moW h mm kA v g) sz) (moW h mm kA u.1 u.2)) (va_A (moW h mm kA v g) sz)) 0 0 (va_A (moW h mm kA v g) sz) := by
  refine Met.ofW (cc := xb_Mo_newService) (maxL := 7) (ret := (some .int)) (by decide) rfl ?_
  intro p e s m args below meth c s₁ B hml hv
  obtain ⟨rfl, hsz, hP, hK, hD0⟩ := hv
  have hx := B.exec
  have hb := B.bytes
  have hr := B.returns
  have hT := x_hT B.pre
  have hown : s.vm.findClass xR_Mo = some m.cls := findClass_of_methodNamed B.named
  have hlocks := B.notSynchronized
  subst hsz
  have hD := hD0.self (sz := s.heap.size)
  generalize hAe : va_A (moW h mm kA v g) s.heap.size = A at hD ⊢
  have hA : ∀ q : Nat, s.heap.size ≤ q → A q := fun q h => by rw [← hAe]; exact Or.inr h
  have hS : va_S A s.heap s.heap [] := va_S.rf
  have hl := lv_entry ([.ref h, .int zz]) (n := 7) (Nat.le_of_ble_eq_true rfl)
  rw [lg_entry_eq]
  generalize (lg_sl ([.ref h, .int zz]) ++ List.replicate (7 - (lg_sl ([.ref h, .int zz])).length) Slot.unset).toArray = ls at hl ⊢
  have hl : lv_has ls 7 [(0, .ref h), (1, .int zz)] := hl
  have hP : va_P D xcl (moW h mm kA v g) s.heap := hP
  obtain ⟨⟨nd, hnd12, hnd⟩, ⟨nl, hnl5, hnl, hpar⟩, hch, hpk, hrq, hmd, huq⟩ := id hMI
  obtain ⟨hwn20, hwn, hws⟩ := hWI
  refine lv_aload_n hx hb xd_Mo_newService_0 rfl (lv_at hl 0 rfl) ?_
  refine va_get (D := D) (ci := 4) (v := .int (v 3)) (C := xR_Mo) (T := xT_Mo) (N := 31) hx hb hT xi_Mo hown hK.1 hP 0 rfl rfl 4 (by decide) (hT _ xr_0) (fun _ h9 => h9) rfl xd_Mo_newService_1 ?_
  refine xn_top (x := (v 3)) (y := nI wn) hwn ?_
  refine lv_iconst (v := 2) hx hb xd_Mo_newService_4 (by decide) ?_
  refine xn_ne (a := wn) (b := 2) (tgt := 16) hx hb xd_Mo_newService_5 (by decide) (by omega) (by omega) (fun hc1 => ?_) (fun hc1 => ?_)
  · refine lv_iconst (v := 0) hx hb xd_Mo_newService_16 (by decide) ?_
    refine lv_istore_n hx hb xd_Mo_newService_17 rfl hl (Nat.le_of_ble_eq_true rfl) rfl (fun ls hl => ?_)
    have hl : lv_has ls 7 [(2, .int 0), (0, .ref h), (1, .int zz)] := hl
    refine lv_iload_n hx hb xd_Mo_newService_18 rfl (lv_at hl 0 rfl) ?_
    refine xz_ne (a := 0) (tgt := 24) hx hb xd_Mo_newService_19 (by decide) (by omega) (fun hc2 => absurd hc2 (by omega)) (fun _ => ?_)
    refine lv_iconst (v := (-1)) hx hb xd_Mo_newService_22 (by decide) ?_
    exact W.iret (v := (-1)) hx hb hr (fun t ht hW => ⟨⟨(-1), (v, g), rfl, ⟨hMI, rfl, Or.inl rfl⟩, by rw [ht]; exact hP, hD⟩, hS.F ht⟩) hS.2.2 xd_Mo_newService_23
  · obtain ⟨b1, e1, hbe1, he1, eb1, ee1⟩ := hws 1 (by omega)
    refine lv_aload_n hx hb xd_Mo_newService_8 rfl (lv_at hl 0 rfl) ?_
    refine lv_iconst (v := 1) hx hb xd_Mo_newService_9 (by decide) ?_
    have hFc := va_free (wc := (moW h mm kA v g)) hD hS hA [0, 1, 2, 3, 4, 5, 6, 7, 8, 9, 10, 11, 12, 13, 14, 15, 16, 17, 18, 19, 20, 21, 22, 23, 24, 25] rfl
    refine va_calli (va_runV (As := [.int 1]) (rest := []) ⟨hx, hb, hml, hown, hT⟩ (xc_Mo_nameOf l D kA s.heap.size h mm v g 1 b1 e1 (by first | assumption | omega) (by first | assumption | omega) (by first | assumption | omega) (by first | assumption | omega) (by first | assumption | omega)) (cwV 1 hT (wT_V xr_2 xr_3 xr_4 xr_5 xr_1) rfl rfl rfl (by decide +kernel) ⟨Nat.le_of_ble_eq_true rfl, Nat.le_of_ble_eq_true rfl⟩) (x_preV hK hP hD 0 rfl rfl) rfl rfl hl.1 rfl (lv_room (Nat.le_of_ble_eq_true rfl)) xd_Mo_newService_10 ⟨Nat.le_of_ble_eq_true rfl, Nat.le_of_ble_eq_true rfl⟩) hS (fun q _ h => hFc q h) hFc (fun r3 u4 t H1 locs ht hvm hp5 hB hz1 hk1 hS => ?_)
    obtain ⟨hP1, hD1⟩ := hB
    rw [ht] at hP1
    have hD1 := hD1.weaken (fun _ _ _ h => hFc _ h)
    generalize H1 = H at hP1 hS ⊢
    have hP := hP1
    have hD := hD1
    have hP : va_P D xcl (moW h mm kA v g) H := hP
    have hD : va_D A (moW h mm kA v g) := hD
    refine lv_goto (tgt := 17) hx hb xd_Mo_newService_13 (by decide) ?_
    refine lv_istore_n hx hb xd_Mo_newService_17 rfl hl (Nat.le_of_ble_eq_true rfl) rfl (fun ls hl => ?_)
    have hl : lv_has ls 7 [(2, .int r3), (0, .ref h), (1, .int zz)] := hl
    refine lv_iload_n hx hb xd_Mo_newService_18 rfl (lv_at hl 0 rfl) ?_
    refine lv_if_ne (tgt := 24) hx hb xd_Mo_newService_19 (by decide) (fun hc6 => ?_) (fun hc6 => ?_)
    · rcases Nat.eq_zero_or_pos nd with hz | hz
      · have hnd0 : v 4 = nI 0 := by rw [hnd, hz]
        refine lv_aload_n hx hb xd_Mo_newService_24 rfl (lv_at hl 1 rfl) ?_
        refine va_get (D := D) (ci := 4) (v := .int (v 4)) (C := xR_Mo) (T := xT_Mo) (N := 31) hx hb hT xi_Mo hown hK.1 hP 0 rfl rfl 7 (by decide) (hT _ xr_6) (fun _ h9 => h9) rfl xd_Mo_newService_25 ?_
        refine xn_top (x := (v 4)) (y := nI 0) hnd0 ?_
        refine lv_iconst (v := 1) hx hb xd_Mo_newService_28 (by decide) ?_
        refine lv_isub hx hb xd_Mo_newService_29 ?_
        refine lv_istore_n hx hb xd_Mo_newService_30 rfl hl (Nat.le_of_ble_eq_true rfl) rfl (fun ls hl => ?_)
        have hl : lv_has ls 7 [(3, .int ((nI 0) - 1)), (2, .int r3), (0, .ref h), (1, .int zz)] := hl
        refine lv_iconst (v := (-1)) hx hb xd_Mo_newService_31 (by decide) ?_
        refine lv_istore hx hb xd_Mo_newService_32 hl (Nat.le_of_ble_eq_true rfl) rfl (fun ls hl => ?_)
        have hl : lv_has ls 7 [(4, .int (-1)), (3, .int ((nI 0) - 1)), (2, .int r3), (0, .ref h), (1, .int zz)] := hl
        refine lv_iconst (v := 2) hx hb xd_Mo_newService_34 (by decide) ?_
        refine lv_istore hx hb xd_Mo_newService_35 hl (Nat.le_of_ble_eq_true rfl) rfl (fun ls hl => ?_)
        have hl : lv_has ls 7 [(5, .int 2), (4, .int (-1)), (3, .int ((nI 0) - 1)), (2, .int r3), (0, .ref h), (1, .int zz)] := hl
        refine lv_iload_n hx hb xd_Mo_newService_37 rfl (lv_at hl 2 rfl) ?_
        refine lv_if_lt (tgt := 105) hx hb xd_Mo_newService_38 (by decide) (fun _ => ?_) (fun hc7 => absurd hc7 (by decide))
        refine lv_aload_n hx hb xd_Mo_newService_105 rfl (lv_at hl 4 rfl) ?_
        have hFc := va_free (wc := (moW h mm kA v g)) hD hS hA [0, 1, 2, 3, 4, 5, 6, 7, 8, 9, 10, 11, 12, 13, 14, 15, 16, 17, 18, 19, 20, 21, 22, 23, 24, 25] rfl
        refine va_calli (va_runV (As := []) (rest := []) ⟨hx, hb, hml, hown, hT⟩ (xc_Mo_isShut l D kA H.size h mm v g nd (by first | assumption | omega) (by first | assumption | omega)) (cwV 0 hT (wT_V xr_8 xr_9 xr_10 xr_5 xr_7) rfl rfl rfl (by decide +kernel) ⟨Nat.le_of_ble_eq_true rfl, Nat.le_of_ble_eq_true rfl⟩) (x_preV hK hP hD 0 rfl rfl) rfl rfl hl.1 rfl (lv_room (Nat.le_of_ble_eq_true rfl)) xd_Mo_newService_106 ⟨Nat.le_of_ble_eq_true rfl, Nat.le_of_ble_eq_true rfl⟩) hS (fun q _ h => hFc q h) hFc (fun r8 u9 t H1 locs ht hvm hp10 hB hz1 hk1 hS => ?_)
        obtain ⟨hP1, hD1⟩ := hB
        rw [ht] at hP1
        have hD1 := hD1.weaken (fun _ _ _ h => hFc _ h)
        generalize H1 = H at hP1 hS ⊢
        have hP := hP1
        have hD := hD1
        have hP : va_P D xcl (moW h mm kA v g) H := hP
        have hD : va_D A (moW h mm kA v g) := hD
        rcases hp10 with ⟨rfl, z11⟩ | ⟨rfl, z12, z13⟩
        · refine xz_ne (a := 1) (tgt := 117) hx hb xd_Mo_newService_109 (by decide) (by omega) (fun _ => ?_) (fun hc14 => absurd hc14 (by omega))
          refine lv_bipush (v := (-2)) hx hb xd_Mo_newService_117 (by decide) ?_
          exact W.iret (v := (-2)) hx hb hr (fun t ht hW => ⟨⟨(-2), (v, g), rfl, ⟨hMI, rfl, Or.inr (Or.inl rfl)⟩, by rw [ht]; exact hP, hD⟩, hS.F ht⟩) hS.2.2 xd_Mo_newService_119
        · exact absurd hz z12
      · refine lv_aload_n hx hb xd_Mo_newService_24 rfl (lv_at hl 1 rfl) ?_
        refine va_get (D := D) (ci := 4) (v := .int (v 4)) (C := xR_Mo) (T := xT_Mo) (N := 31) hx hb hT xi_Mo hown hK.1 hP 0 rfl rfl 7 (by decide) (hT _ xr_6) (fun _ h9 => h9) rfl xd_Mo_newService_25 ?_
        refine xn_top (x := (v 4)) (y := nI nd) hnd ?_
        refine lv_iconst (v := 1) hx hb xd_Mo_newService_28 (by decide) ?_
        refine lv_isub hx hb xd_Mo_newService_29 ?_
        refine xn_top (y := nI (nd - 1)) (pk_sub (a := nd) (b := 1) (by omega)) ?_
        refine lv_istore_n hx hb xd_Mo_newService_30 rfl hl (Nat.le_of_ble_eq_true rfl) rfl (fun ls hl => ?_)
        have hl : lv_has ls 7 [(3, .int (nI (nd - 1))), (2, .int r3), (0, .ref h), (1, .int zz)] := hl
        refine lv_iconst (v := (-1)) hx hb xd_Mo_newService_31 (by decide) ?_
        refine lv_istore hx hb xd_Mo_newService_32 hl (Nat.le_of_ble_eq_true rfl) rfl (fun ls hl => ?_)
        have hl : lv_has ls 7 [(4, .int (-1)), (3, .int (nI (nd - 1))), (2, .int r3), (0, .ref h), (1, .int zz)] := hl
        refine lv_iconst (v := 2) hx hb xd_Mo_newService_34 (by decide) ?_
        refine lv_istore hx hb xd_Mo_newService_35 hl (Nat.le_of_ble_eq_true rfl) rfl (fun ls hl => ?_)
        have hl : lv_has ls 7 [(5, .int 2), (4, .int (-1)), (3, .int (nI (nd - 1))), (2, .int r3), (0, .ref h), (1, .int zz)] := hl
        have e25 : (2 : Int32) = nI 3 - 1 := by decide
        rw [e25] at hl
        refine xlab (σ := Nat × Int32) (ml := 7) 37 (fun (kk, fr) => [(5, .int (nI kk - 1)), (4, .int fr), (0, .ref h), (1, .int zz), (2, .int r3), (3, .int (nI (nd - 1)))]) (fun (kk, fr) => []) (fun (kk, fr) => moW h mm kA v g) (fun (kk, fr) => (kk ≤ 3) ∧ (fr = -1 ∨ ∃ f9, f9 < 3 ∧ fr = nI f9)) (fun (kk, fr) => kk) ?_ (3, (-1)) _ _ _ (lv_sub hl [0, 1, 4, 5, 3, 2] rfl) hP hD hS ⟨(show 3 ≤ 3 from by omega), (show (-1) = -1 ∨ ∃ f9, f9 < 3 ∧ (-1) = nI f9 from Or.inl rfl)⟩
        intro n9 ih15 a9 ls H locs hμ hl hP hD hS hI
        subst hμ
        obtain ⟨kk, fr⟩ := a9
        obtain ⟨hkk, hfr⟩ := hI
        have hkk : kk ≤ 3 := hkk
        have hfr : fr = -1 ∨ ∃ f9, f9 < 3 ∧ fr = nI f9 := hfr
        have hl : lv_has ls 7 [(5, .int (nI kk - 1)), (4, .int fr), (0, .ref h), (1, .int zz), (2, .int r3), (3, .int (nI (nd - 1)))] := hl
        have hP : va_P D xcl (moW h mm kA v g) H := hP
        have hD : va_D A (moW h mm kA v g) := hD
        refine lv_iload_n hx hb xd_Mo_newService_37 rfl (lv_at hl 5 rfl) ?_
        refine xz_lt (a := nd - 1) (tgt := 105) hx hb xd_Mo_newService_38 (by decide) (by omega) ?_
        rcases Nat.eq_zero_or_pos kk with hz5 | hz5
        · have e5 : nI kk - 1 = -1 := by rw [hz5]; decide
          rw [e5] at hl
          refine lv_iload hx hb xd_Mo_newService_41 (lv_at hl 0 rfl) ?_
          refine lv_if_lt (tgt := 105) hx hb xd_Mo_newService_43 (by decide) (fun _ => ?_) (fun hc17 => absurd hc17 (by decide))
          rcases hfr with hfr | ⟨f9, hf9, hfr⟩
          · rw [hfr] at hl
            refine lv_aload_n hx hb xd_Mo_newService_105 rfl (lv_at hl 2 rfl) ?_
            have hFc := va_free (wc := (moW h mm kA v g)) hD hS hA [0, 1, 2, 3, 4, 5, 6, 7, 8, 9, 10, 11, 12, 13, 14, 15, 16, 17, 18, 19, 20, 21, 22, 23, 24, 25] rfl
            refine va_calli (va_runV (As := []) (rest := []) ⟨hx, hb, hml, hown, hT⟩ (xc_Mo_isShut l D kA H.size h mm v g nd (by first | assumption | omega) (by first | assumption | omega)) (cwV 0 hT (wT_V xr_8 xr_9 xr_10 xr_5 xr_7) rfl rfl rfl (by decide +kernel) ⟨Nat.le_of_ble_eq_true rfl, Nat.le_of_ble_eq_true rfl⟩) (x_preV hK hP hD 0 rfl rfl) rfl rfl hl.1 rfl (lv_room (Nat.le_of_ble_eq_true rfl)) xd_Mo_newService_106 ⟨Nat.le_of_ble_eq_true rfl, Nat.le_of_ble_eq_true rfl⟩) hS (fun q _ h => hFc q h) hFc (fun r18 u19 t H1 locs ht hvm hp20 hB hz1 hk1 hS => ?_)
            obtain ⟨hP1, hD1⟩ := hB
            rw [ht] at hP1
            have hD1 := hD1.weaken (fun _ _ _ h => hFc _ h)
            generalize H1 = H at hP1 hS ⊢
            have hP := hP1
            have hD := hD1
            have hP : va_P D xcl (moW h mm kA v g) H := hP
            have hD : va_D A (moW h mm kA v g) := hD
            rcases hp20 with ⟨rfl, z21⟩ | ⟨rfl, z22, z23⟩
            · refine xz_ne (a := 1) (tgt := 117) hx hb xd_Mo_newService_109 (by decide) (by omega) (fun _ => ?_) (fun hc24 => absurd hc24 (by omega))
              refine lv_bipush (v := (-2)) hx hb xd_Mo_newService_117 (by decide) ?_
              exact W.iret (v := (-2)) hx hb hr (fun t ht hW => ⟨⟨(-2), (v, g), rfl, ⟨hMI, rfl, Or.inr (Or.inl rfl)⟩, by rw [ht]; exact hP, hD⟩, hS.F ht⟩) hS.2.2 xd_Mo_newService_119
            · refine xz_ne (a := 0) (tgt := 117) hx hb xd_Mo_newService_109 (by decide) (by omega) (fun hc25 => absurd hc25 (by omega)) (fun _ => ?_)
              refine lv_iload hx hb xd_Mo_newService_112 (lv_at hl 1 rfl) ?_
              refine lv_if_ge (tgt := 120) hx hb xd_Mo_newService_114 (by decide) (fun hc26 => absurd hc26 (by decide)) (fun _ => ?_)
              refine lv_bipush (v := (-2)) hx hb xd_Mo_newService_117 (by decide) ?_
              exact W.iret (v := (-2)) hx hb hr (fun t ht hW => ⟨⟨(-2), (v, g), rfl, ⟨hMI, rfl, Or.inr (Or.inl rfl)⟩, by rw [ht]; exact hP, hD⟩, hS.F ht⟩) hS.2.2 xd_Mo_newService_119
          · rw [hfr] at hl
            refine lv_aload_n hx hb xd_Mo_newService_105 rfl (lv_at hl 2 rfl) ?_
            have hFc := va_free (wc := (moW h mm kA v g)) hD hS hA [0, 1, 2, 3, 4, 5, 6, 7, 8, 9, 10, 11, 12, 13, 14, 15, 16, 17, 18, 19, 20, 21, 22, 23, 24, 25] rfl
            refine va_calli (va_runV (As := []) (rest := []) ⟨hx, hb, hml, hown, hT⟩ (xc_Mo_isShut l D kA H.size h mm v g nd (by first | assumption | omega) (by first | assumption | omega)) (cwV 0 hT (wT_V xr_8 xr_9 xr_10 xr_5 xr_7) rfl rfl rfl (by decide +kernel) ⟨Nat.le_of_ble_eq_true rfl, Nat.le_of_ble_eq_true rfl⟩) (x_preV hK hP hD 0 rfl rfl) rfl rfl hl.1 rfl (lv_room (Nat.le_of_ble_eq_true rfl)) xd_Mo_newService_106 ⟨Nat.le_of_ble_eq_true rfl, Nat.le_of_ble_eq_true rfl⟩) hS (fun q _ h => hFc q h) hFc (fun r27 u28 t H1 locs ht hvm hp29 hB hz1 hk1 hS => ?_)
            obtain ⟨hP1, hD1⟩ := hB
            rw [ht] at hP1
            have hD1 := hD1.weaken (fun _ _ _ h => hFc _ h)
            generalize H1 = H at hP1 hS ⊢
            have hP := hP1
            have hD := hD1
            have hP : va_P D xcl (moW h mm kA v g) H := hP
            have hD : va_D A (moW h mm kA v g) := hD
            rcases hp29 with ⟨rfl, z30⟩ | ⟨rfl, z31, z32⟩
            · refine xz_ne (a := 1) (tgt := 117) hx hb xd_Mo_newService_109 (by decide) (by omega) (fun _ => ?_) (fun hc33 => absurd hc33 (by omega))
              refine lv_bipush (v := (-2)) hx hb xd_Mo_newService_117 (by decide) ?_
              exact W.iret (v := (-2)) hx hb hr (fun t ht hW => ⟨⟨(-2), (v, g), rfl, ⟨hMI, rfl, Or.inr (Or.inl rfl)⟩, by rw [ht]; exact hP, hD⟩, hS.F ht⟩) hS.2.2 xd_Mo_newService_119
            · refine xz_ne (a := 0) (tgt := 117) hx hb xd_Mo_newService_109 (by decide) (by omega) (fun hc34 => absurd hc34 (by omega)) (fun _ => ?_)
              refine lv_iload hx hb xd_Mo_newService_112 (lv_at hl 1 rfl) ?_
              refine xz_ge (a := f9) (tgt := 120) hx hb xd_Mo_newService_114 (by decide) (by omega) ?_
              refine lv_iload_n hx hb xd_Mo_newService_120 rfl (lv_at hl 3 rfl) ?_
              refine lv_if_eq (tgt := 139) hx hb xd_Mo_newService_121 (by decide) (fun hc36 => ?_) (fun hc36 => ?_)
              · refine lv_aload_n hx hb xd_Mo_newService_139 rfl (lv_at hl 2 rfl) ?_
                refine va_get (D := D) (ci := 4) (v := .ref (mm 14)) (C := xR_Mo) (T := xT_Mo) (N := 31) hx hb hT xi_Mo hown hK.1 hP 0 rfl rfl 19 (by decide) (hT _ xr_11) (fun _ h9 => h9) rfl xd_Mo_newService_140 ?_
                refine lv_iconst (v := 3) hx hb xd_Mo_newService_143 (by decide) ?_
                refine lv_iload_n hx hb xd_Mo_newService_144 rfl (lv_at hl 5 rfl) ?_
                refine lv_imul hx hb xd_Mo_newService_145 ?_
                refine xn_top (y := nI (3 * (nd - 1))) (pk_mul 3 (nd - 1)) ?_
                refine lv_iload hx hb xd_Mo_newService_146 (lv_at hl 1 rfl) ?_
                refine lv_iadd hx hb xd_Mo_newService_148 ?_
                refine xn_top (y := nI ((3 * (nd - 1)) + f9)) (nI_add (3 * (nd - 1)) f9) ?_
                refine lv_iload_n hx hb xd_Mo_newService_149 rfl (lv_at hl 4 rfl) ?_
                refine xn_iast (i := (3 * (nd - 1)) + f9) hx hb hK.1 hP hD hS 15 0 rfl rfl (by omega) (by decide) xd_Mo_newService_150 (fun H locs hP hD hS => ?_)
                have hP : va_P D xcl (moW h mm kA v (va_up g 14 (upd (g 14) ((3 * (nd - 1)) + f9) r3))) H := hP
                have hD : va_D A (moW h mm kA v (va_up g 14 (upd (g 14) ((3 * (nd - 1)) + f9) r3))) := hD
                refine lv_iconst (v := 2) hx hb xd_Mo_newService_151 (by decide) ?_
                exact W.iret (v := 2) hx hb hr (fun t ht hW => ⟨⟨2, (v, (va_up g 14 (upd (g 14) ((3 * (nd - 1)) + f9) r3))), rfl, ⟨MI_g rfl rfl rfl rfl rfl rfl rfl rfl hMI, rfl, Or.inr (Or.inr (Or.inr rfl))⟩, by rw [ht]; exact hP, hD⟩, hS.F ht⟩) hS.2.2 xd_Mo_newService_152
              · refine lv_aload_n hx hb xd_Mo_newService_124 rfl (lv_at hl 2 rfl) ?_
                refine va_get (D := D) (ci := 4) (v := .ref (mm 15)) (C := xR_Mo) (T := xT_Mo) (N := 31) hx hb hT xi_Mo hown hK.1 hP 0 rfl rfl 20 (by decide) (hT _ xr_12) (fun _ h9 => h9) rfl xd_Mo_newService_125 ?_
                refine lv_iconst (v := 3) hx hb xd_Mo_newService_128 (by decide) ?_
                refine lv_iload_n hx hb xd_Mo_newService_129 rfl (lv_at hl 5 rfl) ?_
                refine lv_imul hx hb xd_Mo_newService_130 ?_
                refine xn_top (y := nI (3 * (nd - 1))) (pk_mul 3 (nd - 1)) ?_
                refine lv_iload hx hb xd_Mo_newService_131 (lv_at hl 1 rfl) ?_
                refine lv_iadd hx hb xd_Mo_newService_133 ?_
                refine xn_top (y := nI ((3 * (nd - 1)) + f9)) (nI_add (3 * (nd - 1)) f9) ?_
                refine lv_iload_n hx hb xd_Mo_newService_134 rfl (lv_at hl 4 rfl) ?_
                refine xn_iast (i := (3 * (nd - 1)) + f9) hx hb hK.1 hP hD hS 16 0 rfl rfl (by omega) (by decide) xd_Mo_newService_135 (fun H locs hP hD hS => ?_)
                have hP : va_P D xcl (moW h mm kA v (va_up g 15 (upd (g 15) ((3 * (nd - 1)) + f9) r3))) H := hP
                have hD : va_D A (moW h mm kA v (va_up g 15 (upd (g 15) ((3 * (nd - 1)) + f9) r3))) := hD
                refine lv_goto (tgt := 151) hx hb xd_Mo_newService_136 (by decide) ?_
                refine lv_iconst (v := 2) hx hb xd_Mo_newService_151 (by decide) ?_
                exact W.iret (v := 2) hx hb hr (fun t ht hW => ⟨⟨2, (v, (va_up g 15 (upd (g 15) ((3 * (nd - 1)) + f9) r3))), rfl, ⟨MI_g rfl rfl rfl rfl rfl rfl rfl rfl hMI, rfl, Or.inr (Or.inr (Or.inr rfl))⟩, by rw [ht]; exact hP, hD⟩, hS.F ht⟩) hS.2.2 xd_Mo_newService_152
        · have e5 : nI kk - 1 = nI (kk - 1) := pk_sub (a := kk) (b := 1) hz5
          rw [e5] at hl
          refine lv_iload hx hb xd_Mo_newService_41 (lv_at hl 0 rfl) ?_
          refine xz_lt (a := kk - 1) (tgt := 105) hx hb xd_Mo_newService_43 (by decide) (by omega) ?_
          refine lv_iload_n hx hb xd_Mo_newService_46 rfl (lv_at hl 3 rfl) ?_
          refine lv_if_eq (tgt := 64) hx hb xd_Mo_newService_47 (by decide) (fun hc38 => ?_) (fun hc38 => ?_)
          · refine lv_aload_n hx hb xd_Mo_newService_64 rfl (lv_at hl 2 rfl) ?_
            refine va_get (D := D) (ci := 4) (v := .ref (mm 14)) (C := xR_Mo) (T := xT_Mo) (N := 31) hx hb hT xi_Mo hown hK.1 hP 0 rfl rfl 19 (by decide) (hT _ xr_11) (fun _ h9 => h9) rfl xd_Mo_newService_65 ?_
            refine lv_iconst (v := 3) hx hb xd_Mo_newService_68 (by decide) ?_
            refine lv_iload_n hx hb xd_Mo_newService_69 rfl (lv_at hl 5 rfl) ?_
            refine lv_imul hx hb xd_Mo_newService_70 ?_
            refine xn_top (y := nI (3 * (nd - 1))) (pk_mul 3 (nd - 1)) ?_
            refine lv_iload hx hb xd_Mo_newService_71 (lv_at hl 0 rfl) ?_
            refine lv_iadd hx hb xd_Mo_newService_73 ?_
            refine xn_top (y := nI ((3 * (nd - 1)) + (kk - 1))) (nI_add (3 * (nd - 1)) (kk - 1)) ?_
            refine xn_iald (i := (3 * (nd - 1)) + (kk - 1)) hx hb hK.1 hP 15 0 rfl rfl (by omega) (by decide) xd_Mo_newService_74 ?_
            refine lv_istore hx hb xd_Mo_newService_75 hl (Nat.le_of_ble_eq_true rfl) rfl (fun ls hl => ?_)
            have hl : lv_has ls 7 [(6, .int (g 14 ((3 * (nd - 1)) + (kk - 1)))), (5, .int (nI (kk - 1))), (4, .int fr), (0, .ref h), (1, .int zz), (2, .int r3), (3, .int (nI (nd - 1)))] := hl
            refine lv_iload hx hb xd_Mo_newService_77 (lv_at hl 0 rfl) ?_
            refine lv_iload_n hx hb xd_Mo_newService_79 rfl (lv_at hl 5 rfl) ?_
            refine lv_icmp_ne (tgt := 85) hx hb xd_Mo_newService_80 (by decide) (fun hc39 => ?_) (fun hc39 => ?_)
            · refine lv_iload hx hb xd_Mo_newService_85 (lv_at hl 0 rfl) ?_
              refine lv_if_ne (tgt := 95) hx hb xd_Mo_newService_87 (by decide) (fun hc40 => ?_) (fun hc40 => ?_)
              · refine lv_iload hx hb xd_Mo_newService_95 (lv_at hl 2 rfl) ?_
                refine lv_istore hx hb xd_Mo_newService_97 hl (Nat.le_of_ble_eq_true rfl) rfl (fun ls hl => ?_)
                have hl : lv_has ls 7 [(4, .int fr), (6, .int (g 14 ((3 * (nd - 1)) + (kk - 1)))), (5, .int (nI (kk - 1))), (0, .ref h), (1, .int zz), (2, .int r3), (3, .int (nI (nd - 1)))] := hl
                refine lv_iinc (k := 2) (x := (nI (kk - 1))) (v := (nI (kk - 1) - 1)) hx hb xd_Mo_newService_99 hl rfl (by rw [Int32.sub_eq_add_neg]; rfl) (Nat.le_of_ble_eq_true rfl) rfl (fun ls hl => ?_)
                have hl : lv_has ls 7 [(5, .int (nI (kk - 1) - 1)), (4, .int fr), (6, .int (g 14 ((3 * (nd - 1)) + (kk - 1)))), (0, .ref h), (1, .int zz), (2, .int r3), (3, .int (nI (nd - 1)))] := hl
                refine lv_goto (tgt := 37) hx hb xd_Mo_newService_102 (by decide) ?_
                exact ih15 (kk - 1, fr) _ _ _ (show (kk - 1) < kk by omega) (lv_sub hl [0, 1, 3, 4, 5, 6] rfl) hP hD hS ⟨(show (kk - 1) ≤ 3 from by omega), (show fr = -1 ∨ ∃ f9, f9 < 3 ∧ fr = nI f9 from hfr)⟩
              · refine lv_iload hx hb xd_Mo_newService_90 (lv_at hl 1 rfl) ?_
                refine lv_goto (tgt := 97) hx hb xd_Mo_newService_92 (by decide) ?_
                refine lv_istore hx hb xd_Mo_newService_97 hl (Nat.le_of_ble_eq_true rfl) rfl (fun ls hl => ?_)
                have hl : lv_has ls 7 [(4, .int (nI (kk - 1))), (6, .int (g 14 ((3 * (nd - 1)) + (kk - 1)))), (5, .int (nI (kk - 1))), (0, .ref h), (1, .int zz), (2, .int r3), (3, .int (nI (nd - 1)))] := hl
                refine lv_iinc (k := 2) (x := (nI (kk - 1))) (v := (nI (kk - 1) - 1)) hx hb xd_Mo_newService_99 hl rfl (by rw [Int32.sub_eq_add_neg]; rfl) (Nat.le_of_ble_eq_true rfl) rfl (fun ls hl => ?_)
                have hl : lv_has ls 7 [(5, .int (nI (kk - 1) - 1)), (4, .int (nI (kk - 1))), (6, .int (g 14 ((3 * (nd - 1)) + (kk - 1)))), (0, .ref h), (1, .int zz), (2, .int r3), (3, .int (nI (nd - 1)))] := hl
                refine lv_goto (tgt := 37) hx hb xd_Mo_newService_102 (by decide) ?_
                exact ih15 (kk - 1, (nI (kk - 1))) _ _ _ (show (kk - 1) < kk by omega) (lv_sub hl [0, 1, 3, 4, 5, 6] rfl) hP hD hS ⟨(show (kk - 1) ≤ 3 from by omega), (show (nI (kk - 1)) = -1 ∨ ∃ f9, f9 < 3 ∧ (nI (kk - 1)) = nI f9 from Or.inr ⟨kk - 1, by omega, rfl⟩)⟩
            · refine lv_iconst (v := (-1)) hx hb xd_Mo_newService_83 (by decide) ?_
              exact W.iret (v := (-1)) hx hb hr (fun t ht hW => ⟨⟨(-1), (v, g), rfl, ⟨hMI, rfl, Or.inl rfl⟩, by rw [ht]; exact hP, hD⟩, hS.F ht⟩) hS.2.2 xd_Mo_newService_84
          · refine lv_aload_n hx hb xd_Mo_newService_50 rfl (lv_at hl 2 rfl) ?_
            refine va_get (D := D) (ci := 4) (v := .ref (mm 15)) (C := xR_Mo) (T := xT_Mo) (N := 31) hx hb hT xi_Mo hown hK.1 hP 0 rfl rfl 20 (by decide) (hT _ xr_12) (fun _ h9 => h9) rfl xd_Mo_newService_51 ?_
            refine lv_iconst (v := 3) hx hb xd_Mo_newService_54 (by decide) ?_
            refine lv_iload_n hx hb xd_Mo_newService_55 rfl (lv_at hl 5 rfl) ?_
            refine lv_imul hx hb xd_Mo_newService_56 ?_
            refine xn_top (y := nI (3 * (nd - 1))) (pk_mul 3 (nd - 1)) ?_
            refine lv_iload hx hb xd_Mo_newService_57 (lv_at hl 0 rfl) ?_
            refine lv_iadd hx hb xd_Mo_newService_59 ?_
            refine xn_top (y := nI ((3 * (nd - 1)) + (kk - 1))) (nI_add (3 * (nd - 1)) (kk - 1)) ?_
            refine xn_iald (i := (3 * (nd - 1)) + (kk - 1)) hx hb hK.1 hP 16 0 rfl rfl (by omega) (by decide) xd_Mo_newService_60 ?_
            refine lv_goto (tgt := 75) hx hb xd_Mo_newService_61 (by decide) ?_
            refine lv_istore hx hb xd_Mo_newService_75 hl (Nat.le_of_ble_eq_true rfl) rfl (fun ls hl => ?_)
            have hl : lv_has ls 7 [(6, .int (g 15 ((3 * (nd - 1)) + (kk - 1)))), (5, .int (nI (kk - 1))), (4, .int fr), (0, .ref h), (1, .int zz), (2, .int r3), (3, .int (nI (nd - 1)))] := hl
            refine lv_iload hx hb xd_Mo_newService_77 (lv_at hl 0 rfl) ?_
            refine lv_iload_n hx hb xd_Mo_newService_79 rfl (lv_at hl 5 rfl) ?_
            refine lv_icmp_ne (tgt := 85) hx hb xd_Mo_newService_80 (by decide) (fun hc41 => ?_) (fun hc41 => ?_)
            · refine lv_iload hx hb xd_Mo_newService_85 (lv_at hl 0 rfl) ?_
              refine lv_if_ne (tgt := 95) hx hb xd_Mo_newService_87 (by decide) (fun hc42 => ?_) (fun hc42 => ?_)
              · refine lv_iload hx hb xd_Mo_newService_95 (lv_at hl 2 rfl) ?_
                refine lv_istore hx hb xd_Mo_newService_97 hl (Nat.le_of_ble_eq_true rfl) rfl (fun ls hl => ?_)
                have hl : lv_has ls 7 [(4, .int fr), (6, .int (g 15 ((3 * (nd - 1)) + (kk - 1)))), (5, .int (nI (kk - 1))), (0, .ref h), (1, .int zz), (2, .int r3), (3, .int (nI (nd - 1)))] := hl
                refine lv_iinc (k := 2) (x := (nI (kk - 1))) (v := (nI (kk - 1) - 1)) hx hb xd_Mo_newService_99 hl rfl (by rw [Int32.sub_eq_add_neg]; rfl) (Nat.le_of_ble_eq_true rfl) rfl (fun ls hl => ?_)
                have hl : lv_has ls 7 [(5, .int (nI (kk - 1) - 1)), (4, .int fr), (6, .int (g 15 ((3 * (nd - 1)) + (kk - 1)))), (0, .ref h), (1, .int zz), (2, .int r3), (3, .int (nI (nd - 1)))] := hl
                refine lv_goto (tgt := 37) hx hb xd_Mo_newService_102 (by decide) ?_
                exact ih15 (kk - 1, fr) _ _ _ (show (kk - 1) < kk by omega) (lv_sub hl [0, 1, 3, 4, 5, 6] rfl) hP hD hS ⟨(show (kk - 1) ≤ 3 from by omega), (show fr = -1 ∨ ∃ f9, f9 < 3 ∧ fr = nI f9 from hfr)⟩
              · refine lv_iload hx hb xd_Mo_newService_90 (lv_at hl 1 rfl) ?_
                refine lv_goto (tgt := 97) hx hb xd_Mo_newService_92 (by decide) ?_
                refine lv_istore hx hb xd_Mo_newService_97 hl (Nat.le_of_ble_eq_true rfl) rfl (fun ls hl => ?_)
                have hl : lv_has ls 7 [(4, .int (nI (kk - 1))), (6, .int (g 15 ((3 * (nd - 1)) + (kk - 1)))), (5, .int (nI (kk - 1))), (0, .ref h), (1, .int zz), (2, .int r3), (3, .int (nI (nd - 1)))] := hl
                refine lv_iinc (k := 2) (x := (nI (kk - 1))) (v := (nI (kk - 1) - 1)) hx hb xd_Mo_newService_99 hl rfl (by rw [Int32.sub_eq_add_neg]; rfl) (Nat.le_of_ble_eq_true rfl) rfl (fun ls hl => ?_)
                have hl : lv_has ls 7 [(5, .int (nI (kk - 1) - 1)), (4, .int (nI (kk - 1))), (6, .int (g 15 ((3 * (nd - 1)) + (kk - 1)))), (0, .ref h), (1, .int zz), (2, .int r3), (3, .int (nI (nd - 1)))] := hl
                refine lv_goto (tgt := 37) hx hb xd_Mo_newService_102 (by decide) ?_
                exact ih15 (kk - 1, (nI (kk - 1))) _ _ _ (show (kk - 1) < kk by omega) (lv_sub hl [0, 1, 3, 4, 5, 6] rfl) hP hD hS ⟨(show (kk - 1) ≤ 3 from by omega), (show (nI (kk - 1)) = -1 ∨ ∃ f9, f9 < 3 ∧ (nI (kk - 1)) = nI f9 from Or.inr ⟨kk - 1, by omega, rfl⟩)⟩
            · refine lv_iconst (v := (-1)) hx hb xd_Mo_newService_83 (by decide) ?_
              exact W.iret (v := (-1)) hx hb hr (fun t ht hW => ⟨⟨(-1), (v, g), rfl, ⟨hMI, rfl, Or.inl rfl⟩, by rw [ht]; exact hP, hD⟩, hS.F ht⟩) hS.2.2 xd_Mo_newService_84
    · refine lv_iconst (v := (-1)) hx hb xd_Mo_newService_22 (by decide) ?_
      exact W.iret (v := (-1)) hx hb hr (fun t ht hW => ⟨⟨(-1), (v, g), rfl, ⟨hMI, rfl, Or.inl rfl⟩, by rw [ht]; exact hP, hD⟩, hS.F ht⟩) hS.2.2 xd_Mo_newService_23
