theorem k5h_0 : (Cond.fieldLink "LayerDesk$Shelf" 27 "LayerDesk$Line" "words" "I") ∈ wT := wT_t (List.mem_append_left _ (List.mem_of_getElem? (i := 41) rfl)) rfl
theorem k5h_1 : (Cond.code xy_Li_nameAt xb_Li_nameAt 4 (some .int)) ∈ wT := wT_t (List.mem_append_right _ (List.mem_append_left _ (List.mem_of_getElem? (i := 17) rfl))) rfl
theorem k5h_2 : (Cond.methodLink "LayerDesk$Shelf" 70 xy_Li_nameAt) ∈ wT := wT_t (List.mem_append_right _ (List.mem_append_left _ (List.mem_of_getElem? (i := 14) rfl))) rfl
theorem k5h_3 : (Cond.instanceMethod xy_Li_nameAt) ∈ wT := wT_t (List.mem_append_right _ (List.mem_append_left _ (List.mem_of_getElem? (i := 15) rfl))) rfl
theorem k5h_4 : (Cond.selects "LayerDesk$Line" xy_Li_nameAt xy_Li_nameAt) ∈ wT := wT_t (List.mem_append_right _ (List.mem_append_left _ (List.mem_of_getElem? (i := 16) rfl))) rfl
theorem k5h_5 : (Cond.initialized "LayerDesk$Line") ∈ wT := wT_t (List.mem_append_left _ (List.mem_of_getElem? (i := 2) rfl)) rfl
theorem k5h_6 : (Cond.code xy_Sh_latest xb_Sh_latest 1 (some (.object "LayerDesk$Descriptor"))) ∈ wT := wT_t (List.mem_append_right _ (List.mem_append_left _ (List.mem_of_getElem? (i := 119) rfl))) rfl
theorem k5h_7 : (Cond.methodLink "LayerDesk$Shelf" 81 xy_Sh_latest) ∈ wT := wT_t (List.mem_append_right _ (List.mem_append_left _ (List.mem_of_getElem? (i := 116) rfl))) rfl
theorem k5h_8 : (Cond.instanceMethod xy_Sh_latest) ∈ wT := wT_t (List.mem_append_right _ (List.mem_append_left _ (List.mem_of_getElem? (i := 118) rfl))) rfl
theorem k5h_9 : (Cond.selects "LayerDesk$Shelf" xy_Sh_latest xy_Sh_latest) ∈ wT := wT_s (q := (xy_Sh_latest, 2)) (by decide +kernel) rfl
theorem k5h_10 : (Cond.initialized "LayerDesk$Shelf") ∈ wT := wT_t (List.mem_append_left _ (List.mem_of_getElem? (i := 3) rfl)) rfl
theorem k5h_11 : (Cond.fieldLink "LayerDesk$Shelf" 24 "LayerDesk$Descriptor" "name" "I") ∈ wT := wT_t (List.mem_append_right _ (List.mem_append_left _ (List.mem_of_getElem? (i := 56) rfl))) rfl
theorem k5h_12 : (Cond.fieldLink "LayerDesk$Shelf" 128 "LayerDesk$Descriptor" "required" "LLayerDesk$Names;") ∈ wT := wT_t (List.mem_append_right _ (List.mem_append_left _ (List.mem_of_getElem? (i := 69) rfl))) rfl
theorem k5h_13 : (Cond.code xy_Na_holds xb_Na_holds 2 (some .boolean)) ∈ wT := wT_t (List.mem_append_right _ (List.mem_append_left _ (List.mem_of_getElem? (i := 123) rfl))) rfl
theorem k5h_14 : (Cond.methodLink "LayerDesk$Shelf" 89 xy_Na_holds) ∈ wT := wT_t (List.mem_append_right _ (List.mem_append_left _ (List.mem_of_getElem? (i := 120) rfl))) rfl
theorem k5h_15 : (Cond.instanceMethod xy_Na_holds) ∈ wT := wT_t (List.mem_append_right _ (List.mem_append_left _ (List.mem_of_getElem? (i := 121) rfl))) rfl
theorem k5h_16 : (Cond.selects "LayerDesk$Names" xy_Na_holds xy_Na_holds) ∈ wT := wT_t (List.mem_append_right _ (List.mem_append_left _ (List.mem_of_getElem? (i := 122) rfl))) rfl
theorem k5h_17 : (Cond.initialized "LayerDesk$Names") ∈ wT := wT_t (List.mem_append_left _ (List.mem_of_getElem? (i := 11) rfl)) rfl
theorem k5h_18 : (Cond.fieldLink "LayerDesk$Shelf" 95 "LayerDesk$Descriptor" "settled" "Z") ∈ wT := wT_t (List.mem_append_right _ (List.mem_append_left _ (List.mem_of_getElem? (i := 83) rfl))) rfl
theorem k5h_19 : (Cond.code xy_Na_isFull xb_Na_isFull 1 (some .boolean)) ∈ wT := wT_t (List.mem_append_right _ (List.mem_append_left _ (List.mem_of_getElem? (i := 131) rfl))) rfl
theorem k5h_20 : (Cond.methodLink "LayerDesk$Shelf" 99 xy_Na_isFull) ∈ wT := wT_t (List.mem_append_right _ (List.mem_append_left _ (List.mem_of_getElem? (i := 128) rfl))) rfl
theorem k5h_21 : (Cond.instanceMethod xy_Na_isFull) ∈ wT := wT_t (List.mem_append_right _ (List.mem_append_left _ (List.mem_of_getElem? (i := 129) rfl))) rfl
theorem k5h_22 : (Cond.selects "LayerDesk$Names" xy_Na_isFull xy_Na_isFull) ∈ wT := wT_t (List.mem_append_right _ (List.mem_append_left _ (List.mem_of_getElem? (i := 130) rfl))) rfl
theorem k5h_23 : (Cond.code xy_Ds_addRequired xb_Ds_addRequired 4 none) ∈ wT := wT_t (List.mem_append_right _ (List.mem_append_left _ (List.mem_of_getElem? (i := 197) rfl))) rfl
theorem k5h_24 : (Cond.methodLink "LayerDesk$Shelf" 131 xy_Ds_addRequired) ∈ wT := wT_t (List.mem_append_right _ (List.mem_append_left _ (List.mem_of_getElem? (i := 194) rfl))) rfl
theorem k5h_25 : (Cond.instanceMethod xy_Ds_addRequired) ∈ wT := wT_t (List.mem_append_right _ (List.mem_append_left _ (List.mem_of_getElem? (i := 195) rfl))) rfl
theorem k5h_26 : (Cond.selects "LayerDesk$Descriptor" xy_Ds_addRequired xy_Ds_addRequired) ∈ wT := wT_t (List.mem_append_right _ (List.mem_append_left _ (List.mem_of_getElem? (i := 196) rfl))) rfl
theorem k5h_27 : (Cond.initialized "LayerDesk$Descriptor") ∈ wT := wT_t (List.mem_append_left _ (List.mem_of_getElem? (i := 10) rfl)) rfl
theorem k5h_28 : (Cond.code xy_Li_wordIs xb_Li_wordIs 4 (some .boolean)) ∈ wT := wT_t (List.mem_append_left _ (List.mem_of_getElem? (i := 199) rfl)) rfl
theorem k5h_29 : (Cond.methodLink "LayerDesk$Shelf" 34 xy_Li_wordIs) ∈ wT := wT_t (List.mem_append_left _ (List.mem_of_getElem? (i := 196) rfl)) rfl
theorem k5h_30 : (Cond.instanceMethod xy_Li_wordIs) ∈ wT := wT_t (List.mem_append_left _ (List.mem_of_getElem? (i := 197) rfl)) rfl
theorem k5h_31 : (Cond.selects "LayerDesk$Line" xy_Li_wordIs xy_Li_wordIs) ∈ wT := wT_t (List.mem_append_left _ (List.mem_of_getElem? (i := 198) rfl)) rfl
set_option maxHeartbeats 4000000 in
set_option maxRecDepth 100000 in
theorem xc_Sh_acceptRequiredX (l : Launch) (D : va_G) (kA : Nat → ClassId) (sz : Nat) (ad : Nat → Nat → Nat) (E : Nat → Nat → va_E) (RL : List (Nat × Nat)) (Z : zT) (g : Nat → Nat → Int32) (ml : Nat) (nd : Nat) (len : Nat) (lt : Nat) (wl : List (Nat × Nat)) (cs : Nat) (hCI : CI kA ad E RL ml nd len wl.length cs) (hLW : LW g E lt wl) (hTD : TDs g E nd) (hZI : ZI g nd) (hw1 : 1 ≤ wl.length) : Met l xy_Sh_acceptRequired (.code xy_Sh_acceptRequired xb_Sh_acceptRequired 7 (some .int) :: wT) { frames := 5, cells := 0, slots := 0, locals := 108 } (va_Pc [.ref (ad 0 5), .ref (ad 0 1)] (xPreZ D kA sz (rp ad E RL) Z)) (va_Qi (fun (r : Int32) (u : (Nat → Nat → Nat) × (Nat → Nat → va_E) × List (Nat × Nat)) => CI kA u.1 u.2.1 u.2.2 ml nd len wl.length cs ∧ TDs (lR (g 0) wl nd g) u.2.1 nd ∧ u.1 0 0 = ad 0 0 ∧ FRL ml nd ad u.1 E u.2.1) (fun (u : (Nat → Nat → Nat) × (Nat → Nat → va_E) × List (Nat × Nat)) t => va_P D xcl (rp u.1 u.2.1 u.2.2) t.heap ∧ va_D (va_A (rp ad E RL) sz) (rp u.1 u.2.1 u.2.2)) (va_A (rp ad E RL) sz)) 0 0 (va_A (rp ad E RL) sz) := by
  refine Met.ofW (cc := xb_Sh_acceptRequired) (maxL := 7) (ret := (some .int)) (by decide) rfl ?_
  intro p e s m args below meth c s₁ B hml hv
  obtain ⟨rfl, ⟨hsz, hP, hK, hD0⟩, hZ⟩ := hv
  have hx := B.exec
  have hb := B.bytes
  have hr := B.returns
  have hT := x_hT B.pre
  have hown : s.vm.findClass xR_Sh = some m.cls := findClass_of_methodNamed B.named
  have hlocks := B.notSynchronized
  subst hsz
  have hD := hD0.self (sz := s.heap.size)
  generalize hAe : va_A (rp ad E RL) s.heap.size = A at hD hZ ⊢
  have hA : ∀ q : Nat, s.heap.size ≤ q → A q := fun q h => by rw [← hAe]; exact Or.inr h
  have hS : va_S A s.heap s.heap [] := va_S.rf
  have hl := lv_entry ([.ref (ad 0 5), .ref (ad 0 1)]) (n := 7) (Nat.le_of_ble_eq_true rfl)
  rw [lg_entry_eq]
  generalize (lg_sl ([.ref (ad 0 5), .ref (ad 0 1)]) ++ List.replicate (7 - (lg_sl ([.ref (ad 0 5), .ref (ad 0 1)])).length) Slot.unset).toArray = ls at hl ⊢
  have hl : lv_has ls 7 [(0, .ref (ad 0 5)), (1, .ref (ad 0 1))] := hl
  have hP : va_P D xcl (rp ad E RL) s.heap := hP
  obtain ⟨hmB, hDk, hLi, hSh, hCh, hLa, hDIs, hLIs⟩ := id hCI
  obtain ⟨hWL, hlt40, hLwd, hLtx⟩ := id hLW
  obtain ⟨lf_1, q_1⟩ := id (hDk)
  have c_2 : E 0 0 = .inr (0, [.ref (ad 0 1), .ref (ad 0 5), .ref (ad 0 7), .ref (ad 0 9), .int (nI ml), .int lf_1]) := q_1
  have m_3 : (0, 0) ∈ RL := hmB 0 (by omega)
  obtain ⟨tx_4, fb_4, fe_4, hl1_4, hw2_4, q1_4, q2_4, q3_4, q4_4, hws_4⟩ := id (hLi)
  have c_5 : E 0 1 = .inr (1, [.ref (ad 0 2), .ref (ad 0 3), .ref (ad 0 4), .int (nI len), .int (nI (wl.length))]) := q1_4
  have m_6 : (0, 1) ∈ RL := hmB 1 (by omega)
  have c_7 : E 0 2 = .inl (kA 1, 40, .inl tx_4) := q2_4
  have m_8 : (0, 2) ∈ RL := hmB 2 (by omega)
  have c_9 : E 0 3 = .inl (kA 0, 20, .inl fb_4) := q3_4
  have m_10 : (0, 3) ∈ RL := hmB 3 (by omega)
  have c_11 : E 0 4 = .inl (kA 0, 20, .inl fe_4) := q4_4
  have m_12 : (0, 4) ∈ RL := hmB 4 (by omega)
  obtain ⟨fd_13, hnd_13, q5_13, q6_13, hds_13⟩ := id (hSh)
  have c_14 : E 0 5 = .inr (2, [.ref (ad 0 6), .int (nI nd)]) := q5_13
  have m_15 : (0, 5) ∈ RL := hmB 5 (by omega)
  have c_16 : E 0 6 = .inl (kA 4, 12, .inr (.inr (.inr (.inr fd_13)))) := q6_13
  have m_17 : (0, 6) ∈ RL := hmB 6 (by omega)
  obtain ⟨cf_18, pv_18, fc_18, hcs_18, hpv_18, q7_18, q8_18, hfc_18⟩ := id (hCh)
  have c_19 : E 0 7 = .inr (3, [.ref (ad 0 5), .ref (ad 0 8), .int (nI cs), .int cf_18, pv_18]) := q7_18
  have m_20 : (0, 7) ∈ RL := hmB 7 (by omega)
  have c_21 : E 0 8 = .inl (kA 4, 12, .inr (.inr (.inr (.inr fc_18)))) := q8_18
  have m_22 : (0, 8) ∈ RL := hmB 8 (by omega)
  obtain ⟨fl_23, hml_23, q9_23, hla_23⟩ := id (hLa)
  have c_24 : E 0 9 = .inl (kA 5, 5, .inr (.inr (.inr (.inr fl_23)))) := q9_23
  have m_25 : (0, 9) ∈ RL := hmB 9 (by omega)
  obtain ⟨zw0, zw1, zw2, zw3, zw4, zw5, zw6, zw7, zw8, zw9, zw10, zw11⟩ := zW_all
  refine xjoin (D := D) (cl := xcl) (A := A) (H0 := s.heap) (σ := Int32) (ml := 7) 23 (fun (it9 : Int32) => [(1, .ref (ad 0 1)), (0, .ref (ad 0 5))]) (fun (it9 : Int32) => [.int it9]) (fun (it9 : Int32) => rp ad E RL) (fun (it9 : Int32) => ((it9 = 1 ∧ 3 ≤ wl.length ∧ wS (g 0) wl 1 zTr) ∨ (it9 = 0 ∧ ¬ (3 ≤ wl.length ∧ wS (g 0) wl 1 zTr)))) ?_ (fun jn26 => ?_)
  · intro a9 ls H locs hl hP hD hS hI
    obtain ⟨it9, rfl⟩ : ∃ z, z = a9 := ⟨_, rfl⟩
    have hit : (it9 = 1 ∧ 3 ≤ wl.length ∧ wS (g 0) wl 1 zTr) ∨ (it9 = 0 ∧ ¬ (3 ≤ wl.length ∧ wS (g 0) wl 1 zTr)) := hI
    have hl : lv_has ls 7 [(1, .ref (ad 0 1)), (0, .ref (ad 0 5))] := hl
    have hP : va_P D xcl (rp ad E RL) H := hP
    have hD : va_D A (rp ad E RL) := hD
    refine lv_istore_n hx hb xd_Sh_acceptRequired_23 rfl hl (Nat.le_of_ble_eq_true rfl) rfl (fun ls hl => ?_)
    have hl : lv_has ls 7 [(2, .int it9), (1, .ref (ad 0 1)), (0, .ref (ad 0 5))] := hl
    refine xjoin (D := D) (cl := xcl) (A := A) (H0 := s.heap) (σ := Int32) (ml := 7) 52 (fun (io9 : Int32) => [(2, .int it9), (1, .ref (ad 0 1)), (0, .ref (ad 0 5))]) (fun (io9 : Int32) => [.int io9]) (fun (io9 : Int32) => rp ad E RL) (fun (io9 : Int32) => ((io9 = 1 ∧ 3 ≤ wl.length ∧ wS (g 0) wl (wl.length - 2) zSt) ∨ (io9 = 0 ∧ ¬ (3 ≤ wl.length ∧ wS (g 0) wl (wl.length - 2) zSt)))) ?_ (fun jn27 => ?_)
    · intro a9 ls H locs hl hP hD hS hI
      obtain ⟨io9, rfl⟩ : ∃ z, z = a9 := ⟨_, rfl⟩
      have hio : (io9 = 1 ∧ 3 ≤ wl.length ∧ wS (g 0) wl (wl.length - 2) zSt) ∨ (io9 = 0 ∧ ¬ (3 ≤ wl.length ∧ wS (g 0) wl (wl.length - 2) zSt)) := hI
      have hl : lv_has ls 7 [(2, .int it9), (1, .ref (ad 0 1)), (0, .ref (ad 0 5))] := hl
      have hP : va_P D xcl (rp ad E RL) H := hP
      have hD : va_D A (rp ad E RL) := hD
      refine lv_istore_n hx hb xd_Sh_acceptRequired_52 rfl hl (Nat.le_of_ble_eq_true rfl) rfl (fun ls hl => ?_)
      have hl : lv_has ls 7 [(3, .int io9), (2, .int it9), (1, .ref (ad 0 1)), (0, .ref (ad 0 5))] := hl
      refine lv_iconst (v := 2) hx hb xd_Sh_acceptRequired_53 (by decide) ?_
      refine lv_iload_n hx hb xd_Sh_acceptRequired_54 rfl (lv_at hl 1 rfl) ?_
      refine lv_if_eq (tgt := 62) hx hb xd_Sh_acceptRequired_55 (by decide) (fun hc28 => ?_) (fun hc28 => ?_)
      · refine lv_iconst (v := 0) hx hb xd_Sh_acceptRequired_62 (by decide) ?_
        refine lv_iadd hx hb xd_Sh_acceptRequired_63 ?_
        refine xn_top (y := nI (2)) (nI_add 2 0) ?_
        refine lv_iload_n hx hb xd_Sh_acceptRequired_64 rfl (lv_at hl 0 rfl) ?_
        refine lv_if_eq (tgt := 72) hx hb xd_Sh_acceptRequired_65 (by decide) (fun hc29 => ?_) (fun hc29 => ?_)
        · refine lv_iconst (v := 0) hx hb xd_Sh_acceptRequired_72 (by decide) ?_
          refine lv_iadd hx hb xd_Sh_acceptRequired_73 ?_
          refine xn_top (y := nI (2)) (nI_add 2 0) ?_
          refine lv_istore hx hb xd_Sh_acceptRequired_74 hl (Nat.le_of_ble_eq_true rfl) rfl (fun ls hl => ?_)
          have hl : lv_has ls 7 [(4, .int (nI 2)), (3, .int io9), (2, .int it9), (1, .ref (ad 0 1)), (0, .ref (ad 0 5))] := hl
          have hfa : ((0 : Nat) = 1 ∧ 3 ≤ wl.length ∧ wS (g 0) wl 1 zTr) ∨ ((0 : Nat) = 0 ∧ ¬ (3 ≤ wl.length ∧ wS (g 0) wl 1 zTr)) := by
            rcases hit with ⟨q, q2⟩ | ⟨q, q2⟩
            · exact absurd (q.symm.trans hc28) (by decide)
            · exact Or.inr ⟨rfl, q2⟩
          have hfb : ((0 : Nat) = 1 ∧ 3 ≤ wl.length ∧ wS (g 0) wl (wl.length - 2) zSt) ∨ ((0 : Nat) = 0 ∧ ¬ (3 ≤ wl.length ∧ wS (g 0) wl (wl.length - 2) zSt)) := by
            rcases hio with ⟨q, q2⟩ | ⟨q, q2⟩
            · exact absurd (q.symm.trans hc29) (by decide)
            · exact Or.inr ⟨rfl, q2⟩
          have hrq := rq_iff hfa hfb
          refine lv_aload_n hx hb xd_Sh_acceptRequired_76 rfl (lv_at hl 3 rfl) ?_
          refine lv_aload_n hx hb xd_Sh_acceptRequired_77 rfl (lv_at hl 3 rfl) ?_
          refine px_get (D := D) (ci := 1) (v := .int (nI (wl.length))) (C := xR_Li) (T := xT_Li) (N := 5) hx hb hT xi_Li hown hK.1 hP m_6 c_5 rfl 4 (by decide) (hT _ k5h_0) (fun _ h9 => h9) rfl xd_Sh_acceptRequired_78 ?_
          refine lv_iconst (v := 1) hx hb xd_Sh_acceptRequired_81 (by decide) ?_
          refine lv_isub hx hb xd_Sh_acceptRequired_82 ?_
          refine xn_top (y := nI (wl.length - 1)) (pk_sub (a := wl.length) (b := 1) (by omega)) ?_
          have hFc := px_free hD hS hA
          refine va_calli (va_runV (As := [.int (nI (wl.length - 1))]) (rest := []) ⟨hx, hb, hml, hown, hT⟩ (xc_Li_nameAtX l D kA H.size ad E RL g ml nd len lt wl cs (wl.length - 1) (by first | assumption | omega) (by first | assumption | omega) (by first | assumption | omega)) (cwV 1 hT (wT_V k5h_2 k5h_3 k5h_4 k5h_5 k5h_1) rfl rfl rfl (by decide +kernel) ⟨Nat.le_of_ble_eq_true rfl, Nat.le_of_ble_eq_true rfl⟩) (px_preV hK hP hD m_6 c_5 rfl) rfl rfl hl.1 rfl (lv_room (Nat.le_of_ble_eq_true rfl)) xd_Sh_acceptRequired_83 ⟨(Nat.le_of_ble_eq_true rfl), (Nat.le_of_ble_eq_true rfl)⟩) hS (fun q _ h => hFc q h) hFc (fun r30 u31 t H1 locs ht hvm hp32 hB hz1 hk1 hS => ?_)
          obtain ⟨hP1, hD1⟩ := hB
          rw [ht] at hP1
          have hD1 := hD1.weaken (fun _ _ _ h => hFc _ h)
          generalize H1 = H at hP1 hS ⊢
          have hP := hP1
          have hD := hD1
          have hP : va_P D xcl (rp ad E RL) H := hP
          have hD : va_D A (rp ad E RL) := hD
          have hp32 : r30 = wN (g 0) wl (wl.length - 1) := hp32
          subst hp32
          have hP : va_P D xcl (rp ad E RL) H := hP
          have hD : va_D A (rp ad E RL) := hD
          refine lv_istore hx hb xd_Sh_acceptRequired_86 hl (Nat.le_of_ble_eq_true rfl) rfl (fun ls hl => ?_)
          have hl : lv_has ls 7 [(5, .int (wN (g 0) wl (wl.length - 1))), (4, .int (nI 2)), (3, .int io9), (2, .int it9), (1, .ref (ad 0 1)), (0, .ref (ad 0 5))] := hl
          refine lv_aload_n hx hb xd_Sh_acceptRequired_88 rfl (lv_at hl 4 rfl) ?_
          refine px_get (D := D) (ci := 1) (v := .int (nI (wl.length))) (C := xR_Li) (T := xT_Li) (N := 5) hx hb hT xi_Li hown hK.1 hP m_6 c_5 rfl 4 (by decide) (hT _ k5h_0) (fun _ h9 => h9) rfl xd_Sh_acceptRequired_89 ?_
          refine lv_iload hx hb xd_Sh_acceptRequired_92 (lv_at hl 1 rfl) ?_
          refine xn_ne (a := wl.length) (b := 2) (tgt := 102) hx hb xd_Sh_acceptRequired_94 (by decide) (by omega) (by omega) (fun hc33 => ?_) (fun hc33 => ?_)
          · refine lv_iconst (v := (-1)) hx hb xd_Sh_acceptRequired_102 (by decide) ?_
            refine W.widen (k := 0) (n := 0) (Nat.le_of_ble_eq_true rfl) (Nat.le_of_ble_eq_true rfl) ?_
            exact W.iret (v := (-1)) hx hb hr (fun t ht hW => ⟨⟨(-1), (ad, E, RL), rfl, ⟨hCI, by rw [← lR_no (fun q => absurd (hrq.1.mp q.1) (by omega))]; exact hTD, rfl, FRL_rf⟩, by rw [ht]; exact hP, hD⟩, hS.F ht⟩) hS.2.2 xd_Sh_acceptRequired_103
          · refine lv_iload hx hb xd_Sh_acceptRequired_97 (lv_at hl 0 rfl) ?_
            refine lv_if_ne (tgt := 104) hx hb xd_Sh_acceptRequired_99 (by decide) (fun hc34 => ?_) (fun hc34 => ?_)
            · obtain ⟨hrT, hrO, hrB⟩ := hrq.2 (by omega)
              have hitb : it9 = bI (rqT (g 0) wl) := by rw [hc28]; exact bI_0 (fun q => absurd (hrT.mp q) (by decide))
              have hiob : io9 = bI (rqO (g 0) wl) := by rw [hc29]; exact bI_0 (fun q => absurd (hrO.mp q) (by decide))
              have hnB : wN (g 0) wl (wl.length - 1) = wN (g 0) wl (rqB (g 0) wl) := by rw [hrB]
              refine lv_aload_n hx hb xd_Sh_acceptRequired_104 rfl (lv_at hl 5 rfl) ?_
              have hFc := px_free hD hS hA
              refine va_callq (va_runV (As := []) (rest := []) ⟨hx, hb, hml, hown, hT⟩ (xc_Sh_latestX l D kA H.size ad E RL ml nd len wl.length cs (by first | assumption | omega)) (cwV 0 hT (wT_V k5h_7 k5h_8 k5h_9 k5h_10 k5h_6) rfl rfl rfl (by decide +kernel) ⟨Nat.le_of_ble_eq_true rfl, Nat.le_of_ble_eq_true rfl⟩) (px_preV hK hP hD m_15 c_14 rfl) rfl rfl hl.1 rfl (lv_room (Nat.le_of_ble_eq_true rfl)) xd_Sh_acceptRequired_105 ⟨(Nat.le_of_ble_eq_true rfl), (Nat.le_of_ble_eq_true rfl)⟩) hS (fun q _ h => hFc q h) hFc (fun r35 u36 t H1 locs ht hvm hp37 hB hz1 hk1 hS => ?_)
              obtain ⟨hP1, hD1⟩ := hB
              rw [ht] at hP1
              have hD1 := hD1.weaken (fun _ _ _ h => hFc _ h)
              generalize H1 = H at hP1 hS ⊢
              have hP := hP1
              have hD := hD1
              have hP : va_P D xcl (rp ad E RL) H := hP
              have hD : va_D A (rp ad E RL) := hD
              rcases hp37 with ⟨rfl, z38⟩ | ⟨z39, rfl⟩
              · refine W.eq (g2 := F0 m 108 ls [.null]) rfl ?_
                refine lv_astoreN hx hb xd_Sh_acceptRequired_108 hl (Nat.le_of_ble_eq_true rfl) rfl (fun ls hl => ?_)
                have hl : lv_has ls 7 [(6, .null), (5, .int (wN (g 0) wl (wl.length - 1))), (4, .int (nI 2)), (3, .int io9), (2, .int it9), (1, .ref (ad 0 1)), (0, .ref (ad 0 5))] := hl
                refine lv_aloadN hx hb xd_Sh_acceptRequired_110 (lv_at hl 0 rfl) ?_
                refine lv_ifnonnullN hx hb xd_Sh_acceptRequired_112 ?_
                refine lv_bipush (v := (-2)) hx hb xd_Sh_acceptRequired_115 (by decide) ?_
                refine W.widen (k := 0) (n := 0) (Nat.le_of_ble_eq_true rfl) (Nat.le_of_ble_eq_true rfl) ?_
                exact W.iret (v := (-2)) hx hb hr (fun t ht hW => ⟨⟨(-2), (ad, E, RL), rfl, ⟨hCI, by rw [← lR_no (fun q => absurd q.2.2.1 (by omega))]; exact hTD, rfl, FRL_rf⟩, by rw [ht]; exact hP, hD⟩, hS.F ht⟩) hS.2.2 xd_Sh_acceptRequired_117
              · refine W.eq (g2 := F0 m 108 ls [.ref (ad (1 + (nd - 1)) 0)]) rfl ?_
                refine lv_astore hx hb xd_Sh_acceptRequired_108 hl (Nat.le_of_ble_eq_true rfl) rfl (fun ls hl => ?_)
                have hl : lv_has ls 7 [(6, .ref (ad (1 + (nd - 1)) 0)), (5, .int (wN (g 0) wl (wl.length - 1))), (4, .int (nI 2)), (3, .int io9), (2, .int it9), (1, .ref (ad 0 1)), (0, .ref (ad 0 5))] := hl
                refine lv_aload hx hb xd_Sh_acceptRequired_110 (lv_at hl 0 rfl) ?_
                refine lv_ifnonnull (tgt := 118) hx hb xd_Sh_acceptRequired_112 (by decide) ?_
                refine lv_aload hx hb xd_Sh_acceptRequired_118 (lv_at hl 0 rfl) ?_
                obtain ⟨hm_40, fd_40, nm_40, sd_40, k0_40, k1_40, k2_40, k3_40, f0_40, f1_40, f2_40, f3_40, fe_40, fo_40, tr_40, op_40, hk0_40, hk1_40, hk2_40, hk3_40, q0_40, q1_40, q2_40, q3_40, q4_40, q5_40, q6_40, q7_40, q8_40, q9_40, q10_40, q11_40, q12_40, hg_40⟩ := id (hDIs (nd - 1) (by omega))
                have c_41 : E (1 + (nd - 1)) 0 = .inr (7, [.int (nI ((nd - 1))), .int fd_40, .int nm_40, .ref (ad (1 + (nd - 1)) 1), .ref (ad (1 + (nd - 1)) 9), .ref (ad (1 + (nd - 1)) 10), .ref (ad (1 + (nd - 1)) 2), .ref (ad (1 + (nd - 1)) 11), .ref (ad (1 + (nd - 1)) 12), .ref (ad (1 + (nd - 1)) 3), .ref (ad (1 + (nd - 1)) 4), .int sd_40]) := q0_40
                have m_42 : (1 + (nd - 1), 0) ∈ RL := hm_40 0 (by omega)
                have c_43 : E (1 + (nd - 1)) 1 = .inr (8, [.ref (ad (1 + (nd - 1)) 5), .int (nI k0_40)]) := q1_40
                have m_44 : (1 + (nd - 1), 1) ∈ RL := hm_40 1 (by omega)
                have c_45 : E (1 + (nd - 1)) 2 = .inr (8, [.ref (ad (1 + (nd - 1)) 6), .int (nI k1_40)]) := q2_40
                have m_46 : (1 + (nd - 1), 2) ∈ RL := hm_40 2 (by omega)
                have c_47 : E (1 + (nd - 1)) 3 = .inr (8, [.ref (ad (1 + (nd - 1)) 7), .int (nI k2_40)]) := q3_40
                have m_48 : (1 + (nd - 1), 3) ∈ RL := hm_40 3 (by omega)
                have c_49 : E (1 + (nd - 1)) 4 = .inr (8, [.ref (ad (1 + (nd - 1)) 8), .int (nI k3_40)]) := q4_40
                have m_50 : (1 + (nd - 1), 4) ∈ RL := hm_40 4 (by omega)
                have c_51 : E (1 + (nd - 1)) 5 = .inl (kA 0, 6, .inl f0_40) := q5_40
                have m_52 : (1 + (nd - 1), 5) ∈ RL := hm_40 5 (by omega)
                have c_53 : E (1 + (nd - 1)) 6 = .inl (kA 0, 5, .inl f1_40) := q6_40
                have m_54 : (1 + (nd - 1), 6) ∈ RL := hm_40 6 (by omega)
                have c_55 : E (1 + (nd - 1)) 7 = .inl (kA 0, 3, .inl f2_40) := q7_40
                have m_56 : (1 + (nd - 1), 7) ∈ RL := hm_40 7 (by omega)
                have c_57 : E (1 + (nd - 1)) 8 = .inl (kA 0, 3, .inl f3_40) := q8_40
                have m_58 : (1 + (nd - 1), 8) ∈ RL := hm_40 8 (by omega)
                have c_59 : E (1 + (nd - 1)) 9 = .inl (kA 8, 6, .inr (.inr (.inr (.inr fe_40)))) := q9_40
                have m_60 : (1 + (nd - 1), 9) ∈ RL := hm_40 9 (by omega)
                have c_61 : E (1 + (nd - 1)) 10 = .inl (kA 8, 6, .inr (.inr (.inr (.inr fo_40)))) := q10_40
                have m_62 : (1 + (nd - 1), 10) ∈ RL := hm_40 10 (by omega)
                have c_63 : E (1 + (nd - 1)) 11 = .inl (kA 2, 5, .inl tr_40) := q11_40
                have m_64 : (1 + (nd - 1), 11) ∈ RL := hm_40 11 (by omega)
                have c_65 : E (1 + (nd - 1)) 12 = .inl (kA 2, 5, .inl op_40) := q12_40
                have m_66 : (1 + (nd - 1), 12) ∈ RL := hm_40 12 (by omega)
                have hg_40 : ∀ w9, w9 < k0_40 → fe_40 w9 = some (ad (1 + (nd - 1)) (20 + 3 * w9)) ∧ fo_40 w9 = some (ad (1 + (nd - 1)) (38 + 3 * w9)) ∧ GI kA (ad (1 + (nd - 1))) (E (1 + (nd - 1))) (fun o => (1 + (nd - 1), o) ∈ RL) (20 + 3 * w9) (21 + 3 * w9) (22 + 3 * w9) ∧ GI kA (ad (1 + (nd - 1))) (E (1 + (nd - 1))) (fun o => (1 + (nd - 1), o) ∈ RL) (38 + 3 * w9) (39 + 3 * w9) (40 + 3 * w9) := hg_40
                obtain ⟨hTT_40, tgr_40⟩ := TD_get hk0_40 hk1_40 hk2_40 hk3_40 c_41 c_43 c_45 c_47 c_49 c_51 c_53 c_55 c_57 c_63 c_65 (hTD (nd - 1) (by omega))
                obtain ⟨tfd_40, tnm_40, tsd_40, tk0_40, tf0_40, tk1_40, tf1_40, tk2_40, tk3_40⟩ := id hTT_40
                have ik0_40 : iN (g 5 (nd - 1)) = k0_40 := by rw [← tk0_40, iN_nI (by omega)]
                have ik1_40 : iN (g 12 (nd - 1)) = k1_40 := by rw [← tk1_40, iN_nI (by omega)]
                refine px_get (D := D) (ci := 7) (v := .int nm_40) (C := xR_Ds) (T := xT_Ds) (N := 12) hx hb hT xi_Ds hown hK.1 hP m_42 c_41 rfl 2 (by decide) (hT _ k5h_11) (fun _ h9 => h9) rfl xd_Sh_acceptRequired_120 ?_
                refine lv_iload hx hb xd_Sh_acceptRequired_123 (lv_at hl 1 rfl) ?_
                refine lv_icmp_eq (tgt := 141) hx hb xd_Sh_acceptRequired_125 (by decide) (fun hc67 => ?_) (fun hc67 => ?_)
                · refine lv_iconst (v := (-1)) hx hb xd_Sh_acceptRequired_141 (by decide) ?_
                  refine W.widen (k := 0) (n := 0) (Nat.le_of_ble_eq_true rfl) (Nat.le_of_ble_eq_true rfl) ?_
                  exact W.iret (v := (-1)) hx hb hr (fun t ht hW => ⟨⟨(-1), (ad, E, RL), rfl, ⟨hCI, by rw [← lR_no (fun q => q.2.2.2.1 (tnm_40.symm.trans (hc67.trans hnB)))]; exact hTD, rfl, FRL_rf⟩, by rw [ht]; exact hP, hD⟩, hS.F ht⟩) hS.2.2 xd_Sh_acceptRequired_142
                · refine lv_aload hx hb xd_Sh_acceptRequired_128 (lv_at hl 0 rfl) ?_
                  refine px_get (D := D) (ci := 7) (v := .ref (ad (1 + (nd - 1)) 2)) (C := xR_Ds) (T := xT_Ds) (N := 12) hx hb hT xi_Ds hown hK.1 hP m_42 c_41 rfl 6 (by decide) (hT _ k5h_12) (fun _ h9 => h9) rfl xd_Sh_acceptRequired_130 ?_
                  refine lv_iload hx hb xd_Sh_acceptRequired_133 (lv_at hl 1 rfl) ?_
                  have hFc := px_free hD hS hA
                  refine va_calli (va_runV (As := [.int (wN (g 0) wl (wl.length - 1))]) (rest := []) ⟨hx, hb, hml, hown, hT⟩ (xc_Na_holds l D kA H.size ad E RL (1 + (nd - 1)) 2 6 5 k1_40 f1_40 (wN (g 0) wl (wl.length - 1)) m_46 c_45 m_54 c_53 (by first | assumption | omega) (by first | assumption | omega)) (cwV 1 hT (wT_V k5h_14 k5h_15 k5h_16 k5h_17 k5h_13) rfl rfl rfl (by decide +kernel) ⟨Nat.le_of_ble_eq_true rfl, Nat.le_of_ble_eq_true rfl⟩) (px_preV hK hP hD m_46 c_45 rfl) rfl rfl hl.1 rfl (lv_room (Nat.le_of_ble_eq_true rfl)) xd_Sh_acceptRequired_135 ⟨(Nat.le_of_ble_eq_true rfl), (Nat.le_of_ble_eq_true rfl)⟩) hS (fun q _ h => hFc q h) hFc (fun r68 u69 t H1 locs ht hvm hp70 hB hz1 hk1 hS => ?_)
                  obtain ⟨hP1, hD1⟩ := hB
                  rw [ht] at hP1
                  have hD1 := hD1.weaken (fun _ _ _ h => hFc _ h)
                  generalize H1 = H at hP1 hS ⊢
                  have hP := hP1
                  have hD := hD1
                  have hP : va_P D xcl (rp ad E RL) H := hP
                  have hD : va_D A (rp ad E RL) := hD
                  rcases hp70 with ⟨rfl, z71, z72, z73⟩ | ⟨rfl, z74⟩
                  · refine W.eq (g2 := F0 m 138 ls [.int 1]) rfl ?_
                    refine lv_if_eq (tgt := 143) hx hb xd_Sh_acceptRequired_138 (by decide) (fun hc75 => absurd hc75 (by decide)) (fun _ => ?_)
                    refine lv_iconst (v := (-1)) hx hb xd_Sh_acceptRequired_141 (by decide) ?_
                    refine W.widen (k := 0) (n := 0) (Nat.le_of_ble_eq_true rfl) (Nat.le_of_ble_eq_true rfl) ?_
                    exact W.iret (v := (-1)) hx hb hr (fun t ht hW => ⟨⟨(-1), (ad, E, RL), rfl, ⟨hCI, by rw [← lR_no (fun q => q.2.2.2.2.1 (5 * (nd - 1) + z71) (by omega) (by omega) ((tf1_40 _ z72).1.symm.trans (z73.trans hnB)))]; exact hTD, rfl, FRL_rf⟩, by rw [ht]; exact hP, hD⟩, hS.F ht⟩) hS.2.2 xd_Sh_acceptRequired_142
                  · refine W.eq (g2 := F0 m 138 ls [.int 0]) rfl ?_
                    refine lv_if_eq (tgt := 143) hx hb xd_Sh_acceptRequired_138 (by decide) (fun _ => ?_) (fun hc76 => absurd (by decide) hc76)
                    refine lv_aload hx hb xd_Sh_acceptRequired_143 (lv_at hl 0 rfl) ?_
                    refine px_get (D := D) (ci := 7) (v := .int sd_40) (C := xR_Ds) (T := xT_Ds) (N := 12) hx hb hT xi_Ds hown hK.1 hP m_42 c_41 rfl 11 (by decide) (hT _ k5h_18) (fun _ h9 => h9) rfl xd_Sh_acceptRequired_145 ?_
                    refine lv_if_ne (tgt := 162) hx hb xd_Sh_acceptRequired_148 (by decide) (fun hc77 => ?_) (fun hc77 => ?_)
                    · refine lv_bipush (v := (-2)) hx hb xd_Sh_acceptRequired_162 (by decide) ?_
                      refine W.widen (k := 0) (n := 0) (Nat.le_of_ble_eq_true rfl) (Nat.le_of_ble_eq_true rfl) ?_
                      exact W.iret (v := (-2)) hx hb hr (fun t ht hW => ⟨⟨(-2), (ad, E, RL), rfl, ⟨hCI, by rw [← lR_no (fun q => hc77 (by rw [tsd_40]; exact q.2.2.2.2.2.1))]; exact hTD, rfl, FRL_rf⟩, by rw [ht]; exact hP, hD⟩, hS.F ht⟩) hS.2.2 xd_Sh_acceptRequired_164
                    · refine lv_aload hx hb xd_Sh_acceptRequired_151 (lv_at hl 0 rfl) ?_
                      refine px_get (D := D) (ci := 7) (v := .ref (ad (1 + (nd - 1)) 2)) (C := xR_Ds) (T := xT_Ds) (N := 12) hx hb hT xi_Ds hown hK.1 hP m_42 c_41 rfl 6 (by decide) (hT _ k5h_12) (fun _ h9 => h9) rfl xd_Sh_acceptRequired_153 ?_
                      have hFc := px_free hD hS hA
                      refine va_calli (va_runV (As := []) (rest := []) ⟨hx, hb, hml, hown, hT⟩ (xc_Na_isFull l D kA H.size ad E RL (1 + (nd - 1)) 2 6 5 k1_40 f1_40 m_46 c_45 m_54 c_53 (by first | assumption | omega) (by first | assumption | omega)) (cwV 0 hT (wT_V k5h_20 k5h_21 k5h_22 k5h_17 k5h_19) rfl rfl rfl (by decide +kernel) ⟨Nat.le_of_ble_eq_true rfl, Nat.le_of_ble_eq_true rfl⟩) (px_preV hK hP hD m_46 c_45 rfl) rfl rfl hl.1 rfl (lv_room (Nat.le_of_ble_eq_true rfl)) xd_Sh_acceptRequired_156 ⟨(Nat.le_of_ble_eq_true rfl), (Nat.le_of_ble_eq_true rfl)⟩) hS (fun q _ h => hFc q h) hFc (fun r78 u79 t H1 locs ht hvm hp80 hB hz1 hk1 hS => ?_)
                      obtain ⟨hP1, hD1⟩ := hB
                      rw [ht] at hP1
                      have hD1 := hD1.weaken (fun _ _ _ h => hFc _ h)
                      generalize H1 = H at hP1 hS ⊢
                      have hP := hP1
                      have hD := hD1
                      have hP : va_P D xcl (rp ad E RL) H := hP
                      have hD : va_D A (rp ad E RL) := hD
                      rcases hp80 with ⟨rfl, z81⟩ | ⟨rfl, z82⟩
                      · refine W.eq (g2 := F0 m 159 ls [.int 1]) rfl ?_
                        refine lv_if_eq (tgt := 165) hx hb xd_Sh_acceptRequired_159 (by decide) (fun hc83 => absurd hc83 (by decide)) (fun _ => ?_)
                        refine lv_bipush (v := (-2)) hx hb xd_Sh_acceptRequired_162 (by decide) ?_
                        refine W.widen (k := 0) (n := 0) (Nat.le_of_ble_eq_true rfl) (Nat.le_of_ble_eq_true rfl) ?_
                        exact W.iret (v := (-2)) hx hb hr (fun t ht hW => ⟨⟨(-2), (ad, E, RL), rfl, ⟨hCI, by rw [← lR_no (fun q => absurd q.2.2.2.2.2.2 (by have := z81; omega))]; exact hTD, rfl, FRL_rf⟩, by rw [ht]; exact hP, hD⟩, hS.F ht⟩) hS.2.2 xd_Sh_acceptRequired_164
                      · refine W.eq (g2 := F0 m 159 ls [.int 0]) rfl ?_
                        refine lv_if_eq (tgt := 165) hx hb xd_Sh_acceptRequired_159 (by decide) (fun _ => ?_) (fun hc84 => absurd (by decide) hc84)
                        refine lv_aload hx hb xd_Sh_acceptRequired_165 (lv_at hl 0 rfl) ?_
                        refine lv_iload hx hb xd_Sh_acceptRequired_167 (lv_at hl 1 rfl) ?_
                        refine lv_iload_n hx hb xd_Sh_acceptRequired_169 rfl (lv_at hl 4 rfl) ?_
                        refine lv_iload_n hx hb xd_Sh_acceptRequired_170 rfl (lv_at hl 3 rfl) ?_
                        have hFc := px_free hD hS hA
                        refine va_callv (va_runV (As := [.int (wN (g 0) wl (wl.length - 1)), .int it9, .int io9]) (rest := []) ⟨hx, hb, hml, hown, hT⟩ (xc_Ds_addRequiredX l D kA H.size ad E RL g (nd - 1) (wN (g 0) wl (wl.length - 1)) it9 io9 (hDIs (nd - 1) (by omega)) (hTD (nd - 1) (by omega)) (by have := z82; omega)) (cwV 3 hT (wT_V k5h_24 k5h_25 k5h_26 k5h_27 k5h_23) rfl rfl rfl (by decide +kernel) ⟨Nat.le_of_ble_eq_true rfl, Nat.le_of_ble_eq_true rfl⟩) (px_preV hK hP hD m_42 c_41 rfl) rfl rfl hl.1 rfl (lv_room (Nat.le_of_ble_eq_true rfl)) xd_Sh_acceptRequired_171 ⟨(Nat.le_of_ble_eq_true rfl), (Nat.le_of_ble_eq_true rfl)⟩) hS (fun q _ h => hFc q h) hFc (fun u86 t H1 locs ht hvm hp87 hB hz1 hk1 hS => ?_)
                        obtain ⟨hP1, hD1⟩ := hB
                        rw [ht] at hP1
                        have hD1 := hD1.weaken (fun _ _ _ h => hFc _ h)
                        generalize H1 = H at hP1 hS ⊢
                        have hP := hP1
                        have hD := hD1
                        obtain ⟨E88, rfl⟩ : ∃ z, z = u86 := ⟨_, rfl⟩
                        obtain ⟨hp90, p_89⟩ := hp87
                        have p_89 : (∀ b2 o2, ¬ (b2 = 1 + (nd - 1)) → E88 b2 o2 = E b2 o2) := p_89
                        have c_91 : E88 0 0 = .inr (0, [.ref (ad 0 1), .ref (ad 0 5), .ref (ad 0 7), .ref (ad 0 9), .int (nI ml), .int lf_1]) := (p_89 0 0 (by omega)).trans c_2
                        have c_92 : E88 0 1 = .inr (1, [.ref (ad 0 2), .ref (ad 0 3), .ref (ad 0 4), .int (nI len), .int (nI (wl.length))]) := (p_89 0 1 (by omega)).trans c_5
                        have c_93 : E88 0 2 = .inl (kA 1, 40, .inl tx_4) := (p_89 0 2 (by omega)).trans c_7
                        have c_94 : E88 0 3 = .inl (kA 0, 20, .inl fb_4) := (p_89 0 3 (by omega)).trans c_9
                        have c_95 : E88 0 4 = .inl (kA 0, 20, .inl fe_4) := (p_89 0 4 (by omega)).trans c_11
                        have c_96 : E88 0 5 = .inr (2, [.ref (ad 0 6), .int (nI nd)]) := (p_89 0 5 (by omega)).trans c_14
                        have c_97 : E88 0 6 = .inl (kA 4, 12, .inr (.inr (.inr (.inr fd_13)))) := (p_89 0 6 (by omega)).trans c_16
                        have c_98 : E88 0 7 = .inr (3, [.ref (ad 0 5), .ref (ad 0 8), .int (nI cs), .int cf_18, pv_18]) := (p_89 0 7 (by omega)).trans c_19
                        have c_99 : E88 0 8 = .inl (kA 4, 12, .inr (.inr (.inr (.inr fc_18)))) := (p_89 0 8 (by omega)).trans c_21
                        have c_100 : E88 0 9 = .inl (kA 5, 5, .inr (.inr (.inr (.inr fl_23)))) := (p_89 0 9 (by omega)).trans c_24
                        have hP : va_P D xcl (rp ad E88 RL) H := hP
                        have hD : va_D A (rp ad E88 RL) := hD
                        obtain ⟨hDI9, hTD9⟩ := hp90
                        have hTD2 : TDs (rqU g (nd - 1) (wN (g 0) wl (wl.length - 1)) (vp_nar .boolean it9) (vp_nar .boolean io9)) E88 nd := TDs_upd (x := nd - 1) hDIs (fun d9 hd9 hx9 => fun2 fun o9 => by show E88 (1 + d9) o9 = _; rw [p_89 (1 + d9) o9 (by omega)]) (fun d9 hd9 hx9 => AG_R (by omega) hx9) hTD9 hTD
                        have hFRL : FRL ml nd ad ad E E88 := ⟨fun n9 hn9 => ⟨fun2 fun o9 => by show E88 (20 + n9) o9 = _; rw [p_89 (20 + n9) o9 (by omega)], fun2 fun o9 => rfl⟩, fun d9 hd9 => rfl, by show E88 0 0 = _; rw [p_89 0 0 (by omega)]⟩
                        have hCI : CI kA ad E88 RL ml nd len wl.length cs := ⟨hmB, ⟨lf_1, c_91⟩, ⟨tx_4, fb_4, fe_4, (by omega), (by omega), c_92, c_93, c_94, c_95, hws_4⟩, ⟨fd_13, (by omega), c_96, c_97, hds_13⟩, ⟨cf_18, pv_18, fc_18, (by omega), hpv_18, c_98, c_99, hfc_18⟩, ⟨fl_23, (by omega), c_100, hla_23⟩, (DIs_set (x := nd - 1) (fun d9 hd9 hx9 => fun2 fun o9 => by show E88 (1 + d9) o9 = _; rw [p_89 (1 + d9) o9 (by omega)]) (fun _ _ _ => rfl) (fun _ h => h) hDI9 hDIs), (LIs_same (Nat.le_refl _) (fun n9 hn9 => fun2 fun o9 => by show E88 (20 + n9) o9 = _; rw [p_89 (20 + n9) o9 (by omega)]) (fun _ _ => rfl) (fun _ _ => rfl) (fun _ h9 => h9) hLIs)⟩
                        obtain ⟨hmB, hDk, hLi, hSh, hCh, hLa, hDIs, hLIs⟩ := id hCI
                        refine lv_iconst (v := 2) hx hb xd_Sh_acceptRequired_174 (by decide) ?_
                        refine W.widen (k := 0) (n := 0) (Nat.le_of_ble_eq_true rfl) (Nat.le_of_ble_eq_true rfl) ?_
                        exact W.iret (v := 2) hx hb hr (fun t ht hW => ⟨⟨2, (ad, E88, RL), rfl, (by
        rw [lR_y hnB hitb hiob ⟨by rw [hrB]; omega, fun q => hc34 (hnB.trans q), by omega, fun q => hc67 (tnm_40.trans (q.trans hnB.symm)), fun j a9 b9 q => by
          have q2 := z74 (j - 5 * (nd - 1)) (by omega)
          rw [(tf1_40 _ (by omega)).1, show 5 * (nd - 1) + (j - 5 * (nd - 1)) = j by omega] at q2
          exact q2 (q.trans hnB.symm), by rw [← tsd_40]; exact hc77, by omega⟩]
        exact ⟨hCI, hTD2, rfl, hFRL⟩), by rw [ht]; exact hP, hD⟩, hS.F ht⟩) hS.2.2 xd_Sh_acceptRequired_175
            · refine lv_iconst (v := (-1)) hx hb xd_Sh_acceptRequired_102 (by decide) ?_
              refine W.widen (k := 0) (n := 0) (Nat.le_of_ble_eq_true rfl) (Nat.le_of_ble_eq_true rfl) ?_
              exact W.iret (v := (-1)) hx hb hr (fun t ht hW => ⟨⟨(-1), (ad, E, RL), rfl, ⟨hCI, by rw [← lR_no (fun q => q.2.1 (by rw [(hrq.2 (by omega)).2.2]; exact hc34))]; exact hTD, rfl, FRL_rf⟩, by rw [ht]; exact hP, hD⟩, hS.F ht⟩) hS.2.2 xd_Sh_acceptRequired_103
        · refine lv_iconst (v := 1) hx hb xd_Sh_acceptRequired_68 (by decide) ?_
          refine lv_goto (tgt := 73) hx hb xd_Sh_acceptRequired_69 (by decide) ?_
          refine lv_iadd hx hb xd_Sh_acceptRequired_73 ?_
          refine xn_top (y := nI (3)) (nI_add 2 1) ?_
          refine lv_istore hx hb xd_Sh_acceptRequired_74 hl (Nat.le_of_ble_eq_true rfl) rfl (fun ls hl => ?_)
          have hl : lv_has ls 7 [(4, .int (nI 3)), (3, .int io9), (2, .int it9), (1, .ref (ad 0 1)), (0, .ref (ad 0 5))] := hl
          have hfa : ((0 : Nat) = 1 ∧ 3 ≤ wl.length ∧ wS (g 0) wl 1 zTr) ∨ ((0 : Nat) = 0 ∧ ¬ (3 ≤ wl.length ∧ wS (g 0) wl 1 zTr)) := by
            rcases hit with ⟨q, q2⟩ | ⟨q, q2⟩
            · exact absurd (q.symm.trans hc28) (by decide)
            · exact Or.inr ⟨rfl, q2⟩
          have hfb : ((1 : Nat) = 1 ∧ 3 ≤ wl.length ∧ wS (g 0) wl (wl.length - 2) zSt) ∨ ((1 : Nat) = 0 ∧ ¬ (3 ≤ wl.length ∧ wS (g 0) wl (wl.length - 2) zSt)) := by
            rcases hio with ⟨q, q2⟩ | ⟨q, q2⟩
            · exact Or.inl ⟨rfl, q2⟩
            · exact absurd q hc29
          have hrq := rq_iff hfa hfb
          refine lv_aload_n hx hb xd_Sh_acceptRequired_76 rfl (lv_at hl 3 rfl) ?_
          refine lv_aload_n hx hb xd_Sh_acceptRequired_77 rfl (lv_at hl 3 rfl) ?_
          refine px_get (D := D) (ci := 1) (v := .int (nI (wl.length))) (C := xR_Li) (T := xT_Li) (N := 5) hx hb hT xi_Li hown hK.1 hP m_6 c_5 rfl 4 (by decide) (hT _ k5h_0) (fun _ h9 => h9) rfl xd_Sh_acceptRequired_78 ?_
          refine lv_iconst (v := 1) hx hb xd_Sh_acceptRequired_81 (by decide) ?_
          refine lv_isub hx hb xd_Sh_acceptRequired_82 ?_
          refine xn_top (y := nI (wl.length - 1)) (pk_sub (a := wl.length) (b := 1) (by omega)) ?_
          have hFc := px_free hD hS hA
          refine va_calli (va_runV (As := [.int (nI (wl.length - 1))]) (rest := []) ⟨hx, hb, hml, hown, hT⟩ (xc_Li_nameAtX l D kA H.size ad E RL g ml nd len lt wl cs (wl.length - 1) (by first | assumption | omega) (by first | assumption | omega) (by first | assumption | omega)) (cwV 1 hT (wT_V k5h_2 k5h_3 k5h_4 k5h_5 k5h_1) rfl rfl rfl (by decide +kernel) ⟨Nat.le_of_ble_eq_true rfl, Nat.le_of_ble_eq_true rfl⟩) (px_preV hK hP hD m_6 c_5 rfl) rfl rfl hl.1 rfl (lv_room (Nat.le_of_ble_eq_true rfl)) xd_Sh_acceptRequired_83 ⟨(Nat.le_of_ble_eq_true rfl), (Nat.le_of_ble_eq_true rfl)⟩) hS (fun q _ h => hFc q h) hFc (fun r101 u102 t H1 locs ht hvm hp103 hB hz1 hk1 hS => ?_)
          obtain ⟨hP1, hD1⟩ := hB
          rw [ht] at hP1
          have hD1 := hD1.weaken (fun _ _ _ h => hFc _ h)
          generalize H1 = H at hP1 hS ⊢
          have hP := hP1
          have hD := hD1
          have hP : va_P D xcl (rp ad E RL) H := hP
          have hD : va_D A (rp ad E RL) := hD
          have hp103 : r101 = wN (g 0) wl (wl.length - 1) := hp103
          subst hp103
          have hP : va_P D xcl (rp ad E RL) H := hP
          have hD : va_D A (rp ad E RL) := hD
          refine lv_istore hx hb xd_Sh_acceptRequired_86 hl (Nat.le_of_ble_eq_true rfl) rfl (fun ls hl => ?_)
          have hl : lv_has ls 7 [(5, .int (wN (g 0) wl (wl.length - 1))), (4, .int (nI 3)), (3, .int io9), (2, .int it9), (1, .ref (ad 0 1)), (0, .ref (ad 0 5))] := hl
          refine lv_aload_n hx hb xd_Sh_acceptRequired_88 rfl (lv_at hl 4 rfl) ?_
          refine px_get (D := D) (ci := 1) (v := .int (nI (wl.length))) (C := xR_Li) (T := xT_Li) (N := 5) hx hb hT xi_Li hown hK.1 hP m_6 c_5 rfl 4 (by decide) (hT _ k5h_0) (fun _ h9 => h9) rfl xd_Sh_acceptRequired_89 ?_
          refine lv_iload hx hb xd_Sh_acceptRequired_92 (lv_at hl 1 rfl) ?_
          refine xn_ne (a := wl.length) (b := 3) (tgt := 102) hx hb xd_Sh_acceptRequired_94 (by decide) (by omega) (by omega) (fun hc104 => ?_) (fun hc104 => ?_)
          · refine lv_iconst (v := (-1)) hx hb xd_Sh_acceptRequired_102 (by decide) ?_
            refine W.widen (k := 0) (n := 0) (Nat.le_of_ble_eq_true rfl) (Nat.le_of_ble_eq_true rfl) ?_
            exact W.iret (v := (-1)) hx hb hr (fun t ht hW => ⟨⟨(-1), (ad, E, RL), rfl, ⟨hCI, by rw [← lR_no (fun q => absurd (hrq.1.mp q.1) (by omega))]; exact hTD, rfl, FRL_rf⟩, by rw [ht]; exact hP, hD⟩, hS.F ht⟩) hS.2.2 xd_Sh_acceptRequired_103
          · refine lv_iload hx hb xd_Sh_acceptRequired_97 (lv_at hl 0 rfl) ?_
            refine lv_if_ne (tgt := 104) hx hb xd_Sh_acceptRequired_99 (by decide) (fun hc105 => ?_) (fun hc105 => ?_)
            · obtain ⟨hrT, hrO, hrB⟩ := hrq.2 (by omega)
              have hitb : it9 = bI (rqT (g 0) wl) := by rw [hc28]; exact bI_0 (fun q => absurd (hrT.mp q) (by decide))
              have hiob : io9 = bI (rqO (g 0) wl) := by
                rcases hio with ⟨q, _⟩ | ⟨q, _⟩
                · rw [q]; exact bI_1 (hrO.mpr rfl)
                · exact absurd q hc29
              have hnB : wN (g 0) wl (wl.length - 1) = wN (g 0) wl (rqB (g 0) wl) := by rw [hrB]
              refine lv_aload_n hx hb xd_Sh_acceptRequired_104 rfl (lv_at hl 5 rfl) ?_
              have hFc := px_free hD hS hA
              refine va_callq (va_runV (As := []) (rest := []) ⟨hx, hb, hml, hown, hT⟩ (xc_Sh_latestX l D kA H.size ad E RL ml nd len wl.length cs (by first | assumption | omega)) (cwV 0 hT (wT_V k5h_7 k5h_8 k5h_9 k5h_10 k5h_6) rfl rfl rfl (by decide +kernel) ⟨Nat.le_of_ble_eq_true rfl, Nat.le_of_ble_eq_true rfl⟩) (px_preV hK hP hD m_15 c_14 rfl) rfl rfl hl.1 rfl (lv_room (Nat.le_of_ble_eq_true rfl)) xd_Sh_acceptRequired_105 ⟨(Nat.le_of_ble_eq_true rfl), (Nat.le_of_ble_eq_true rfl)⟩) hS (fun q _ h => hFc q h) hFc (fun r106 u107 t H1 locs ht hvm hp108 hB hz1 hk1 hS => ?_)
              obtain ⟨hP1, hD1⟩ := hB
              rw [ht] at hP1
              have hD1 := hD1.weaken (fun _ _ _ h => hFc _ h)
              generalize H1 = H at hP1 hS ⊢
              have hP := hP1
              have hD := hD1
              have hP : va_P D xcl (rp ad E RL) H := hP
              have hD : va_D A (rp ad E RL) := hD
              rcases hp108 with ⟨rfl, z109⟩ | ⟨z110, rfl⟩
              · refine W.eq (g2 := F0 m 108 ls [.null]) rfl ?_
                refine lv_astoreN hx hb xd_Sh_acceptRequired_108 hl (Nat.le_of_ble_eq_true rfl) rfl (fun ls hl => ?_)
                have hl : lv_has ls 7 [(6, .null), (5, .int (wN (g 0) wl (wl.length - 1))), (4, .int (nI 3)), (3, .int io9), (2, .int it9), (1, .ref (ad 0 1)), (0, .ref (ad 0 5))] := hl
                refine lv_aloadN hx hb xd_Sh_acceptRequired_110 (lv_at hl 0 rfl) ?_
                refine lv_ifnonnullN hx hb xd_Sh_acceptRequired_112 ?_
                refine lv_bipush (v := (-2)) hx hb xd_Sh_acceptRequired_115 (by decide) ?_
                refine W.widen (k := 0) (n := 0) (Nat.le_of_ble_eq_true rfl) (Nat.le_of_ble_eq_true rfl) ?_
                exact W.iret (v := (-2)) hx hb hr (fun t ht hW => ⟨⟨(-2), (ad, E, RL), rfl, ⟨hCI, by rw [← lR_no (fun q => absurd q.2.2.1 (by omega))]; exact hTD, rfl, FRL_rf⟩, by rw [ht]; exact hP, hD⟩, hS.F ht⟩) hS.2.2 xd_Sh_acceptRequired_117
              · refine W.eq (g2 := F0 m 108 ls [.ref (ad (1 + (nd - 1)) 0)]) rfl ?_
                refine lv_astore hx hb xd_Sh_acceptRequired_108 hl (Nat.le_of_ble_eq_true rfl) rfl (fun ls hl => ?_)
                have hl : lv_has ls 7 [(6, .ref (ad (1 + (nd - 1)) 0)), (5, .int (wN (g 0) wl (wl.length - 1))), (4, .int (nI 3)), (3, .int io9), (2, .int it9), (1, .ref (ad 0 1)), (0, .ref (ad 0 5))] := hl
                refine lv_aload hx hb xd_Sh_acceptRequired_110 (lv_at hl 0 rfl) ?_
                refine lv_ifnonnull (tgt := 118) hx hb xd_Sh_acceptRequired_112 (by decide) ?_
                refine lv_aload hx hb xd_Sh_acceptRequired_118 (lv_at hl 0 rfl) ?_
                obtain ⟨hm_111, fd_111, nm_111, sd_111, k0_111, k1_111, k2_111, k3_111, f0_111, f1_111, f2_111, f3_111, fe_111, fo_111, tr_111, op_111, hk0_111, hk1_111, hk2_111, hk3_111, q0_111, q1_111, q2_111, q3_111, q4_111, q5_111, q6_111, q7_111, q8_111, q9_111, q10_111, q11_111, q12_111, hg_111⟩ := id (hDIs (nd - 1) (by omega))
                have c_112 : E (1 + (nd - 1)) 0 = .inr (7, [.int (nI ((nd - 1))), .int fd_111, .int nm_111, .ref (ad (1 + (nd - 1)) 1), .ref (ad (1 + (nd - 1)) 9), .ref (ad (1 + (nd - 1)) 10), .ref (ad (1 + (nd - 1)) 2), .ref (ad (1 + (nd - 1)) 11), .ref (ad (1 + (nd - 1)) 12), .ref (ad (1 + (nd - 1)) 3), .ref (ad (1 + (nd - 1)) 4), .int sd_111]) := q0_111
                have m_113 : (1 + (nd - 1), 0) ∈ RL := hm_111 0 (by omega)
                have c_114 : E (1 + (nd - 1)) 1 = .inr (8, [.ref (ad (1 + (nd - 1)) 5), .int (nI k0_111)]) := q1_111
                have m_115 : (1 + (nd - 1), 1) ∈ RL := hm_111 1 (by omega)
                have c_116 : E (1 + (nd - 1)) 2 = .inr (8, [.ref (ad (1 + (nd - 1)) 6), .int (nI k1_111)]) := q2_111
                have m_117 : (1 + (nd - 1), 2) ∈ RL := hm_111 2 (by omega)
                have c_118 : E (1 + (nd - 1)) 3 = .inr (8, [.ref (ad (1 + (nd - 1)) 7), .int (nI k2_111)]) := q3_111
                have m_119 : (1 + (nd - 1), 3) ∈ RL := hm_111 3 (by omega)
                have c_120 : E (1 + (nd - 1)) 4 = .inr (8, [.ref (ad (1 + (nd - 1)) 8), .int (nI k3_111)]) := q4_111
                have m_121 : (1 + (nd - 1), 4) ∈ RL := hm_111 4 (by omega)
                have c_122 : E (1 + (nd - 1)) 5 = .inl (kA 0, 6, .inl f0_111) := q5_111
                have m_123 : (1 + (nd - 1), 5) ∈ RL := hm_111 5 (by omega)
                have c_124 : E (1 + (nd - 1)) 6 = .inl (kA 0, 5, .inl f1_111) := q6_111
                have m_125 : (1 + (nd - 1), 6) ∈ RL := hm_111 6 (by omega)
                have c_126 : E (1 + (nd - 1)) 7 = .inl (kA 0, 3, .inl f2_111) := q7_111
                have m_127 : (1 + (nd - 1), 7) ∈ RL := hm_111 7 (by omega)
                have c_128 : E (1 + (nd - 1)) 8 = .inl (kA 0, 3, .inl f3_111) := q8_111
                have m_129 : (1 + (nd - 1), 8) ∈ RL := hm_111 8 (by omega)
                have c_130 : E (1 + (nd - 1)) 9 = .inl (kA 8, 6, .inr (.inr (.inr (.inr fe_111)))) := q9_111
                have m_131 : (1 + (nd - 1), 9) ∈ RL := hm_111 9 (by omega)
                have c_132 : E (1 + (nd - 1)) 10 = .inl (kA 8, 6, .inr (.inr (.inr (.inr fo_111)))) := q10_111
                have m_133 : (1 + (nd - 1), 10) ∈ RL := hm_111 10 (by omega)
                have c_134 : E (1 + (nd - 1)) 11 = .inl (kA 2, 5, .inl tr_111) := q11_111
                have m_135 : (1 + (nd - 1), 11) ∈ RL := hm_111 11 (by omega)
                have c_136 : E (1 + (nd - 1)) 12 = .inl (kA 2, 5, .inl op_111) := q12_111
                have m_137 : (1 + (nd - 1), 12) ∈ RL := hm_111 12 (by omega)
                have hg_111 : ∀ w9, w9 < k0_111 → fe_111 w9 = some (ad (1 + (nd - 1)) (20 + 3 * w9)) ∧ fo_111 w9 = some (ad (1 + (nd - 1)) (38 + 3 * w9)) ∧ GI kA (ad (1 + (nd - 1))) (E (1 + (nd - 1))) (fun o => (1 + (nd - 1), o) ∈ RL) (20 + 3 * w9) (21 + 3 * w9) (22 + 3 * w9) ∧ GI kA (ad (1 + (nd - 1))) (E (1 + (nd - 1))) (fun o => (1 + (nd - 1), o) ∈ RL) (38 + 3 * w9) (39 + 3 * w9) (40 + 3 * w9) := hg_111
                obtain ⟨hTT_111, tgr_111⟩ := TD_get hk0_111 hk1_111 hk2_111 hk3_111 c_112 c_114 c_116 c_118 c_120 c_122 c_124 c_126 c_128 c_134 c_136 (hTD (nd - 1) (by omega))
                obtain ⟨tfd_111, tnm_111, tsd_111, tk0_111, tf0_111, tk1_111, tf1_111, tk2_111, tk3_111⟩ := id hTT_111
                have ik0_111 : iN (g 5 (nd - 1)) = k0_111 := by rw [← tk0_111, iN_nI (by omega)]
                have ik1_111 : iN (g 12 (nd - 1)) = k1_111 := by rw [← tk1_111, iN_nI (by omega)]
                refine px_get (D := D) (ci := 7) (v := .int nm_111) (C := xR_Ds) (T := xT_Ds) (N := 12) hx hb hT xi_Ds hown hK.1 hP m_113 c_112 rfl 2 (by decide) (hT _ k5h_11) (fun _ h9 => h9) rfl xd_Sh_acceptRequired_120 ?_
                refine lv_iload hx hb xd_Sh_acceptRequired_123 (lv_at hl 1 rfl) ?_
                refine lv_icmp_eq (tgt := 141) hx hb xd_Sh_acceptRequired_125 (by decide) (fun hc138 => ?_) (fun hc138 => ?_)
                · refine lv_iconst (v := (-1)) hx hb xd_Sh_acceptRequired_141 (by decide) ?_
                  refine W.widen (k := 0) (n := 0) (Nat.le_of_ble_eq_true rfl) (Nat.le_of_ble_eq_true rfl) ?_
                  exact W.iret (v := (-1)) hx hb hr (fun t ht hW => ⟨⟨(-1), (ad, E, RL), rfl, ⟨hCI, by rw [← lR_no (fun q => q.2.2.2.1 (tnm_111.symm.trans (hc138.trans hnB)))]; exact hTD, rfl, FRL_rf⟩, by rw [ht]; exact hP, hD⟩, hS.F ht⟩) hS.2.2 xd_Sh_acceptRequired_142
                · refine lv_aload hx hb xd_Sh_acceptRequired_128 (lv_at hl 0 rfl) ?_
                  refine px_get (D := D) (ci := 7) (v := .ref (ad (1 + (nd - 1)) 2)) (C := xR_Ds) (T := xT_Ds) (N := 12) hx hb hT xi_Ds hown hK.1 hP m_113 c_112 rfl 6 (by decide) (hT _ k5h_12) (fun _ h9 => h9) rfl xd_Sh_acceptRequired_130 ?_
                  refine lv_iload hx hb xd_Sh_acceptRequired_133 (lv_at hl 1 rfl) ?_
                  have hFc := px_free hD hS hA
                  refine va_calli (va_runV (As := [.int (wN (g 0) wl (wl.length - 1))]) (rest := []) ⟨hx, hb, hml, hown, hT⟩ (xc_Na_holds l D kA H.size ad E RL (1 + (nd - 1)) 2 6 5 k1_111 f1_111 (wN (g 0) wl (wl.length - 1)) m_117 c_116 m_125 c_124 (by first | assumption | omega) (by first | assumption | omega)) (cwV 1 hT (wT_V k5h_14 k5h_15 k5h_16 k5h_17 k5h_13) rfl rfl rfl (by decide +kernel) ⟨Nat.le_of_ble_eq_true rfl, Nat.le_of_ble_eq_true rfl⟩) (px_preV hK hP hD m_117 c_116 rfl) rfl rfl hl.1 rfl (lv_room (Nat.le_of_ble_eq_true rfl)) xd_Sh_acceptRequired_135 ⟨(Nat.le_of_ble_eq_true rfl), (Nat.le_of_ble_eq_true rfl)⟩) hS (fun q _ h => hFc q h) hFc (fun r139 u140 t H1 locs ht hvm hp141 hB hz1 hk1 hS => ?_)
                  obtain ⟨hP1, hD1⟩ := hB
                  rw [ht] at hP1
                  have hD1 := hD1.weaken (fun _ _ _ h => hFc _ h)
                  generalize H1 = H at hP1 hS ⊢
                  have hP := hP1
                  have hD := hD1
                  have hP : va_P D xcl (rp ad E RL) H := hP
                  have hD : va_D A (rp ad E RL) := hD
                  rcases hp141 with ⟨rfl, z142, z143, z144⟩ | ⟨rfl, z145⟩
                  · refine W.eq (g2 := F0 m 138 ls [.int 1]) rfl ?_
                    refine lv_if_eq (tgt := 143) hx hb xd_Sh_acceptRequired_138 (by decide) (fun hc146 => absurd hc146 (by decide)) (fun _ => ?_)
                    refine lv_iconst (v := (-1)) hx hb xd_Sh_acceptRequired_141 (by decide) ?_
                    refine W.widen (k := 0) (n := 0) (Nat.le_of_ble_eq_true rfl) (Nat.le_of_ble_eq_true rfl) ?_
                    exact W.iret (v := (-1)) hx hb hr (fun t ht hW => ⟨⟨(-1), (ad, E, RL), rfl, ⟨hCI, by rw [← lR_no (fun q => q.2.2.2.2.1 (5 * (nd - 1) + z142) (by omega) (by omega) ((tf1_111 _ z143).1.symm.trans (z144.trans hnB)))]; exact hTD, rfl, FRL_rf⟩, by rw [ht]; exact hP, hD⟩, hS.F ht⟩) hS.2.2 xd_Sh_acceptRequired_142
                  · refine W.eq (g2 := F0 m 138 ls [.int 0]) rfl ?_
                    refine lv_if_eq (tgt := 143) hx hb xd_Sh_acceptRequired_138 (by decide) (fun _ => ?_) (fun hc147 => absurd (by decide) hc147)
                    refine lv_aload hx hb xd_Sh_acceptRequired_143 (lv_at hl 0 rfl) ?_
                    refine px_get (D := D) (ci := 7) (v := .int sd_111) (C := xR_Ds) (T := xT_Ds) (N := 12) hx hb hT xi_Ds hown hK.1 hP m_113 c_112 rfl 11 (by decide) (hT _ k5h_18) (fun _ h9 => h9) rfl xd_Sh_acceptRequired_145 ?_
                    refine lv_if_ne (tgt := 162) hx hb xd_Sh_acceptRequired_148 (by decide) (fun hc148 => ?_) (fun hc148 => ?_)
                    · refine lv_bipush (v := (-2)) hx hb xd_Sh_acceptRequired_162 (by decide) ?_
                      refine W.widen (k := 0) (n := 0) (Nat.le_of_ble_eq_true rfl) (Nat.le_of_ble_eq_true rfl) ?_
                      exact W.iret (v := (-2)) hx hb hr (fun t ht hW => ⟨⟨(-2), (ad, E, RL), rfl, ⟨hCI, by rw [← lR_no (fun q => hc148 (by rw [tsd_111]; exact q.2.2.2.2.2.1))]; exact hTD, rfl, FRL_rf⟩, by rw [ht]; exact hP, hD⟩, hS.F ht⟩) hS.2.2 xd_Sh_acceptRequired_164
                    · refine lv_aload hx hb xd_Sh_acceptRequired_151 (lv_at hl 0 rfl) ?_
                      refine px_get (D := D) (ci := 7) (v := .ref (ad (1 + (nd - 1)) 2)) (C := xR_Ds) (T := xT_Ds) (N := 12) hx hb hT xi_Ds hown hK.1 hP m_113 c_112 rfl 6 (by decide) (hT _ k5h_12) (fun _ h9 => h9) rfl xd_Sh_acceptRequired_153 ?_
                      have hFc := px_free hD hS hA
                      refine va_calli (va_runV (As := []) (rest := []) ⟨hx, hb, hml, hown, hT⟩ (xc_Na_isFull l D kA H.size ad E RL (1 + (nd - 1)) 2 6 5 k1_111 f1_111 m_117 c_116 m_125 c_124 (by first | assumption | omega) (by first | assumption | omega)) (cwV 0 hT (wT_V k5h_20 k5h_21 k5h_22 k5h_17 k5h_19) rfl rfl rfl (by decide +kernel) ⟨Nat.le_of_ble_eq_true rfl, Nat.le_of_ble_eq_true rfl⟩) (px_preV hK hP hD m_117 c_116 rfl) rfl rfl hl.1 rfl (lv_room (Nat.le_of_ble_eq_true rfl)) xd_Sh_acceptRequired_156 ⟨(Nat.le_of_ble_eq_true rfl), (Nat.le_of_ble_eq_true rfl)⟩) hS (fun q _ h => hFc q h) hFc (fun r149 u150 t H1 locs ht hvm hp151 hB hz1 hk1 hS => ?_)
                      obtain ⟨hP1, hD1⟩ := hB
                      rw [ht] at hP1
                      have hD1 := hD1.weaken (fun _ _ _ h => hFc _ h)
                      generalize H1 = H at hP1 hS ⊢
                      have hP := hP1
                      have hD := hD1
                      have hP : va_P D xcl (rp ad E RL) H := hP
                      have hD : va_D A (rp ad E RL) := hD
                      rcases hp151 with ⟨rfl, z152⟩ | ⟨rfl, z153⟩
                      · refine W.eq (g2 := F0 m 159 ls [.int 1]) rfl ?_
                        refine lv_if_eq (tgt := 165) hx hb xd_Sh_acceptRequired_159 (by decide) (fun hc154 => absurd hc154 (by decide)) (fun _ => ?_)
                        refine lv_bipush (v := (-2)) hx hb xd_Sh_acceptRequired_162 (by decide) ?_
                        refine W.widen (k := 0) (n := 0) (Nat.le_of_ble_eq_true rfl) (Nat.le_of_ble_eq_true rfl) ?_
                        exact W.iret (v := (-2)) hx hb hr (fun t ht hW => ⟨⟨(-2), (ad, E, RL), rfl, ⟨hCI, by rw [← lR_no (fun q => absurd q.2.2.2.2.2.2 (by have := z152; omega))]; exact hTD, rfl, FRL_rf⟩, by rw [ht]; exact hP, hD⟩, hS.F ht⟩) hS.2.2 xd_Sh_acceptRequired_164
                      · refine W.eq (g2 := F0 m 159 ls [.int 0]) rfl ?_
                        refine lv_if_eq (tgt := 165) hx hb xd_Sh_acceptRequired_159 (by decide) (fun _ => ?_) (fun hc155 => absurd (by decide) hc155)
                        refine lv_aload hx hb xd_Sh_acceptRequired_165 (lv_at hl 0 rfl) ?_
                        refine lv_iload hx hb xd_Sh_acceptRequired_167 (lv_at hl 1 rfl) ?_
                        refine lv_iload_n hx hb xd_Sh_acceptRequired_169 rfl (lv_at hl 4 rfl) ?_
                        refine lv_iload_n hx hb xd_Sh_acceptRequired_170 rfl (lv_at hl 3 rfl) ?_
                        have hFc := px_free hD hS hA
                        refine va_callv (va_runV (As := [.int (wN (g 0) wl (wl.length - 1)), .int it9, .int io9]) (rest := []) ⟨hx, hb, hml, hown, hT⟩ (xc_Ds_addRequiredX l D kA H.size ad E RL g (nd - 1) (wN (g 0) wl (wl.length - 1)) it9 io9 (hDIs (nd - 1) (by omega)) (hTD (nd - 1) (by omega)) (by have := z153; omega)) (cwV 3 hT (wT_V k5h_24 k5h_25 k5h_26 k5h_27 k5h_23) rfl rfl rfl (by decide +kernel) ⟨Nat.le_of_ble_eq_true rfl, Nat.le_of_ble_eq_true rfl⟩) (px_preV hK hP hD m_113 c_112 rfl) rfl rfl hl.1 rfl (lv_room (Nat.le_of_ble_eq_true rfl)) xd_Sh_acceptRequired_171 ⟨(Nat.le_of_ble_eq_true rfl), (Nat.le_of_ble_eq_true rfl)⟩) hS (fun q _ h => hFc q h) hFc (fun u157 t H1 locs ht hvm hp158 hB hz1 hk1 hS => ?_)
                        obtain ⟨hP1, hD1⟩ := hB
                        rw [ht] at hP1
                        have hD1 := hD1.weaken (fun _ _ _ h => hFc _ h)
                        generalize H1 = H at hP1 hS ⊢
                        have hP := hP1
                        have hD := hD1
                        obtain ⟨E159, rfl⟩ : ∃ z, z = u157 := ⟨_, rfl⟩
                        obtain ⟨hp161, p_160⟩ := hp158
                        have p_160 : (∀ b2 o2, ¬ (b2 = 1 + (nd - 1)) → E159 b2 o2 = E b2 o2) := p_160
                        have c_162 : E159 0 0 = .inr (0, [.ref (ad 0 1), .ref (ad 0 5), .ref (ad 0 7), .ref (ad 0 9), .int (nI ml), .int lf_1]) := (p_160 0 0 (by omega)).trans c_2
                        have c_163 : E159 0 1 = .inr (1, [.ref (ad 0 2), .ref (ad 0 3), .ref (ad 0 4), .int (nI len), .int (nI (wl.length))]) := (p_160 0 1 (by omega)).trans c_5
                        have c_164 : E159 0 2 = .inl (kA 1, 40, .inl tx_4) := (p_160 0 2 (by omega)).trans c_7
                        have c_165 : E159 0 3 = .inl (kA 0, 20, .inl fb_4) := (p_160 0 3 (by omega)).trans c_9
                        have c_166 : E159 0 4 = .inl (kA 0, 20, .inl fe_4) := (p_160 0 4 (by omega)).trans c_11
                        have c_167 : E159 0 5 = .inr (2, [.ref (ad 0 6), .int (nI nd)]) := (p_160 0 5 (by omega)).trans c_14
                        have c_168 : E159 0 6 = .inl (kA 4, 12, .inr (.inr (.inr (.inr fd_13)))) := (p_160 0 6 (by omega)).trans c_16
                        have c_169 : E159 0 7 = .inr (3, [.ref (ad 0 5), .ref (ad 0 8), .int (nI cs), .int cf_18, pv_18]) := (p_160 0 7 (by omega)).trans c_19
                        have c_170 : E159 0 8 = .inl (kA 4, 12, .inr (.inr (.inr (.inr fc_18)))) := (p_160 0 8 (by omega)).trans c_21
                        have c_171 : E159 0 9 = .inl (kA 5, 5, .inr (.inr (.inr (.inr fl_23)))) := (p_160 0 9 (by omega)).trans c_24
                        have hP : va_P D xcl (rp ad E159 RL) H := hP
                        have hD : va_D A (rp ad E159 RL) := hD
                        obtain ⟨hDI9, hTD9⟩ := hp161
                        have hTD2 : TDs (rqU g (nd - 1) (wN (g 0) wl (wl.length - 1)) (vp_nar .boolean it9) (vp_nar .boolean io9)) E159 nd := TDs_upd (x := nd - 1) hDIs (fun d9 hd9 hx9 => fun2 fun o9 => by show E159 (1 + d9) o9 = _; rw [p_160 (1 + d9) o9 (by omega)]) (fun d9 hd9 hx9 => AG_R (by omega) hx9) hTD9 hTD
                        have hFRL : FRL ml nd ad ad E E159 := ⟨fun n9 hn9 => ⟨fun2 fun o9 => by show E159 (20 + n9) o9 = _; rw [p_160 (20 + n9) o9 (by omega)], fun2 fun o9 => rfl⟩, fun d9 hd9 => rfl, by show E159 0 0 = _; rw [p_160 0 0 (by omega)]⟩
                        have hCI : CI kA ad E159 RL ml nd len wl.length cs := ⟨hmB, ⟨lf_1, c_162⟩, ⟨tx_4, fb_4, fe_4, (by omega), (by omega), c_163, c_164, c_165, c_166, hws_4⟩, ⟨fd_13, (by omega), c_167, c_168, hds_13⟩, ⟨cf_18, pv_18, fc_18, (by omega), hpv_18, c_169, c_170, hfc_18⟩, ⟨fl_23, (by omega), c_171, hla_23⟩, (DIs_set (x := nd - 1) (fun d9 hd9 hx9 => fun2 fun o9 => by show E159 (1 + d9) o9 = _; rw [p_160 (1 + d9) o9 (by omega)]) (fun _ _ _ => rfl) (fun _ h => h) hDI9 hDIs), (LIs_same (Nat.le_refl _) (fun n9 hn9 => fun2 fun o9 => by show E159 (20 + n9) o9 = _; rw [p_160 (20 + n9) o9 (by omega)]) (fun _ _ => rfl) (fun _ _ => rfl) (fun _ h9 => h9) hLIs)⟩
                        obtain ⟨hmB, hDk, hLi, hSh, hCh, hLa, hDIs, hLIs⟩ := id hCI
                        refine lv_iconst (v := 2) hx hb xd_Sh_acceptRequired_174 (by decide) ?_
                        refine W.widen (k := 0) (n := 0) (Nat.le_of_ble_eq_true rfl) (Nat.le_of_ble_eq_true rfl) ?_
                        exact W.iret (v := 2) hx hb hr (fun t ht hW => ⟨⟨2, (ad, E159, RL), rfl, (by
        rw [lR_y hnB hitb hiob ⟨by rw [hrB]; omega, fun q => hc105 (hnB.trans q), by omega, fun q => hc138 (tnm_111.trans (q.trans hnB.symm)), fun j a9 b9 q => by
          have q2 := z145 (j - 5 * (nd - 1)) (by omega)
          rw [(tf1_111 _ (by omega)).1, show 5 * (nd - 1) + (j - 5 * (nd - 1)) = j by omega] at q2
          exact q2 (q.trans hnB.symm), by rw [← tsd_111]; exact hc148, by omega⟩]
        exact ⟨hCI, hTD2, rfl, hFRL⟩), by rw [ht]; exact hP, hD⟩, hS.F ht⟩) hS.2.2 xd_Sh_acceptRequired_175
            · refine lv_iconst (v := (-1)) hx hb xd_Sh_acceptRequired_102 (by decide) ?_
              refine W.widen (k := 0) (n := 0) (Nat.le_of_ble_eq_true rfl) (Nat.le_of_ble_eq_true rfl) ?_
              exact W.iret (v := (-1)) hx hb hr (fun t ht hW => ⟨⟨(-1), (ad, E, RL), rfl, ⟨hCI, by rw [← lR_no (fun q => q.2.1 (by rw [(hrq.2 (by omega)).2.2]; exact hc105))]; exact hTD, rfl, FRL_rf⟩, by rw [ht]; exact hP, hD⟩, hS.F ht⟩) hS.2.2 xd_Sh_acceptRequired_103
      · refine lv_iconst (v := 1) hx hb xd_Sh_acceptRequired_58 (by decide) ?_
        refine lv_goto (tgt := 63) hx hb xd_Sh_acceptRequired_59 (by decide) ?_
        refine lv_iadd hx hb xd_Sh_acceptRequired_63 ?_
        refine xn_top (y := nI (3)) (nI_add 2 1) ?_
        refine lv_iload_n hx hb xd_Sh_acceptRequired_64 rfl (lv_at hl 0 rfl) ?_
        refine lv_if_eq (tgt := 72) hx hb xd_Sh_acceptRequired_65 (by decide) (fun hc172 => ?_) (fun hc172 => ?_)
        · refine lv_iconst (v := 0) hx hb xd_Sh_acceptRequired_72 (by decide) ?_
          refine lv_iadd hx hb xd_Sh_acceptRequired_73 ?_
          refine xn_top (y := nI (3)) (nI_add 3 0) ?_
          refine lv_istore hx hb xd_Sh_acceptRequired_74 hl (Nat.le_of_ble_eq_true rfl) rfl (fun ls hl => ?_)
          have hl : lv_has ls 7 [(4, .int (nI 3)), (3, .int io9), (2, .int it9), (1, .ref (ad 0 1)), (0, .ref (ad 0 5))] := hl
          have hfa : ((1 : Nat) = 1 ∧ 3 ≤ wl.length ∧ wS (g 0) wl 1 zTr) ∨ ((1 : Nat) = 0 ∧ ¬ (3 ≤ wl.length ∧ wS (g 0) wl 1 zTr)) := by
            rcases hit with ⟨q, q2⟩ | ⟨q, q2⟩
            · exact Or.inl ⟨rfl, q2⟩
            · exact absurd q hc28
          have hfb : ((0 : Nat) = 1 ∧ 3 ≤ wl.length ∧ wS (g 0) wl (wl.length - 2) zSt) ∨ ((0 : Nat) = 0 ∧ ¬ (3 ≤ wl.length ∧ wS (g 0) wl (wl.length - 2) zSt)) := by
            rcases hio with ⟨q, q2⟩ | ⟨q, q2⟩
            · exact absurd (q.symm.trans hc172) (by decide)
            · exact Or.inr ⟨rfl, q2⟩
          have hrq := rq_iff hfa hfb
          refine lv_aload_n hx hb xd_Sh_acceptRequired_76 rfl (lv_at hl 3 rfl) ?_
          refine lv_aload_n hx hb xd_Sh_acceptRequired_77 rfl (lv_at hl 3 rfl) ?_
          refine px_get (D := D) (ci := 1) (v := .int (nI (wl.length))) (C := xR_Li) (T := xT_Li) (N := 5) hx hb hT xi_Li hown hK.1 hP m_6 c_5 rfl 4 (by decide) (hT _ k5h_0) (fun _ h9 => h9) rfl xd_Sh_acceptRequired_78 ?_
          refine lv_iconst (v := 1) hx hb xd_Sh_acceptRequired_81 (by decide) ?_
          refine lv_isub hx hb xd_Sh_acceptRequired_82 ?_
          refine xn_top (y := nI (wl.length - 1)) (pk_sub (a := wl.length) (b := 1) (by omega)) ?_
          have hFc := px_free hD hS hA
          refine va_calli (va_runV (As := [.int (nI (wl.length - 1))]) (rest := []) ⟨hx, hb, hml, hown, hT⟩ (xc_Li_nameAtX l D kA H.size ad E RL g ml nd len lt wl cs (wl.length - 1) (by first | assumption | omega) (by first | assumption | omega) (by first | assumption | omega)) (cwV 1 hT (wT_V k5h_2 k5h_3 k5h_4 k5h_5 k5h_1) rfl rfl rfl (by decide +kernel) ⟨Nat.le_of_ble_eq_true rfl, Nat.le_of_ble_eq_true rfl⟩) (px_preV hK hP hD m_6 c_5 rfl) rfl rfl hl.1 rfl (lv_room (Nat.le_of_ble_eq_true rfl)) xd_Sh_acceptRequired_83 ⟨(Nat.le_of_ble_eq_true rfl), (Nat.le_of_ble_eq_true rfl)⟩) hS (fun q _ h => hFc q h) hFc (fun r173 u174 t H1 locs ht hvm hp175 hB hz1 hk1 hS => ?_)
          obtain ⟨hP1, hD1⟩ := hB
          rw [ht] at hP1
          have hD1 := hD1.weaken (fun _ _ _ h => hFc _ h)
          generalize H1 = H at hP1 hS ⊢
          have hP := hP1
          have hD := hD1
          have hP : va_P D xcl (rp ad E RL) H := hP
          have hD : va_D A (rp ad E RL) := hD
          have hp175 : r173 = wN (g 0) wl (wl.length - 1) := hp175
          subst hp175
          have hP : va_P D xcl (rp ad E RL) H := hP
          have hD : va_D A (rp ad E RL) := hD
          refine lv_istore hx hb xd_Sh_acceptRequired_86 hl (Nat.le_of_ble_eq_true rfl) rfl (fun ls hl => ?_)
          have hl : lv_has ls 7 [(5, .int (wN (g 0) wl (wl.length - 1))), (4, .int (nI 3)), (3, .int io9), (2, .int it9), (1, .ref (ad 0 1)), (0, .ref (ad 0 5))] := hl
          refine lv_aload_n hx hb xd_Sh_acceptRequired_88 rfl (lv_at hl 4 rfl) ?_
          refine px_get (D := D) (ci := 1) (v := .int (nI (wl.length))) (C := xR_Li) (T := xT_Li) (N := 5) hx hb hT xi_Li hown hK.1 hP m_6 c_5 rfl 4 (by decide) (hT _ k5h_0) (fun _ h9 => h9) rfl xd_Sh_acceptRequired_89 ?_
          refine lv_iload hx hb xd_Sh_acceptRequired_92 (lv_at hl 1 rfl) ?_
          refine xn_ne (a := wl.length) (b := 3) (tgt := 102) hx hb xd_Sh_acceptRequired_94 (by decide) (by omega) (by omega) (fun hc176 => ?_) (fun hc176 => ?_)
          · refine lv_iconst (v := (-1)) hx hb xd_Sh_acceptRequired_102 (by decide) ?_
            refine W.widen (k := 0) (n := 0) (Nat.le_of_ble_eq_true rfl) (Nat.le_of_ble_eq_true rfl) ?_
            exact W.iret (v := (-1)) hx hb hr (fun t ht hW => ⟨⟨(-1), (ad, E, RL), rfl, ⟨hCI, by rw [← lR_no (fun q => absurd (hrq.1.mp q.1) (by omega))]; exact hTD, rfl, FRL_rf⟩, by rw [ht]; exact hP, hD⟩, hS.F ht⟩) hS.2.2 xd_Sh_acceptRequired_103
          · refine lv_iload hx hb xd_Sh_acceptRequired_97 (lv_at hl 0 rfl) ?_
            refine lv_if_ne (tgt := 104) hx hb xd_Sh_acceptRequired_99 (by decide) (fun hc177 => ?_) (fun hc177 => ?_)
            · obtain ⟨hrT, hrO, hrB⟩ := hrq.2 (by omega)
              have hitb : it9 = bI (rqT (g 0) wl) := by
                rcases hit with ⟨q, _⟩ | ⟨q, _⟩
                · rw [q]; exact bI_1 (hrT.mpr rfl)
                · exact absurd q hc28
              have hiob : io9 = bI (rqO (g 0) wl) := by rw [hc172]; exact bI_0 (fun q => absurd (hrO.mp q) (by decide))
              have hnB : wN (g 0) wl (wl.length - 1) = wN (g 0) wl (rqB (g 0) wl) := by rw [hrB]
              refine lv_aload_n hx hb xd_Sh_acceptRequired_104 rfl (lv_at hl 5 rfl) ?_
              have hFc := px_free hD hS hA
              refine va_callq (va_runV (As := []) (rest := []) ⟨hx, hb, hml, hown, hT⟩ (xc_Sh_latestX l D kA H.size ad E RL ml nd len wl.length cs (by first | assumption | omega)) (cwV 0 hT (wT_V k5h_7 k5h_8 k5h_9 k5h_10 k5h_6) rfl rfl rfl (by decide +kernel) ⟨Nat.le_of_ble_eq_true rfl, Nat.le_of_ble_eq_true rfl⟩) (px_preV hK hP hD m_15 c_14 rfl) rfl rfl hl.1 rfl (lv_room (Nat.le_of_ble_eq_true rfl)) xd_Sh_acceptRequired_105 ⟨(Nat.le_of_ble_eq_true rfl), (Nat.le_of_ble_eq_true rfl)⟩) hS (fun q _ h => hFc q h) hFc (fun r178 u179 t H1 locs ht hvm hp180 hB hz1 hk1 hS => ?_)
              obtain ⟨hP1, hD1⟩ := hB
              rw [ht] at hP1
              have hD1 := hD1.weaken (fun _ _ _ h => hFc _ h)
              generalize H1 = H at hP1 hS ⊢
              have hP := hP1
              have hD := hD1
              have hP : va_P D xcl (rp ad E RL) H := hP
              have hD : va_D A (rp ad E RL) := hD
              rcases hp180 with ⟨rfl, z181⟩ | ⟨z182, rfl⟩
              · refine W.eq (g2 := F0 m 108 ls [.null]) rfl ?_
                refine lv_astoreN hx hb xd_Sh_acceptRequired_108 hl (Nat.le_of_ble_eq_true rfl) rfl (fun ls hl => ?_)
                have hl : lv_has ls 7 [(6, .null), (5, .int (wN (g 0) wl (wl.length - 1))), (4, .int (nI 3)), (3, .int io9), (2, .int it9), (1, .ref (ad 0 1)), (0, .ref (ad 0 5))] := hl
                refine lv_aloadN hx hb xd_Sh_acceptRequired_110 (lv_at hl 0 rfl) ?_
                refine lv_ifnonnullN hx hb xd_Sh_acceptRequired_112 ?_
                refine lv_bipush (v := (-2)) hx hb xd_Sh_acceptRequired_115 (by decide) ?_
                refine W.widen (k := 0) (n := 0) (Nat.le_of_ble_eq_true rfl) (Nat.le_of_ble_eq_true rfl) ?_
                exact W.iret (v := (-2)) hx hb hr (fun t ht hW => ⟨⟨(-2), (ad, E, RL), rfl, ⟨hCI, by rw [← lR_no (fun q => absurd q.2.2.1 (by omega))]; exact hTD, rfl, FRL_rf⟩, by rw [ht]; exact hP, hD⟩, hS.F ht⟩) hS.2.2 xd_Sh_acceptRequired_117
              · refine W.eq (g2 := F0 m 108 ls [.ref (ad (1 + (nd - 1)) 0)]) rfl ?_
                refine lv_astore hx hb xd_Sh_acceptRequired_108 hl (Nat.le_of_ble_eq_true rfl) rfl (fun ls hl => ?_)
                have hl : lv_has ls 7 [(6, .ref (ad (1 + (nd - 1)) 0)), (5, .int (wN (g 0) wl (wl.length - 1))), (4, .int (nI 3)), (3, .int io9), (2, .int it9), (1, .ref (ad 0 1)), (0, .ref (ad 0 5))] := hl
                refine lv_aload hx hb xd_Sh_acceptRequired_110 (lv_at hl 0 rfl) ?_
                refine lv_ifnonnull (tgt := 118) hx hb xd_Sh_acceptRequired_112 (by decide) ?_
                refine lv_aload hx hb xd_Sh_acceptRequired_118 (lv_at hl 0 rfl) ?_
                obtain ⟨hm_183, fd_183, nm_183, sd_183, k0_183, k1_183, k2_183, k3_183, f0_183, f1_183, f2_183, f3_183, fe_183, fo_183, tr_183, op_183, hk0_183, hk1_183, hk2_183, hk3_183, q0_183, q1_183, q2_183, q3_183, q4_183, q5_183, q6_183, q7_183, q8_183, q9_183, q10_183, q11_183, q12_183, hg_183⟩ := id (hDIs (nd - 1) (by omega))
                have c_184 : E (1 + (nd - 1)) 0 = .inr (7, [.int (nI ((nd - 1))), .int fd_183, .int nm_183, .ref (ad (1 + (nd - 1)) 1), .ref (ad (1 + (nd - 1)) 9), .ref (ad (1 + (nd - 1)) 10), .ref (ad (1 + (nd - 1)) 2), .ref (ad (1 + (nd - 1)) 11), .ref (ad (1 + (nd - 1)) 12), .ref (ad (1 + (nd - 1)) 3), .ref (ad (1 + (nd - 1)) 4), .int sd_183]) := q0_183
                have m_185 : (1 + (nd - 1), 0) ∈ RL := hm_183 0 (by omega)
                have c_186 : E (1 + (nd - 1)) 1 = .inr (8, [.ref (ad (1 + (nd - 1)) 5), .int (nI k0_183)]) := q1_183
                have m_187 : (1 + (nd - 1), 1) ∈ RL := hm_183 1 (by omega)
                have c_188 : E (1 + (nd - 1)) 2 = .inr (8, [.ref (ad (1 + (nd - 1)) 6), .int (nI k1_183)]) := q2_183
                have m_189 : (1 + (nd - 1), 2) ∈ RL := hm_183 2 (by omega)
                have c_190 : E (1 + (nd - 1)) 3 = .inr (8, [.ref (ad (1 + (nd - 1)) 7), .int (nI k2_183)]) := q3_183
                have m_191 : (1 + (nd - 1), 3) ∈ RL := hm_183 3 (by omega)
                have c_192 : E (1 + (nd - 1)) 4 = .inr (8, [.ref (ad (1 + (nd - 1)) 8), .int (nI k3_183)]) := q4_183
                have m_193 : (1 + (nd - 1), 4) ∈ RL := hm_183 4 (by omega)
                have c_194 : E (1 + (nd - 1)) 5 = .inl (kA 0, 6, .inl f0_183) := q5_183
                have m_195 : (1 + (nd - 1), 5) ∈ RL := hm_183 5 (by omega)
                have c_196 : E (1 + (nd - 1)) 6 = .inl (kA 0, 5, .inl f1_183) := q6_183
                have m_197 : (1 + (nd - 1), 6) ∈ RL := hm_183 6 (by omega)
                have c_198 : E (1 + (nd - 1)) 7 = .inl (kA 0, 3, .inl f2_183) := q7_183
                have m_199 : (1 + (nd - 1), 7) ∈ RL := hm_183 7 (by omega)
                have c_200 : E (1 + (nd - 1)) 8 = .inl (kA 0, 3, .inl f3_183) := q8_183
                have m_201 : (1 + (nd - 1), 8) ∈ RL := hm_183 8 (by omega)
                have c_202 : E (1 + (nd - 1)) 9 = .inl (kA 8, 6, .inr (.inr (.inr (.inr fe_183)))) := q9_183
                have m_203 : (1 + (nd - 1), 9) ∈ RL := hm_183 9 (by omega)
                have c_204 : E (1 + (nd - 1)) 10 = .inl (kA 8, 6, .inr (.inr (.inr (.inr fo_183)))) := q10_183
                have m_205 : (1 + (nd - 1), 10) ∈ RL := hm_183 10 (by omega)
                have c_206 : E (1 + (nd - 1)) 11 = .inl (kA 2, 5, .inl tr_183) := q11_183
                have m_207 : (1 + (nd - 1), 11) ∈ RL := hm_183 11 (by omega)
                have c_208 : E (1 + (nd - 1)) 12 = .inl (kA 2, 5, .inl op_183) := q12_183
                have m_209 : (1 + (nd - 1), 12) ∈ RL := hm_183 12 (by omega)
                have hg_183 : ∀ w9, w9 < k0_183 → fe_183 w9 = some (ad (1 + (nd - 1)) (20 + 3 * w9)) ∧ fo_183 w9 = some (ad (1 + (nd - 1)) (38 + 3 * w9)) ∧ GI kA (ad (1 + (nd - 1))) (E (1 + (nd - 1))) (fun o => (1 + (nd - 1), o) ∈ RL) (20 + 3 * w9) (21 + 3 * w9) (22 + 3 * w9) ∧ GI kA (ad (1 + (nd - 1))) (E (1 + (nd - 1))) (fun o => (1 + (nd - 1), o) ∈ RL) (38 + 3 * w9) (39 + 3 * w9) (40 + 3 * w9) := hg_183
                obtain ⟨hTT_183, tgr_183⟩ := TD_get hk0_183 hk1_183 hk2_183 hk3_183 c_184 c_186 c_188 c_190 c_192 c_194 c_196 c_198 c_200 c_206 c_208 (hTD (nd - 1) (by omega))
                obtain ⟨tfd_183, tnm_183, tsd_183, tk0_183, tf0_183, tk1_183, tf1_183, tk2_183, tk3_183⟩ := id hTT_183
                have ik0_183 : iN (g 5 (nd - 1)) = k0_183 := by rw [← tk0_183, iN_nI (by omega)]
                have ik1_183 : iN (g 12 (nd - 1)) = k1_183 := by rw [← tk1_183, iN_nI (by omega)]
                refine px_get (D := D) (ci := 7) (v := .int nm_183) (C := xR_Ds) (T := xT_Ds) (N := 12) hx hb hT xi_Ds hown hK.1 hP m_185 c_184 rfl 2 (by decide) (hT _ k5h_11) (fun _ h9 => h9) rfl xd_Sh_acceptRequired_120 ?_
                refine lv_iload hx hb xd_Sh_acceptRequired_123 (lv_at hl 1 rfl) ?_
                refine lv_icmp_eq (tgt := 141) hx hb xd_Sh_acceptRequired_125 (by decide) (fun hc210 => ?_) (fun hc210 => ?_)
                · refine lv_iconst (v := (-1)) hx hb xd_Sh_acceptRequired_141 (by decide) ?_
                  refine W.widen (k := 0) (n := 0) (Nat.le_of_ble_eq_true rfl) (Nat.le_of_ble_eq_true rfl) ?_
                  exact W.iret (v := (-1)) hx hb hr (fun t ht hW => ⟨⟨(-1), (ad, E, RL), rfl, ⟨hCI, by rw [← lR_no (fun q => q.2.2.2.1 (tnm_183.symm.trans (hc210.trans hnB)))]; exact hTD, rfl, FRL_rf⟩, by rw [ht]; exact hP, hD⟩, hS.F ht⟩) hS.2.2 xd_Sh_acceptRequired_142
                · refine lv_aload hx hb xd_Sh_acceptRequired_128 (lv_at hl 0 rfl) ?_
                  refine px_get (D := D) (ci := 7) (v := .ref (ad (1 + (nd - 1)) 2)) (C := xR_Ds) (T := xT_Ds) (N := 12) hx hb hT xi_Ds hown hK.1 hP m_185 c_184 rfl 6 (by decide) (hT _ k5h_12) (fun _ h9 => h9) rfl xd_Sh_acceptRequired_130 ?_
                  refine lv_iload hx hb xd_Sh_acceptRequired_133 (lv_at hl 1 rfl) ?_
                  have hFc := px_free hD hS hA
                  refine va_calli (va_runV (As := [.int (wN (g 0) wl (wl.length - 1))]) (rest := []) ⟨hx, hb, hml, hown, hT⟩ (xc_Na_holds l D kA H.size ad E RL (1 + (nd - 1)) 2 6 5 k1_183 f1_183 (wN (g 0) wl (wl.length - 1)) m_189 c_188 m_197 c_196 (by first | assumption | omega) (by first | assumption | omega)) (cwV 1 hT (wT_V k5h_14 k5h_15 k5h_16 k5h_17 k5h_13) rfl rfl rfl (by decide +kernel) ⟨Nat.le_of_ble_eq_true rfl, Nat.le_of_ble_eq_true rfl⟩) (px_preV hK hP hD m_189 c_188 rfl) rfl rfl hl.1 rfl (lv_room (Nat.le_of_ble_eq_true rfl)) xd_Sh_acceptRequired_135 ⟨(Nat.le_of_ble_eq_true rfl), (Nat.le_of_ble_eq_true rfl)⟩) hS (fun q _ h => hFc q h) hFc (fun r211 u212 t H1 locs ht hvm hp213 hB hz1 hk1 hS => ?_)
                  obtain ⟨hP1, hD1⟩ := hB
                  rw [ht] at hP1
                  have hD1 := hD1.weaken (fun _ _ _ h => hFc _ h)
                  generalize H1 = H at hP1 hS ⊢
                  have hP := hP1
                  have hD := hD1
                  have hP : va_P D xcl (rp ad E RL) H := hP
                  have hD : va_D A (rp ad E RL) := hD
                  rcases hp213 with ⟨rfl, z214, z215, z216⟩ | ⟨rfl, z217⟩
                  · refine W.eq (g2 := F0 m 138 ls [.int 1]) rfl ?_
                    refine lv_if_eq (tgt := 143) hx hb xd_Sh_acceptRequired_138 (by decide) (fun hc218 => absurd hc218 (by decide)) (fun _ => ?_)
                    refine lv_iconst (v := (-1)) hx hb xd_Sh_acceptRequired_141 (by decide) ?_
                    refine W.widen (k := 0) (n := 0) (Nat.le_of_ble_eq_true rfl) (Nat.le_of_ble_eq_true rfl) ?_
                    exact W.iret (v := (-1)) hx hb hr (fun t ht hW => ⟨⟨(-1), (ad, E, RL), rfl, ⟨hCI, by rw [← lR_no (fun q => q.2.2.2.2.1 (5 * (nd - 1) + z214) (by omega) (by omega) ((tf1_183 _ z215).1.symm.trans (z216.trans hnB)))]; exact hTD, rfl, FRL_rf⟩, by rw [ht]; exact hP, hD⟩, hS.F ht⟩) hS.2.2 xd_Sh_acceptRequired_142
                  · refine W.eq (g2 := F0 m 138 ls [.int 0]) rfl ?_
                    refine lv_if_eq (tgt := 143) hx hb xd_Sh_acceptRequired_138 (by decide) (fun _ => ?_) (fun hc219 => absurd (by decide) hc219)
                    refine lv_aload hx hb xd_Sh_acceptRequired_143 (lv_at hl 0 rfl) ?_
                    refine px_get (D := D) (ci := 7) (v := .int sd_183) (C := xR_Ds) (T := xT_Ds) (N := 12) hx hb hT xi_Ds hown hK.1 hP m_185 c_184 rfl 11 (by decide) (hT _ k5h_18) (fun _ h9 => h9) rfl xd_Sh_acceptRequired_145 ?_
                    refine lv_if_ne (tgt := 162) hx hb xd_Sh_acceptRequired_148 (by decide) (fun hc220 => ?_) (fun hc220 => ?_)
                    · refine lv_bipush (v := (-2)) hx hb xd_Sh_acceptRequired_162 (by decide) ?_
                      refine W.widen (k := 0) (n := 0) (Nat.le_of_ble_eq_true rfl) (Nat.le_of_ble_eq_true rfl) ?_
                      exact W.iret (v := (-2)) hx hb hr (fun t ht hW => ⟨⟨(-2), (ad, E, RL), rfl, ⟨hCI, by rw [← lR_no (fun q => hc220 (by rw [tsd_183]; exact q.2.2.2.2.2.1))]; exact hTD, rfl, FRL_rf⟩, by rw [ht]; exact hP, hD⟩, hS.F ht⟩) hS.2.2 xd_Sh_acceptRequired_164
                    · refine lv_aload hx hb xd_Sh_acceptRequired_151 (lv_at hl 0 rfl) ?_
                      refine px_get (D := D) (ci := 7) (v := .ref (ad (1 + (nd - 1)) 2)) (C := xR_Ds) (T := xT_Ds) (N := 12) hx hb hT xi_Ds hown hK.1 hP m_185 c_184 rfl 6 (by decide) (hT _ k5h_12) (fun _ h9 => h9) rfl xd_Sh_acceptRequired_153 ?_
                      have hFc := px_free hD hS hA
                      refine va_calli (va_runV (As := []) (rest := []) ⟨hx, hb, hml, hown, hT⟩ (xc_Na_isFull l D kA H.size ad E RL (1 + (nd - 1)) 2 6 5 k1_183 f1_183 m_189 c_188 m_197 c_196 (by first | assumption | omega) (by first | assumption | omega)) (cwV 0 hT (wT_V k5h_20 k5h_21 k5h_22 k5h_17 k5h_19) rfl rfl rfl (by decide +kernel) ⟨Nat.le_of_ble_eq_true rfl, Nat.le_of_ble_eq_true rfl⟩) (px_preV hK hP hD m_189 c_188 rfl) rfl rfl hl.1 rfl (lv_room (Nat.le_of_ble_eq_true rfl)) xd_Sh_acceptRequired_156 ⟨(Nat.le_of_ble_eq_true rfl), (Nat.le_of_ble_eq_true rfl)⟩) hS (fun q _ h => hFc q h) hFc (fun r221 u222 t H1 locs ht hvm hp223 hB hz1 hk1 hS => ?_)
                      obtain ⟨hP1, hD1⟩ := hB
                      rw [ht] at hP1
                      have hD1 := hD1.weaken (fun _ _ _ h => hFc _ h)
                      generalize H1 = H at hP1 hS ⊢
                      have hP := hP1
                      have hD := hD1
                      have hP : va_P D xcl (rp ad E RL) H := hP
                      have hD : va_D A (rp ad E RL) := hD
                      rcases hp223 with ⟨rfl, z224⟩ | ⟨rfl, z225⟩
                      · refine W.eq (g2 := F0 m 159 ls [.int 1]) rfl ?_
                        refine lv_if_eq (tgt := 165) hx hb xd_Sh_acceptRequired_159 (by decide) (fun hc226 => absurd hc226 (by decide)) (fun _ => ?_)
                        refine lv_bipush (v := (-2)) hx hb xd_Sh_acceptRequired_162 (by decide) ?_
                        refine W.widen (k := 0) (n := 0) (Nat.le_of_ble_eq_true rfl) (Nat.le_of_ble_eq_true rfl) ?_
                        exact W.iret (v := (-2)) hx hb hr (fun t ht hW => ⟨⟨(-2), (ad, E, RL), rfl, ⟨hCI, by rw [← lR_no (fun q => absurd q.2.2.2.2.2.2 (by have := z224; omega))]; exact hTD, rfl, FRL_rf⟩, by rw [ht]; exact hP, hD⟩, hS.F ht⟩) hS.2.2 xd_Sh_acceptRequired_164
                      · refine W.eq (g2 := F0 m 159 ls [.int 0]) rfl ?_
                        refine lv_if_eq (tgt := 165) hx hb xd_Sh_acceptRequired_159 (by decide) (fun _ => ?_) (fun hc227 => absurd (by decide) hc227)
                        refine lv_aload hx hb xd_Sh_acceptRequired_165 (lv_at hl 0 rfl) ?_
                        refine lv_iload hx hb xd_Sh_acceptRequired_167 (lv_at hl 1 rfl) ?_
                        refine lv_iload_n hx hb xd_Sh_acceptRequired_169 rfl (lv_at hl 4 rfl) ?_
                        refine lv_iload_n hx hb xd_Sh_acceptRequired_170 rfl (lv_at hl 3 rfl) ?_
                        have hFc := px_free hD hS hA
                        refine va_callv (va_runV (As := [.int (wN (g 0) wl (wl.length - 1)), .int it9, .int io9]) (rest := []) ⟨hx, hb, hml, hown, hT⟩ (xc_Ds_addRequiredX l D kA H.size ad E RL g (nd - 1) (wN (g 0) wl (wl.length - 1)) it9 io9 (hDIs (nd - 1) (by omega)) (hTD (nd - 1) (by omega)) (by have := z225; omega)) (cwV 3 hT (wT_V k5h_24 k5h_25 k5h_26 k5h_27 k5h_23) rfl rfl rfl (by decide +kernel) ⟨Nat.le_of_ble_eq_true rfl, Nat.le_of_ble_eq_true rfl⟩) (px_preV hK hP hD m_185 c_184 rfl) rfl rfl hl.1 rfl (lv_room (Nat.le_of_ble_eq_true rfl)) xd_Sh_acceptRequired_171 ⟨(Nat.le_of_ble_eq_true rfl), (Nat.le_of_ble_eq_true rfl)⟩) hS (fun q _ h => hFc q h) hFc (fun u229 t H1 locs ht hvm hp230 hB hz1 hk1 hS => ?_)
                        obtain ⟨hP1, hD1⟩ := hB
                        rw [ht] at hP1
                        have hD1 := hD1.weaken (fun _ _ _ h => hFc _ h)
                        generalize H1 = H at hP1 hS ⊢
                        have hP := hP1
                        have hD := hD1
                        obtain ⟨E231, rfl⟩ : ∃ z, z = u229 := ⟨_, rfl⟩
                        obtain ⟨hp233, p_232⟩ := hp230
                        have p_232 : (∀ b2 o2, ¬ (b2 = 1 + (nd - 1)) → E231 b2 o2 = E b2 o2) := p_232
                        have c_234 : E231 0 0 = .inr (0, [.ref (ad 0 1), .ref (ad 0 5), .ref (ad 0 7), .ref (ad 0 9), .int (nI ml), .int lf_1]) := (p_232 0 0 (by omega)).trans c_2
                        have c_235 : E231 0 1 = .inr (1, [.ref (ad 0 2), .ref (ad 0 3), .ref (ad 0 4), .int (nI len), .int (nI (wl.length))]) := (p_232 0 1 (by omega)).trans c_5
                        have c_236 : E231 0 2 = .inl (kA 1, 40, .inl tx_4) := (p_232 0 2 (by omega)).trans c_7
                        have c_237 : E231 0 3 = .inl (kA 0, 20, .inl fb_4) := (p_232 0 3 (by omega)).trans c_9
                        have c_238 : E231 0 4 = .inl (kA 0, 20, .inl fe_4) := (p_232 0 4 (by omega)).trans c_11
                        have c_239 : E231 0 5 = .inr (2, [.ref (ad 0 6), .int (nI nd)]) := (p_232 0 5 (by omega)).trans c_14
                        have c_240 : E231 0 6 = .inl (kA 4, 12, .inr (.inr (.inr (.inr fd_13)))) := (p_232 0 6 (by omega)).trans c_16
                        have c_241 : E231 0 7 = .inr (3, [.ref (ad 0 5), .ref (ad 0 8), .int (nI cs), .int cf_18, pv_18]) := (p_232 0 7 (by omega)).trans c_19
                        have c_242 : E231 0 8 = .inl (kA 4, 12, .inr (.inr (.inr (.inr fc_18)))) := (p_232 0 8 (by omega)).trans c_21
                        have c_243 : E231 0 9 = .inl (kA 5, 5, .inr (.inr (.inr (.inr fl_23)))) := (p_232 0 9 (by omega)).trans c_24
                        have hP : va_P D xcl (rp ad E231 RL) H := hP
                        have hD : va_D A (rp ad E231 RL) := hD
                        obtain ⟨hDI9, hTD9⟩ := hp233
                        have hTD2 : TDs (rqU g (nd - 1) (wN (g 0) wl (wl.length - 1)) (vp_nar .boolean it9) (vp_nar .boolean io9)) E231 nd := TDs_upd (x := nd - 1) hDIs (fun d9 hd9 hx9 => fun2 fun o9 => by show E231 (1 + d9) o9 = _; rw [p_232 (1 + d9) o9 (by omega)]) (fun d9 hd9 hx9 => AG_R (by omega) hx9) hTD9 hTD
                        have hFRL : FRL ml nd ad ad E E231 := ⟨fun n9 hn9 => ⟨fun2 fun o9 => by show E231 (20 + n9) o9 = _; rw [p_232 (20 + n9) o9 (by omega)], fun2 fun o9 => rfl⟩, fun d9 hd9 => rfl, by show E231 0 0 = _; rw [p_232 0 0 (by omega)]⟩
                        have hCI : CI kA ad E231 RL ml nd len wl.length cs := ⟨hmB, ⟨lf_1, c_234⟩, ⟨tx_4, fb_4, fe_4, (by omega), (by omega), c_235, c_236, c_237, c_238, hws_4⟩, ⟨fd_13, (by omega), c_239, c_240, hds_13⟩, ⟨cf_18, pv_18, fc_18, (by omega), hpv_18, c_241, c_242, hfc_18⟩, ⟨fl_23, (by omega), c_243, hla_23⟩, (DIs_set (x := nd - 1) (fun d9 hd9 hx9 => fun2 fun o9 => by show E231 (1 + d9) o9 = _; rw [p_232 (1 + d9) o9 (by omega)]) (fun _ _ _ => rfl) (fun _ h => h) hDI9 hDIs), (LIs_same (Nat.le_refl _) (fun n9 hn9 => fun2 fun o9 => by show E231 (20 + n9) o9 = _; rw [p_232 (20 + n9) o9 (by omega)]) (fun _ _ => rfl) (fun _ _ => rfl) (fun _ h9 => h9) hLIs)⟩
                        obtain ⟨hmB, hDk, hLi, hSh, hCh, hLa, hDIs, hLIs⟩ := id hCI
                        refine lv_iconst (v := 2) hx hb xd_Sh_acceptRequired_174 (by decide) ?_
                        refine W.widen (k := 0) (n := 0) (Nat.le_of_ble_eq_true rfl) (Nat.le_of_ble_eq_true rfl) ?_
                        exact W.iret (v := 2) hx hb hr (fun t ht hW => ⟨⟨2, (ad, E231, RL), rfl, (by
        rw [lR_y hnB hitb hiob ⟨by rw [hrB]; omega, fun q => hc177 (hnB.trans q), by omega, fun q => hc210 (tnm_183.trans (q.trans hnB.symm)), fun j a9 b9 q => by
          have q2 := z217 (j - 5 * (nd - 1)) (by omega)
          rw [(tf1_183 _ (by omega)).1, show 5 * (nd - 1) + (j - 5 * (nd - 1)) = j by omega] at q2
          exact q2 (q.trans hnB.symm), by rw [← tsd_183]; exact hc220, by omega⟩]
        exact ⟨hCI, hTD2, rfl, hFRL⟩), by rw [ht]; exact hP, hD⟩, hS.F ht⟩) hS.2.2 xd_Sh_acceptRequired_175
            · refine lv_iconst (v := (-1)) hx hb xd_Sh_acceptRequired_102 (by decide) ?_
              refine W.widen (k := 0) (n := 0) (Nat.le_of_ble_eq_true rfl) (Nat.le_of_ble_eq_true rfl) ?_
              exact W.iret (v := (-1)) hx hb hr (fun t ht hW => ⟨⟨(-1), (ad, E, RL), rfl, ⟨hCI, by rw [← lR_no (fun q => q.2.1 (by rw [(hrq.2 (by omega)).2.2]; exact hc177))]; exact hTD, rfl, FRL_rf⟩, by rw [ht]; exact hP, hD⟩, hS.F ht⟩) hS.2.2 xd_Sh_acceptRequired_103
        · refine lv_iconst (v := 1) hx hb xd_Sh_acceptRequired_68 (by decide) ?_
          refine lv_goto (tgt := 73) hx hb xd_Sh_acceptRequired_69 (by decide) ?_
          refine lv_iadd hx hb xd_Sh_acceptRequired_73 ?_
          refine xn_top (y := nI (4)) (nI_add 3 1) ?_
          refine lv_istore hx hb xd_Sh_acceptRequired_74 hl (Nat.le_of_ble_eq_true rfl) rfl (fun ls hl => ?_)
          have hl : lv_has ls 7 [(4, .int (nI 4)), (3, .int io9), (2, .int it9), (1, .ref (ad 0 1)), (0, .ref (ad 0 5))] := hl
          have hfa : ((1 : Nat) = 1 ∧ 3 ≤ wl.length ∧ wS (g 0) wl 1 zTr) ∨ ((1 : Nat) = 0 ∧ ¬ (3 ≤ wl.length ∧ wS (g 0) wl 1 zTr)) := by
            rcases hit with ⟨q, q2⟩ | ⟨q, q2⟩
            · exact Or.inl ⟨rfl, q2⟩
            · exact absurd q hc28
          have hfb : ((1 : Nat) = 1 ∧ 3 ≤ wl.length ∧ wS (g 0) wl (wl.length - 2) zSt) ∨ ((1 : Nat) = 0 ∧ ¬ (3 ≤ wl.length ∧ wS (g 0) wl (wl.length - 2) zSt)) := by
            rcases hio with ⟨q, q2⟩ | ⟨q, q2⟩
            · exact Or.inl ⟨rfl, q2⟩
            · exact absurd q hc172
          have hrq := rq_iff hfa hfb
          refine lv_aload_n hx hb xd_Sh_acceptRequired_76 rfl (lv_at hl 3 rfl) ?_
          refine lv_aload_n hx hb xd_Sh_acceptRequired_77 rfl (lv_at hl 3 rfl) ?_
          refine px_get (D := D) (ci := 1) (v := .int (nI (wl.length))) (C := xR_Li) (T := xT_Li) (N := 5) hx hb hT xi_Li hown hK.1 hP m_6 c_5 rfl 4 (by decide) (hT _ k5h_0) (fun _ h9 => h9) rfl xd_Sh_acceptRequired_78 ?_
          refine lv_iconst (v := 1) hx hb xd_Sh_acceptRequired_81 (by decide) ?_
          refine lv_isub hx hb xd_Sh_acceptRequired_82 ?_
          refine xn_top (y := nI (wl.length - 1)) (pk_sub (a := wl.length) (b := 1) (by omega)) ?_
          have hFc := px_free hD hS hA
          refine va_calli (va_runV (As := [.int (nI (wl.length - 1))]) (rest := []) ⟨hx, hb, hml, hown, hT⟩ (xc_Li_nameAtX l D kA H.size ad E RL g ml nd len lt wl cs (wl.length - 1) (by first | assumption | omega) (by first | assumption | omega) (by first | assumption | omega)) (cwV 1 hT (wT_V k5h_2 k5h_3 k5h_4 k5h_5 k5h_1) rfl rfl rfl (by decide +kernel) ⟨Nat.le_of_ble_eq_true rfl, Nat.le_of_ble_eq_true rfl⟩) (px_preV hK hP hD m_6 c_5 rfl) rfl rfl hl.1 rfl (lv_room (Nat.le_of_ble_eq_true rfl)) xd_Sh_acceptRequired_83 ⟨(Nat.le_of_ble_eq_true rfl), (Nat.le_of_ble_eq_true rfl)⟩) hS (fun q _ h => hFc q h) hFc (fun r244 u245 t H1 locs ht hvm hp246 hB hz1 hk1 hS => ?_)
          obtain ⟨hP1, hD1⟩ := hB
          rw [ht] at hP1
          have hD1 := hD1.weaken (fun _ _ _ h => hFc _ h)
          generalize H1 = H at hP1 hS ⊢
          have hP := hP1
          have hD := hD1
          have hP : va_P D xcl (rp ad E RL) H := hP
          have hD : va_D A (rp ad E RL) := hD
          have hp246 : r244 = wN (g 0) wl (wl.length - 1) := hp246
          subst hp246
          have hP : va_P D xcl (rp ad E RL) H := hP
          have hD : va_D A (rp ad E RL) := hD
          refine lv_istore hx hb xd_Sh_acceptRequired_86 hl (Nat.le_of_ble_eq_true rfl) rfl (fun ls hl => ?_)
          have hl : lv_has ls 7 [(5, .int (wN (g 0) wl (wl.length - 1))), (4, .int (nI 4)), (3, .int io9), (2, .int it9), (1, .ref (ad 0 1)), (0, .ref (ad 0 5))] := hl
          refine lv_aload_n hx hb xd_Sh_acceptRequired_88 rfl (lv_at hl 4 rfl) ?_
          refine px_get (D := D) (ci := 1) (v := .int (nI (wl.length))) (C := xR_Li) (T := xT_Li) (N := 5) hx hb hT xi_Li hown hK.1 hP m_6 c_5 rfl 4 (by decide) (hT _ k5h_0) (fun _ h9 => h9) rfl xd_Sh_acceptRequired_89 ?_
          refine lv_iload hx hb xd_Sh_acceptRequired_92 (lv_at hl 1 rfl) ?_
          refine xn_ne (a := wl.length) (b := 4) (tgt := 102) hx hb xd_Sh_acceptRequired_94 (by decide) (by omega) (by omega) (fun hc247 => ?_) (fun hc247 => ?_)
          · refine lv_iconst (v := (-1)) hx hb xd_Sh_acceptRequired_102 (by decide) ?_
            refine W.widen (k := 0) (n := 0) (Nat.le_of_ble_eq_true rfl) (Nat.le_of_ble_eq_true rfl) ?_
            exact W.iret (v := (-1)) hx hb hr (fun t ht hW => ⟨⟨(-1), (ad, E, RL), rfl, ⟨hCI, by rw [← lR_no (fun q => absurd (hrq.1.mp q.1) (by omega))]; exact hTD, rfl, FRL_rf⟩, by rw [ht]; exact hP, hD⟩, hS.F ht⟩) hS.2.2 xd_Sh_acceptRequired_103
          · refine lv_iload hx hb xd_Sh_acceptRequired_97 (lv_at hl 0 rfl) ?_
            refine lv_if_ne (tgt := 104) hx hb xd_Sh_acceptRequired_99 (by decide) (fun hc248 => ?_) (fun hc248 => ?_)
            · obtain ⟨hrT, hrO, hrB⟩ := hrq.2 (by omega)
              have hitb : it9 = bI (rqT (g 0) wl) := by
                rcases hit with ⟨q, _⟩ | ⟨q, _⟩
                · rw [q]; exact bI_1 (hrT.mpr rfl)
                · exact absurd q hc28
              have hiob : io9 = bI (rqO (g 0) wl) := by
                rcases hio with ⟨q, _⟩ | ⟨q, _⟩
                · rw [q]; exact bI_1 (hrO.mpr rfl)
                · exact absurd q hc172
              have hnB : wN (g 0) wl (wl.length - 1) = wN (g 0) wl (rqB (g 0) wl) := by rw [hrB]
              refine lv_aload_n hx hb xd_Sh_acceptRequired_104 rfl (lv_at hl 5 rfl) ?_
              have hFc := px_free hD hS hA
              refine va_callq (va_runV (As := []) (rest := []) ⟨hx, hb, hml, hown, hT⟩ (xc_Sh_latestX l D kA H.size ad E RL ml nd len wl.length cs (by first | assumption | omega)) (cwV 0 hT (wT_V k5h_7 k5h_8 k5h_9 k5h_10 k5h_6) rfl rfl rfl (by decide +kernel) ⟨Nat.le_of_ble_eq_true rfl, Nat.le_of_ble_eq_true rfl⟩) (px_preV hK hP hD m_15 c_14 rfl) rfl rfl hl.1 rfl (lv_room (Nat.le_of_ble_eq_true rfl)) xd_Sh_acceptRequired_105 ⟨(Nat.le_of_ble_eq_true rfl), (Nat.le_of_ble_eq_true rfl)⟩) hS (fun q _ h => hFc q h) hFc (fun r249 u250 t H1 locs ht hvm hp251 hB hz1 hk1 hS => ?_)
              obtain ⟨hP1, hD1⟩ := hB
              rw [ht] at hP1
              have hD1 := hD1.weaken (fun _ _ _ h => hFc _ h)
              generalize H1 = H at hP1 hS ⊢
              have hP := hP1
              have hD := hD1
              have hP : va_P D xcl (rp ad E RL) H := hP
              have hD : va_D A (rp ad E RL) := hD
              rcases hp251 with ⟨rfl, z252⟩ | ⟨z253, rfl⟩
              · refine W.eq (g2 := F0 m 108 ls [.null]) rfl ?_
                refine lv_astoreN hx hb xd_Sh_acceptRequired_108 hl (Nat.le_of_ble_eq_true rfl) rfl (fun ls hl => ?_)
                have hl : lv_has ls 7 [(6, .null), (5, .int (wN (g 0) wl (wl.length - 1))), (4, .int (nI 4)), (3, .int io9), (2, .int it9), (1, .ref (ad 0 1)), (0, .ref (ad 0 5))] := hl
                refine lv_aloadN hx hb xd_Sh_acceptRequired_110 (lv_at hl 0 rfl) ?_
                refine lv_ifnonnullN hx hb xd_Sh_acceptRequired_112 ?_
                refine lv_bipush (v := (-2)) hx hb xd_Sh_acceptRequired_115 (by decide) ?_
                refine W.widen (k := 0) (n := 0) (Nat.le_of_ble_eq_true rfl) (Nat.le_of_ble_eq_true rfl) ?_
                exact W.iret (v := (-2)) hx hb hr (fun t ht hW => ⟨⟨(-2), (ad, E, RL), rfl, ⟨hCI, by rw [← lR_no (fun q => absurd q.2.2.1 (by omega))]; exact hTD, rfl, FRL_rf⟩, by rw [ht]; exact hP, hD⟩, hS.F ht⟩) hS.2.2 xd_Sh_acceptRequired_117
              · refine W.eq (g2 := F0 m 108 ls [.ref (ad (1 + (nd - 1)) 0)]) rfl ?_
                refine lv_astore hx hb xd_Sh_acceptRequired_108 hl (Nat.le_of_ble_eq_true rfl) rfl (fun ls hl => ?_)
                have hl : lv_has ls 7 [(6, .ref (ad (1 + (nd - 1)) 0)), (5, .int (wN (g 0) wl (wl.length - 1))), (4, .int (nI 4)), (3, .int io9), (2, .int it9), (1, .ref (ad 0 1)), (0, .ref (ad 0 5))] := hl
                refine lv_aload hx hb xd_Sh_acceptRequired_110 (lv_at hl 0 rfl) ?_
                refine lv_ifnonnull (tgt := 118) hx hb xd_Sh_acceptRequired_112 (by decide) ?_
                refine lv_aload hx hb xd_Sh_acceptRequired_118 (lv_at hl 0 rfl) ?_
                obtain ⟨hm_254, fd_254, nm_254, sd_254, k0_254, k1_254, k2_254, k3_254, f0_254, f1_254, f2_254, f3_254, fe_254, fo_254, tr_254, op_254, hk0_254, hk1_254, hk2_254, hk3_254, q0_254, q1_254, q2_254, q3_254, q4_254, q5_254, q6_254, q7_254, q8_254, q9_254, q10_254, q11_254, q12_254, hg_254⟩ := id (hDIs (nd - 1) (by omega))
                have c_255 : E (1 + (nd - 1)) 0 = .inr (7, [.int (nI ((nd - 1))), .int fd_254, .int nm_254, .ref (ad (1 + (nd - 1)) 1), .ref (ad (1 + (nd - 1)) 9), .ref (ad (1 + (nd - 1)) 10), .ref (ad (1 + (nd - 1)) 2), .ref (ad (1 + (nd - 1)) 11), .ref (ad (1 + (nd - 1)) 12), .ref (ad (1 + (nd - 1)) 3), .ref (ad (1 + (nd - 1)) 4), .int sd_254]) := q0_254
                have m_256 : (1 + (nd - 1), 0) ∈ RL := hm_254 0 (by omega)
                have c_257 : E (1 + (nd - 1)) 1 = .inr (8, [.ref (ad (1 + (nd - 1)) 5), .int (nI k0_254)]) := q1_254
                have m_258 : (1 + (nd - 1), 1) ∈ RL := hm_254 1 (by omega)
                have c_259 : E (1 + (nd - 1)) 2 = .inr (8, [.ref (ad (1 + (nd - 1)) 6), .int (nI k1_254)]) := q2_254
                have m_260 : (1 + (nd - 1), 2) ∈ RL := hm_254 2 (by omega)
                have c_261 : E (1 + (nd - 1)) 3 = .inr (8, [.ref (ad (1 + (nd - 1)) 7), .int (nI k2_254)]) := q3_254
                have m_262 : (1 + (nd - 1), 3) ∈ RL := hm_254 3 (by omega)
                have c_263 : E (1 + (nd - 1)) 4 = .inr (8, [.ref (ad (1 + (nd - 1)) 8), .int (nI k3_254)]) := q4_254
                have m_264 : (1 + (nd - 1), 4) ∈ RL := hm_254 4 (by omega)
                have c_265 : E (1 + (nd - 1)) 5 = .inl (kA 0, 6, .inl f0_254) := q5_254
                have m_266 : (1 + (nd - 1), 5) ∈ RL := hm_254 5 (by omega)
                have c_267 : E (1 + (nd - 1)) 6 = .inl (kA 0, 5, .inl f1_254) := q6_254
                have m_268 : (1 + (nd - 1), 6) ∈ RL := hm_254 6 (by omega)
                have c_269 : E (1 + (nd - 1)) 7 = .inl (kA 0, 3, .inl f2_254) := q7_254
                have m_270 : (1 + (nd - 1), 7) ∈ RL := hm_254 7 (by omega)
                have c_271 : E (1 + (nd - 1)) 8 = .inl (kA 0, 3, .inl f3_254) := q8_254
                have m_272 : (1 + (nd - 1), 8) ∈ RL := hm_254 8 (by omega)
                have c_273 : E (1 + (nd - 1)) 9 = .inl (kA 8, 6, .inr (.inr (.inr (.inr fe_254)))) := q9_254
                have m_274 : (1 + (nd - 1), 9) ∈ RL := hm_254 9 (by omega)
                have c_275 : E (1 + (nd - 1)) 10 = .inl (kA 8, 6, .inr (.inr (.inr (.inr fo_254)))) := q10_254
                have m_276 : (1 + (nd - 1), 10) ∈ RL := hm_254 10 (by omega)
                have c_277 : E (1 + (nd - 1)) 11 = .inl (kA 2, 5, .inl tr_254) := q11_254
                have m_278 : (1 + (nd - 1), 11) ∈ RL := hm_254 11 (by omega)
                have c_279 : E (1 + (nd - 1)) 12 = .inl (kA 2, 5, .inl op_254) := q12_254
                have m_280 : (1 + (nd - 1), 12) ∈ RL := hm_254 12 (by omega)
                have hg_254 : ∀ w9, w9 < k0_254 → fe_254 w9 = some (ad (1 + (nd - 1)) (20 + 3 * w9)) ∧ fo_254 w9 = some (ad (1 + (nd - 1)) (38 + 3 * w9)) ∧ GI kA (ad (1 + (nd - 1))) (E (1 + (nd - 1))) (fun o => (1 + (nd - 1), o) ∈ RL) (20 + 3 * w9) (21 + 3 * w9) (22 + 3 * w9) ∧ GI kA (ad (1 + (nd - 1))) (E (1 + (nd - 1))) (fun o => (1 + (nd - 1), o) ∈ RL) (38 + 3 * w9) (39 + 3 * w9) (40 + 3 * w9) := hg_254
                obtain ⟨hTT_254, tgr_254⟩ := TD_get hk0_254 hk1_254 hk2_254 hk3_254 c_255 c_257 c_259 c_261 c_263 c_265 c_267 c_269 c_271 c_277 c_279 (hTD (nd - 1) (by omega))
                obtain ⟨tfd_254, tnm_254, tsd_254, tk0_254, tf0_254, tk1_254, tf1_254, tk2_254, tk3_254⟩ := id hTT_254
                have ik0_254 : iN (g 5 (nd - 1)) = k0_254 := by rw [← tk0_254, iN_nI (by omega)]
                have ik1_254 : iN (g 12 (nd - 1)) = k1_254 := by rw [← tk1_254, iN_nI (by omega)]
                refine px_get (D := D) (ci := 7) (v := .int nm_254) (C := xR_Ds) (T := xT_Ds) (N := 12) hx hb hT xi_Ds hown hK.1 hP m_256 c_255 rfl 2 (by decide) (hT _ k5h_11) (fun _ h9 => h9) rfl xd_Sh_acceptRequired_120 ?_
                refine lv_iload hx hb xd_Sh_acceptRequired_123 (lv_at hl 1 rfl) ?_
                refine lv_icmp_eq (tgt := 141) hx hb xd_Sh_acceptRequired_125 (by decide) (fun hc281 => ?_) (fun hc281 => ?_)
                · refine lv_iconst (v := (-1)) hx hb xd_Sh_acceptRequired_141 (by decide) ?_
                  refine W.widen (k := 0) (n := 0) (Nat.le_of_ble_eq_true rfl) (Nat.le_of_ble_eq_true rfl) ?_
                  exact W.iret (v := (-1)) hx hb hr (fun t ht hW => ⟨⟨(-1), (ad, E, RL), rfl, ⟨hCI, by rw [← lR_no (fun q => q.2.2.2.1 (tnm_254.symm.trans (hc281.trans hnB)))]; exact hTD, rfl, FRL_rf⟩, by rw [ht]; exact hP, hD⟩, hS.F ht⟩) hS.2.2 xd_Sh_acceptRequired_142
                · refine lv_aload hx hb xd_Sh_acceptRequired_128 (lv_at hl 0 rfl) ?_
                  refine px_get (D := D) (ci := 7) (v := .ref (ad (1 + (nd - 1)) 2)) (C := xR_Ds) (T := xT_Ds) (N := 12) hx hb hT xi_Ds hown hK.1 hP m_256 c_255 rfl 6 (by decide) (hT _ k5h_12) (fun _ h9 => h9) rfl xd_Sh_acceptRequired_130 ?_
                  refine lv_iload hx hb xd_Sh_acceptRequired_133 (lv_at hl 1 rfl) ?_
                  have hFc := px_free hD hS hA
                  refine va_calli (va_runV (As := [.int (wN (g 0) wl (wl.length - 1))]) (rest := []) ⟨hx, hb, hml, hown, hT⟩ (xc_Na_holds l D kA H.size ad E RL (1 + (nd - 1)) 2 6 5 k1_254 f1_254 (wN (g 0) wl (wl.length - 1)) m_260 c_259 m_268 c_267 (by first | assumption | omega) (by first | assumption | omega)) (cwV 1 hT (wT_V k5h_14 k5h_15 k5h_16 k5h_17 k5h_13) rfl rfl rfl (by decide +kernel) ⟨Nat.le_of_ble_eq_true rfl, Nat.le_of_ble_eq_true rfl⟩) (px_preV hK hP hD m_260 c_259 rfl) rfl rfl hl.1 rfl (lv_room (Nat.le_of_ble_eq_true rfl)) xd_Sh_acceptRequired_135 ⟨(Nat.le_of_ble_eq_true rfl), (Nat.le_of_ble_eq_true rfl)⟩) hS (fun q _ h => hFc q h) hFc (fun r282 u283 t H1 locs ht hvm hp284 hB hz1 hk1 hS => ?_)
                  obtain ⟨hP1, hD1⟩ := hB
                  rw [ht] at hP1
                  have hD1 := hD1.weaken (fun _ _ _ h => hFc _ h)
                  generalize H1 = H at hP1 hS ⊢
                  have hP := hP1
                  have hD := hD1
                  have hP : va_P D xcl (rp ad E RL) H := hP
                  have hD : va_D A (rp ad E RL) := hD
                  rcases hp284 with ⟨rfl, z285, z286, z287⟩ | ⟨rfl, z288⟩
                  · refine W.eq (g2 := F0 m 138 ls [.int 1]) rfl ?_
                    refine lv_if_eq (tgt := 143) hx hb xd_Sh_acceptRequired_138 (by decide) (fun hc289 => absurd hc289 (by decide)) (fun _ => ?_)
                    refine lv_iconst (v := (-1)) hx hb xd_Sh_acceptRequired_141 (by decide) ?_
                    refine W.widen (k := 0) (n := 0) (Nat.le_of_ble_eq_true rfl) (Nat.le_of_ble_eq_true rfl) ?_
                    exact W.iret (v := (-1)) hx hb hr (fun t ht hW => ⟨⟨(-1), (ad, E, RL), rfl, ⟨hCI, by rw [← lR_no (fun q => q.2.2.2.2.1 (5 * (nd - 1) + z285) (by omega) (by omega) ((tf1_254 _ z286).1.symm.trans (z287.trans hnB)))]; exact hTD, rfl, FRL_rf⟩, by rw [ht]; exact hP, hD⟩, hS.F ht⟩) hS.2.2 xd_Sh_acceptRequired_142
                  · refine W.eq (g2 := F0 m 138 ls [.int 0]) rfl ?_
                    refine lv_if_eq (tgt := 143) hx hb xd_Sh_acceptRequired_138 (by decide) (fun _ => ?_) (fun hc290 => absurd (by decide) hc290)
                    refine lv_aload hx hb xd_Sh_acceptRequired_143 (lv_at hl 0 rfl) ?_
                    refine px_get (D := D) (ci := 7) (v := .int sd_254) (C := xR_Ds) (T := xT_Ds) (N := 12) hx hb hT xi_Ds hown hK.1 hP m_256 c_255 rfl 11 (by decide) (hT _ k5h_18) (fun _ h9 => h9) rfl xd_Sh_acceptRequired_145 ?_
                    refine lv_if_ne (tgt := 162) hx hb xd_Sh_acceptRequired_148 (by decide) (fun hc291 => ?_) (fun hc291 => ?_)
                    · refine lv_bipush (v := (-2)) hx hb xd_Sh_acceptRequired_162 (by decide) ?_
                      refine W.widen (k := 0) (n := 0) (Nat.le_of_ble_eq_true rfl) (Nat.le_of_ble_eq_true rfl) ?_
                      exact W.iret (v := (-2)) hx hb hr (fun t ht hW => ⟨⟨(-2), (ad, E, RL), rfl, ⟨hCI, by rw [← lR_no (fun q => hc291 (by rw [tsd_254]; exact q.2.2.2.2.2.1))]; exact hTD, rfl, FRL_rf⟩, by rw [ht]; exact hP, hD⟩, hS.F ht⟩) hS.2.2 xd_Sh_acceptRequired_164
                    · refine lv_aload hx hb xd_Sh_acceptRequired_151 (lv_at hl 0 rfl) ?_
                      refine px_get (D := D) (ci := 7) (v := .ref (ad (1 + (nd - 1)) 2)) (C := xR_Ds) (T := xT_Ds) (N := 12) hx hb hT xi_Ds hown hK.1 hP m_256 c_255 rfl 6 (by decide) (hT _ k5h_12) (fun _ h9 => h9) rfl xd_Sh_acceptRequired_153 ?_
                      have hFc := px_free hD hS hA
                      refine va_calli (va_runV (As := []) (rest := []) ⟨hx, hb, hml, hown, hT⟩ (xc_Na_isFull l D kA H.size ad E RL (1 + (nd - 1)) 2 6 5 k1_254 f1_254 m_260 c_259 m_268 c_267 (by first | assumption | omega) (by first | assumption | omega)) (cwV 0 hT (wT_V k5h_20 k5h_21 k5h_22 k5h_17 k5h_19) rfl rfl rfl (by decide +kernel) ⟨Nat.le_of_ble_eq_true rfl, Nat.le_of_ble_eq_true rfl⟩) (px_preV hK hP hD m_260 c_259 rfl) rfl rfl hl.1 rfl (lv_room (Nat.le_of_ble_eq_true rfl)) xd_Sh_acceptRequired_156 ⟨(Nat.le_of_ble_eq_true rfl), (Nat.le_of_ble_eq_true rfl)⟩) hS (fun q _ h => hFc q h) hFc (fun r292 u293 t H1 locs ht hvm hp294 hB hz1 hk1 hS => ?_)
                      obtain ⟨hP1, hD1⟩ := hB
                      rw [ht] at hP1
                      have hD1 := hD1.weaken (fun _ _ _ h => hFc _ h)
                      generalize H1 = H at hP1 hS ⊢
                      have hP := hP1
                      have hD := hD1
                      have hP : va_P D xcl (rp ad E RL) H := hP
                      have hD : va_D A (rp ad E RL) := hD
                      rcases hp294 with ⟨rfl, z295⟩ | ⟨rfl, z296⟩
                      · refine W.eq (g2 := F0 m 159 ls [.int 1]) rfl ?_
                        refine lv_if_eq (tgt := 165) hx hb xd_Sh_acceptRequired_159 (by decide) (fun hc297 => absurd hc297 (by decide)) (fun _ => ?_)
                        refine lv_bipush (v := (-2)) hx hb xd_Sh_acceptRequired_162 (by decide) ?_
                        refine W.widen (k := 0) (n := 0) (Nat.le_of_ble_eq_true rfl) (Nat.le_of_ble_eq_true rfl) ?_
                        exact W.iret (v := (-2)) hx hb hr (fun t ht hW => ⟨⟨(-2), (ad, E, RL), rfl, ⟨hCI, by rw [← lR_no (fun q => absurd q.2.2.2.2.2.2 (by have := z295; omega))]; exact hTD, rfl, FRL_rf⟩, by rw [ht]; exact hP, hD⟩, hS.F ht⟩) hS.2.2 xd_Sh_acceptRequired_164
                      · refine W.eq (g2 := F0 m 159 ls [.int 0]) rfl ?_
                        refine lv_if_eq (tgt := 165) hx hb xd_Sh_acceptRequired_159 (by decide) (fun _ => ?_) (fun hc298 => absurd (by decide) hc298)
                        refine lv_aload hx hb xd_Sh_acceptRequired_165 (lv_at hl 0 rfl) ?_
                        refine lv_iload hx hb xd_Sh_acceptRequired_167 (lv_at hl 1 rfl) ?_
                        refine lv_iload_n hx hb xd_Sh_acceptRequired_169 rfl (lv_at hl 4 rfl) ?_
                        refine lv_iload_n hx hb xd_Sh_acceptRequired_170 rfl (lv_at hl 3 rfl) ?_
                        have hFc := px_free hD hS hA
                        refine va_callv (va_runV (As := [.int (wN (g 0) wl (wl.length - 1)), .int it9, .int io9]) (rest := []) ⟨hx, hb, hml, hown, hT⟩ (xc_Ds_addRequiredX l D kA H.size ad E RL g (nd - 1) (wN (g 0) wl (wl.length - 1)) it9 io9 (hDIs (nd - 1) (by omega)) (hTD (nd - 1) (by omega)) (by have := z296; omega)) (cwV 3 hT (wT_V k5h_24 k5h_25 k5h_26 k5h_27 k5h_23) rfl rfl rfl (by decide +kernel) ⟨Nat.le_of_ble_eq_true rfl, Nat.le_of_ble_eq_true rfl⟩) (px_preV hK hP hD m_256 c_255 rfl) rfl rfl hl.1 rfl (lv_room (Nat.le_of_ble_eq_true rfl)) xd_Sh_acceptRequired_171 ⟨(Nat.le_of_ble_eq_true rfl), (Nat.le_of_ble_eq_true rfl)⟩) hS (fun q _ h => hFc q h) hFc (fun u300 t H1 locs ht hvm hp301 hB hz1 hk1 hS => ?_)
                        obtain ⟨hP1, hD1⟩ := hB
                        rw [ht] at hP1
                        have hD1 := hD1.weaken (fun _ _ _ h => hFc _ h)
                        generalize H1 = H at hP1 hS ⊢
                        have hP := hP1
                        have hD := hD1
                        obtain ⟨E302, rfl⟩ : ∃ z, z = u300 := ⟨_, rfl⟩
                        obtain ⟨hp304, p_303⟩ := hp301
                        have p_303 : (∀ b2 o2, ¬ (b2 = 1 + (nd - 1)) → E302 b2 o2 = E b2 o2) := p_303
                        have c_305 : E302 0 0 = .inr (0, [.ref (ad 0 1), .ref (ad 0 5), .ref (ad 0 7), .ref (ad 0 9), .int (nI ml), .int lf_1]) := (p_303 0 0 (by omega)).trans c_2
                        have c_306 : E302 0 1 = .inr (1, [.ref (ad 0 2), .ref (ad 0 3), .ref (ad 0 4), .int (nI len), .int (nI (wl.length))]) := (p_303 0 1 (by omega)).trans c_5
                        have c_307 : E302 0 2 = .inl (kA 1, 40, .inl tx_4) := (p_303 0 2 (by omega)).trans c_7
                        have c_308 : E302 0 3 = .inl (kA 0, 20, .inl fb_4) := (p_303 0 3 (by omega)).trans c_9
                        have c_309 : E302 0 4 = .inl (kA 0, 20, .inl fe_4) := (p_303 0 4 (by omega)).trans c_11
                        have c_310 : E302 0 5 = .inr (2, [.ref (ad 0 6), .int (nI nd)]) := (p_303 0 5 (by omega)).trans c_14
                        have c_311 : E302 0 6 = .inl (kA 4, 12, .inr (.inr (.inr (.inr fd_13)))) := (p_303 0 6 (by omega)).trans c_16
                        have c_312 : E302 0 7 = .inr (3, [.ref (ad 0 5), .ref (ad 0 8), .int (nI cs), .int cf_18, pv_18]) := (p_303 0 7 (by omega)).trans c_19
                        have c_313 : E302 0 8 = .inl (kA 4, 12, .inr (.inr (.inr (.inr fc_18)))) := (p_303 0 8 (by omega)).trans c_21
                        have c_314 : E302 0 9 = .inl (kA 5, 5, .inr (.inr (.inr (.inr fl_23)))) := (p_303 0 9 (by omega)).trans c_24
                        have hP : va_P D xcl (rp ad E302 RL) H := hP
                        have hD : va_D A (rp ad E302 RL) := hD
                        obtain ⟨hDI9, hTD9⟩ := hp304
                        have hTD2 : TDs (rqU g (nd - 1) (wN (g 0) wl (wl.length - 1)) (vp_nar .boolean it9) (vp_nar .boolean io9)) E302 nd := TDs_upd (x := nd - 1) hDIs (fun d9 hd9 hx9 => fun2 fun o9 => by show E302 (1 + d9) o9 = _; rw [p_303 (1 + d9) o9 (by omega)]) (fun d9 hd9 hx9 => AG_R (by omega) hx9) hTD9 hTD
                        have hFRL : FRL ml nd ad ad E E302 := ⟨fun n9 hn9 => ⟨fun2 fun o9 => by show E302 (20 + n9) o9 = _; rw [p_303 (20 + n9) o9 (by omega)], fun2 fun o9 => rfl⟩, fun d9 hd9 => rfl, by show E302 0 0 = _; rw [p_303 0 0 (by omega)]⟩
                        have hCI : CI kA ad E302 RL ml nd len wl.length cs := ⟨hmB, ⟨lf_1, c_305⟩, ⟨tx_4, fb_4, fe_4, (by omega), (by omega), c_306, c_307, c_308, c_309, hws_4⟩, ⟨fd_13, (by omega), c_310, c_311, hds_13⟩, ⟨cf_18, pv_18, fc_18, (by omega), hpv_18, c_312, c_313, hfc_18⟩, ⟨fl_23, (by omega), c_314, hla_23⟩, (DIs_set (x := nd - 1) (fun d9 hd9 hx9 => fun2 fun o9 => by show E302 (1 + d9) o9 = _; rw [p_303 (1 + d9) o9 (by omega)]) (fun _ _ _ => rfl) (fun _ h => h) hDI9 hDIs), (LIs_same (Nat.le_refl _) (fun n9 hn9 => fun2 fun o9 => by show E302 (20 + n9) o9 = _; rw [p_303 (20 + n9) o9 (by omega)]) (fun _ _ => rfl) (fun _ _ => rfl) (fun _ h9 => h9) hLIs)⟩
                        obtain ⟨hmB, hDk, hLi, hSh, hCh, hLa, hDIs, hLIs⟩ := id hCI
                        refine lv_iconst (v := 2) hx hb xd_Sh_acceptRequired_174 (by decide) ?_
                        refine W.widen (k := 0) (n := 0) (Nat.le_of_ble_eq_true rfl) (Nat.le_of_ble_eq_true rfl) ?_
                        exact W.iret (v := 2) hx hb hr (fun t ht hW => ⟨⟨2, (ad, E302, RL), rfl, (by
        rw [lR_y hnB hitb hiob ⟨by rw [hrB]; omega, fun q => hc248 (hnB.trans q), by omega, fun q => hc281 (tnm_254.trans (q.trans hnB.symm)), fun j a9 b9 q => by
          have q2 := z288 (j - 5 * (nd - 1)) (by omega)
          rw [(tf1_254 _ (by omega)).1, show 5 * (nd - 1) + (j - 5 * (nd - 1)) = j by omega] at q2
          exact q2 (q.trans hnB.symm), by rw [← tsd_254]; exact hc291, by omega⟩]
        exact ⟨hCI, hTD2, rfl, hFRL⟩), by rw [ht]; exact hP, hD⟩, hS.F ht⟩) hS.2.2 xd_Sh_acceptRequired_175
            · refine lv_iconst (v := (-1)) hx hb xd_Sh_acceptRequired_102 (by decide) ?_
              refine W.widen (k := 0) (n := 0) (Nat.le_of_ble_eq_true rfl) (Nat.le_of_ble_eq_true rfl) ?_
              exact W.iret (v := (-1)) hx hb hr (fun t ht hW => ⟨⟨(-1), (ad, E, RL), rfl, ⟨hCI, by rw [← lR_no (fun q => q.2.1 (by rw [(hrq.2 (by omega)).2.2]; exact hc248))]; exact hTD, rfl, FRL_rf⟩, by rw [ht]; exact hP, hD⟩, hS.F ht⟩) hS.2.2 xd_Sh_acceptRequired_103
    refine lv_aload_n hx hb xd_Sh_acceptRequired_24 rfl (lv_at hl 1 rfl) ?_
    refine px_get (D := D) (ci := 1) (v := .int (nI (wl.length))) (C := xR_Li) (T := xT_Li) (N := 5) hx hb hT xi_Li hown hK.1 hP m_6 c_5 rfl 4 (by decide) (hT _ k5h_0) (fun _ h9 => h9) rfl xd_Sh_acceptRequired_25 ?_
    refine lv_iconst (v := 3) hx hb xd_Sh_acceptRequired_28 (by decide) ?_
    refine xn_lt (a := wl.length) (b := 3) (tgt := 51) hx hb xd_Sh_acceptRequired_29 (by decide) (by omega) (by omega) (fun hc315 => ?_) (fun hc315 => ?_)
    · refine lv_iconst (v := 0) hx hb xd_Sh_acceptRequired_51 (by decide) ?_
      exact jn27 0 _ _ _ (lv_sub hl [0, 1, 2] rfl) hP hD hS (show (0 = 1 ∧ 3 ≤ wl.length ∧ wS (g 0) wl (wl.length - 2) zSt) ∨ (0 = 0 ∧ ¬ (3 ≤ wl.length ∧ wS (g 0) wl (wl.length - 2) zSt)) from Or.inr ⟨rfl, fun q => absurd q.1 (by omega)⟩)
    · refine lv_aload_n hx hb xd_Sh_acceptRequired_32 rfl (lv_at hl 1 rfl) ?_
      refine lv_aload_n hx hb xd_Sh_acceptRequired_33 rfl (lv_at hl 1 rfl) ?_
      refine px_get (D := D) (ci := 1) (v := .int (nI (wl.length))) (C := xR_Li) (T := xT_Li) (N := 5) hx hb hT xi_Li hown hK.1 hP m_6 c_5 rfl 4 (by decide) (hT _ k5h_0) (fun _ h9 => h9) rfl xd_Sh_acceptRequired_34 ?_
      refine lv_iconst (v := 2) hx hb xd_Sh_acceptRequired_37 (by decide) ?_
      refine lv_isub hx hb xd_Sh_acceptRequired_38 ?_
      refine xn_top (y := nI (wl.length - 2)) (pk_sub (a := wl.length) (b := 2) (by omega)) ?_
      refine va_ldcS (q := Z.1 11) hx hb hown hZ.2.2.2.1.2.2.2.2.2.2.2.2.2.2.2.1 xd_Sh_acceptRequired_39 ?_
      have hFc := px_free hD hS hA
      refine va_calli (va_runV (As := [.int (nI (wl.length - 2)), .ref (Z.1 11)]) (rest := []) ⟨hx, hb, hml, hown, hT⟩ (xc_Li_wordIsX l D kA H.size ad E RL Z g ml nd len lt wl cs (wl.length - 2) 11 (by first | assumption | omega) (by first | assumption | omega) (by first | assumption | omega) (by first | assumption | omega)) (cwV 2 hT (wT_V k5h_29 k5h_30 k5h_31 k5h_5 k5h_28) rfl rfl rfl (by decide +kernel) ⟨Nat.le_of_ble_eq_true rfl, Nat.le_of_ble_eq_true rfl⟩) (px_preVZ hK hP hD m_6 c_5 rfl hFc (hZ.kept hS)) rfl rfl hl.1 rfl (lv_room (Nat.le_of_ble_eq_true rfl)) xd_Sh_acceptRequired_41 ⟨(Nat.le_of_ble_eq_true rfl), (Nat.le_of_ble_eq_true rfl)⟩) hS (fun q _ h => hFc q h) hFc (fun r316 u317 t H1 locs ht hvm hp318 hB hz1 hk1 hS => ?_)
      obtain ⟨hP1, hD1⟩ := hB
      rw [ht] at hP1
      have hD1 := hD1.weaken (fun _ _ _ h => hFc _ h)
      generalize H1 = H at hP1 hS ⊢
      have hP := hP1
      have hD := hD1
      have hP : va_P D xcl (rp ad E RL) H := hP
      have hD : va_D A (rp ad E RL) := hD
      rcases hp318 with ⟨rfl, z319⟩ | ⟨rfl, z320⟩
      · have hw11 : wS (g 0) wl (wl.length - 2) zSt := by have q := z319; rw [zw11] at q; exact q
        refine W.eq (g2 := F0 m 44 ls [.int 1]) rfl ?_
        refine lv_if_eq (tgt := 51) hx hb xd_Sh_acceptRequired_44 (by decide) (fun hc321 => absurd hc321 (by decide)) (fun _ => ?_)
        refine lv_iconst (v := 1) hx hb xd_Sh_acceptRequired_47 (by decide) ?_
        refine lv_goto (tgt := 52) hx hb xd_Sh_acceptRequired_48 (by decide) ?_
        exact jn27 1 _ _ _ (lv_sub hl [0, 1, 2] rfl) hP hD hS (show (1 = 1 ∧ 3 ≤ wl.length ∧ wS (g 0) wl (wl.length - 2) zSt) ∨ (1 = 0 ∧ ¬ (3 ≤ wl.length ∧ wS (g 0) wl (wl.length - 2) zSt)) from Or.inl ⟨rfl, by omega, hw11⟩)
      · have hw11 : ¬ wS (g 0) wl (wl.length - 2) zSt := by have q := z320; rw [zw11] at q; exact q
        refine W.eq (g2 := F0 m 44 ls [.int 0]) rfl ?_
        refine lv_if_eq (tgt := 51) hx hb xd_Sh_acceptRequired_44 (by decide) (fun _ => ?_) (fun hc322 => absurd (by decide) hc322)
        refine lv_iconst (v := 0) hx hb xd_Sh_acceptRequired_51 (by decide) ?_
        exact jn27 0 _ _ _ (lv_sub hl [0, 1, 2] rfl) hP hD hS (show (0 = 1 ∧ 3 ≤ wl.length ∧ wS (g 0) wl (wl.length - 2) zSt) ∨ (0 = 0 ∧ ¬ (3 ≤ wl.length ∧ wS (g 0) wl (wl.length - 2) zSt)) from Or.inr ⟨rfl, fun q => hw11 q.2⟩)
  refine lv_aload_n hx hb xd_Sh_acceptRequired_0 rfl (lv_at hl 1 rfl) ?_
  refine px_get (D := D) (ci := 1) (v := .int (nI (wl.length))) (C := xR_Li) (T := xT_Li) (N := 5) hx hb hT xi_Li hown hK.1 hP m_6 c_5 rfl 4 (by decide) (hT _ k5h_0) (fun _ h9 => h9) rfl xd_Sh_acceptRequired_1 ?_
  refine lv_iconst (v := 3) hx hb xd_Sh_acceptRequired_4 (by decide) ?_
  refine xn_lt (a := wl.length) (b := 3) (tgt := 22) hx hb xd_Sh_acceptRequired_5 (by decide) (by omega) (by omega) (fun hc323 => ?_) (fun hc323 => ?_)
  · refine lv_iconst (v := 0) hx hb xd_Sh_acceptRequired_22 (by decide) ?_
    exact jn26 0 _ _ _ (lv_sub hl [1, 0] rfl) hP hD hS (show (0 = 1 ∧ 3 ≤ wl.length ∧ wS (g 0) wl 1 zTr) ∨ (0 = 0 ∧ ¬ (3 ≤ wl.length ∧ wS (g 0) wl 1 zTr)) from Or.inr ⟨rfl, fun q => absurd q.1 (by omega)⟩)
  · refine lv_aload_n hx hb xd_Sh_acceptRequired_8 rfl (lv_at hl 1 rfl) ?_
    refine lv_iconst (v := 1) hx hb xd_Sh_acceptRequired_9 (by decide) ?_
    refine va_ldcS (q := Z.1 10) hx hb hown hZ.2.2.2.1.2.2.2.2.2.2.2.2.2.2.1 xd_Sh_acceptRequired_10 ?_
    have hFc := px_free hD hS hA
    refine va_calli (va_runV (As := [.int 1, .ref (Z.1 10)]) (rest := []) ⟨hx, hb, hml, hown, hT⟩ (xc_Li_wordIsX l D kA s.heap.size ad E RL Z g ml nd len lt wl cs 1 10 (by first | assumption | omega) (by first | assumption | omega) (by first | assumption | omega) (by first | assumption | omega)) (cwV 2 hT (wT_V k5h_29 k5h_30 k5h_31 k5h_5 k5h_28) rfl rfl rfl (by decide +kernel) ⟨Nat.le_of_ble_eq_true rfl, Nat.le_of_ble_eq_true rfl⟩) (px_preVZ hK hP hD m_6 c_5 rfl hFc (hZ.kept hS)) rfl rfl hl.1 rfl (lv_room (Nat.le_of_ble_eq_true rfl)) xd_Sh_acceptRequired_12 ⟨(Nat.le_of_ble_eq_true rfl), (Nat.le_of_ble_eq_true rfl)⟩) hS (fun q _ h => hFc q h) hFc (fun r324 u325 t H1 locs ht hvm hp326 hB hz1 hk1 hS => ?_)
    obtain ⟨hP1, hD1⟩ := hB
    rw [ht] at hP1
    have hD1 := hD1.weaken (fun _ _ _ h => hFc _ h)
    generalize H1 = H at hP1 hS ⊢
    have hP := hP1
    have hD := hD1
    have hP : va_P D xcl (rp ad E RL) H := hP
    have hD : va_D A (rp ad E RL) := hD
    rcases hp326 with ⟨rfl, z327⟩ | ⟨rfl, z328⟩
    · have hw10 : wS (g 0) wl 1 zTr := by have q := z327; rw [zw10] at q; exact q
      refine W.eq (g2 := F0 m 15 ls [.int 1]) rfl ?_
      refine lv_if_eq (tgt := 22) hx hb xd_Sh_acceptRequired_15 (by decide) (fun hc329 => absurd hc329 (by decide)) (fun _ => ?_)
      refine lv_iconst (v := 1) hx hb xd_Sh_acceptRequired_18 (by decide) ?_
      refine lv_goto (tgt := 23) hx hb xd_Sh_acceptRequired_19 (by decide) ?_
      exact jn26 1 _ _ _ (lv_sub hl [1, 0] rfl) hP hD hS (show (1 = 1 ∧ 3 ≤ wl.length ∧ wS (g 0) wl 1 zTr) ∨ (1 = 0 ∧ ¬ (3 ≤ wl.length ∧ wS (g 0) wl 1 zTr)) from Or.inl ⟨rfl, by omega, hw10⟩)
    · have hw10 : ¬ wS (g 0) wl 1 zTr := by have q := z328; rw [zw10] at q; exact q
      refine W.eq (g2 := F0 m 15 ls [.int 0]) rfl ?_
      refine lv_if_eq (tgt := 22) hx hb xd_Sh_acceptRequired_15 (by decide) (fun _ => ?_) (fun hc330 => absurd (by decide) hc330)
      refine lv_iconst (v := 0) hx hb xd_Sh_acceptRequired_22 (by decide) ?_
      exact jn26 0 _ _ _ (lv_sub hl [1, 0] rfl) hP hD hS (show (0 = 1 ∧ 3 ≤ wl.length ∧ wS (g 0) wl 1 zTr) ∨ (0 = 0 ∧ ¬ (3 ≤ wl.length ∧ wS (g 0) wl 1 zTr)) from Or.inr ⟨rfl, fun q => hw10 q.2⟩)
