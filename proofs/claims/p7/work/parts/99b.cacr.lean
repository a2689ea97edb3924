theorem k5h_0 : (Cond.fieldLink "LayerDesk$Shelf" 27 "LayerDesk$Line" "words" "I") ∈ wT := wT_t (List.mem_append_left _ (List.mem_of_getElem? (i := 41) rfl)) rfl
theorem k5h_1 : (Cond.code xy_Li_nameAt xb_Li_nameAt 4 (some .int)) ∈ wT := wT_t (List.mem_append_right _ (List.mem_append_left _ (List.mem_of_getElem? (i := 17) rfl))) rfl
theorem k5h_2 : (Cond.methodLink "LayerDesk$Shelf" 70 xy_Li_nameAt) ∈ wT := wT_t (List.mem_append_right _ (List.mem_append_left _ (List.mem_of_getElem? (i := 14) rfl))) rfl
theorem k5h_3 : (Cond.instanceMethod xy_Li_nameAt) ∈ wT := wT_t (List.mem_append_right _ (List.mem_append_left _ (List.mem_of_getElem? (i := 15) rfl))) rfl
theorem k5h_4 : (Cond.selects "LayerDesk$Line" xy_Li_nameAt xy_Li_nameAt) ∈ wT := wT_t (List.mem_append_right _ (List.mem_append_left _ (List.mem_of_getElem? (i := 16) rfl))) rfl
theorem k5h_5 : (Cond.initialized "LayerDesk$Line") ∈ wT := wT_t (List.mem_append_left _ (List.mem_of_getElem? (i := 2) rfl)) rfl
theorem k5h_6 : (Cond.code xy_Sh_latest xb_Sh_latest 1 (some (.object "LayerDesk$Descriptor"))) ∈ wT := wT_t (List.mem_append_right _ (List.mem_append_left _ (List.mem_of_getElem? (i := 119) rfl))) rfl
theorem k5h_7 : (Cond.methodLink "LayerDesk$Shelf" 81 xy_Sh_latest) ∈ wT := wT_t (List.mem_append_right _ (List.mem_append_left _ (List.mem_of_getElem? (i := 116) rfl))) rfl
theorem k5h_8 : (Cond.instanceMethod xy_Sh_latest) ∈ wT := wT_t (List.mem_append_right _ (List.mem_append_left _ (List.mem_of_getElem? (i := 118) rfl))) rfl
theorem k5h_9 : (Cond.selects "LayerDesk$Shelf" xy_Sh_latest xy_Sh_latest) ∈ wT := wT_s (q := (xy_Sh_latest, 2)) (by decide +kernel) rfl
theorem k5h_10 : (Cond.initialized "LayerDesk$Shelf") ∈ wT := wT_t (List.mem_append_left _ (List.mem_of_getElem? (i := 3) rfl)) rfl
theorem k5h_11 : (Cond.fieldLink "LayerDesk$Shelf" 24 "LayerDesk$Descriptor" "name" "I") ∈ wT := wT_t (List.mem_append_right _ (List.mem_append_left _ (List.mem_of_getElem? (i := 56) rfl))) rfl
theorem k5h_12 : (Cond.fieldLink "LayerDesk$Shelf" 128 "LayerDesk$Descriptor" "required" "LLayerDesk$Names;") ∈ wT := wT_t (List.mem_append_right _ (List.mem_append_left _ (List.mem_of_getElem? (i := 69) rfl))) rfl
theorem k5h_13 : (Cond.code xy_Na_holds xb_Na_holds 2 (some .boolean)) ∈ wT := wT_t (List.mem_append_right _ (List.mem_append_left _ (List.mem_of_getElem? (i := 123) rfl))) rfl
theorem k5h_14 : (Cond.methodLink "LayerDesk$Shelf" 89 xy_Na_holds) ∈ wT := wT_t (List.mem_append_right _ (List.mem_append_left _ (List.mem_of_getElem? (i := 120) rfl))) rfl
theorem k5h_15 : (Cond.instanceMethod xy_Na_holds) ∈ wT := wT_t (List.mem_append_right _ (List.mem_append_left _ (List.mem_of_getElem? (i := 121) rfl))) rfl
theorem k5h_16 : (Cond.selects "LayerDesk$Names" xy_Na_holds xy_Na_holds) ∈ wT := wT_t (List.mem_append_right _ (List.mem_append_left _ (List.mem_of_getElem? (i := 122) rfl))) rfl
theorem k5h_17 : (Cond.initialized "LayerDesk$Names") ∈ wT := wT_t (List.mem_append_left _ (List.mem_of_getElem? (i := 11) rfl)) rfl
theorem k5h_18 : (Cond.fieldLink "LayerDesk$Shelf" 95 "LayerDesk$Descriptor" "settled" "Z") ∈ wT := wT_t (List.mem_append_right _ (List.mem_append_left _ (List.mem_of_getElem? (i := 83) rfl))) rfl
theorem k5h_19 : (Cond.code xy_Na_isFull xb_Na_isFull 1 (some .boolean)) ∈ wT := wT_t (List.mem_append_right _ (List.mem_append_left _ (List.mem_of_getElem? (i := 131) rfl))) rfl
theorem k5h_20 : (Cond.methodLink "LayerDesk$Shelf" 99 xy_Na_isFull) ∈ wT := wT_t (List.mem_append_right _ (List.mem_append_left _ (List.mem_of_getElem? (i := 128) rfl))) rfl
theorem k5h_21 : (Cond.instanceMethod xy_Na_isFull) ∈ wT := wT_t (List.mem_append_right _ (List.mem_append_left _ (List.mem_of_getElem? (i := 129) rfl))) rfl
theorem k5h_22 : (Cond.selects "LayerDesk$Names" xy_Na_isFull xy_Na_isFull) ∈ wT := wT_t (List.mem_append_right _ (List.mem_append_left _ (List.mem_of_getElem? (i := 130) rfl))) rfl
theorem k5h_23 : (Cond.code xy_Ds_addRequired xb_Ds_addRequired 4 none) ∈ wT := wT_t (List.mem_append_right _ (List.mem_append_left _ (List.mem_of_getElem? (i := 197) rfl))) rfl
theorem k5h_24 : (Cond.methodLink "LayerDesk$Shelf" 131 xy_Ds_addRequired) ∈ wT := wT_t (List.mem_append_right _ (List.mem_append_left _ (List.mem_of_getElem? (i := 194) rfl))) rfl
theorem k5h_25 : (Cond.instanceMethod xy_Ds_addRequired) ∈ wT := wT_t (List.mem_append_right _ (List.mem_append_left _ (List.mem_of_getElem? (i := 195) rfl))) rfl
theorem k5h_26 : (Cond.selects "LayerDesk$Descriptor" xy_Ds_addRequired xy_Ds_addRequired) ∈ wT := wT_t (List.mem_append_right _ (List.mem_append_left _ (List.mem_of_getElem? (i := 196) rfl))) rfl
theorem k5h_27 : (Cond.initialized "LayerDesk$Descriptor") ∈ wT := wT_t (List.mem_append_left _ (List.mem_of_getElem? (i := 10) rfl)) rfl
theorem k5h_28 : (Cond.code xy_Li_wordIs xb_Li_wordIs 4 (some .boolean)) ∈ wT := wT_t (List.mem_append_left _ (List.mem_of_getElem? (i := 199) rfl)) rfl
theorem k5h_29 : (Cond.methodLink "LayerDesk$Shelf" 34 xy_Li_wordIs) ∈ wT := wT_t (List.mem_append_left _ (List.mem_of_getElem? (i := 196) rfl)) rfl
theorem k5h_30 : (Cond.instanceMethod xy_Li_wordIs) ∈ wT := wT_t (List.mem_append_left _ (List.mem_of_getElem? (i := 197) rfl)) rfl
theorem k5h_31 : (Cond.selects "LayerDesk$Line" xy_Li_wordIs xy_Li_wordIs) ∈ wT := wT_t (List.mem_append_left _ (List.mem_of_getElem? (i := 198) rfl)) rfl
set_option maxHeartbeats 4000000 in
set_option maxRecDepth 100000 in
theorem xc_Sh_acceptRequiredX (l : Launch) (D : va_G) (kA : Nat → ClassId) (sz : Nat) (ad : Nat → Nat → Nat) (E : Nat → Nat → va_E) (RL : List (Nat × Nat)) (Z : zT) (g : Nat → Nat → Int32) (ml : Nat) (nd : Nat) (len : Nat) (lt : Nat) (wl : List (Nat × Nat)) (cs : Nat) (hCI : CI kA ad E RL ml nd len wl.length cs) (hLW : LW g E lt wl) (hTD : TDs g E nd) (hZI : ZI g nd) (hw1 : 1 ≤ wl.length) : Met l xy_Sh_acceptRequired (.code xy_Sh_acceptRequired xb_Sh_acceptRequired 7 (some .int) :: wT) { frames := 5, cells := 0, slots := 0, locals := 108 } (va_Pc [.ref (ad 0 5), .ref (ad 0 1)] (xPreZ D kA sz (rp ad E RL) Z)) (va_Qi (fun (r : Int32) (u : (Nat → Nat → Nat) × (Nat → Nat → va_E) × List (Nat × Nat)) => CI kA u.1 u.2.1 u.2.2 ml nd len wl.length cs ∧ TDs (lR (g 0) wl nd g) u.2.1 nd ∧ u.1 0 0 = ad 0 0 ∧ FRL ml nd ad u.1 E u.2.1) (fun (u : (Nat → Nat → Nat) × (Nat → Nat → va_E) × List (Nat × Nat)) t => va_P D xcl (rp u.1 u.2.1 u.2.2) t.heap ∧ va_D (va_A (rp ad E RL) sz) (rp u.1 u.2.1 u.2.2)) (va_A (rp ad E RL) sz)) 0 0 (va_A (rp ad E RL) sz) := by
  refine Met.ofW (cc := xb_Sh_acceptRequired) (maxL := 7) (ret := (some .int)) (by decide) rfl ?_
  intro p e s m args below meth c s₁ B hml hv
  obtain ⟨rfl, ⟨hsz, hP, hK, hD0⟩, hZ⟩ := hv
  have hx := B.exec
  have hb := B.bytes
  have hr := B.returns
  have hT := x_hT B.pre
  have hown : s.vm.findClass xR_Sh = some m.cls := findClass_of_methodNamed B.named
  have hlocks := B.notSynchronized
  subst hsz
  have hD := hD0.self (sz := s.heap.size)
  generalize hAe : va_A (rp ad E RL) s.heap.size = A at hD hZ ⊢
  have hA : ∀ q : Nat, s.heap.size ≤ q → A q := fun q h => by rw [← hAe]; exact Or.inr h
  have hS : va_S A s.heap s.heap [] := va_S.rf
  have hl := lv_entry ([.ref (ad 0 5), .ref (ad 0 1)]) (n := 7) (Nat.le_of_ble_eq_true rfl)
  rw [lg_entry_eq]
  generalize (lg_sl ([.ref (ad 0 5), .ref (ad 0 1)]) ++ List.replicate (7 - (lg_sl ([.ref (ad 0 5), .ref (ad 0 1)])).length) Slot.unset).toArray = ls at hl ⊢
  have hl : lv_has ls 7 [(0, .ref (ad 0 5)), (1, .ref (ad 0 1))] := hl
  have hP : va_P D xcl (rp ad E RL) s.heap := hP
  obtain ⟨hmB, hDk, hLi, hSh, hCh, hLa, hDIs, hLIs⟩ := id hCI
  obtain ⟨hWL, hlt40, hLwd, hLtx⟩ := id hLW
  obtain ⟨lf_1, q_1⟩ := id (hDk)
  have c_2 : E 0 0 = .inr (0, [.ref (ad 0 1), .ref (ad 0 5), .ref (ad 0 7), .ref (ad 0 9), .int (nI ml), .int lf_1]) := q_1
  have m_3 : (0, 0) ∈ RL := hmB 0 (by omega)
  obtain ⟨tx_4, fb_4, fe_4, hl1_4, hw2_4, q1_4, q2_4, q3_4, q4_4, hws_4⟩ := id (hLi)
  have c_5 : E 0 1 = .inr (1, [.ref (ad 0 2), .ref (ad 0 3), .ref (ad 0 4), .int (nI len), .int (nI (wl.length))]) := q1_4
  have m_6 : (0, 1) ∈ RL := hmB 1 (by omega)
  have c_7 : E 0 2 = .inl (kA 1, 40, .inl tx_4) := q2_4
  have m_8 : (0, 2) ∈ RL := hmB 2 (by omega)
  have c_9 : E 0 3 = .inl (kA 0, 20, .inl fb_4) := q3_4
  have m_10 : (0, 3) ∈ RL := hmB 3 (by omega)
  have c_11 : E 0 4 = .inl (kA 0, 20, .inl fe_4) := q4_4
  have m_12 : (0, 4) ∈ RL := hmB 4 (by omega)
  obtain ⟨fd_13, hnd_13, q5_13, q6_13, hds_13⟩ := id (hSh)
  have c_14 : E 0 5 = .inr (2, [.ref (ad 0 6), .int (nI nd)]) := q5_13
  have m_15 : (0, 5) ∈ RL := hmB 5 (by omega)
  have c_16 : E 0 6 = .inl (kA 4, 12, .inr (.inr (.inr (.inr fd_13)))) := q6_13
  have m_17 : (0, 6) ∈ RL := hmB 6 (by omega)
  obtain ⟨cf_18, pv_18, fc_18, hcs_18, hpv_18, q7_18, q8_18, hfc_18⟩ := id (hCh)
  have c_19 : E 0 7 = .inr (3, [.ref (ad 0 5), .ref (ad 0 8), .int (nI cs), .int cf_18, pv_18]) := q7_18
  have m_20 : (0, 7) ∈ RL := hmB 7 (by omega)
  have c_21 : E 0 8 = .inl (kA 4, 12, .inr (.inr (.inr (.inr fc_18)))) := q8_18
  have m_22 : (0, 8) ∈ RL := hmB 8 (by omega)
  obtain ⟨fl_23, hml_23, q9_23, hla_23⟩ := id (hLa)
  have c_24 : E 0 9 = .inl (kA 5, 5, .inr (.inr (.inr (.inr fl_23)))) := q9_23
  have m_25 : (0, 9) ∈ RL := hmB 9 (by omega)
  obtain ⟨zw0, zw1, zw2, zw3, zw4, zw5, zw6, zw7, zw8, zw9, zw10, zw11⟩ := zW_all
  refine xjoin (D := D) (cl := xcl) (A := A) (H0 := s.heap) (σ := Int32) (ml := 7) 23 (fun (it9 : Int32) => [(1, .ref (ad 0 1)), (0, .ref (ad 0 5))]) (fun (it9 : Int32) => [.int it9]) (fun (it9 : Int32) => rp ad E RL) (fun (it9 : Int32) => ((it9 = 1 ∧ 3 ≤ wl.length ∧ wS (g 0) wl 1 zTr) ∨ (it9 = 0 ∧ ¬ (3 ≤ wl.length ∧ wS (g 0) wl 1 zTr)))) ?_ (fun jn26 => ?_)
  · intro a9 ls H locs hl hP hD hS hI
    obtain ⟨it9, rfl⟩ : ∃ z, z = a9 := ⟨_, rfl⟩
    have hit : (it9 = 1 ∧ 3 ≤ wl.length ∧ wS (g 0) wl 1 zTr) ∨ (it9 = 0 ∧ ¬ (3 ≤ wl.length ∧ wS (g 0) wl 1 zTr)) := hI
    have hl : lv_has ls 7 [(1, .ref (ad 0 1)), (0, .ref (ad 0 5))] := hl
    have hP : va_P D xcl (rp ad E RL) H := hP
    have hD : va_D A (rp ad E RL) := hD
    refine lv_istore_n hx hb xd_Sh_acceptRequired_23 rfl hl (Nat.le_of_ble_eq_true rfl) rfl (fun ls hl => ?_)
    have hl : lv_has ls 7 [(2, .int it9), (1, .ref (ad 0 1)), (0, .ref (ad 0 5))] := hl
    refine xjoin (D := D) (cl := xcl) (A := A) (H0 := s.heap) (σ := Int32) (ml := 7) 52 (fun (io9 : Int32) => [(2, .int it9), (1, .ref (ad 0 1)), (0, .ref (ad 0 5))]) (fun (io9 : Int32) => [.int io9]) (fun (io9 : Int32) => rp ad E RL) (fun (io9 : Int32) => ((io9 = 1 ∧ 3 ≤ wl.length ∧ wS (g 0) wl (wl.length - 2) zSt) ∨ (io9 = 0 ∧ ¬ (3 ≤ wl.length ∧ wS (g 0) wl (wl.length - 2) zSt)))) ?_ (fun jn27 => ?_)
    · intro a9 ls H locs hl hP hD hS hI
      obtain ⟨io9, rfl⟩ : ∃ z, z = a9 := ⟨_, rfl⟩
      have hio : (io9 = 1 ∧ 3 ≤ wl.length ∧ wS (g 0) wl (wl.length - 2) zSt) ∨ (io9 = 0 ∧ ¬ (3 ≤ wl.length ∧ wS (g 0) wl (wl.length - 2) zSt)) := hI
      have hl : lv_has ls 7 [(2, .int it9), (1, .ref (ad 0 1)), (0, .ref (ad 0 5))] := hl
      have hP : va_P D xcl (rp ad E RL) H := hP
      have hD : va_D A (rp ad E RL) := hD
      refine lv_istore_n hx hb xd_Sh_acceptRequired_52 rfl hl (Nat.le_of_ble_eq_true rfl) rfl (fun ls hl => ?_)
      have hl : lv_has ls 7 [(3, .int io9), (2, .int it9), (1, .ref (ad 0 1)), (0, .ref (ad 0 5))] := hl
      refine lv_iconst (v := 2) hx hb xd_Sh_acceptRequired_53 (by decide) ?_
      refine lv_iload_n hx hb xd_Sh_acceptRequired_54 rfl (lv_at hl 1 rfl) ?_
      refine lv_if_eq (tgt := 62) hx hb xd_Sh_acceptRequired_55 (by decide) (fun hc28 => ?_) (fun hc28 => ?_)
      · refine lv_iconst (v := 0) hx hb xd_Sh_acceptRequired_62 (by decide) ?_
        refine lv_iadd hx hb xd_Sh_acceptRequired_63 ?_
        refine xn_top (y := nI (2)) (nI_add 2 0) ?_
        refine lv_iload_n hx hb xd_Sh_acceptRequired_64 rfl (lv_at hl 0 rfl) ?_
        refine lv_if_eq (tgt := 72) hx hb xd_Sh_acceptRequired_65 (by decide) (fun hc29 => ?_) (fun hc29 => ?_)
        · refine lv_iconst (v := 0) hx hb xd_Sh_acceptRequired_72 (by decide) ?_
          refine lv_iadd hx hb xd_Sh_acceptRequired_73 ?_
          refine xn_top (y := nI (2)) (nI_add 2 0) ?_
          refine lv_istore hx hb xd_Sh_acceptRequired_74 hl (Nat.le_of_ble_eq_true rfl) rfl (fun ls hl => ?_)
          have hl : lv_has ls 7 [(4, .int (nI 2)), (3, .int io9), (2, .int it9), (1, .ref (ad 0 1)), (0, .ref (ad 0 5))] := hl
          have hfa : ((0 : Nat) = 1 ∧ 3 ≤ wl.length ∧ wS (g 0) wl 1 zTr) ∨ ((0 : Nat) = 0 ∧ ¬ (3 ≤ wl.length ∧ wS (g 0) wl 1 zTr)) := by
            rcases hit with ⟨q, q2⟩ | ⟨q, q2⟩
            · exact absurd (q.symm.trans hc28) (by decide)
            · exact Or.inr ⟨rfl, q2⟩
          have hfb : ((0 : Nat) = 1 ∧ 3 ≤ wl.length ∧ wS (g 0) wl (wl.length - 2) zSt) ∨ ((0 : Nat) = 0 ∧ ¬ (3 ≤ wl.length ∧ wS (g 0) wl (wl.length - 2) zSt)) := by
            rcases hio with ⟨q, q2⟩ | ⟨q, q2⟩
            · exact absurd (q.symm.trans hc29) (by decide)
            · exact Or.inr ⟨rfl, q2⟩
          have hrq := rq_iff hfa hfb
          refine lv_aload_n hx hb xd_Sh_acceptRequired_76 rfl (lv_at hl 3 rfl) ?_
          refine lv_aload_n hx hb xd_Sh_acceptRequired_77 rfl (lv_at hl 3 rfl) ?_
          refine px_get (D := D) (ci := 1) (v := .int (nI (wl.length))) (C := xR_Li) (T := xT_Li) (N := 5) hx hb hT xi_Li hown hK.1 hP m_6 c_5 rfl 4 (by decide) (hT _ k5h_0) (fun _ h9 => h9) rfl xd_Sh_acceptRequired_78 ?_
          refine lv_iconst (v := 1) hx hb xd_Sh_acceptRequired_81 (by decide) ?_
          refine lv_isub hx hb xd_Sh_acceptRequired_82 ?_
          refine xn_top (y := nI (wl.length - 1)) (pk_sub (a := wl.length) (b := 1) (by omega)) ?_
          have hFc := px_free hD hS hA
          refine va_calli (va_runV (As := [.int (nI (wl.length - 1))]) (rest := []) ⟨hx, hb, hml, hown, hT⟩ (xc_Li_nameAtX l D kA H.size ad E RL g ml nd len lt wl cs (wl.length - 1) (by first | assumption | omega) (by first | assumption | omega) (by first | assumption | omega)) (cwV 1 hT (wT_V k5h_2 k5h_3 k5h_4 k5h_5 k5h_1) rfl rfl rfl (by decide +kernel) ⟨Nat.le_of_ble_eq_true rfl, Nat.le_of_ble_eq_true rfl⟩) (px_preV hK hP hD m_6 c_5 rfl) rfl rfl hl.1 rfl (lv_room (Nat.le_of_ble_eq_true rfl)) xd_Sh_acceptRequired_83 ⟨(Nat.le_of_ble_eq_true rfl), (Nat.le_of_ble_eq_true rfl)⟩) hS (fun q _ h => hFc q h) hFc (fun r30 u31 t H1 locs ht hvm hp32 hB hz1 hk1 hS => ?_)
          obtain ⟨hP1, hD1⟩ := hB
          rw [ht] at hP1
          have hD1 := hD1.weaken (fun _ _ _ h => hFc _ h)
          generalize H1 = H at hP1 hS ⊢
          have hP := hP1
          have hD := hD1
          have hP : va_P D xcl (rp ad E RL) H := hP
          have hD : va_D A (rp ad E RL) := hD
          have hp32 : r30 = wN (g 0) wl (wl.length - 1) := hp32
          subst hp32
          have hP : va_P D xcl (rp ad E RL) H := hP
          have hD : va_D A (rp ad E RL) := hD
          refine lv_istore hx hb xd_Sh_acceptRequired_86 hl (Nat.le_of_ble_eq_true rfl) rfl (fun ls hl => ?_)
          have hl : lv_has ls 7 [(5, .int (wN (g 0) wl (wl.length - 1))), (4, .int (nI 2)), (3, .int io9), (2, .int it9), (1, .ref (ad 0 1)), (0, .ref (ad 0 5))] := hl
          refine lv_aload_n hx hb xd_Sh_acceptRequired_88 rfl (lv_at hl 4 rfl) ?_
          refine px_get (D := D) (ci := 1) (v := .int (nI (wl.length))) (C := xR_Li) (T := xT_Li) (N := 5) hx hb hT xi_Li hown hK.1 hP m_6 c_5 rfl 4 (by decide) (hT _ k5h_0) (fun _ h9 => h9) rfl xd_Sh_acceptRequired_89 ?_
          refine lv_iload hx hb xd_Sh_acceptRequired_92 (lv_at hl 1 rfl) ?_
          refine xn_ne (a := wl.length) (b := 2) (tgt := 102) hx hb xd_Sh_acceptRequired_94 (by decide) (by omega) (by omega) (fun hc33 => ?_) (fun hc33 => ?_)
          · refine lv_iconst (v := (-1)) hx hb xd_Sh_acceptRequired_102 (by decide) ?_
            refine W.widen (k := 0) (n := 0) (Nat.le_of_ble_eq_true rfl) (Nat.le_of_ble_eq_true rfl) ?_
            exact W.iret (v := (-1)) hx hb hr (fun t ht hW => ⟨⟨(-1), (ad, E, RL), rfl, ⟨hCI, by rw [← lR_no (fun q => absurd (hrq.1.mp q.1) (by omega))]; exact hTD, rfl, FRL_rf⟩, by rw [ht]; exact hP, hD⟩, hS.F ht⟩) hS.2.2 xd_Sh_acceptRequired_103
          · refine lv_iload hx hb xd_Sh_acceptRequired_97 (lv_at hl 0 rfl) ?_
            refine lv_if_ne (tgt := 104) hx hb xd_Sh_acceptRequired_99 (by decide) (fun hc34 => ?_) (fun hc34 => ?_)
            · obtain ⟨hrT, hrO, hrB⟩ := hrq.2 (by omega)
              have hitb : it9 = bI (rqT (g 0) wl) := by rw [hc28]; exact bI_0 (fun q => absurd (hrT.mp q) (by decide))
              have hiob : io9 = bI (rqO (g 0) wl) := by rw [hc29]; exact bI_0 (fun q => absurd (hrO.mp q) (by decide))
              have hnB : wN (g 0) wl (wl.length - 1) = wN (g 0) wl (rqB (g 0) wl) := by rw [hrB]
              refine lv_aload_n hx hb xd_Sh_acceptRequired_104 rfl (lv_at hl 5 rfl) ?_
              have hFc := px_free hD hS hA
              refine va_callq (va_runV (As := []) (rest := []) ⟨hx, hb, hml, hown, hT⟩ (xc_Sh_latestX l D kA H.size ad E RL ml nd len wl.length cs (by first | assumption | omega)) (cwV 0 hT (wT_V k5h_7 k5h_8 k5h_9 k5h_10 k5h_6) rfl rfl rfl (by decide +kernel) ⟨Nat.le_of_ble_eq_true rfl, Nat.le_of_ble_eq_true rfl⟩) (px_preV hK hP hD m_15 c_14 rfl) rfl rfl hl.1 rfl (lv_room (Nat.le_of_ble_eq_true rfl)) xd_Sh_acceptRequired_105 ⟨(Nat.le_of_ble_eq_true rfl), (Nat.le_of_ble_eq_true rfl)⟩) hS (fun q _ h => hFc q h) hFc (fun r35 u36 t H1 locs ht hvm hp37 hB hz1 hk1 hS => ?_)
              obtain ⟨hP1, hD1⟩ := hB
              rw [ht] at hP1
              have hD1 := hD1.weaken (fun _ _ _ h => hFc _ h)
              generalize H1 = H at hP1 hS ⊢
              have hP := hP1
              have hD := hD1
              have hP : va_P D xcl (rp ad E RL) H := hP
              have hD : va_D A (rp ad E RL) := hD
              rcases hp37 with ⟨rfl, z38⟩ | ⟨z39, rfl⟩
              · refine W.eq (g2 := F0 m 108 ls [.null]) rfl ?_
                refine lv_astoreN hx hb xd_Sh_acceptRequired_108 hl (Nat.le_of_ble_eq_true rfl) rfl (fun ls hl => ?_)
                have hl : lv_has ls 7 [(6, .null), (5, .int (wN (g 0) wl (wl.length - 1))), (4, .int (nI 2)), (3, .int io9), (2, .int it9), (1, .ref (ad 0 1)), (0, .ref (ad 0 5))] := hl
                refine lv_aloadN hx hb xd_Sh_acceptRequired_110 (lv_at hl 0 rfl) ?_
                refine lv_ifnonnullN hx hb xd_Sh_acceptRequired_112 ?_
                refine lv_bipush (v := (-2)) hx hb xd_Sh_acceptRequired_115 (by decide) ?_
                refine W.widen (k := 0) (n := 0) (Nat.le_of_ble_eq_true rfl) (Nat.le_of_ble_eq_true rfl) ?_
                exact W.iret (v := (-2)) hx hb hr (fun t ht hW => ⟨⟨(-2), (ad, E, RL), rfl, ⟨hCI, by rw [← lR_no (fun q => absurd q.2.2.1 (by omega))]; exact hTD, rfl, FRL_rf⟩, by rw [ht]; exact hP, hD⟩, hS.F ht⟩) hS.2.2 xd_Sh_acceptRequired_117
              · refine W.eq (g2 := F0 m 108 ls [.ref (ad (1 + (nd - 1)) 0)]) rfl ?_
                refine lv_astore hx hb xd_Sh_acceptRequired_108 hl (Nat.le_of_ble_eq_true rfl) rfl (fun ls hl => ?_)
                have hl : lv_has ls 7 [(6, .ref (ad (1 + (nd - 1)) 0)), (5, .int (wN (g 0) wl (wl.length - 1))), (4, .int (nI 2)), (3, .int io9), (2, .int it9), (1, .ref (ad 0 1)), (0, .ref (ad 0 5))] := hl
                refine lv_aload hx hb xd_Sh_acceptRequired_110 (lv_at hl 0 rfl) ?_
                refine lv_ifnonnull (tgt := 118) hx hb xd_Sh_acceptRequired_112 (by decide) ?_
                refine lv_aload hx hb xd_Sh_acceptRequired_118 (lv_at hl 0 rfl) ?_
                obtain ⟨hm_40, fd_40, nm_40, sd_40, k0_40, k1_40, k2_40, k3_40, f0_40, f1_40, f2_40, f3_40, fe_40, fo_40, tr_40, op_40, hk0_40, hk1_40, hk2_40, hk3_40, q0_40, q1_40, q2_40, q3_40, q4_40, q5_40, q6_40, q7_40, q8_40, q9_40, q10_40, q11_40, q12_40, hg_40⟩ := id (hDIs (nd - 1) (by omega))
                have c_41 : E (1 + (nd - 1)) 0 = .inr (7, [.int (nI ((nd - 1))), .int fd_40, .int nm_40, .ref (ad (1 + (nd - 1)) 1), .ref (ad (1 + (nd - 1)) 9), .ref (ad (1 + (nd - 1)) 10), .ref (ad (1 + (nd - 1)) 2), .ref (ad (1 + (nd - 1)) 11), .ref (ad (1 + (nd - 1)) 12), .ref (ad (1 + (nd - 1)) 3), .ref (ad (1 + (nd - 1)) 4), .int sd_40]) := q0_40
                have m_42 : (1 + (nd - 1), 0) ∈ RL := hm_40 0 (by omega)
                have c_43 : E (1 + (nd - 1)) 1 = .inr (8, [.ref (ad (1 + (nd - 1)) 5), .int (nI k0_40)]) := q1_40
                have m_44 : (1 + (nd - 1), 1) ∈ RL := hm_40 1 (by omega)
                have c_45 : E (1 + (nd - 1)) 2 = .inr (8, [.ref (ad (1 + (nd - 1)) 6), .int (nI k1_40)]) := q2_40
                have m_46 : (1 + (nd - 1), 2) ∈ RL := hm_40 2 (by omega)
                have c_47 : E (1 + (nd - 1)) 3 = .inr (8, [.ref (ad (1 + (nd - 1)) 7), .int (nI k2_40)]) := q3_40
                have m_48 : (1 + (nd - 1), 3) ∈ RL := hm_40 3 (by omega)
                have c_49 : E (1 + (nd - 1)) 4 = .inr (8, [.ref (ad (1 + (nd - 1)) 8), .int (nI k3_40)]) := q4_40
                have m_50 : (1 + (nd - 1), 4) ∈ RL := hm_40 4 (by omega)
                have c_51 : E (1 + (nd - 1)) 5 = .inl (kA 0, 6, .inl f0_40) := q5_40
                have m_52 : (1 + (nd - 1), 5) ∈ RL := hm_40 5 (by omega)
                have c_53 : E (1 + (nd - 1)) 6 = .inl (kA 0, 5, .inl f1_40) := q6_40
                have m_54 : (1 + (nd - 1), 6) ∈ RL := hm_40 6 (by omega)
                have c_55 : E (1 + (nd - 1)) 7 = .inl (kA 0, 3, .inl f2_40) := q7_40
                have m_56 : (1 + (nd - 1), 7) ∈ RL := hm_40 7 (by omega)
                have c_57 : E (1 + (nd - 1)) 8 = .inl (kA 0, 3, .inl f3_40) := q8_40
                have m_58 : (1 + (nd - 1), 8) ∈ RL := hm_40 8 (by omega)
                have c_59 : E (1 + (nd - 1)) 9 = .inl (kA 8, 6, .inr (.inr (.inr (.inr fe_40)))) := q9_40
                have m_60 : (1 + (nd - 1), 9) ∈ RL := hm_40 9 (by omega)
                have c_61 : E (1 + (nd - 1)) 10 = .inl (kA 8, 6, .inr (.inr (.inr (.inr fo_40)))) := q10_40
                have m_62 : (1 + (nd - 1), 10) ∈ RL := hm_40 10 (by omega)
                have c_63 : E (1 + (nd - 1)) 11 = .inl (kA 2, 5, .inl tr_40) := q11_40
                have m_64 : (1 + (nd - 1), 11) ∈ RL := hm_40 11 (by omega)
                have c_65 : E (1 + (nd - 1)) 12 = .inl (kA 2, 5, .inl op_40) := q12_40
                have m_66 : (1 + (nd - 1), 12) ∈ RL := hm_40 12 (by omega)
                have hg_40 : ∀ w9, w9 < k0_40 → fe_40 w9 = some (ad (1 + (nd - 1)) (20 + 3 * w9)) ∧ fo_40 w9 = some (ad (1 + (nd - 1)) (38 + 3 * w9)) ∧ GI kA (ad (1 + (nd - 1))) (E (1 + (nd - 1))) (fun o => (1 + (nd - 1), o) ∈ RL) (20 + 3 * w9) (21 + 3 * w9) (22 + 3 * w9) ∧ GI kA (ad (1 + (nd - 1))) (E (1 + (nd - 1))) (fun o => (1 + (nd - 1), o) ∈ RL) (38 + 3 * w9) (39 + 3 * w9) (40 + 3 * w9) := hg_40
                obtain ⟨hTT_40, tgr_40⟩ := TD_get hk0_40 hk1_40 hk2_40 hk3_40 c_41 c_43 c_45 c_47 c_49 c_51 c_53 c_55 c_57 c_63 c_65 (hTD (nd - 1) (by omega))
                obtain ⟨tfd_40, tnm_40, tsd_40, tk0_40, tf0_40, tk1_40, tf1_40, tk2_40, tk3_40⟩ := id hTT_40
                have ik0_40 : iN (g 5 (nd - 1)) = k0_40 := by rw [← tk0_40, iN_nI (by omega)]
                have ik1_40 : iN (g 12 (nd - 1)) = k1_40 := by rw [← tk1_40, iN_nI (by omega)]
                refine px_get (D := D) (ci := 7) (v := .int nm_40) (C := xR_Ds) (T := xT_Ds) (N := 12) hx hb hT xi_Ds hown hK.1 hP m_42 c_41 rfl 2 (by decide) (hT _ k5h_11) (fun _ h9 => h9) rfl xd_Sh_acceptRequired_120 ?_
                refine lv_iload hx hb xd_Sh_acceptRequired_123 (lv_at hl 1 rfl) ?_
                refine lv_icmp_eq (tgt := 141) hx hb xd_Sh_acceptRequired_125 (by decide) (fun hc67 => ?_) (fun hc67 => ?_)
                · refine lv_iconst (v := (-1)) hx hb xd_Sh_acceptRequired_141 (by decide) ?_
                  refine W.widen (k := 0) (n := 0) (Nat.le_of_ble_eq_true rfl) (Nat.le_of_ble_eq_true rfl) ?_
                  exact W.iret (v := (-1)) hx hb hr (fun t ht hW => ⟨⟨(-1), (ad, E, RL), rfl, ⟨hCI, by rw [← lR_no (fun q => q.2.2.2.1 (tnm_40.symm.trans (hc67.trans hnB)))]; exact hTD, rfl, FRL_rf⟩, by rw [ht]; exact hP, hD⟩, hS.F ht⟩) hS.2.2 xd_Sh_acceptRequired_142
                · refine lv_aload hx hb xd_Sh_acceptRequired_128 (lv_at hl 0 rfl) ?_
                  refine px_get (D := D) (ci := 7) (v := .ref (ad (1 + (nd - 1)) 2)) (C := xR_Ds) (T := xT_Ds) (N := 12) hx hb hT xi_Ds hown hK.1 hP m_42 c_41 rfl 6 (by decide) (hT _ k5h_12) (fun _ h9 => h9) rfl xd_Sh_acceptRequired_130 ?_
                  refine lv_iload hx hb xd_Sh_acceptRequired_133 (lv_at hl 1 rfl) ?_
                  have hFc := px_free hD hS hA
                  refine va_calli (va_runV (As := [.int (wN (g 0) wl (wl.length - 1))]) (rest := []) ⟨hx, hb, hml, hown, hT⟩ (xc_Na_holds l D kA H.size ad E RL (1 + (nd - 1)) 2 6 5 k1_40 f1_40 (wN (g 0) wl (wl.length - 1)) m_46 c_45 m_54 c_53 (by first | assumption | omega) (by first | assumption | omega)) (cwV 1 hT (wT_V k5h_14 k5h_15 k5h_16 k5h_17 k5h_13) rfl rfl rfl (by decide +kernel) ⟨Nat.le_of_ble_eq_true rfl, Nat.le_of_ble_eq_true rfl⟩) (px_preV hK hP hD m_46 c_45 rfl) rfl rfl hl.1 rfl (lv_room (Nat.le_of_ble_eq_true rfl)) xd_Sh_acceptRequired_135 ⟨(Nat.le_of_ble_eq_true rfl), (Nat.le_of_ble_eq_true rfl)⟩) hS (fun q _ h => hFc q h) hFc (fun r68 u69 t H1 locs ht hvm hp70 hB hz1 hk1 hS => ?_)
                  obtain ⟨hP1, hD1⟩ := hB
                  rw [ht] at hP1
                  have hD1 := hD1.weaken (fun _ _ _ h => hFc _ h)
                  generalize H1 = H at hP1 hS ⊢
                  have hP := hP1
                  have hD := hD1
                  have hP : va_P D xcl (rp ad E RL) H := hP
                  have hD : va_D A (rp ad E RL) := hD
                  rcases hp70 with ⟨rfl, z71, z72, z73⟩ | ⟨rfl, z74⟩
                  · refine W.eq (g2 := F0 m 138 ls [.int 1]) rfl ?_
                    refine lv_if_eq (tgt := 143) hx hb xd_Sh_acceptRequired_138 (by decide) (fun hc75 => absurd hc75 (by decide)) (fun _ => ?_)
                    refine lv_iconst (v := (-1)) hx hb xd_Sh_acceptRequired_141 (by decide) ?_
                    refine W.widen (k := 0) (n := 0) (Nat.le_of_ble_eq_true rfl) (Nat.le_of_ble_eq_true rfl) ?_
                    exact W.iret (v := (-1)) hx hb hr (fun t ht hW => ⟨⟨(-1), (ad, E, RL), rfl, ⟨hCI, by rw [← lR_no (fun q => q.2.2.2.2.1 (5 * (nd - 1) + z71) (by omega) (by omega) ((tf1_40 _ z72).1.symm.trans (z73.trans hnB)))]; exact hTD, rfl, FRL_rf⟩, by rw [ht]; exact hP, hD⟩, hS.F ht⟩) hS.2.2 xd_Sh_acceptRequired_142
                  · refine W.eq (g2 := F0 m 138 ls [.int 0]) rfl ?_
                    refine lv_if_eq (tgt := 143) hx hb xd_Sh_acceptRequired_138 (by decide) (fun _ => ?_) (fun hc76 => absurd (by decide) hc76)
                    refine lv_aload hx hb xd_Sh_acceptRequired_143 (lv_at hl 0 rfl) ?_
                    refine px_get (D := D) (ci := 7) (v := .int sd_40) (C := xR_Ds) (T := xT_Ds) (N := 12) hx hb hT xi_Ds hown hK.1 hP m_42 c_41 rfl 11 (by decide) (hT _ k5h_18) (fun _ h9 => h9) rfl xd_Sh_acceptRequired_145 ?_
                    refine lv_if_ne (tgt := 162) hx hb xd_Sh_acceptRequired_148 (by decide) (fun hc77 => ?_) (fun hc77 => ?_)
                    · refine lv_bipush (v := (-2)) hx hb xd_Sh_acceptRequired_162 (by decide) ?_
                      refine W.widen (k := 0) (n := 0) (Nat.le_of_ble_eq_true rfl) (Nat.le_of_ble_eq_true rfl) ?_
                      exact W.iret (v := (-2)) hx hb hr (fun t ht hW => ⟨⟨(-2), (ad, E, RL), rfl, ⟨hCI, by rw [← lR_no (fun q => hc77 (by rw [tsd_40]; exact q.2.2.2.2.2.1))]; exact hTD, rfl, FRL_rf⟩, by rw [ht]; exact hP, hD⟩, hS.F ht⟩) hS.2.2 xd_Sh_acceptRequired_164
                    · refine lv_aload hx hb xd_Sh_acceptRequired_151 (lv_at hl 0 rfl) ?_
                      refine px_get (D := D) (ci := 7) (v := .ref (ad (1 + (nd - 1)) 2)) (C := xR_Ds) (T := xT_Ds) (N := 12) hx hb hT xi_Ds hown hK.1 hP m_42 c_41 rfl 6 (by decide) (hT _ k5h_12) (fun _ h9 => h9) rfl xd_Sh_acceptRequired_153 ?_
                      have hFc := px_free hD hS hA
                      refine va_calli (va_runV (As := []) (rest := []) ⟨hx, hb, hml, hown, hT⟩ (xc_Na_isFull l D kA H.size ad E RL (1 + (nd - 1)) 2 6 5 k1_40 f1_40 m_46 c_45 m_54 c_53 (by first | assumption | omega) (by first | assumption | omega)) (cwV 0 hT (wT_V k5h_20 k5h_21 k5h_22 k5h_17 k5h_19) rfl rfl rfl (by decide +kernel) ⟨Nat.le_of_ble_eq_true rfl, Nat.le_of_ble_eq_true rfl⟩) (px_preV hK hP hD m_46 c_45 rfl) rfl rfl hl.1 rfl (lv_room (Nat.le_of_ble_eq_true rfl)) xd_Sh_acceptRequired_156 ⟨(Nat.le_of_ble_eq_true rfl), (Nat.le_of_ble_eq_true rfl)⟩) hS (fun q _ h => hFc q h) hFc (fun r78 u79 t H1 locs ht hvm hp80 hB hz1 hk1 hS => ?_)
                      obtain ⟨hP1, hD1⟩ := hB
                      rw [ht] at hP1
                      have hD1 := hD1.weaken (fun _ _ _ h => hFc _ h)
                      generalize H1 = H at hP1 hS ⊢
                      have hP := hP1
                      have hD := hD1
                      have hP : va_P D xcl (rp ad E RL) H := hP
                      have hD : va_D A (rp ad E RL) := hD
                      rcases hp80 with ⟨rfl, z81⟩ | ⟨rfl, z82⟩
                      · refine W.eq (g2 := F0 m 159 ls [.int 1]) rfl ?_
                        refine lv_if_eq (tgt := 165) hx hb xd_Sh_acceptRequired_159 (by decide) (fun hc83 => absurd hc83 (by decide)) (fun _ => ?_)
                        refine lv_bipush (v := (-2)) hx hb xd_Sh_acceptRequired_162 (by decide) ?_
                        refine W.widen (k := 0) (n := 0) (Nat.le_of_ble_eq_true rfl) (Nat.le_of_ble_eq_true rfl) ?_
                        exact W.iret (v := (-2)) hx hb hr (fun t ht hW => ⟨⟨(-2), (ad, E, RL), rfl, ⟨hCI, by rw [← lR_no (fun q => absurd q.2.2.2.2.2.2 (by have := z81; omega))]; exact hTD, rfl, FRL_rf⟩, by rw [ht]; exact hP, hD⟩, hS.F ht⟩) hS.2.2 xd_Sh_acceptRequired_164
                      · refine W.eq (g2 := F0 m 159 ls [.int 0]) rfl ?_
                        refine lv_if_eq (tgt := 165) hx hb xd_Sh_acceptRequired_159 (by decide) (fun _ => ?_) (fun hc84 => absurd (by decide) hc84)
                        refine lv_aload hx hb xd_Sh_acceptRequired_165 (lv_at hl 0 rfl) ?_
                        refine lv_iload hx hb xd_Sh_acceptRequired_167 (lv_at hl 1 rfl) ?_
                        refine lv_iload_n hx hb xd_Sh_acceptRequired_169 rfl (lv_at hl 4 rfl) ?_
                        refine lv_iload_n hx hb xd_Sh_acceptRequired_170 rfl (lv_at hl 3 rfl) ?_
                        have hFc := px_free hD hS hA
                        refine va_callv (va_runV (As := [.int (wN (g 0) wl (wl.length - 1)), .int it9, .int io9]) (rest := []) ⟨hx, hb, hml, hown, hT⟩ (xc_Ds_addRequiredX l D kA H.size ad E RL g (nd - 1) (wN (g 0) wl (wl.length - 1)) it9 io9 (hDIs (nd - 1) (by omega)) (hTD (nd - 1) (by omega)) (by have := z82; omega)) (cwV 3 hT (wT_V k5h_24 k5h_25 k5h_26 k5h_27 k5h_23) rfl rfl rfl (by decide +kernel) ⟨Nat.le_of_ble_eq_true rfl, Nat.le_of_ble_eq_true rfl⟩) (px_preV hK hP hD m_42 c_41 rfl) rfl rfl hl.1 rfl (lv_room (Nat.le_of_ble_eq_true rfl)) xd_Sh_acceptRequired_171 ⟨(Nat.le_of_ble_eq_true rfl), (Nat.le_of_ble_eq_true rfl)⟩) hS (fun q _ h => hFc q h) hFc (fun u86 t H1 locs ht hvm hp87 hB hz1 hk1 hS => ?_)
                        obtain ⟨hP1, hD1⟩ := hB
                        rw [ht] at hP1
                        have hD1 := hD1.weaken (fun _ _ _ h => hFc _ h)
                        generalize H1 = H at hP1 hS ⊢
                        have hP := hP1
                        have hD := hD1
                        obtain ⟨E88, rfl⟩ : ∃ z, z = u86 := ⟨_, rfl⟩
                        obtain ⟨hp90, p_89⟩ := hp87
                        have p_89 : (∀ b2 o2, ¬ (b2 = 1 + (nd - 1)) → E88 b2 o2 = E b2 o2) := p_89
                        have c_91 : E88 0 0 = .inr (0, [.ref (ad 0 1), .ref (ad 0 5), .ref (ad 0 7), .ref (ad 0 9), .int (nI ml), .int lf_1]) := (p_89 0 0 (by omega)).trans c_2
                        have c_92 : E88 0 1 = .inr (1, [.ref (ad 0 2), .ref (ad 0 3), .ref (ad 0 4), .int (nI len), .int (nI (wl.length))]) := (p_89 0 1 (by omega)).trans c_5
                        have c_93 : E88 0 2 = .inl (kA 1, 40, .inl tx_4) := (p_89 0 2 (by omega)).trans c_7
                        have c_94 : E88 0 3 = .inl (kA 0, 20, .inl fb_4) := (p_89 0 3 (by omega)).trans c_9
                        have c_95 : E88 0 4 = .inl (kA 0, 20, .inl fe_4) := (p_89 0 4 (by omega)).trans c_11
                        have c_96 : E88 0 5 = .inr (2, [.ref (ad 0 6), .int (nI nd)]) := (p_89 0 5 (by omega)).trans c_14
                        have c_97 : E88 0 6 = .inl (kA 4, 12, .inr (.inr (.inr (.inr fd_13)))) := (p_89 0 6 (by omega)).trans c_16
                        have c_98 : E88 0 7 = .inr (3, [.ref (ad 0 5), .ref (ad 0 8), .int (nI cs), .int cf_18, pv_18]) := (p_89 0 7 (by omega)).trans c_19
                        have c_99 : E88 0 8 = .inl (kA 4, 12, .inr (.inr (.inr (.inr fc_18)))) := (p_89 0 8 (by omega)).trans c_21
                        have c_100 : E88 0 9 = .inl (kA 5, 5, .inr (.inr (.inr (.inr fl_23)))) := (p_89 0 9 (by omega)).trans c_24
                        have hP : va_P D xcl (rp ad E88 RL) H := hP
                        have hD : va_D A (rp ad E88 RL) := hD
                        obtain ⟨hDI9, hTD9⟩ := hp90
                        have hTD2 : TDs (rqU g (nd - 1) (wN (g 0) wl (wl.length - 1)) (vp_nar .boolean it9) (vp_nar .boolean io9)) E88 nd := TDs_upd (x := nd - 1) hDIs (fun d9 hd9 hx9 => fun2 fun o9 => by show E88 (1 + d9) o9 = _; rw [p_89 (1 + d9) o9 (by omega)]) (fun d9 hd9 hx9 => AG_R (by omega) hx9) hTD9 hTD
                        have hFRL : FRL ml nd ad ad E E88 := ⟨fun n9 hn9 => ⟨fun2 fun o9 => by show E88 (20 + n9) o9 = _; rw [p_89 (20 + n9) o9 (by omega)], fun2 fun o9 => rfl⟩, fun d9 hd9 => rfl, by show E88 0 0 = _; rw [p_89 0 0 (by omega)]⟩
                        have hCI : CI kA ad E88 RL ml nd len wl.length cs := ⟨hmB, ⟨lf_1, c_91⟩, ⟨tx_4, fb_4, fe_4, (by omega), (by omega), c_92, c_93, c_94, c_95, hws_4⟩, ⟨fd_13, (by omega), c_96, c_97, hds_13⟩, ⟨cf_18, pv_18, fc_18, (by omega), hpv_18, c_98, c_99, hfc_18⟩, ⟨fl_23, (by omega), c_100, hla_23⟩, (DIs_set (x := nd - 1) (fun d9 hd9 hx9 => fun2 fun o9 => by show E88 (1 + d9) o9 = _; rw [p_89 (1 + d9) o9 (by omega)]) (fun _ _ _ => rfl) (fun _ h => h) hDI9 hDIs), (LIs_same (Nat.le_refl _) (fun n9 hn9 => fun2 fun o9 => by show E88 (20 + n9) o9 = _; rw [p_89 (20 + n9) o9 (by omega)]) (fun _ _ => rfl) (fun _ _ => rfl) (fun _ h9 => h9) hLIs)⟩
                        obtain ⟨hmB, hDk, hLi, hSh, hCh, hLa, hDIs, hLIs⟩ := id hCI
                        refine lv_iconst (v := 2) hx hb xd_Sh_acceptRequired_174 (by decide) ?_
                        refine W.widen (k := 0) (n := 0) (Nat.le_of_ble_eq_true rfl) (Nat.le_of_ble_eq_true rfl) ?_
                        exact W.iret (v := 2) hx hb hr (fun t ht hW => ⟨⟨2, (ad, E88, RL), rfl, (by
        rw [lR_y hnB hitb hiob ⟨by rw [hrB]; omega, fun q => hc34 (hnB.trans q), by omega, fun q => hc67 (tnm_40.trans (q.trans hnB.symm)), fun j a9 b9 q => by
          have q2 := z74 (j - 5 * (nd - 1)) (by omega)
          rw [(tf1_40 _ (by omega)).1, show 5 * (nd - 1) + (j - 5 * (nd - 1)) = j by omega] at q2
          exact q2 (q.trans hnB.symm), by rw [← tsd_40]; exact hc77, by omega⟩]
        exact ⟨hCI, hTD2, rfl, hFRL⟩), by rw [ht]; exact hP, hD⟩, hS.F ht⟩) hS.2.2 xd_Sh_acceptRequired_175
            · refine lv_iconst (v := (-1)) hx hb xd_Sh_acceptRequired_102 (by decide) ?_
              refine W.widen (k := 0) (n := 0) (Nat.le_of_ble_eq_true rfl) (Nat.le_of_ble_eq_true rfl) ?_
              exact W.iret (v := (-1)) hx hb hr (fun t ht hW => ⟨⟨(-1), (ad, E, RL), rfl, ⟨hCI, by rw [← lR_no (fun q => q.2.1 (by rw [(hrq.2 (by omega)).2.2]; exact hc34))]; exact hTD, rfl, FRL_rf⟩, by rw [ht]; exact hP, hD⟩, hS.F ht⟩) hS.2.2 xd_Sh_acceptRequired_103
        · refine lv_iconst (v := 1) hx hb xd_Sh_acceptRequired_68 (by decide) ?_
          refine lv_goto (tgt := 73) hx hb xd_Sh_acceptRequired_69 (by decide) ?_
          refine lv_iadd hx hb xd_Sh_acceptRequired_73 ?_
          refine xn_top (y := nI (3)) (nI_add 2 1) ?_
          refine lv_istore hx hb xd_Sh_acceptRequired_74 hl (Nat.le_of_ble_eq_true rfl) rfl (fun ls hl => ?_)
          have hl : lv_has ls 7 [(4, .int (nI 3)), (3, .int io9), (2, .int it9), (1, .ref (ad 0 1)), (0, .ref (ad 0 5))] := hl
          have hfa : ((0 : Nat) = 1 ∧ 3 ≤ wl.length ∧ wS (g 0) wl 1 zTr) ∨ ((0 : Nat) = 0 ∧ ¬ (3 ≤ wl.length ∧ wS (g 0) wl 1 zTr)) := by
            rcases hit with ⟨q, q2⟩ | ⟨q, q2⟩
            · exact absurd (q.symm.trans hc28) (by decide)
            · exact Or.inr ⟨rfl, q2⟩
          have hfb : ((1 : Nat) = 1 ∧ 3 ≤ wl.length ∧ wS (g 0) wl (wl.length - 2) zSt) ∨ ((1 : Nat) = 0 ∧ ¬ (3 ≤ wl.length ∧ wS (g 0) wl (wl.length - 2) zSt)) := by
            rcases hio with ⟨q, q2⟩ | ⟨q, q2⟩
            · exact Or.inl ⟨rfl, q2⟩
            · exact absurd q hc29
          have hrq := rq_iff hfa hfb
          refine lv_aload_n hx hb xd_Sh_acceptRequired_76 rfl (lv_at hl 3 rfl) ?_
          refine lv_aload_n hx hb xd_Sh_acceptRequired_77 rfl (lv_at hl 3 rfl) ?_
          refine px_get (D := D) (ci := 1) (v := .int (nI (wl.length))) (C := xR_Li) (T := xT_Li) (N := 5) hx hb hT xi_Li hown hK.1 hP m_6 c_5 rfl 4 (by decide) (hT _ k5h_0) (fun _ h9 => h9) rfl xd_Sh_acceptRequired_78 ?_
          refine lv_iconst (v := 1) hx hb xd_Sh_acceptRequired_81 (by decide) ?_
          refine lv_isub hx hb xd_Sh_acceptRequired_82 ?_
          refine xn_top (y := nI (wl.length - 1)) (pk_sub (a := wl.length) (b := 1) (by omega)) ?_
          have hFc := px_free hD hS hA
          refine va_calli (va_runV (As := [.int (nI (wl.length - 1))]) (rest := []) ⟨hx, hb, hml, hown, hT⟩ (xc_Li_nameAtX l D kA H.size ad E RL g ml nd len lt wl cs (wl.length - 1) (by first | assumption | omega) (by first | assumption | omega) (by first | assumption | omega)) (cwV 1 hT (wT_V k5h_2 k5h_3 k5h_4 k5h_5 k5h_1) rfl rfl rfl (by decide +kernel) ⟨Nat.le_of_ble_eq_true rfl, Nat.le_of_ble_eq_true rfl⟩) (px_preV hK hP hD m_6 c_5 rfl) rfl rfl hl.1 rfl (lv_room (Nat.le_of_ble_eq_true rfl)) xd_Sh_acceptRequired_83 ⟨(Nat.le_of_ble_eq_true rfl), (Nat.le_of_ble_eq_true rfl)⟩) hS (fun q _ h => hFc q h) hFc (fun r101 u102 t H1 locs ht hvm hp103 hB hz1 hk1 hS => ?_)
          obtain ⟨hP1, hD1⟩ := hB
          rw [ht] at hP1
          have hD1 := hD1.weaken (fun _ _ _ h => hFc _ h)
          generalize H1 = H at hP1 hS ⊢
          have hP := hP1
          have hD := hD1
          have hP : va_P D xcl (rp ad E RL) H := hP
          have hD : va_D A (rp ad E RL) := hD
          have hp103 : r101 = wN (g 0) wl (wl.length - 1) := hp103
          subst hp103
          have hP : va_P D xcl (rp ad E RL) H := hP
          have hD : va_D A (rp ad E RL) := hD
          refine lv_istore hx hb xd_Sh_acceptRequired_86 hl (Nat.le_of_ble_eq_true rfl) rfl (fun ls hl => ?_)
          have hl : lv_has ls 7 [(5, .int (wN (g 0) wl (wl.length - 1))), (4, .int (nI 3)), (3, .int io9), (2, .int it9), (1, .ref (ad 0 1)), (0, .ref (ad 0 5))] := hl
          refine lv_aload_n hx hb xd_Sh_acceptRequired_88 rfl (lv_at hl 4 rfl) ?_
          refine px_get (D := D) (ci := 1) (v := .int (nI (wl.length))) (C := xR_Li) (T := xT_Li) (N := 5) hx hb hT xi_Li hown hK.1 hP m_6 c_5 rfl 4 (by decide) (hT _ k5h_0) (fun _ h9 => h9) rfl xd_Sh_acceptRequired_89 ?_
          refine lv_iload hx hb xd_Sh_acceptRequired_92 (lv_at hl 1 rfl) ?_
          refine xn_ne (a := wl.length) (b := 3) (tgt := 102) hx hb xd_Sh_acceptRequired_94 (by decide) (by omega) (by omega) (fun hc104 => ?_) (fun hc104 => ?_)
          · refine lv_iconst (v := (-1)) hx hb xd_Sh_acceptRequired_102 (by decide) ?_
            refine W.widen (k := 0) (n := 0) (Nat.le_of_ble_eq_true rfl) (Nat.le_of_ble_eq_true rfl) ?_
            exact W.iret (v := (-1)) hx hb hr (fun t ht hW => ⟨⟨(-1), (ad, E, RL), rfl, ⟨hCI, by rw [← lR_no (fun q => absurd (hrq.1.mp q.1) (by omega))]; exact hTD, rfl, FRL_rf⟩, by rw [ht]; exact hP, hD⟩, hS.F ht⟩) hS.2.2 xd_Sh_acceptRequired_103
          · refine lv_iload hx hb xd_Sh_acceptRequired_97 (lv_at hl 0 rfl) ?_
            refine lv_if_ne (tgt := 104) hx hb xd_Sh_acceptRequired_99 (by decide) (fun hc105 => ?_) (fun hc105 => ?_)
            · obtain ⟨hrT, hrO, hrB⟩ := hrq.2 (by omega)
              have hitb : it9 = bI (rqT (g 0) wl) := by rw [hc28]; exact bI_0 (fun q => absurd (hrT.mp q) (by decide))
              have hiob : io9 = bI (rqO (g 0) wl) := by
                rcases hio with ⟨q, _⟩ | ⟨q, _⟩
                · rw [q]; exact bI_1 (hrO.mpr rfl)
                · exact absurd q hc29
              have hnB : wN (g 0) wl (wl.length - 1) = wN (g 0) wl (rqB (g 0) wl) := by rw [hrB]
              refine lv_aload_n hx hb xd_Sh_acceptRequired_104 rfl (lv_at hl 5 rfl) ?_
              have hFc := px_free hD hS hA
              refine va_callq (va_runV (As := []) (rest := []) ⟨hx, hb, hml, hown, hT⟩ (xc_Sh_latestX l D kA H.size ad E RL ml nd len wl.length cs (by first | assumption | omega)) (cwV 0 hT (wT_V k5h_7 k5h_8 k5h_9 k5h_10 k5h_6) rfl rfl rfl (by decide +kernel) ⟨Nat.le_of_ble_eq_true rfl, Nat.le_of_ble_eq_true rfl⟩) (px_preV hK hP hD m_15 c_14 rfl) rfl rfl hl.1 rfl (lv_room (Nat.le_of_ble_eq_true rfl)) xd_Sh_acceptRequired_105 ⟨(Nat.le_of_ble_eq_true rfl), (Nat.le_of_ble_eq_true rfl)⟩) hS (fun q _ h => hFc q h) hFc (fun r106 u107 t H1 locs ht hvm hp108 hB hz1 hk1 hS => ?_)
              obtain ⟨hP1, hD1⟩ := hB
              rw [ht] at hP1
              have hD1 := hD1.weaken (fun _ _ _ h => hFc _ h)
              generalize H1 = H at hP1 hS ⊢
              have hP := hP1
              have hD := hD1
              have hP : va_P D xcl (rp ad E RL) H := hP
              have hD : va_D A (rp ad E RL) := hD
              rcases hp108 with ⟨rfl, z109⟩ | ⟨z110, rfl⟩
              · refine W.eq (g2 := F0 m 108 ls [.null]) rfl ?_
                refine lv_astoreN hx hb xd_Sh_acceptRequired_108 hl (Nat.le_of_ble_eq_true rfl) rfl (fun ls hl => ?_)
                have hl : lv_has ls 7 [(6, .null), (5, .int (wN (g 0) wl (wl.length - 1))), (4, .int (nI 3)), (3, .int io9), (2, .int it9), (1, .ref (ad 0 1)), (0, .ref (ad 0 5))] := hl
                refine lv_aloadN hx hb xd_Sh_acceptRequired_110 (lv_at hl 0 rfl) ?_
                refine lv_ifnonnullN hx hb xd_Sh_acceptRequired_112 ?_
                refine lv_bipush (v := (-2)) hx hb xd_Sh_acceptRequired_115 (by decide) ?_
                refine W.widen (k := 0) (n := 0) (Nat.le_of_ble_eq_true rfl) (Nat.le_of_ble_eq_true rfl) ?_
                exact W.iret (v := (-2)) hx hb hr (fun t ht hW => ⟨⟨(-2), (ad, E, RL), rfl, ⟨hCI, by rw [← lR_no (fun q => absurd q.2.2.1 (by omega))]; exact hTD, rfl, FRL_rf⟩, by rw [ht]; exact hP, hD⟩, hS.F ht⟩) hS.2.2 xd_Sh_acceptRequired_117
              · refine W.eq (g2 := F0 m 108 ls [.ref (ad (1 + (nd - 1)) 0)]) rfl ?_
                refine lv_astore hx hb xd_Sh_acceptRequired_108 hl (Nat.le_of_ble_eq_true rfl) rfl (fun ls hl => ?_)
                have hl : lv_has ls 7 [(6, .ref (ad (1 + (nd - 1)) 0)), (5, .int (wN (g 0) wl (wl.length - 1))), (4, .int (nI 3)), (3, .int io9), (2, .int it9), (1, .ref (ad 0 1)), (0, .ref (ad 0 5))] := hl
                refine lv_aload hx hb xd_Sh_acceptRequired_110 (lv_at hl 0 rfl) ?_
                refine lv_ifnonnull (tgt := 118) hx hb xd_Sh_acceptRequired_112 (by decide) ?_
                refine lv_aload hx hb xd_Sh_acceptRequired_118 (lv_at hl 0 rfl) ?_
                obtain ⟨hm_111, fd_111, nm_111, sd_111, k0_111, k1_111, k2_111, k3_111, f0_111, f1_111, f2_111, f3_111, fe_111, fo_111, tr_111, op_111, hk0_111, hk1_111, hk2_111, hk3_111, q0_111, q1_111, q2_111, q3_111, q4_111, q5_111, q6_111, q7_111, q8_111, q9_111, q10_111, q11_111, q12_111, hg_111⟩ := id (hDIs (nd - 1) (by omega))
                have c_112 : E (1 + (nd - 1)) 0 = .inr (7, [.int (nI ((nd - 1))), .int fd_111, .int nm_111, .ref (ad (1 + (nd - 1)) 1), .ref (ad (1 + (nd - 1)) 9), .ref (ad (1 + (nd - 1)) 10), .ref (ad (1 + (nd - 1)) 2), .ref (ad (1 + (nd - 1)) 11), .ref (ad (1 + (nd - 1)) 12), .ref (ad (1 + (nd - 1)) 3), .ref (ad (1 + (nd - 1)) 4), .int sd_111]) := q0_111
                have m_113 : (1 + (nd - 1), 0) ∈ RL := hm_111 0 (by omega)
                have c_114 : E (1 + (nd - 1)) 1 = .inr (8, [.ref (ad (1 + (nd - 1)) 5), .int (nI k0_111)]) := q1_111
                have m_115 : (1 + (nd - 1), 1) ∈ RL := hm_111 1 (by omega)
                have c_116 : E (1 + (nd - 1)) 2 = .inr (8, [.ref (ad (1 + (nd - 1)) 6), .int (nI k1_111)]) := q2_111
                have m_117 : (1 + (nd - 1), 2) ∈ RL := hm_111 2 (by omega)
                have c_118 : E (1 + (nd - 1)) 3 = .inr (8, [.ref (ad (1 + (nd - 1)) 7), .int (nI k2_111)]) := q3_111
                have m_119 : (1 + (nd - 1), 3) ∈ RL := hm_111 3 (by omega)
                have c_120 : E (1 + (nd - 1)) 4 = .inr (8, [.ref (ad (1 + (nd - 1)) 8), .int (nI k3_111)]) := q4_111
                have m_121 : (1 + (nd - 1), 4) ∈ RL := hm_111 4 (by omega)
                have c_122 : E (1 + (nd - 1)) 5 = .inl (kA 0, 6, .inl f0_111) := q5_111
                have m_123 : (1 + (nd - 1), 5) ∈ RL := hm_111 5 (by omega)
                have c_124 : E (1 + (nd - 1)) 6 = .inl (kA 0, 5, .inl f1_111) := q6_111
                have m_125 : (1 + (nd - 1), 6) ∈ RL := hm_111 6 (by omega)
                have c_126 : E (1 + (nd - 1)) 7 = .inl (kA 0, 3, .inl f2_111) := q7_111
                have m_127 : (1 + (nd - 1), 7) ∈ RL := hm_111 7 (by omega)
                have c_128 : E (1 + (nd - 1)) 8 = .inl (kA 0, 3, .inl f3_111) := q8_111
                have m_129 : (1 + (nd - 1), 8) ∈ RL := hm_111 8 (by omega)
                have c_130 : E (1 + (nd - 1)) 9 = .inl (kA 8, 6, .inr (.inr (.inr (.inr fe_111)))) := q9_111
                have m_131 : (1 + (nd - 1), 9) ∈ RL := hm_111 9 (by omega)
                have c_132 : E (1 + (nd - 1)) 10 = .inl (kA 8, 6, .inr (.inr (.inr (.inr fo_111)))) := q10_111
                have m_133 : (1 + (nd - 1), 10) ∈ RL := hm_111 10 (by omega)
                have c_134 : E (1 + (nd - 1)) 11 = .inl (kA 2, 5, .inl tr_111) := q11_111
                have m_135 : (1 + (nd - 1), 11) ∈ RL := hm_111 11 (by omega)
                have c_136 : E (1 + (nd - 1)) 12 = .inl (kA 2, 5, .inl op_111) := q12_111
                have m_137 : (1 + (nd - 1), 12) ∈ RL := hm_111 12 (by omega)
                have hg_111 : ∀ w9, w9 < k0_111 → fe_111 w9 = some (ad (1 + (nd - 1)) (20 + 3 * w9)) ∧ fo_111 w9 = some (ad (1 + (nd - 1)) (38 + 3 * w9)) ∧ GI kA (ad (1 + (nd - 1))) (E (1 + (nd - 1))) (fun o => (1 + (nd - 1), o) ∈ RL) (20 + 3 * w9) (21 + 3 * w9) (22 + 3 * w9) ∧ GI kA (ad (1 + (nd - 1))) (E (1 + (nd - 1))) (fun o => (1 + (nd - 1), o) ∈ RL) (38 + 3 * w9) (39 + 3 * w9) (40 + 3 * w9) := hg_111
                obtain ⟨hTT_111, tgr_111⟩ := TD_get hk0_111 hk1_111 hk2_111 hk3_111 c_112 c_114 c_116 c_118 c_120 c_122 c_124 c_126 c_128 c_134 c_136 (hTD (nd - 1) (by omega))
                obtain ⟨tfd_111, tnm_111, tsd_111, tk0_111, tf0_111, tk1_111, tf1_111, tk2_111, tk3_111⟩ := id hTT_111
                have ik0_111 : iN (g 5 (nd - 1)) = k0_111 := by rw [← tk0_111, iN_nI (by omega)]
                have ik1_111 : iN (g 12 (nd - 1)) = k1_111 := by rw [← tk1_111, iN_nI (by omega)]
                refine px_get (D := D) (ci := 7) (v := .int nm_111) (C := xR_Ds) (T := xT_Ds) (N := 12) hx hb hT xi_Ds hown hK.1 hP m_113 c_112 rfl 2 (by decide) (hT _ k5h_11) (fun _ h9 => h9) rfl xd_Sh_acceptRequired_120 ?_
                refine lv_iload hx hb xd_Sh_acceptRequired_123 (lv_at hl 1 rfl) ?_
                refine lv_icmp_eq (tgt := 141) hx hb xd_Sh_acceptRequired_125 (by decide) (fun hc138 => ?_) (fun hc138 => ?_)
                · refine lv_iconst (v := (-1)) hx hb xd_Sh_acceptRequired_141 (by decide) ?_
                  refine W.widen (k := 0) (n := 0) (Nat.le_of_ble_eq_true rfl) (Nat.le_of_ble_eq_true rfl) ?_
                  exact W.iret (v := (-1)) hx hb hr (fun t ht hW => ⟨⟨(-1), (ad, E, RL), rfl, ⟨hCI, by rw [← lR_no (fun q => q.2.2.2.1 (tnm_111.symm.trans (hc138.trans hnB)))]; exact hTD, rfl, FRL_rf⟩, by rw [ht]; exact hP, hD⟩, hS.F ht⟩) hS.2.2 xd_Sh_acceptRequired_142
                · refine lv_aload hx hb xd_Sh_acceptRequired_128 (lv_at hl 0 rfl) ?_
                  refine px_get (D := D) (ci := 7) (v := .ref (ad (1 + (nd - 1)) 2)) (C := xR_Ds) (T := xT_Ds) (N := 12) hx hb hT xi_Ds hown hK.1 hP m_113 c_112 rfl 6 (by decide) (hT _ k5h_12) (fun _ h9 => h9) rfl xd_Sh_acceptRequired_130 ?_
                  refine lv_iload hx hb xd_Sh_acceptRequired_133 (lv_at hl 1 rfl) ?_
                  have hFc := px_free hD hS hA
                  refine va_calli (va_runV (As := [.int (wN (g 0) wl (wl.length - 1))]) (rest := []) ⟨hx, hb, hml, hown, hT⟩ (xc_Na_holds l D kA H.size ad E RL (1 + (nd - 1)) 2 6 5 k1_111 f1_111 (wN (g 0) wl (wl.length - 1)) m_117 c_116 m_125 c_124 (by first | assumption | omega) (by first | assumption | omega)) (cwV 1 hT (wT_V k5h_14 k5h_15 k5h_16 k5h_17 k5h_13) rfl rfl rfl (by decide +kernel) ⟨Nat.le_of_ble_eq_true rfl, Nat.le_of_ble_eq_true rfl⟩) (px_preV hK hP hD m_117 c_116 rfl) rfl rfl hl.1 rfl (lv_room (Nat.le_of_ble_eq_true rfl)) xd_Sh_acceptRequired_135 ⟨(Nat.le_of_ble_eq_true rfl), (Nat.le_of_ble_eq_true rfl)⟩) hS (fun q _ h => hFc q h) hFc (fun r139 u140 t H1 locs ht hvm hp141 hB hz1 hk1 hS => ?_)
                  obtain ⟨hP1, hD1⟩ := hB
                  rw [ht] at hP1
                  have hD1 := hD1.weaken (fun _ _ _ h => hFc _ h)
                  generalize H1 = H at hP1 hS ⊢
                  have hP := hP1
                  have hD := hD1
                  have hP : va_P D xcl (rp ad E RL) H := hP
                  have hD : va_D A (rp ad E RL) := hD
                  rcases hp141 with ⟨rfl, z142, z143, z144⟩ | ⟨rfl, z145⟩
                  · refine W.eq (g2 := F0 m 138 ls [.int 1]) rfl ?_
                    refine lv_if_eq (tgt := 143) hx hb xd_Sh_acceptRequired_138 (by decide) (fun hc146 => absurd hc146 (by decide)) (fun _ => ?_)
                    refine lv_iconst (v := (-1)) hx hb xd_Sh_acceptRequired_141 (by decide) ?_
                    refine W.widen (k := 0) (n := 0) (Nat.le_of_ble_eq_true rfl) (Nat.le_of_ble_eq_true rfl) ?_
                    exact W.iret (v := (-1)) hx hb hr (fun t ht hW => ⟨⟨(-1), (ad, E, RL), rfl, ⟨hCI, by rw [← lR_no (fun q => q.2.2.2.2.1 (5 * (nd - 1) + z142) (by omega) (by omega) ((tf1_111 _ z143).1.symm.trans (z144.trans hnB)))]; exact hTD, rfl, FRL_rf⟩, by rw [ht]; exact hP, hD⟩, hS.F ht⟩) hS.2.2 xd_Sh_acceptRequired_142
                  · refine W.eq (g2 := F0 m 138 ls [.int 0]) rfl ?_
                    refine lv_if_eq (tgt := 143) hx hb xd_Sh_acceptRequired_138 (by decide) (fun _ => ?_) (fun hc147 => absurd (by decide) hc147)
                    refine lv_aload hx hb xd_Sh_acceptRequired_143 (lv_at hl 0 rfl) ?_
                    refine px_get (D := D) (ci := 7) (v := .int sd_111) (C := xR_Ds) (T := xT_Ds) (N := 12) hx hb hT xi_Ds hown hK.1 hP m_113 c_112 rfl 11 (by decide) (hT _ k5h_18) (fun _ h9 => h9) rfl xd_Sh_acceptRequired_145 ?_
                    refine lv_if_ne (tgt := 162) hx hb xd_Sh_acceptRequired_148 (by decide) (fun hc148 => ?_) (fun hc148 => ?_)
                    · refine lv_bipush (v := (-2)) hx hb xd_Sh_acceptRequired_162 (by decide) ?_
                      refine W.widen (k := 0) (n := 0) (Nat.le_of_ble_eq_true rfl) (Nat.le_of_ble_eq_true rfl) ?_
                      exact W.iret (v := (-2)) hx hb hr (fun t ht hW => ⟨⟨(-2), (ad, E, RL), rfl, ⟨hCI, by rw [← lR_no (fun q => hc148 (by rw [tsd_111]; exact q.2.2.2.2.2.1))]; exact hTD, rfl, FRL_rf⟩, by rw [ht]; exact hP, hD⟩, hS.F ht⟩) hS.2.2 xd_Sh_acceptRequired_164
                    · refine lv_aload hx hb xd_Sh_acceptRequired_151 (lv_at hl 0 rfl) ?_
                      refine px_get (D := D) (ci := 7) (v := .ref (ad (1 + (nd - 1)) 2)) (C := xR_Ds) (T := xT_Ds) (N := 12) hx hb hT xi_Ds hown hK.1 hP m_113 c_112 rfl 6 (by decide) (hT _ k5h_12) (fun _ h9 => h9) rfl xd_Sh_acceptRequired_153 ?_
                      have hFc := px_free hD hS hA
                      refine va_calli (va_runV (As := []) (rest := []) ⟨hx, hb, hml, hown, hT⟩ (xc_Na_isFull l D kA H.size ad E RL (1 + (nd - 1)) 2 6 5 k1_111 f1_111 m_117 c_116 m_125 c_124 (by first | assumption | omega) (by first | assumption | omega)) (cwV 0 hT (wT_V k5h_20 k5h_21 k5h_22 k5h_17 k5h_19) rfl rfl rfl (by decide +kernel) ⟨Nat.le_of_ble_eq_true rfl, Nat.le_of_ble_eq_true rfl⟩) (px_preV hK hP hD m_117 c_116 rfl) rfl rfl hl.1 rfl (lv_room (Nat.le_of_ble_eq_true rfl)) xd_Sh_acceptRequired_156 ⟨(Nat.le_of_ble_eq_true rfl), (Nat.le_of_ble_eq_true rfl)⟩) hS (fun q _ h => hFc q h) hFc (fun r149 u150 t H1 locs ht hvm hp151 hB hz1 hk1 hS => ?_)
                      obtain ⟨hP1, hD1⟩ := hB
                      rw [ht] at hP1
                      have hD1 := hD1.weaken (fun _ _ _ h => hFc _ h)
                      generalize H1 = H at hP1 hS ⊢
                      have hP := hP1
                      have hD := hD1
                      have hP : va_P D xcl (rp ad E RL) H := hP
                      have hD : va_D A (rp ad E RL) := hD
                      rcases hp151 with ⟨rfl, z152⟩ | ⟨rfl, z153⟩
                      · refine W.eq (g2 := F0 m 159 ls [.int 1]) rfl ?_
                        refine lv_if_eq (tgt := 165) hx hb xd_Sh_acceptRequired_159 (by decide) (fun hc154 => absurd hc154 (by decide)) (fun _ => ?_)
                        refine lv_bipush (v := (-2)) hx hb xd_Sh_acceptRequired_162 (by decide) ?_
                        refine W.widen (k := 0) (n := 0) (Nat.le_of_ble_eq_true rfl) (Nat.le_of_ble_eq_true rfl) ?_
                        exact W.iret (v := (-2)) hx hb hr (fun t ht hW => ⟨⟨(-2), (ad, E, RL), rfl, ⟨hCI, by rw [← lR_no (fun q => absurd q.2.2.2.2.2.2 (by have := z152; omega))]; exact hTD, rfl, FRL_rf⟩, by rw [ht]; exact hP, hD⟩, hS.F ht⟩) hS.2.2 xd_Sh_acceptRequired_164
                      · refine W.eq (g2 := F0 m 159 ls [.int 0]) rfl ?_
                        refine lv_if_eq (tgt := 165) hx hb xd_Sh_acceptRequired_159 (by decide) (fun _ => ?_) (fun hc155 => absurd (by decide) hc155)
                        refine lv_aload hx hb xd_Sh_acceptRequired_165 (lv_at hl 0 rfl) ?_
                        refine lv_iload hx hb xd_Sh_acceptRequired_167 (lv_at hl 1 rfl) ?_
                        refine lv_iload_n hx hb xd_Sh_acceptRequired_169 rfl (lv_at hl 4 rfl) ?_
                        refine lv_iload_n hx hb xd_Sh_acceptRequired_170 rfl (lv_at hl 3 rfl) ?_
                        have hFc := px_free hD hS hA
                        refine va_callv (va_runV (As := [.int (wN (g 0) wl (wl.length - 1)), .int it9, .int io9]) (rest := []) ⟨hx, hb, hml, hown, hT⟩ (xc_Ds_addRequiredX l D kA H.size ad E RL g (nd - 1) (wN (g 0) wl (wl.length - 1)) it9 io9 (hDIs (nd - 1) (by omega)) (hTD (nd - 1) (by omega)) (by have := z153; omega)) (cwV 3 hT (wT_V k5h_24 k5h_25 k5h_26 k5h_27 k5h_23) rfl rfl rfl (by decide +kernel) ⟨Nat.le_of_ble_eq_true rfl, Nat.le_of_ble_eq_true rfl⟩) (px_preV hK hP hD m_113 c_112 rfl) rfl rfl hl.1 rfl (lv_room (Nat.le_of_ble_eq_true rfl)) xd_Sh_acceptRequired_171 ⟨(Nat.le_of_ble_eq_true rfl), (Nat.le_of_ble_eq_true rfl)⟩) hS (fun q _ h => hFc q h) hFc (fun u157 t H1 locs ht hvm hp158 hB hz1 hk1 hS => ?_)
                        obtain ⟨hP1, hD1⟩ := hB
                        rw [ht] at hP1
                        have hD1 := hD1.weaken (fun _ _ _ h => hFc _ h)
                        generalize H1 = H at hP1 hS ⊢
                        have hP := hP1
                        have hD := hD1
                        obtain ⟨E159, rfl⟩ : ∃ z, z = u157 := ⟨_, rfl⟩
                        obtain ⟨hp161, p_160⟩ := hp158
                        have p_160 : (∀ b2 o2, ¬ (b2 = 1 + (nd - 1)) → E159 b2 o2 = E b2 o2) := p_160
                        have c_162 : E159 0 0 = .inr (0, [.ref (ad 0 1), .ref (ad 0 5), .ref (ad 0 7), .ref (ad 0 9), .int (nI ml), .int lf_1]) := (p_160 0 0 (by omega)).trans c_2
                        have c_163 : E159 0 1 = .inr (1, [.ref (ad 0 2), .ref (ad 0 3), .ref (ad 0 4), .int (nI len), .int (nI (wl.length))]) := (p_160 0 1 (by omega)).trans c_5
                        have c_164 : E159 0 2 = .inl (kA 1, 40, .inl tx_4) := (p_160 0 2 (by omega)).trans c_7
                        have c_165 : E159 0 3 = .inl (kA 0, 20, .inl fb_4) := (p_160 0 3 (by omega)).trans c_9
                        have c_166 : E159 0 4 = .inl (kA 0, 20, .inl fe_4) := (p_160 0 4 (by omega)).trans c_11
                        have c_167 : E159 0 5 = .inr (2, [.ref (ad 0 6), .int (nI nd)]) := (p_160 0 5 (by omega)).trans c_14
                        have c_168 : E159 0 6 = .inl (kA 4, 12, .inr (.inr (.inr (.inr fd_13)))) := (p_160 0 6 (by omega)).trans c_16
                        have c_169 : E159 0 7 = .inr (3, [.ref (ad 0 5), .ref (ad 0 8), .int (nI cs), .int cf_18, pv_18]) := (p_160 0 7 (by omega)).trans c_19
                        have c_170 : E159 0 8 = .inl (kA 4, 12, .inr (.inr (.inr (.inr fc_18)))) := (p_160 0 8 (by omega)).trans c_21
                        have c_171 : E159 0 9 = .inl (kA 5, 5, .inr (.inr (.inr (.inr fl_23)))) := (p_160 0 9 (by omega)).trans c_24
                        have hP : va_P D xcl (rp ad E159 RL) H := hP
                        have hD : va_D A (rp ad E159 RL) := hD
                        obtain ⟨hDI9, hTD9⟩ := hp161
                        have hTD2 : TDs (rqU g (nd - 1) (wN (g 0) wl (wl.length - 1)) (vp_nar .boolean it9) (vp_nar .boolean io9)) E159 nd := TDs_upd (x := nd - 1) hDIs (fun d9 hd9 hx9 => fun2 fun o9 => by show E159 (1 + d9) o9 = _; rw [p_160 (1 + d9) o9 (by omega)]) (fun d9 hd9 hx9 => AG_R (by omega) hx9) hTD9 hTD
                        have hFRL : FRL ml nd ad ad E E159 := ⟨fun n9 hn9 => ⟨fun2 fun o9 => by show E159 (20 + n9) o9 = _; rw [p_160 (20 + n9) o9 (by omega)], fun2 fun o9 => rfl⟩, fun d9 hd9 => rfl, by show E159 0 0 = _; rw [p_160 0 0 (by omega)]⟩
                        have hCI : CI kA ad E159 RL ml nd len wl.length cs := ⟨hmB, ⟨lf_1, c_162⟩, ⟨tx_4, fb_4, fe_4, (by omega), (by omega), c_163, c_164, c_165, c_166, hws_4⟩, ⟨fd_13, (by omega), c_167, c_168, hds_13⟩, ⟨cf_18, pv_18, fc_18, (by omega), hpv_18, c_169, c_170, hfc_18⟩, ⟨fl_23, (by omega), c_171, hla_23⟩, (DIs_set (x := nd - 1) (fun d9 hd9 hx9 => fun2 fun o9 => by show E159 (1 + d9) o9 = _; rw [p_160 (1 + d9) o9 (by omega)]) (fun _ _ _ => rfl) (fun _ h => h) hDI9 hDIs), (LIs_same (Nat.le_refl _) (fun n9 hn9 => fun2 fun o9 => by show E159 (20 + n9) o9 = _; rw [p_160 (20 + n9) o9 (by omega)]) (fun _ _ => rfl) (fun _ _ => rfl) (fun _ h9 => h9) hLIs)⟩
                        obtain ⟨hmB, hDk, hLi, hSh, hCh, hLa, hDIs, hLIs⟩ := id hCI
                        refine lv_iconst (v := 2) hx hb xd_Sh_acceptRequired_174 (by decide) ?_
                        refine W.widen (k := 0) (n := 0) (Nat.le_of_ble_eq_true rfl) (Nat.le_of_ble_eq_true rfl) ?_
                        exact W.iret (v := 2) hx hb hr (fun t ht hW => ⟨⟨2, (ad, E159, RL), rfl, (by
        rw [lR_y hnB hitb hiob ⟨by rw [hrB]; omega, fun q => hc105 (hnB.trans q), by omega, fun q => hc138 (tnm_111.trans (q.trans hnB.symm)), fun j a9 b9 q => by
          have q2 := z145 (j - 5 * (nd - 1)) (by omega)
          rw [(tf1_111 _ (by omega)).1, show 5 * (nd - 1) + (j - 5 * (nd - 1)) = j by omega] at q2
          exact q2 (q.trans hnB.symm), by rw [← tsd_111]; exact hc148, by omega⟩]
        exact ⟨hCI, hTD2, rfl, hFRL⟩), by rw [ht]; exact hP, hD⟩, hS.F ht⟩) hS.2.2 xd_Sh_acceptRequired_175
            · refine lv_iconst (v := (-1)) hx hb xd_Sh_acceptRequired_102 (by decide) ?_
              refine W.widen (k := 0) (n := 0) (Nat.le_of_ble_eq_true rfl) (Nat.le_of_ble_eq_true rfl) ?_
              exact W.iret (v := (-1)) hx hb hr (fun t ht hW => ⟨⟨(-1), (ad, E, RL), rfl, ⟨hCI, by rw [← lR_no (fun q => q.2.1 (by rw [(hrq.2 (by omega)).2.2]; exact hc105))]; exact hTD, rfl, FRL_rf⟩, by rw [ht]; exact hP, hD⟩, hS.F ht⟩) hS.2.2 xd_Sh_acceptRequired_103
      · refine lv_iconst (v := 1) hx hb xd_Sh_acceptRequired_58 (by decide) ?_
        refine lv_goto (tgt := 63) hx hb xd_Sh_acceptRequired_59 (by decide) ?_
        refine lv_iadd hx hb xd_Sh_acceptRequired_63 ?_
        refine xn_top (y := nI (3)) (nI_add 2 1) ?_
        refine lv_iload_n hx hb xd_Sh_acceptRequired_64 rfl (lv_at hl 0 rfl) ?_
        refine lv_if_eq (tgt := 72) hx hb xd_Sh_acceptRequired_65 (by decide) (fun hc172 => ?_) (fun hc172 => ?_)
        · refine lv_iconst (v := 0) hx hb xd_Sh_acceptRequired_72 (by decide) ?_
          refine lv_iadd hx hb xd_Sh_acceptRequired_73 ?_
          refine xn_top (y := nI (3)) (nI_add 3 0) ?_
          refine lv_istore hx hb xd_Sh_acceptRequired_74 hl (Nat.le_of_ble_eq_true rfl) rfl (fun ls hl => ?_)
          have hl : lv_has ls 7 [(4, .int (nI 3)), (3, .int io9), (2, .int it9), (1, .ref (ad 0 1)), (0, .ref (ad 0 5))] := hl
          have hfa : ((1 : Nat) = 1 ∧ 3 ≤ wl.length ∧ wS (g 0) wl 1 zTr) ∨ ((1 : Nat) = 0 ∧ ¬ (3 ≤ wl.length ∧ wS (g 0) wl 1 zTr)) := by
            rcases hit with ⟨q, q2⟩ | ⟨q, q2⟩
            · exact Or.inl ⟨rfl, q2⟩
            · exact absurd q hc28
          have hfb : ((0 : Nat) = 1 ∧ 3 ≤ wl.length ∧ wS (g 0) wl (wl.length - 2) zSt) ∨ ((0 : Nat) = 0 ∧ ¬ (3 ≤ wl.length ∧ wS (g 0) wl (wl.length - 2) zSt)) := by
            rcases hio with ⟨q, q2⟩ | ⟨q, q2⟩
            · exact absurd (q.symm.trans hc172) (by decide)
            · exact Or.inr ⟨rfl, q2⟩
          have hrq := rq_iff hfa hfb
          refine lv_aload_n hx hb xd_Sh_acceptRequired_76 rfl (lv_at hl 3 rfl) ?_
          refine lv_aload_n hx hb xd_Sh_acceptRequired_77 rfl (lv_at hl 3 rfl) ?_
          refine px_get (D := D) (ci := 1) (v := .int (nI (wl.length))) (C := xR_Li) (T := xT_Li) (N := 5) hx hb hT xi_Li hown hK.1 hP m_6 c_5 rfl 4 (by decide) (hT _ k5h_0) (fun _ h9 => h9) rfl xd_Sh_acceptRequired_78 ?_
          refine lv_iconst (v := 1) hx hb xd_Sh_acceptRequired_81 (by decide) ?_
          refine lv_isub hx hb xd_Sh_acceptRequired_82 ?_
          refine xn_top (y := nI (wl.length - 1)) (pk_sub (a := wl.length) (b := 1) (by omega)) ?_
          have hFc := px_free hD hS hA
          refine va_calli (va_runV (As := [.int (nI (wl.length - 1))]) (rest := []) ⟨hx, hb, hml, hown, hT⟩ (xc_Li_nameAtX l D kA H.size ad E RL g ml nd len lt wl cs (wl.length - 1) (by first | assumption | omega) (by first | assumption | omega) (by first | assumption | omega)) (cwV 1 hT (wT_V k5h_2 k5h_3 k5h_4 k5h_5 k5h_1) rfl rfl rfl (by decide +kernel) ⟨Nat.le_of_ble_eq_true rfl, Nat.le_of_ble_eq_true rfl⟩) (px_preV hK hP hD m_6 c_5 rfl) rfl rfl hl.1 rfl (lv_room (Nat.le_of_ble_eq_true rfl)) xd_Sh_acceptRequired_83 ⟨(Nat.le_of_ble_eq_true rfl), (Nat.le_of_ble_eq_true rfl)⟩) hS (fun q _ h => hFc q h) hFc (fun r173 u174 t H1 locs ht hvm hp175 hB hz1 hk1 hS => ?_)
          obtain ⟨hP1, hD1⟩ := hB
          rw [ht] at hP1
          have hD1 := hD1.weaken (fun _ _ _ h => hFc _ h)
          generalize H1 = H at hP1 hS ⊢
          have hP := hP1
          have hD := hD1
          have hP : va_P D xcl (rp ad E RL) H := hP
          have hD : va_D A (rp ad E RL) := hD
          have hp175 : r173 = wN (g 0) wl (wl.length - 1) := hp175
          subst hp175
          have hP : va_P D xcl (rp ad E RL) H := hP
          have hD : va_D A (rp ad E RL) := hD
          refine lv_istore hx hb xd_Sh_acceptRequired_86 hl (Nat.le_of_ble_eq_true rfl) rfl (fun ls hl => ?_)
          have hl : lv_has ls 7 [(5, .int (wN (g 0) wl (wl.length - 1))), (4, .int (nI 3)), (3, .int io9), (2, .int it9), (1, .ref (ad 0 1)), (0, .ref (ad 0 5))] := hl
          refine lv_aload_n hx hb xd_Sh_acceptRequired_88 rfl (lv_at hl 4 rfl) ?_
          refine px_get (D := D) (ci := 1) (v := .int (nI (wl.length))) (C := xR_Li) (T := xT_Li) (N := 5) hx hb hT xi_Li hown hK.1 hP m_6 c_5 rfl 4 (by decide) (hT _ k5h_0) (fun _ h9 => h9) rfl xd_Sh_acceptRequired_89 ?_
          refine lv_iload hx hb xd_Sh_acceptRequired_92 (lv_at hl 1 rfl) ?_
          refine xn_ne (a := wl.length) (b := 3) (tgt := 102) hx hb xd_Sh_acceptRequired_94 (by decide) (by omega) (by omega) (fun hc176 => ?_) (fun hc176 => ?_)
          · refine lv_iconst (v := (-1)) hx hb xd_Sh_acceptRequired_102 (by decide) ?_
            refine W.widen (k := 0) (n := 0) (Nat.le_of_ble_eq_true rfl) (Nat.le_of_ble_eq_true rfl) ?_
            exact W.iret (v := (-1)) hx hb hr (fun t ht hW => ⟨⟨(-1), (ad, E, RL), rfl, ⟨hCI, by rw [← lR_no (fun q => absurd (hrq.1.mp q.1) (by omega))]; exact hTD, rfl, FRL_rf⟩, by rw [ht]; exact hP, hD⟩, hS.F ht⟩) hS.2.2 xd_Sh_acceptRequired_103
          · refine lv_iload hx hb xd_Sh_acceptRequired_97 (lv_at hl 0 rfl) ?_
            refine lv_if_ne (tgt := 104) hx hb xd_Sh_acceptRequired_99 (by decide) (fun hc177 => ?_) (fun hc177 => ?_)
            · obtain ⟨hrT, hrO, hrB⟩ := hrq.2 (by omega)
              have hitb : it9 = bI (rqT (g 0) wl) := by
                rcases hit with ⟨q, _⟩ | ⟨q, _⟩
                · rw [q]; exact bI_1 (hrT.mpr rfl)
                · exact absurd q hc28
              have hiob : io9 = bI (rqO (g 0) wl) := by rw [hc172]; exact bI_0 (fun q => absurd (hrO.mp q) (by decide))
              have hnB : wN (g 0) wl (wl.length - 1) = wN (g 0) wl (rqB (g 0) wl) := by rw [hrB]
              refine lv_aload_n hx hb xd_Sh_acceptRequired_104 rfl (lv_at hl 5 rfl) ?_
              have hFc := px_free hD hS hA
              refine va_callq (va_runV (As := []) (rest := []) ⟨hx, hb, hml, hown, hT⟩ (xc_Sh_latestX l D kA H.size ad E RL ml nd len wl.length cs (by first | assumption | omega)) (cwV 0 hT (wT_V k5h_7 k5h_8 k5h_9 k5h_10 k5h_6) rfl rfl rfl (by decide +kernel) ⟨Nat.le_of_ble_eq_true rfl, Nat.le_of_ble_eq_true rfl⟩) (px_preV hK hP hD m_15 c_14 rfl) rfl rfl hl.1 rfl (lv_room (Nat.le_of_ble_eq_true rfl)) xd_Sh_acceptRequired_105 ⟨(Nat.le_of_ble_eq_true rfl), (Nat.le_of_ble_eq_true rfl)⟩) hS (fun q _ h => hFc q h) hFc (fun r178 u179 t H1 locs ht hvm hp180 hB hz1 hk1 hS => ?_)
              obtain ⟨hP1, hD1⟩ := hB
              rw [ht] at hP1
              have hD1 := hD1.weaken (fun _ _ _ h => hFc _ h)
              generalize H1 = H at hP1 hS ⊢
              have hP := hP1
              have hD := hD1
              have hP : va_P D xcl (rp ad E RL) H := hP
              have hD : va_D A (rp ad E RL) := hD
              rcases hp180 with ⟨rfl, z181⟩ | ⟨z182, rfl⟩
              · refine W.eq (g2 := F0 m 108 ls [.null]) rfl ?_
                refine lv_astoreN hx hb xd_Sh_acceptRequired_108 hl (Nat.le_of_ble_eq_true rfl) rfl (fun ls hl => ?_)
                have hl : lv_has ls 7 [(6, .null), (5, .int (wN (g 0) wl (wl.length - 1))), (4, .int (nI 3)), (3, .int io9), (2, .int it9), (1, .ref (ad 0 1)), (0, .ref (ad 0 5))] := hl
                refine lv_aloadN hx hb xd_Sh_acceptRequired_110 (lv_at hl 0 rfl) ?_
                refine lv_ifnonnullN hx hb xd_Sh_acceptRequired_112 ?_
                refine lv_bipush (v := (-2)) hx hb xd_Sh_acceptRequired_115 (by decide) ?_
                refine W.widen (k := 0) (n := 0) (Nat.le_of_ble_eq_true rfl) (Nat.le_of_ble_eq_true rfl) ?_
                exact W.iret (v := (-2)) hx hb hr (fun t ht hW => ⟨⟨(-2), (ad, E, RL), rfl, ⟨hCI, by rw [← lR_no (fun q => absurd q.2.2.1 (by omega))]; exact hTD, rfl, FRL_rf⟩, by rw [ht]; exact hP, hD⟩, hS.F ht⟩) hS.2.2 xd_Sh_acceptRequired_117
              · refine W.eq (g2 := F0 m 108 ls [.ref (ad (1 + (nd - 1)) 0)]) rfl ?_
                refine lv_astore hx hb xd_Sh_acceptRequired_108 hl (Nat.le_of_ble_eq_true rfl) rfl (fun ls hl => ?_)
                have hl : lv_has ls 7 [(6, .ref (ad (1 + (nd - 1)) 0)), (5, .int (wN (g 0) wl (wl.length - 1))), (4, .int (nI 3)), (3, .int io9), (2, .int it9), (1, .ref (ad 0 1)), (0, .ref (ad 0 5))] := hl
                refine lv_aload hx hb xd_Sh_acceptRequired_110 (lv_at hl 0 rfl) ?_
                refine lv_ifnonnull (tgt := 118) hx hb xd_Sh_acceptRequired_112 (by decide) ?_
                refine lv_aload hx hb xd_Sh_acceptRequired_118 (lv_at hl 0 rfl) ?_
                obtain ⟨hm_183, fd_183, nm_183, sd_183, k0_183, k1_183, k2_183, k3_183, f0_183, f1_183, f2_183, f3_183, fe_183, fo_183, tr_183, op_183, hk0_183, hk1_183, hk2_183, hk3_183, q0_183, q1_183, q2_183, q3_183, q4_183, q5_183, q6_183, q7_183, q8_183, q9_183, q10_183, q11_183, q12_183, hg_183⟩ := id (hDIs (nd - 1) (by omega))
                have c_184 : E (1 + (nd - 1)) 0 = .inr (7, [.int (nI ((nd - 1))), .int fd_183, .int nm_183, .ref (ad (1 + (nd - 1)) 1), .ref (ad (1 + (nd - 1)) 9), .ref (ad (1 + (nd - 1)) 10), .ref (ad (1 + (nd - 1)) 2), .ref (ad (1 + (nd - 1)) 11), .ref (ad (1 + (nd - 1)) 12), .ref (ad (1 + (nd - 1)) 3), .ref (ad (1 + (nd - 1)) 4), .int sd_183]) := q0_183
                have m_185 : (1 + (nd - 1), 0) ∈ RL := hm_183 0 (by omega)
                have c_186 : E (1 + (nd - 1)) 1 = .inr (8, [.ref (ad (1 + (nd - 1)) 5), .int (nI k0_183)]) := q1_183
                have m_187 : (1 + (nd - 1), 1) ∈ RL := hm_183 1 (by omega)
                have c_188 : E (1 + (nd - 1)) 2 = .inr (8, [.ref (ad (1 + (nd - 1)) 6), .int (nI k1_183)]) := q2_183
                have m_189 : (1 + (nd - 1), 2) ∈ RL := hm_183 2 (by omega)
                have c_190 : E (1 + (nd - 1)) 3 = .inr (8, [.ref (ad (1 + (nd - 1)) 7), .int (nI k2_183)]) := q3_183
                have m_191 : (1 + (nd - 1), 3) ∈ RL := hm_183 3 (by omega)
                have c_192 : E (1 + (nd - 1)) 4 = .inr (8, [.ref (ad (1 + (nd - 1)) 8), .int (nI k3_183)]) := q4_183
                have m_193 : (1 + (nd - 1), 4) ∈ RL := hm_183 4 (by omega)
                have c_194 : E (1 + (nd - 1)) 5 = .inl (kA 0, 6, .inl f0_183) := q5_183
                have m_195 : (1 + (nd - 1), 5) ∈ RL := hm_183 5 (by omega)
                have c_196 : E (1 + (nd - 1)) 6 = .inl (kA 0, 5, .inl f1_183) := q6_183
                have m_197 : (1 + (nd - 1), 6) ∈ RL := hm_183 6 (by omega)
                have c_198 : E (1 + (nd - 1)) 7 = .inl (kA 0, 3, .inl f2_183) := q7_183
                have m_199 : (1 + (nd - 1), 7) ∈ RL := hm_183 7 (by omega)
                have c_200 : E (1 + (nd - 1)) 8 = .inl (kA 0, 3, .inl f3_183) := q8_183
                have m_201 : (1 + (nd - 1), 8) ∈ RL := hm_183 8 (by omega)
                have c_202 : E (1 + (nd - 1)) 9 = .inl (kA 8, 6, .inr (.inr (.inr (.inr fe_183)))) := q9_183
                have m_203 : (1 + (nd - 1), 9) ∈ RL := hm_183 9 (by omega)
                have c_204 : E (1 + (nd - 1)) 10 = .inl (kA 8, 6, .inr (.inr (.inr (.inr fo_183)))) := q10_183
                have m_205 : (1 + (nd - 1), 10) ∈ RL := hm_183 10 (by omega)
                have c_206 : E (1 + (nd - 1)) 11 = .inl (kA 2, 5, .inl tr_183) := q11_183
                have m_207 : (1 + (nd - 1), 11) ∈ RL := hm_183 11 (by omega)
                have c_208 : E (1 + (nd - 1)) 12 = .inl (kA 2, 5, .inl op_183) := q12_183
                have m_209 : (1 + (nd - 1), 12) ∈ RL := hm_183 12 (by omega)
                have hg_183 : ∀ w9, w9 < k0_183 → fe_183 w9 = some (ad (1 + (nd - 1)) (20 + 3 * w9)) ∧ fo_183 w9 = some (ad (1 + (nd - 1)) (38 + 3 * w9)) ∧ GI kA (ad (1 + (nd - 1))) (E (1 + (nd - 1))) (fun o => (1 + (nd - 1), o) ∈ RL) (20 + 3 * w9) (21 + 3 * w9) (22 + 3 * w9) ∧ GI kA (ad (1 + (nd - 1))) (E (1 + (nd - 1))) (fun o => (1 + (nd - 1), o) ∈ RL) (38 + 3 * w9) (39 + 3 * w9) (40 + 3 * w9) := hg_183
                obtain ⟨hTT_183, tgr_183⟩ := TD_get hk0_183 hk1_183 hk2_183 hk3_183 c_184 c_186 c_188 c_190 c_192 c_194 c_196 c_198 c_200 c_206 c_208 (hTD (nd - 1) (by omega))
                obtain ⟨tfd_183, tnm_183, tsd_183, tk0_183, tf0_183, tk1_183, tf1_183, tk2_183, tk3_183⟩ := id hTT_183
                have ik0_183 : iN (g 5 (nd - 1)) = k0_183 := by rw [← tk0_183, iN_nI (by omega)]
                have ik1_183 : iN (g 12 (nd - 1)) = k1_183 := by rw [← tk1_183, iN_nI (by omega)]
                refine px_get (D := D) (ci := 7) (v := .int nm_183) (C := xR_Ds) (T := xT_Ds) (N := 12) hx hb hT xi_Ds hown hK.1 hP m_185 c_184 rfl 2 (by decide) (hT _ k5h_11) (fun _ h9 => h9) rfl xd_Sh_acceptRequired_120 ?_
                refine lv_iload hx hb xd_Sh_acceptRequired_123 (lv_at hl 1 rfl) ?_
                refine lv_icmp_eq (tgt := 141) hx hb xd_Sh_acceptRequired_125 (by decide) (fun hc210 => ?_) (fun hc210 => ?_)
                · refine lv_iconst (v := (-1)) hx hb xd_Sh_acceptRequired_141 (by decide) ?_
                  refine W.widen (k := 0) (n := 0) (Nat.le_of_ble_eq_true rfl) (Nat.le_of_ble_eq_true rfl) ?_
                  exact W.iret (v := (-1)) hx hb hr (fun t ht hW => ⟨⟨(-1), (ad, E, RL), rfl, ⟨hCI, by rw [← lR_no (fun q => q.2.2.2.1 (tnm_183.symm.trans (hc210.trans hnB)))]; exact hTD, rfl, FRL_rf⟩, by rw [ht]; exact hP, hD⟩, hS.F ht⟩) hS.2.2 xd_Sh_acceptRequired_142
                · refine lv_aload hx hb xd_Sh_acceptRequired_128 (lv_at hl 0 rfl) ?_
                  refine px_get (D := D) (ci := 7) (v := .ref (ad (1 + (nd - 1)) 2)) (C := xR_Ds) (T := xT_Ds) (N := 12) hx hb hT xi_Ds hown hK.1 hP m_185 c_184 rfl 6 (by decide) (hT _ k5h_12) (fun _ h9 => h9) rfl xd_Sh_acceptRequired_130 ?_
                  refine lv_iload hx hb xd_Sh_acceptRequired_133 (lv_at hl 1 rfl) ?_
                  have hFc := px_free hD hS hA
                  refine va_calli (va_runV (As := [.int (wN (g 0) wl (wl.length - 1))]) (rest := []) ⟨hx, hb, hml, hown, hT⟩ (xc_Na_holds l D kA H.size ad E RL (1 + (nd - 1)) 2 6 5 k1_183 f1_183 (wN (g 0) wl (wl.length - 1)) m_189 c_188 m_197 c_196 (by first | assumption | omega) (by first | assumption | omega)) (cwV 1 hT (wT_V k5h_14 k5h_15 k5h_16 k5h_17 k5h_13) rfl rfl rfl (by decide +kernel) ⟨Nat.le_of_ble_eq_true rfl, Nat.le_of_ble_eq_true rfl⟩) (px_preV hK hP hD m_189 c_188 rfl) rfl rfl hl.1 rfl (lv_room (Nat.le_of_ble_eq_true rfl)) xd_Sh_acceptRequired_135 ⟨(Nat.le_of_ble_eq_true rfl), (Nat.le_of_ble_eq_true rfl)⟩) hS (fun q _ h => hFc q h) hFc (fun r211 u212 t H1 locs ht hvm hp213 hB hz1 hk1 hS => ?_)
                  obtain ⟨hP1, hD1⟩ := hB
                  rw [ht] at hP1
                  have hD1 := hD1.weaken (fun _ _ _ h => hFc _ h)
                  generalize H1 = H at hP1 hS ⊢
                  have hP := hP1
                  have hD := hD1
                  have hP : va_P D xcl (rp ad E RL) H := hP
                  have hD : va_D A (rp ad E RL) := hD
                  rcases hp213 with ⟨rfl, z214, z215, z216⟩ | ⟨rfl, z217⟩
                  · refine W.eq (g2 := F0 m 138 ls [.int 1]) rfl ?_
                    refine lv_if_eq (tgt := 143) hx hb xd_Sh_acceptRequired_138 (by decide) (fun hc218 => absurd hc218 (by decide)) (fun _ => ?_)
                    refine lv_iconst (v := (-1)) hx hb xd_Sh_acceptRequired_141 (by decide) ?_
                    refine W.widen (k := 0) (n := 0) (Nat.le_of_ble_eq_true rfl) (Nat.le_of_ble_eq_true rfl) ?_
                    exact W.iret (v := (-1)) hx hb hr (fun t ht hW => ⟨⟨(-1), (ad, E, RL), rfl, ⟨hCI, by rw [← lR_no (fun q => q.2.2.2.2.1 (5 * (nd - 1) + z214) (by omega) (by omega) ((tf1_183 _ z215).1.symm.trans (z216.trans hnB)))]; exact hTD, rfl, FRL_rf⟩, by rw [ht]; exact hP, hD⟩, hS.F ht⟩) hS.2.2 xd_Sh_acceptRequired_142
                  · refine W.eq (g2 := F0 m 138 ls [.int 0]) rfl ?_
                    refine lv_if_eq (tgt := 143) hx hb xd_Sh_acceptRequired_138 (by decide) (fun _ => ?_) (fun hc219 => absurd (by decide) hc219)
                    refine lv_aload hx hb xd_Sh_acceptRequired_143 (lv_at hl 0 rfl) ?_
                    refine px_get (D := D) (ci := 7) (v := .int sd_183) (C := xR_Ds) (T := xT_Ds) (N := 12) hx hb hT xi_Ds hown hK.1 hP m_185 c_184 rfl 11 (by decide) (hT _ k5h_18) (fun _ h9 => h9) rfl xd_Sh_acceptRequired_145 ?_
                    refine lv_if_ne (tgt := 162) hx hb xd_Sh_acceptRequired_148 (by decide) (fun hc220 => ?_) (fun hc220 => ?_)
                    · refine lv_bipush (v := (-2)) hx hb xd_Sh_acceptRequired_162 (by decide) ?_
                      refine W.widen (k := 0) (n := 0) (Nat.le_of_ble_eq_true rfl) (Nat.le_of_ble_eq_true rfl) ?_
                      exact W.iret (v := (-2)) hx hb hr (fun t ht hW => ⟨⟨(-2), (ad, E, RL), rfl, ⟨hCI, by rw [← lR_no (fun q => hc220 (by rw [tsd_183]; exact q.2.2.2.2.2.1))]; exact hTD, rfl, FRL_rf⟩, by rw [ht]; exact hP, hD⟩, hS.F ht⟩) hS.2.2 xd_Sh_acceptRequired_164
                    · refine lv_aload hx hb xd_Sh_acceptRequired_151 (lv_at hl 0 rfl) ?_
                      refine px_get (D := D) (ci := 7) (v := .ref (ad (1 + (nd - 1)) 2)) (C := xR_Ds) (T := xT_Ds) (N := 12) hx hb hT xi_Ds hown hK.1 hP m_185 c_184 rfl 6 (by decide) (hT _ k5h_12) (fun _ h9 => h9) rfl xd_Sh_acceptRequired_153 ?_
                      have hFc := px_free hD hS hA
                      refine va_calli (va_runV (As := []) (rest := []) ⟨hx, hb, hml, hown, hT⟩ (xc_Na_isFull l D kA H.size ad E RL (1 + (nd - 1)) 2 6 5 k1_183 f1_183 m_189 c_188 m_197 c_196 (by first | assumption | omega) (by first | assumption | omega)) (cwV 0 hT (wT_V k5h_20 k5h_21 k5h_22 k5h_17 k5h_19) rfl rfl rfl (by decide +kernel) ⟨Nat.le_of_ble_eq_true rfl, Nat.le_of_ble_eq_true rfl⟩) (px_preV hK hP hD m_189 c_188 rfl) rfl rfl hl.1 rfl (lv_room (Nat.le_of_ble_eq_true rfl)) xd_Sh_acceptRequired_156 ⟨(Nat.le_of_ble_eq_true rfl), (Nat.le_of_ble_eq_true rfl)⟩) hS (fun q _ h => hFc q h) hFc (fun r221 u222 t H1 locs ht hvm hp223 hB hz1 hk1 hS => ?_)
                      obtain ⟨hP1, hD1⟩ := hB
                      rw [ht] at hP1
                      have hD1 := hD1.weaken (fun _ _ _ h => hFc _ h)
                      generalize H1 = H at hP1 hS ⊢
                      have hP := hP1
                      have hD := hD1
                      have hP : va_P D xcl (rp ad E RL) H := hP
                      have hD : va_D A (rp ad E RL) := hD
                      rcases hp223 with ⟨rfl, z224⟩ | ⟨rfl, z225⟩
                      · refine W.eq (g2 := F0 m 159 ls [.int 1]) rfl ?_
                        refine lv_if_eq (tgt := 165) hx hb xd_Sh_acceptRequired_159 (by decide) (fun hc226 => absurd hc226 (by decide)) (fun _ => ?_)
                        refine lv_bipush (v := (-2)) hx hb xd_Sh_acceptRequired_162 (by decide) ?_
                        refine W.widen (k := 0) (n := 0) (Nat.le_of_ble_eq_true rfl) (Nat.le_of_ble_eq_true rfl) ?_
                        exact W.iret (v := (-2)) hx hb hr (fun t ht hW => ⟨⟨(-2), (ad, E, RL), rfl, ⟨hCI, by rw [← lR_no (fun q => absurd q.2.2.2.2.2.2 (by have := z224; omega))]; exact hTD, rfl, FRL_rf⟩, by rw [ht]; exact hP, hD⟩, hS.F ht⟩) hS.2.2 xd_Sh_acceptRequired_164
                      · refine W.eq (g2 := F0 m 159 ls [.int 0]) rfl ?_
                        refine lv_if_eq (tgt := 165) hx hb xd_Sh_acceptRequired_159 (by decide) (fun _ => ?_) (fun hc227 => absurd (by decide) hc227)
                        refine lv_aload hx hb xd_Sh_acceptRequired_165 (lv_at hl 0 rfl) ?_
                        refine lv_iload hx hb xd_Sh_acceptRequired_167 (lv_at hl 1 rfl) ?_
                        refine lv_iload_n hx hb xd_Sh_acceptRequired_169 rfl (lv_at hl 4 rfl) ?_
                        refine lv_iload_n hx hb xd_Sh_acceptRequired_170 rfl (lv_at hl 3 rfl) ?_
                        have hFc := px_free hD hS hA
                        refine va_callv (va_runV (As := [.int (wN (g 0) wl (wl.length - 1)), .int it9, .int io9]) (rest := []) ⟨hx, hb, hml, hown, hT⟩ (xc_Ds_addRequiredX l D kA H.size ad E RL g (nd - 1) (wN (g 0) wl (wl.length - 1)) it9 io9 (hDIs (nd - 1) (by omega)) (hTD (nd - 1) (by omega)) (by have := z225; omega)) (cwV 3 hT (wT_V k5h_24 k5h_25 k5h_26 k5h_27 k5h_23) rfl rfl rfl (by decide +kernel) ⟨Nat.le_of_ble_eq_true rfl, Nat.le_of_ble_eq_true rfl⟩) (px_preV hK hP hD m_185 c_184 rfl) rfl rfl hl.1 rfl (lv_room (Nat.le_of_ble_eq_true rfl)) xd_Sh_acceptRequired_171 ⟨(Nat.le_of_ble_eq_true rfl), (Nat.le_of_ble_eq_true rfl)⟩) hS (fun q _ h => hFc q h) hFc (fun u229 t H1 locs ht hvm hp230 hB hz1 hk1 hS => ?_)
                        obtain ⟨hP1, hD1⟩ := hB
                        rw [ht] at hP1
                        have hD1 := hD1.weaken (fun _ _ _ h => hFc _ h)
                        generalize H1 = H at hP1 hS ⊢
                        have hP := hP1
                        have hD := hD1
                        obtain ⟨E231, rfl⟩ : ∃ z, z = u229 := ⟨_, rfl⟩
                        obtain ⟨hp233, p_232⟩ := hp230
                        have p_232 : (∀ b2 o2, ¬ (b2 = 1 + (nd - 1)) → E231 b2 o2 = E b2 o2) := p_232
                        have c_234 : E231 0 0 = .inr (0, [.ref (ad 0 1), .ref (ad 0 5), .ref (ad 0 7), .ref (ad 0 9), .int (nI ml), .int lf_1]) := (p_232 0 0 (by omega)).trans c_2
                        have c_235 : E231 0 1 = .inr (1, [.ref (ad 0 2), .ref (ad 0 3), .ref (ad 0 4), .int (nI len), .int (nI (wl.length))]) := (p_232 0 1 (by omega)).trans c_5
                        have c_236 : E231 0 2 = .inl (kA 1, 40, .inl tx_4) := (p_232 0 2 (by omega)).trans c_7
                        have c_237 : E231 0 3 = .inl (kA 0, 20, .inl fb_4) := (p_232 0 3 (by omega)).trans c_9
                        have c_238 : E231 0 4 = .inl (kA 0, 20, .inl fe_4) := (p_232 0 4 (by omega)).trans c_11
                        have c_239 : E231 0 5 = .inr (2, [.ref (ad 0 6), .int (nI nd)]) := (p_232 0 5 (by omega)).trans c_14
                        have c_240 : E231 0 6 = .inl (kA 4, 12, .inr (.inr (.inr (.inr fd_13)))) := (p_232 0 6 (by omega)).trans c_16
                        have c_241 : E231 0 7 = .inr (3, [.ref (ad 0 5), .ref (ad 0 8), .int (nI cs), .int cf_18, pv_18]) := (p_232 0 7 (by omega)).trans c_19
                        have c_242 : E231 0 8 = .inl (kA 4, 12, .inr (.inr (.inr (.inr fc_18)))) := (p_232 0 8 (by omega)).trans c_21
                        have c_243 : E231 0 9 = .inl (kA 5, 5, .inr (.inr (.inr (.inr fl_23)))) := (p_232 0 9 (by omega)).trans c_24
                        have hP : va_P D xcl (rp ad E231 RL) H := hP
                        have hD : va_D A (rp ad E231 RL) := hD
                        obtain ⟨hDI9, hTD9⟩ := hp233
                        have hTD2 : TDs (rqU g (nd - 1) (wN (g 0) wl (wl.length - 1)) (vp_nar .boolean it9) (vp_nar .boolean io9)) E231 nd := TDs_upd (x := nd - 1) hDIs (fun d9 hd9 hx9 => fun2 fun o9 => by show E231 (1 + d9) o9 = _; rw [p_232 (1 + d9) o9 (by omega)]) (fun d9 hd9 hx9 => AG_R (by omega) hx9) hTD9 hTD
                        have hFRL : FRL ml nd ad ad E E231 := ⟨fun n9 hn9 => ⟨fun2 fun o9 => by show E231 (20 + n9) o9 = _; rw [p_232 (20 + n9) o9 (by omega)], fun2 fun o9 => rfl⟩, fun d9 hd9 => rfl, by show E231 0 0 = _; rw [p_232 0 0 (by omega)]⟩
                        have hCI : CI kA ad E231 RL ml nd len wl.length cs := ⟨hmB, ⟨lf_1, c_234⟩, ⟨tx_4, fb_4, fe_4, (by omega), (by omega), c_235, c_236, c_237, c_238, hws_4⟩, ⟨fd_13, (by omega), c_239, c_240, hds_13⟩, ⟨cf_18, pv_18, fc_18, (by omega), hpv_18, c_241, c_242, hfc_18⟩, ⟨fl_23, (by omega), c_243, hla_23⟩, (DIs_set (x := nd - 1) (fun d9 hd9 hx9 => fun2 fun o9 => by show E231 (1 + d9) o9 = _; rw [p_232 (1 + d9) o9 (by omega)]) (fun _ _ _ => rfl) (fun _ h => h) hDI9 hDIs), (LIs_same (Nat.le_refl _) (fun n9 hn9 => fun2 fun o9 => by show E231 (20 + n9) o9 = _; rw [p_232 (20 + n9) o9 (by omega)]) (fun _ _ => rfl) (fun _ _ => rfl) (fun _ h9 => h9) hLIs)⟩
                        obtain ⟨hmB, hDk, hLi, hSh, hCh, hLa, hDIs, hLIs⟩ := id hCI
                        refine lv_iconst (v := 2) hx hb xd_Sh_acceptRequired_174 (by decide) ?_
                        refine W.widen (k := 0) (n := 0) (Nat.le_of_ble_eq_true rfl) (Nat.le_of_ble_eq_true rfl) ?_
                        exact W.iret (v := 2) hx hb hr (fun t ht hW => ⟨⟨2, (ad, E231, RL), rfl, (by
        rw [lR_y hnB hitb hiob ⟨by rw [hrB]; omega, fun q => hc177 (hnB.trans q), by omega, fun q => hc210 (tnm_183.trans (q.trans hnB.symm)), fun j a9 b9 q => by
          have q2 := z217 (j - 5 * (nd - 1)) (by omega)
          rw [(tf1_183 _ (by omega)).1, show 5 * (nd - 1) + (j - 5 * (nd - 1)) = j by omega] at q2
          exact q2 (q.trans hnB.symm), by rw [← tsd_183]; exact hc220, by omega⟩]
        exact ⟨hCI, hTD2, rfl, hFRL⟩), by rw [ht]; exact hP, hD⟩, hS.F ht⟩) hS.2.2 xd_Sh_acceptRequired_175
            · refine lv_iconst (v := (-1)) hx hb xd_Sh_acceptRequired_102 (by decide) ?_
              refine W.widen (k := 0) (n := 0) (Nat.le_of_ble_eq_true rfl) (Nat.le_of_ble_eq_true rfl) ?_
              exact W.iret (v := (-1)) hx hb hr (fun t ht hW => ⟨⟨(-1), (ad, E, RL), rfl, ⟨hCI, by rw [← lR_no (fun q => q.2.1 (by rw [(hrq.2 (by omega)).2.2]; exact hc177))]; exact hTD, rfl, FRL_rf⟩, by rw [ht]; exact hP, hD⟩, hS.F ht⟩) hS.2.2 xd_Sh_acceptRequired_103
        · refine lv_iconst (v := 1) hx hb xd_Sh_acceptRequired_68 (by decide) ?_
          refine lv_goto (tgt := 73) hx hb xd_Sh_acceptRequired_69 (by decide) ?_
          refine lv_iadd hx hb xd_Sh_acceptRequired_73 ?_
          refine xn_top (y := nI (4)) (nI_add 3 1) ?_
          refine lv_istore hx hb xd_Sh_acceptRequired_74 hl (Nat.le_of_ble_eq_true rfl) rfl (fun ls hl => ?_)
          have hl : lv_has ls 7 [(4, .int (nI 4)), (3, .int io9), (2, .int it9), (1, .ref (ad 0 1)), (0, .ref (ad 0 5))] := hl
          have hfa : ((1 : Nat) = 1 ∧ 3 ≤ wl.length ∧ wS (g 0) wl 1 zTr) ∨ ((1 : Nat) = 0 ∧ ¬ (3 ≤ wl.length ∧ wS (g 0) wl 1 zTr)) := by
            rcases hit with ⟨q, q2⟩ | ⟨q, q2⟩
            · exact Or.inl ⟨rfl, q2⟩
            · exact absurd q hc28
          have hfb : ((1 : Nat) = 1 ∧ 3 ≤ wl.length ∧ wS (g 0) wl (wl.length - 2) zSt) ∨ ((1 : Nat) = 0 ∧ ¬ (3 ≤ wl.length ∧ wS (g 0) wl (wl.length - 2) zSt)) := by
            rcases hio with ⟨q, q2⟩ | ⟨q, q2⟩
            · exact Or.inl ⟨rfl, q2⟩
            · exact absurd q hc172
          have hrq := rq_iff hfa hfb
          refine lv_aload_n hx hb xd_Sh_acceptRequired_76 rfl (lv_at hl 3 rfl) ?_
          refine lv_aload_n hx hb xd_Sh_acceptRequired_77 rfl (lv_at hl 3 rfl) ?_
          refine px_get (D := D) (ci := 1) (v := .int (nI (wl.length))) (C := xR_Li) (T := xT_Li) (N := 5) hx hb hT xi_Li hown hK.1 hP m_6 c_5 rfl 4 (by decide) (hT _ k5h_0) (fun _ h9 => h9) rfl xd_Sh_acceptRequired_78 ?_
          refine lv_iconst (v := 1) hx hb xd_Sh_acceptRequired_81 (by decide) ?_
          refine lv_isub hx hb xd_Sh_acceptRequired_82 ?_
          refine xn_top (y := nI (wl.length - 1)) (pk_sub (a := wl.length) (b := 1) (by omega)) ?_
          have hFc := px_free hD hS hA
          refine va_calli (va_runV (As := [.int (nI (wl.length - 1))]) (rest := []) ⟨hx, hb, hml, hown, hT⟩ (xc_Li_nameAtX l D kA H.size ad E RL g ml nd len lt wl cs (wl.length - 1) (by first | assumption | omega) (by first | assumption | omega) (by first | assumption | omega)) (cwV 1 hT (wT_V k5h_2 k5h_3 k5h_4 k5h_5 k5h_1) rfl rfl rfl (by decide +kernel) ⟨Nat.le_of_ble_eq_true rfl, Nat.le_of_ble_eq_true rfl⟩) (px_preV hK hP hD m_6 c_5 rfl) rfl rfl hl.1 rfl (lv_room (Nat.le_of_ble_eq_true rfl)) xd_Sh_acceptRequired_83 ⟨(Nat.le_of_ble_eq_true rfl), (Nat.le_of_ble_eq_true rfl)⟩) hS (fun q _ h => hFc q h) hFc (fun r244 u245 t H1 locs ht hvm hp246 hB hz1 hk1 hS => ?_)
          obtain ⟨hP1, hD1⟩ := hB
          rw [ht] at hP1
          have hD1 := hD1.weaken (fun _ _ _ h => hFc _ h)
          generalize H1 = H at hP1 hS ⊢
          have hP := hP1
          have hD := hD1
          have hP : va_P D xcl (rp ad E RL) H := hP
          have hD : va_D A (rp ad E RL) := hD
          have hp246 : r244 = wN (g 0) wl (wl.length - 1) := hp246
          subst hp246
          have hP : va_P D xcl (rp ad E RL) H := hP
          have hD : va_D A (rp ad E RL) := hD
          refine lv_istore hx hb xd_Sh_acceptRequired_86 hl (Nat.le_of_ble_eq_true rfl) rfl (fun ls hl => ?_)
          have hl : lv_has ls 7 [(5, .int (wN (g 0) wl (wl.length - 1))), (4, .int (nI 4)), (3, .int io9), (2, .int it9), (1, .ref (ad 0 1)), (0, .ref (ad 0 5))] := hl
          refine lv_aload_n hx hb xd_Sh_acceptRequired_88 rfl (lv_at hl 4 rfl) ?_
          refine px_get (D := D) (ci := 1) (v := .int (nI (wl.length))) (C := xR_Li) (T := xT_Li) (N := 5) hx hb hT xi_Li hown hK.1 hP m_6 c_5 rfl 4 (by decide) (hT _ k5h_0) (fun _ h9 => h9) rfl xd_Sh_acceptRequired_89 ?_
          refine lv_iload hx hb xd_Sh_acceptRequired_92 (lv_at hl 1 rfl) ?_
          refine xn_ne (a := wl.length) (b := 4) (tgt := 102) hx hb xd_Sh_acceptRequired_94 (by decide) (by omega) (by omega) (fun hc247 => ?_) (fun hc247 => ?_)
          · refine lv_iconst (v := (-1)) hx hb xd_Sh_acceptRequired_102 (by decide) ?_
            refine W.widen (k := 0) (n := 0) (Nat.le_of_ble_eq_true rfl) (Nat.le_of_ble_eq_true rfl) ?_
            exact W.iret (v := (-1)) hx hb hr (fun t ht hW => ⟨⟨(-1), (ad, E, RL), rfl, ⟨hCI, by rw [← lR_no (fun q => absurd (hrq.1.mp q.1) (by omega))]; exact hTD, rfl, FRL_rf⟩, by rw [ht]; exact hP, hD⟩, hS.F ht⟩) hS.2.2 xd_Sh_acceptRequired_103
          · refine lv_iload hx hb xd_Sh_acceptRequired_97 (lv_at hl 0 rfl) ?_
            refine lv_if_ne (tgt := 104) hx hb xd_Sh_acceptRequired_99 (by decide) (fun hc248 => ?_) (fun hc248 => ?_)
            · obtain ⟨hrT, hrO, hrB⟩ := hrq.2 (by omega)
              have hitb : it9 = bI (rqT (g 0) wl) := by
                rcases hit with ⟨q, _⟩ | ⟨q, _⟩
                · rw [q]; exact bI_1 (hrT.mpr rfl)
                · exact absurd q hc28
              have hiob : io9 = bI (rqO (g 0) wl) := by
                rcases hio with ⟨q, _⟩ | ⟨q, _⟩
                · rw [q]; exact bI_1 (hrO.mpr rfl)
                · exact absurd q hc172
              have hnB : wN (g 0) wl (wl.length - 1) = wN (g 0) wl (rqB (g 0) wl) := by rw [hrB]
              refine lv_aload_n hx hb xd_Sh_acceptRequired_104 rfl (lv_at hl 5 rfl) ?_
              have hFc := px_free hD hS hA
              refine va_callq (va_runV (As := []) (rest := []) ⟨hx, hb, hml, hown, hT⟩ (xc_Sh_latestX l D kA H.size ad E RL ml nd len wl.length cs (by first | assumption | omega)) (cwV 0 hT (wT_V k5h_7 k5h_8 k5h_9 k5h_10 k5h_6) rfl rfl rfl (by decide +kernel) ⟨Nat.le_of_ble_eq_true rfl, Nat.le_of_ble_eq_true rfl⟩) (px_preV hK hP hD m_15 c_14 rfl) rfl rfl hl.1 rfl (lv_room (Nat.le_of_ble_eq_true rfl)) xd_Sh_acceptRequired_105 ⟨(Nat.le_of_ble_eq_true rfl), (Nat.le_of_ble_eq_true rfl)⟩) hS (fun q _ h => hFc q h) hFc (fun r249 u250 t H1 locs ht hvm hp251 hB hz1 hk1 hS => ?_)
              obtain ⟨hP1, hD1⟩ := hB
              rw [ht] at hP1
              have hD1 := hD1.weaken (fun _ _ _ h => hFc _ h)
              generalize H1 = H at hP1 hS ⊢
              have hP := hP1
              have hD := hD1
              have hP : va_P D xcl (rp ad E RL) H := hP
              have hD : va_D A (rp ad E RL) := hD
              rcases hp251 with ⟨rfl, z252⟩ | ⟨z253, rfl⟩
              · refine W.eq (g2 := F0 m 108 ls [.null]) rfl ?_
                refine lv_astoreN hx hb xd_Sh_acceptRequired_108 hl (Nat.le_of_ble_eq_true rfl) rfl (fun ls hl => ?_)
                have hl : lv_has ls 7 [(6, .null), (5, .int (wN (g 0) wl (wl.length - 1))), (4, .int (nI 4)), (3, .int io9), (2, .int it9), (1, .ref (ad 0 1)), (0, .ref (ad 0 5))] := hl
                refine lv_aloadN hx hb xd_Sh_acceptRequired_110 (lv_at hl 0 rfl) ?_
                refine lv_ifnonnullN hx hb xd_Sh_acceptRequired_112 ?_
                refine lv_bipush (v := (-2)) hx hb xd_Sh_acceptRequired_115 (by decide) ?_
                refine W.widen (k := 0) (n := 0) (Nat.le_of_ble_eq_true rfl) (Nat.le_of_ble_eq_true rfl) ?_
                exact W.iret (v := (-2)) hx hb hr (fun t ht hW => ⟨⟨(-2), (ad, E, RL), rfl, ⟨hCI, by rw [← lR_no (fun q => absurd q.2.2.1 (by omega))]; exact hTD, rfl, FRL_rf⟩, by rw [ht]; exact hP, hD⟩, hS.F ht⟩) hS.2.2 xd_Sh_acceptRequired_117
              · refine W.eq (g2 := F0 m 108 ls [.ref (ad (1 + (nd - 1)) 0)]) rfl ?_
                refine lv_astore hx hb xd_Sh_acceptRequired_108 hl (Nat.le_of_ble_eq_true rfl) rfl (fun ls hl => ?_)
                have hl : lv_has ls 7 [(6, .ref (ad (1 + (nd - 1)) 0)), (5, .int (wN (g 0) wl (wl.length - 1))), (4, .int (nI 4)), (3, .int io9), (2, .int it9), (1, .ref (ad 0 1)), (0, .ref (ad 0 5))] := hl
                refine lv_aload hx hb xd_Sh_acceptRequired_110 (lv_at hl 0 rfl) ?_
                refine lv_ifnonnull (tgt := 118) hx hb xd_Sh_acceptRequired_112 (by decide) ?_
                refine lv_aload hx hb xd_Sh_acceptRequired_118 (lv_at hl 0 rfl) ?_
                obtain ⟨hm_254, fd_254, nm_254, sd_254, k0_254, k1_254, k2_254, k3_254, f0_254, f1_254, f2_254, f3_254, fe_254, fo_254, tr_254, op_254, hk0_254, hk1_254, hk2_254, hk3_254, q0_254, q1_254, q2_254, q3_254, q4_254, q5_254, q6_254, q7_254, q8_254, q9_254, q10_254, q11_254, q12_254, hg_254⟩ := id (hDIs (nd - 1) (by omega))
                have c_255 : E (1 + (nd - 1)) 0 = .inr (7, [.int (nI ((nd - 1))), .int fd_254, .int nm_254, .ref (ad (1 + (nd - 1)) 1), .ref (ad (1 + (nd - 1)) 9), .ref (ad (1 + (nd - 1)) 10), .ref (ad (1 + (nd - 1)) 2), .ref (ad (1 + (nd - 1)) 11), .ref (ad (1 + (nd - 1)) 12), .ref (ad (1 + (nd - 1)) 3), .ref (ad (1 + (nd - 1)) 4), .int sd_254]) := q0_254
                have m_256 : (1 + (nd - 1), 0) ∈ RL := hm_254 0 (by omega)
                have c_257 : E (1 + (nd - 1)) 1 = .inr (8, [.ref (ad (1 + (nd - 1)) 5), .int (nI k0_254)]) := q1_254
                have m_258 : (1 + (nd - 1), 1) ∈ RL := hm_254 1 (by omega)
                have c_259 : E (1 + (nd - 1)) 2 = .inr (8, [.ref (ad (1 + (nd - 1)) 6), .int (nI k1_254)]) := q2_254
                have m_260 : (1 + (nd - 1), 2) ∈ RL := hm_254 2 (by omega)
                have c_261 : E (1 + (nd - 1)) 3 = .inr (8, [.ref (ad (1 + (nd - 1)) 7), .int (nI k2_254)]) := q3_254
                have m_262 : (1 + (nd - 1), 3) ∈ RL := hm_254 3 (by omega)
                have c_263 : E (1 + (nd - 1)) 4 = .inr (8, [.ref (ad (1 + (nd - 1)) 8), .int (nI k3_254)]) := q4_254
                have m_264 : (1 + (nd - 1), 4) ∈ RL := hm_254 4 (by omega)
                have c_265 : E (1 + (nd - 1)) 5 = .inl (kA 0, 6, .inl f0_254) := q5_254
                have m_266 : (1 + (nd - 1), 5) ∈ RL := hm_254 5 (by omega)
                have c_267 : E (1 + (nd - 1)) 6 = .inl (kA 0, 5, .inl f1_254) := q6_254
                have m_268 : (1 + (nd - 1), 6) ∈ RL := hm_254 6 (by omega)
                have c_269 : E (1 + (nd - 1)) 7 = .inl (kA 0, 3, .inl f2_254) := q7_254
                have m_270 : (1 + (nd - 1), 7) ∈ RL := hm_254 7 (by omega)
                have c_271 : E (1 + (nd - 1)) 8 = .inl (kA 0, 3, .inl f3_254) := q8_254
                have m_272 : (1 + (nd - 1), 8) ∈ RL := hm_254 8 (by omega)
                have c_273 : E (1 + (nd - 1)) 9 = .inl (kA 8, 6, .inr (.inr (.inr (.inr fe_254)))) := q9_254
                have m_274 : (1 + (nd - 1), 9) ∈ RL := hm_254 9 (by omega)
                have c_275 : E (1 + (nd - 1)) 10 = .inl (kA 8, 6, .inr (.inr (.inr (.inr fo_254)))) := q10_254
                have m_276 : (1 + (nd - 1), 10) ∈ RL := hm_254 10 (by omega)
                have c_277 : E (1 + (nd - 1)) 11 = .inl (kA 2, 5, .inl tr_254) := q11_254
                have m_278 : (1 + (nd - 1), 11) ∈ RL := hm_254 11 (by omega)
                have c_279 : E (1 + (nd - 1)) 12 = .inl (kA 2, 5, .inl op_254) := q12_254
                have m_280 : (1 + (nd - 1), 12) ∈ RL := hm_254 12 (by omega)
                have hg_254 : ∀ w9, w9 < k0_254 → fe_254 w9 = some (ad (1 + (nd - 1)) (20 + 3 * w9)) ∧ fo_254 w9 = some (ad (1 + (nd - 1)) (38 + 3 * w9)) ∧ GI kA (ad (1 + (nd - 1))) (E (1 + (nd - 1))) (fun o => (1 + (nd - 1), o) ∈ RL) (20 + 3 * w9) (21 + 3 * w9) (22 + 3 * w9) ∧ GI kA (ad (1 + (nd - 1))) (E (1 + (nd - 1))) (fun o => (1 + (nd - 1), o) ∈ RL) (38 + 3 * w9) (39 + 3 * w9) (40 + 3 * w9) := hg_254
                obtain ⟨hTT_254, tgr_254⟩ := TD_get hk0_254 hk1_254 hk2_254 hk3_254 c_255 c_257 c_259 c_261 c_263 c_265 c_267 c_269 c_271 c_277 c_279 (hTD (nd - 1) (by omega))
                obtain ⟨tfd_254, tnm_254, tsd_254, tk0_254, tf0_254, tk1_254, tf1_254, tk2_254, tk3_254⟩ := id hTT_254
                have ik0_254 : iN (g 5 (nd - 1)) = k0_254 := by rw [← tk0_254, iN_nI (by omega)]
                have ik1_254 : iN (g 12 (nd - 1)) = k1_254 := by rw [← tk1_254, iN_nI (by omega)]
                refine px_get (D := D) (ci := 7) (v := .int nm_254) (C := xR_Ds) (T := xT_Ds) (N := 12) hx hb hT xi_Ds hown hK.1 hP m_256 c_255 rfl 2 (by decide) (hT _ k5h_11) (fun _ h9 => h9) rfl xd_Sh_acceptRequired_120 ?_
                refine lv_iload hx hb xd_Sh_acceptRequired_123 (lv_at hl 1 rfl) ?_
                refine lv_icmp_eq (tgt := 141) hx hb xd_Sh_acceptRequired_125 (by decide) (fun hc281 => ?_) (fun hc281 => ?_)
                · refine lv_iconst (v := (-1)) hx hb xd_Sh_acceptRequired_141 (by decide) ?_
                  refine W.widen (k := 0) (n := 0) (Nat.le_of_ble_eq_true rfl) (Nat.le_of_ble_eq_true rfl) ?_
                  exact W.iret (v := (-1)) hx hb hr (fun t ht hW => ⟨⟨(-1), (ad, E, RL), rfl, ⟨hCI, by rw [← lR_no (fun q => q.2.2.2.1 (tnm_254.symm.trans (hc281.trans hnB)))]; exact hTD, rfl, FRL_rf⟩, by rw [ht]; exact hP, hD⟩, hS.F ht⟩) hS.2.2 xd_Sh_acceptRequired_142
                · refine lv_aload hx hb xd_Sh_acceptRequired_128 (lv_at hl 0 rfl) ?_
                  refine px_get (D := D) (ci := 7) (v := .ref (ad (1 + (nd - 1)) 2)) (C := xR_Ds) (T := xT_Ds) (N := 12) hx hb hT xi_Ds hown hK.1 hP m_256 c_255 rfl 6 (by decide) (hT _ k5h_12) (fun _ h9 => h9) rfl xd_Sh_acceptRequired_130 ?_
                  refine lv_iload hx hb xd_Sh_acceptRequired_133 (lv_at hl 1 rfl) ?_
                  have hFc := px_free hD hS hA
                  refine va_calli (va_runV (As := [.int (wN (g 0) wl (wl.length - 1))]) (rest := []) ⟨hx, hb, hml, hown, hT⟩ (xc_Na_holds l D kA H.size ad E RL (1 + (nd - 1)) 2 6 5 k1_254 f1_254 (wN (g 0) wl (wl.length - 1)) m_260 c_259 m_268 c_267 (by first | assumption | omega) (by first | assumption | omega)) (cwV 1 hT (wT_V k5h_14 k5h_15 k5h_16 k5h_17 k5h_13) rfl rfl rfl (by decide +kernel) ⟨Nat.le_of_ble_eq_true rfl, Nat.le_of_ble_eq_true rfl⟩) (px_preV hK hP hD m_260 c_259 rfl) rfl rfl hl.1 rfl (lv_room (Nat.le_of_ble_eq_true rfl)) xd_Sh_acceptRequired_135 ⟨(Nat.le_of_ble_eq_true rfl), (Nat.le_of_ble_eq_true rfl)⟩) hS (fun q _ h => hFc q h) hFc (fun r282 u283 t H1 locs ht hvm hp284 hB hz1 hk1 hS => ?_)
                  obtain ⟨hP1, hD1⟩ := hB
                  rw [ht] at hP1
                  have hD1 := hD1.weaken (fun _ _ _ h => hFc _ h)
                  generalize H1 = H at hP1 hS ⊢
                  have hP := hP1
                  have hD := hD1
                  have hP : va_P D xcl (rp ad E RL) H := hP
                  have hD : va_D A (rp ad E RL) := hD
                  rcases hp284 with ⟨rfl, z285, z286, z287⟩ | ⟨rfl, z288⟩
                  · refine W.eq (g2 := F0 m 138 ls [.int 1]) rfl ?_
                    refine lv_if_eq (tgt := 143) hx hb xd_Sh_acceptRequired_138 (by decide) (fun hc289 => absurd hc289 (by decide)) (fun _ => ?_)
                    refine lv_iconst (v := (-1)) hx hb xd_Sh_acceptRequired_141 (by decide) ?_
                    refine W.widen (k := 0) (n := 0) (Nat.le_of_ble_eq_true rfl) (Nat.le_of_ble_eq_true rfl) ?_
                    exact W.iret (v := (-1)) hx hb hr (fun t ht hW => ⟨⟨(-1), (ad, E, RL), rfl, ⟨hCI, by rw [← lR_no (fun q => q.2.2.2.2.1 (5 * (nd - 1) + z285) (by omega) (by omega) ((tf1_254 _ z286).1.symm.trans (z287.trans hnB)))]; exact hTD, rfl, FRL_rf⟩, by rw [ht]; exact hP, hD⟩, hS.F ht⟩) hS.2.2 xd_Sh_acceptRequired_142
                  · refine W.eq (g2 := F0 m 138 ls [.int 0]) rfl ?_
                    refine lv_if_eq (tgt := 143) hx hb xd_Sh_acceptRequired_138 (by decide) (fun _ => ?_) (fun hc290 => absurd (by decide) hc290)
                    refine lv_aload hx hb xd_Sh_acceptRequired_143 (lv_at hl 0 rfl) ?_
                    refine px_get (D := D) (ci := 7) (v := .int sd_254) (C := xR_Ds) (T := xT_Ds) (N := 12) hx hb hT xi_Ds hown hK.1 hP m_256 c_255 rfl 11 (by decide) (hT _ k5h_18) (fun _ h9 => h9) rfl xd_Sh_acceptRequired_145 ?_
                    refine lv_if_ne (tgt := 162) hx hb xd_Sh_acceptRequired_148 (by decide) (fun hc291 => ?_) (fun hc291 => ?_)
                    · refine lv_bipush (v := (-2)) hx hb xd_Sh_acceptRequired_162 (by decide) ?_
                      refine W.widen (k := 0) (n := 0) (Nat.le_of_ble_eq_true rfl) (Nat.le_of_ble_eq_true rfl) ?_
                      exact W.iret (v := (-2)) hx hb hr (fun t ht hW => ⟨⟨(-2), (ad, E, RL), rfl, ⟨hCI, by rw [← lR_no (fun q => hc291 (by rw [tsd_254]; exact q.2.2.2.2.2.1))]; exact hTD, rfl, FRL_rf⟩, by rw [ht]; exact hP, hD⟩, hS.F ht⟩) hS.2.2 xd_Sh_acceptRequired_164
                    · refine lv_aload hx hb xd_Sh_acceptRequired_151 (lv_at hl 0 rfl) ?_
                      refine px_get (D := D) (ci := 7) (v := .ref (ad (1 + (nd - 1)) 2)) (C := xR_Ds) (T := xT_Ds) (N := 12) hx hb hT xi_Ds hown hK.1 hP m_256 c_255 rfl 6 (by decide) (hT _ k5h_12) (fun _ h9 => h9) rfl xd_Sh_acceptRequired_153 ?_
                      have hFc := px_free hD hS hA
                      refine va_calli (va_runV (As := []) (rest := []) ⟨hx, hb, hml, hown, hT⟩ (xc_Na_isFull l D kA H.size ad E RL (1 + (nd - 1)) 2 6 5 k1_254 f1_254 m_260 c_259 m_268 c_267 (by first | assumption | omega) (by first | assumption | omega)) (cwV 0 hT (wT_V k5h_20 k5h_21 k5h_22 k5h_17 k5h_19) rfl rfl rfl (by decide +kernel) ⟨Nat.le_of_ble_eq_true rfl, Nat.le_of_ble_eq_true rfl⟩) (px_preV hK hP hD m_260 c_259 rfl) rfl rfl hl.1 rfl (lv_room (Nat.le_of_ble_eq_true rfl)) xd_Sh_acceptRequired_156 ⟨(Nat.le_of_ble_eq_true rfl), (Nat.le_of_ble_eq_true rfl)⟩) hS (fun q _ h => hFc q h) hFc (fun r292 u293 t H1 locs ht hvm hp294 hB hz1 hk1 hS => ?_)
                      obtain ⟨hP1, hD1⟩ := hB
                      rw [ht] at hP1
                      have hD1 := hD1.weaken (fun _ _ _ h => hFc _ h)
                      generalize H1 = H at hP1 hS ⊢
                      have hP := hP1
                      have hD := hD1
                      have hP : va_P D xcl (rp ad E RL) H := hP
                      have hD : va_D A (rp ad E RL) := hD
                      rcases hp294 with ⟨rfl, z295⟩ | ⟨rfl, z296⟩
                      · refine W.eq (g2 := F0 m 159 ls [.int 1]) rfl ?_
                        refine lv_if_eq (tgt := 165) hx hb xd_Sh_acceptRequired_159 (by decide) (fun hc297 => absurd hc297 (by decide)) (fun _ => ?_)
                        refine lv_bipush (v := (-2)) hx hb xd_Sh_acceptRequired_162 (by decide) ?_
                        refine W.widen (k := 0) (n := 0) (Nat.le_of_ble_eq_true rfl) (Nat.le_of_ble_eq_true rfl) ?_
                        exact W.iret (v := (-2)) hx hb hr (fun t ht hW => ⟨⟨(-2), (ad, E, RL), rfl, ⟨hCI, by rw [← lR_no (fun q => absurd q.2.2.2.2.2.2 (by have := z295; omega))]; exact hTD, rfl, FRL_rf⟩, by rw [ht]; exact hP, hD⟩, hS.F ht⟩) hS.2.2 xd_Sh_acceptRequired_164
                      · refine W.eq (g2 := F0 m 159 ls [.int 0]) rfl ?_
                        refine lv_if_eq (tgt := 165) hx hb xd_Sh_acceptRequired_159 (by decide) (fun _ => ?_) (fun hc298 => absurd (by decide) hc298)
                        refine lv_aload hx hb xd_Sh_acceptRequired_165 (lv_at hl 0 rfl) ?_
                        refine lv_iload hx hb xd_Sh_acceptRequired_167 (lv_at hl 1 rfl) ?_
                        refine lv_iload_n hx hb xd_Sh_acceptRequired_169 rfl (lv_at hl 4 rfl) ?_
                        refine lv_iload_n hx hb xd_Sh_acceptRequired_170 rfl (lv_at hl 3 rfl) ?_
                        have hFc := px_free hD hS hA
                        refine va_callv (va_runV (As := [.int (wN (g 0) wl (wl.length - 1)), .int it9, .int io9]) (rest := []) ⟨hx, hb, hml, hown, hT⟩ (xc_Ds_addRequiredX l D kA H.size ad E RL g (nd - 1) (wN (g 0) wl (wl.length - 1)) it9 io9 (hDIs (nd - 1) (by omega)) (hTD (nd - 1) (by omega)) (by have := z296; omega)) (cwV 3 hT (wT_V k5h_24 k5h_25 k5h_26 k5h_27 k5h_23) rfl rfl rfl (by decide +kernel) ⟨Nat.le_of_ble_eq_true rfl, Nat.le_of_ble_eq_true rfl⟩) (px_preV hK hP hD m_256 c_255 rfl) rfl rfl hl.1 rfl (lv_room (Nat.le_of_ble_eq_true rfl)) xd_Sh_acceptRequired_171 ⟨(Nat.le_of_ble_eq_true rfl), (Nat.le_of_ble_eq_true rfl)⟩) hS (fun q _ h => hFc q h) hFc (fun u300 t H1 locs ht hvm hp301 hB hz1 hk1 hS => ?_)
                        obtain ⟨hP1, hD1⟩ := hB
                        rw [ht] at hP1
                        have hD1 := hD1.weaken (fun _ _ _ h => hFc _ h)
                        generalize H1 = H at hP1 hS ⊢
                        have hP := hP1
                        have hD := hD1
                        obtain ⟨E302, rfl⟩ : ∃ z, z = u300 := ⟨_, rfl⟩
                        obtain ⟨hp304, p_303⟩ := hp301
                        have p_303 : (∀ b2 o2, ¬ (b2 = 1 + (nd - 1)) → E302 b2 o2 = E b2 o2) := p_303
                        have c_305 : E302 0 0 = .inr (0, [.ref (ad 0 1), .ref (ad 0 5), .ref (ad 0 7), .ref (ad 0 9), .int (nI ml), .int lf_1]) := (p_303 0 0 (by omega)).trans c_2
                        have c_306 : E302 0 1 = .inr (1, [.ref (ad 0 2), .ref (ad 0 3), .ref (ad 0 4), .int (nI len), .int (nI (wl.length))]) := (p_303 0 1 (by omega)).trans c_5
                        have c_307 : E302 0 2 = .inl (kA 1, 40, .inl tx_4) := (p_303 0 2 (by omega)).trans c_7
                        have c_308 : E302 0 3 = .inl (kA 0, 20, .inl fb_4) := (p_303 0 3 (by omega)).trans c_9
                        have c_309 : E302 0 4 = .inl (kA 0, 20, .inl fe_4) := (p_303 0 4 (by omega)).trans c_11
                        have c_310 : E302 0 5 = .inr (2, [.ref (ad 0 6), .int (nI nd)]) := (p_303 0 5 (by omega)).trans c_14
                        have c_311 : E302 0 6 = .inl (kA 4, 12, .inr (.inr (.inr (.inr fd_13)))) := (p_303 0 6 (by omega)).trans c_16
                        have c_312 : E302 0 7 = .inr (3, [.ref (ad 0 5), .ref (ad 0 8), .int (nI cs), .int cf_18, pv_18]) := (p_303 0 7 (by omega)).trans c_19
                        have c_313 : E302 0 8 = .inl (kA 4, 12, .inr (.inr (.inr (.inr fc_18)))) := (p_303 0 8 (by omega)).trans c_21
                        have c_314 : E302 0 9 = .inl (kA 5, 5, .inr (.inr (.inr (.inr fl_23)))) := (p_303 0 9 (by omega)).trans c_24
                        have hP : va_P D xcl (rp ad E302 RL) H := hP
                        have hD : va_D A (rp ad E302 RL) := hD
                        obtain ⟨hDI9, hTD9⟩ := hp304
                        have hTD2 : TDs (rqU g (nd - 1) (wN (g 0) wl (wl.length - 1)) (vp_nar .boolean it9) (vp_nar .boolean io9)) E302 nd := TDs_upd (x := nd - 1) hDIs (fun d9 hd9 hx9 => fun2 fun o9 => by show E302 (1 + d9) o9 = _; rw [p_303 (1 + d9) o9 (by omega)]) (fun d9 hd9 hx9 => AG_R (by omega) hx9) hTD9 hTD
                        have hFRL : FRL ml nd ad ad E E302 := ⟨fun n9 hn9 => ⟨fun2 fun o9 => by show E302 (20 + n9) o9 = _; rw [p_303 (20 + n9) o9 (by omega)], fun2 fun o9 => rfl⟩, fun d9 hd9 => rfl, by show E302 0 0 = _; rw [p_303 0 0 (by omega)]⟩
                        have hCI : CI kA ad E302 RL ml nd len wl.length cs := ⟨hmB, ⟨lf_1, c_305⟩, ⟨tx_4, fb_4, fe_4, (by omega), (by omega), c_306, c_307, c_308, c_309, hws_4⟩, ⟨fd_13, (by omega), c_310, c_311, hds_13⟩, ⟨cf_18, pv_18, fc_18, (by omega), hpv_18, c_312, c_313, hfc_18⟩, ⟨fl_23, (by omega), c_314, hla_23⟩, (DIs_set (x := nd - 1) (fun d9 hd9 hx9 => fun2 fun o9 => by show E302 (1 + d9) o9 = _; rw [p_303 (1 + d9) o9 (by omega)]) (fun _ _ _ => rfl) (fun _ h => h) hDI9 hDIs), (LIs_same (Nat.le_refl _) (fun n9 hn9 => fun2 fun o9 => by show E302 (20 + n9) o9 = _; rw [p_303 (20 + n9) o9 (by omega)]) (fun _ _ => rfl) (fun _ _ => rfl) (fun _ h9 => h9) hLIs)⟩
                        obtain ⟨hmB, hDk, hLi, hSh, hCh, hLa, hDIs, hLIs⟩ := id hCI
                        refine lv_iconst (v := 2) hx hb xd_Sh_acceptRequired_174 (by decide) ?_
                        refine W.widen (k := 0) (n := 0) (Nat.le_of_ble_eq_true rfl) (Nat.le_of_ble_eq_true rfl) ?_
                        exact W.iret (v := 2) hx hb hr (fun t ht hW => ⟨⟨2, (ad, E302, RL), rfl, (by
        rw [lR_y hnB hitb hiob ⟨by rw [hrB]; omega, fun q => hc248 (hnB.trans q), by omega, fun q => hc281 (tnm_254.trans (q.trans hnB.symm)), fun j a9 b9 q => by
          have q2 := z288 (j - 5 * (nd - 1)) (by omega)
          rw [(tf1_254 _ (by omega)).1, show 5 * (nd - 1) + (j - 5 * (nd - 1)) = j by omega] at q2
          exact q2 (q.trans hnB.symm), by rw [← tsd_254]; exact hc291, by omega⟩]
        exact ⟨hCI, hTD2, rfl, hFRL⟩), by rw [ht]; exact hP, hD⟩, hS.F ht⟩) hS.2.2 xd_Sh_acceptRequired_175
            · refine lv_iconst (v := (-1)) hx hb xd_Sh_acceptRequired_102 (by decide) ?_
              refine W.widen (k := 0) (n := 0) (Nat.le_of_ble_eq_true rfl) (Nat.le_of_ble_eq_true rfl) ?_
              exact W.iret (v := (-1)) hx hb hr (fun t ht hW => ⟨⟨(-1), (ad, E, RL), rfl, ⟨hCI, by rw [← lR_no (fun q => q.2.1 (by rw [(hrq.2 (by omega)).2.2]; exact hc248))]; exact hTD, rfl, FRL_rf⟩, by rw [ht]; exact hP, hD⟩, hS.F ht⟩) hS.2.2 xd_Sh_acceptRequired_103
    refine lv_aload_n hx hb xd_Sh_acceptRequired_24 rfl (lv_at hl 1 rfl) ?_
    refine px_get (D := D) (ci := 1) (v := .int (nI (wl.length))) (C := xR_Li) (T := xT_Li) (N := 5) hx hb hT xi_Li hown hK.1 hP m_6 c_5 rfl 4 (by decide) (hT _ k5h_0) (fun _ h9 => h9) rfl xd_Sh_acceptRequired_25 ?_
    refine lv_iconst (v := 3) hx hb xd_Sh_acceptRequired_28 (by decide) ?_
    refine xn_lt (a := wl.length) (b := 3) (tgt := 51) hx hb xd_Sh_acceptRequired_29 (by decide) (by omega) (by omega) (fun hc315 => ?_) (fun hc315 => ?_)
    · refine lv_iconst (v := 0) hx hb xd_Sh_acceptRequired_51 (by decide) ?_
      exact jn27 0 _ _ _ (lv_sub hl [0, 1, 2] rfl) hP hD hS (show (0 = 1 ∧ 3 ≤ wl.length ∧ wS (g 0) wl (wl.length - 2) zSt) ∨ (0 = 0 ∧ ¬ (3 ≤ wl.length ∧ wS (g 0) wl (wl.length - 2) zSt)) from Or.inr ⟨rfl, fun q => absurd q.1 (by omega)⟩)
    · refine lv_aload_n hx hb xd_Sh_acceptRequired_32 rfl (lv_at hl 1 rfl) ?_
      refine lv_aload_n hx hb xd_Sh_acceptRequired_33 rfl (lv_at hl 1 rfl) ?_
      refine px_get (D := D) (ci := 1) (v := .int (nI (wl.length))) (C := xR_Li) (T := xT_Li) (N := 5) hx hb hT xi_Li hown hK.1 hP m_6 c_5 rfl 4 (by decide) (hT _ k5h_0) (fun _ h9 => h9) rfl xd_Sh_acceptRequired_34 ?_
      refine lv_iconst (v := 2) hx hb xd_Sh_acceptRequired_37 (by decide) ?_
      refine lv_isub hx hb xd_Sh_acceptRequired_38 ?_
      refine xn_top (y := nI (wl.length - 2)) (pk_sub (a := wl.length) (b := 2) (by omega)) ?_
      refine va_ldcS (q := Z.1 11) hx hb hown hZ.2.2.2.1.2.2.2.2.2.2.2.2.2.2.2.1 xd_Sh_acceptRequired_39 ?_
      have hFc := px_free hD hS hA
      refine va_calli (va_runV (As := [.int (nI (wl.length - 2)), .ref (Z.1 11)]) (rest := []) ⟨hx, hb, hml, hown, hT⟩ (xc_Li_wordIsX l D kA H.size ad E RL Z g ml nd len lt wl cs (wl.length - 2) 11 (by first | assumption | omega) (by first | assumption | omega) (by first | assumption | omega) (by first | assumption | omega)) (cwV 2 hT (wT_V k5h_29 k5h_30 k5h_31 k5h_5 k5h_28) rfl rfl rfl (by decide +kernel) ⟨Nat.le_of_ble_eq_true rfl, Nat.le_of_ble_eq_true rfl⟩) (px_preVZ hK hP hD m_6 c_5 rfl hFc (hZ.kept hS)) rfl rfl hl.1 rfl (lv_room (Nat.le_of_ble_eq_true rfl)) xd_Sh_acceptRequired_41 ⟨(Nat.le_of_ble_eq_true rfl), (Nat.le_of_ble_eq_true rfl)⟩) hS (fun q _ h => hFc q h) hFc (fun r316 u317 t H1 locs ht hvm hp318 hB hz1 hk1 hS => ?_)
      obtain ⟨hP1, hD1⟩ := hB
      rw [ht] at hP1
      have hD1 := hD1.weaken (fun _ _ _ h => hFc _ h)
      generalize H1 = H at hP1 hS ⊢
      have hP := hP1
      have hD := hD1
      have hP : va_P D xcl (rp ad E RL) H := hP
      have hD : va_D A (rp ad E RL) := hD
      rcases hp318 with ⟨rfl, z319⟩ | ⟨rfl, z320⟩
      · have hw11 : wS (g 0) wl (wl.length - 2) zSt := by have q := z319; rw [zw11] at q; exact q
        refine W.eq (g2 := F0 m 44 ls [.int 1]) rfl ?_
        refine lv_if_eq (tgt := 51) hx hb xd_Sh_acceptRequired_44 (by decide) (fun hc321 => absurd hc321 (by decide)) (fun _ => ?_)
        refine lv_iconst (v := 1) hx hb xd_Sh_acceptRequired_47 (by decide) ?_
        refine lv_goto (tgt := 52) hx hb xd_Sh_acceptRequired_48 (by decide) ?_
        exact jn27 1 _ _ _ (lv_sub hl [0, 1, 2] rfl) hP hD hS (show (1 = 1 ∧ 3 ≤ wl.length ∧ wS (g 0) wl (wl.length - 2) zSt) ∨ (1 = 0 ∧ ¬ (3 ≤ wl.length ∧ wS (g 0) wl (wl.length - 2) zSt)) from Or.inl ⟨rfl, by omega, hw11⟩)
      · have hw11 : ¬ wS (g 0) wl (wl.length - 2) zSt := by have q := z320; rw [zw11] at q; exact q
        refine W.eq (g2 := F0 m 44 ls [.int 0]) rfl ?_
        refine lv_if_eq (tgt := 51) hx hb xd_Sh_acceptRequired_44 (by decide) (fun _ => ?_) (fun hc322 => absurd (by decide) hc322)
        refine lv_iconst (v := 0) hx hb xd_Sh_acceptRequired_51 (by decide) ?_
        exact jn27 0 _ _ _ (lv_sub hl [0, 1, 2] rfl) hP hD hS (show (0 = 1 ∧ 3 ≤ wl.length ∧ wS (g 0) wl (wl.length - 2) zSt) ∨ (0 = 0 ∧ ¬ (3 ≤ wl.length ∧ wS (g 0) wl (wl.length - 2) zSt)) from Or.inr ⟨rfl, fun q => hw11 q.2⟩)
  refine lv_aload_n hx hb xd_Sh_acceptRequired_0 rfl (lv_at hl 1 rfl) ?_
  refine px_get (D := D) (ci := 1) (v := .int (nI (wl.length))) (C := xR_Li) (T := xT_Li) (N := 5) hx hb hT xi_Li hown hK.1 hP m_6 c_5 rfl 4 (by decide) (hT _ k5h_0) (fun _ h9 => h9) rfl xd_Sh_acceptRequired_1 ?_
  refine lv_iconst (v := 3) hx hb xd_Sh_acceptRequired_4 (by decide) ?_
  refine xn_lt (a := wl.length) (b := 3) (tgt := 22) hx hb xd_Sh_acceptRequired_5 (by decide) (by omega) (by omega) (fun hc323 => ?_) (fun hc323 => ?_)
  · refine lv_iconst (v := 0) hx hb xd_Sh_acceptRequired_22 (by decide) ?_
    exact jn26 0 _ _ _ (lv_sub hl [1, 0] rfl) hP hD hS (show (0 = 1 ∧ 3 ≤ wl.length ∧ wS (g 0) wl 1 zTr) ∨ (0 = 0 ∧ ¬ (3 ≤ wl.length ∧ wS (g 0) wl 1 zTr)) from Or.inr ⟨rfl, fun q => absurd q.1 (by omega)⟩)
  · refine lv_aload_n hx hb xd_Sh_acceptRequired_8 rfl (lv_at hl 1 rfl) ?_
    refine lv_iconst (v := 1) hx hb xd_Sh_acceptRequired_9 (by decide) ?_
    refine va_ldcS (q := Z.1 10) hx hb hown hZ.2.2.2.1.2.2.2.2.2.2.2.2.2.2.1 xd_Sh_acceptRequired_10 ?_
    have hFc := px_free hD hS hA
    refine va_calli (va_runV (As := [.int 1, .ref (Z.1 10)]) (rest := []) ⟨hx, hb, hml, hown, hT⟩ (xc_Li_wordIsX l D kA s.heap.size ad E RL Z g ml nd len lt wl cs 1 10 (by first | assumption | omega) (by first | assumption | omega) (by first | assumption | omega) (by first | assumption | omega)) (cwV 2 hT (wT_V k5h_29 k5h_30 k5h_31 k5h_5 k5h_28) rfl rfl rfl (by decide +kernel) ⟨Nat.le_of_ble_eq_true rfl, Nat.le_of_ble_eq_true rfl⟩) (px_preVZ hK hP hD m_6 c_5 rfl hFc (hZ.kept hS)) rfl rfl hl.1 rfl (lv_room (Nat.le_of_ble_eq_true rfl)) xd_Sh_acceptRequired_12 ⟨(Nat.le_of_ble_eq_true rfl), (Nat.le_of_ble_eq_true rfl)⟩) hS (fun q _ h => hFc q h) hFc (fun r324 u325 t H1 locs ht hvm hp326 hB hz1 hk1 hS => ?_)
    obtain ⟨hP1, hD1⟩ := hB
    rw [ht] at hP1
    have hD1 := hD1.weaken (fun _ _ _ h => hFc _ h)
    generalize H1 = H at hP1 hS ⊢
    have hP := hP1
    have hD := hD1
    have hP : va_P D xcl (rp ad E RL) H := hP
    have hD : va_D A (rp ad E RL) := hD
    rcases hp326 with ⟨rfl, z327⟩ | ⟨rfl, z328⟩
    · have hw10 : wS (g 0) wl 1 zTr := by have q := z327; rw [zw10] at q; exact q
      refine W.eq (g2 := F0 m 15 ls [.int 1]) rfl ?_
      refine lv_if_eq (tgt := 22) hx hb xd_Sh_acceptRequired_15 (by decide) (fun hc329 => absurd hc329 (by decide)) (fun _ => ?_)
      refine lv_iconst (v := 1) hx hb xd_Sh_acceptRequired_18 (by decide) ?_
      refine lv_goto (tgt := 23) hx hb xd_Sh_acceptRequired_19 (by decide) ?_
      exact jn26 1 _ _ _ (lv_sub hl [1, 0] rfl) hP hD hS (show (1 = 1 ∧ 3 ≤ wl.length ∧ wS (g 0) wl 1 zTr) ∨ (1 = 0 ∧ ¬ (3 ≤ wl.length ∧ wS (g 0) wl 1 zTr)) from Or.inl ⟨rfl, by omega, hw10⟩)
    · have hw10 : ¬ wS (g 0) wl 1 zTr := by have q := z328; rw [zw10] at q; exact q
      refine W.eq (g2 := F0 m 15 ls [.int 0]) rfl ?_
      refine lv_if_eq (tgt := 22) hx hb xd_Sh_acceptRequired_15 (by decide) (fun _ => ?_) (fun hc330 => absurd (by decide) hc330)
      refine lv_iconst (v := 0) hx hb xd_Sh_acceptRequired_22 (by decide) ?_
      exact jn26 0 _ _ _ (lv_sub hl [1, 0] rfl) hP hD hS (show (0 = 1 ∧ 3 ≤ wl.length ∧ wS (g 0) wl 1 zTr) ∨ (0 = 0 ∧ ¬ (3 ≤ wl.length ∧ wS (g 0) wl 1 zTr)) from Or.inr ⟨rfl, fun q => hw10 q.2⟩)
theorem k5i_0 : (Cond.code xy_Li_nameAt xb_Li_nameAt 4 (some .int)) ∈ wT := wT_t (List.mem_append_right _ (List.mem_append_left _ (List.mem_of_getElem? (i := 17) rfl))) rfl
theorem k5i_1 : (Cond.methodLink "LayerDesk$Shelf" 70 xy_Li_nameAt) ∈ wT := wT_t (List.mem_append_right _ (List.mem_append_left _ (List.mem_of_getElem? (i := 14) rfl))) rfl
theorem k5i_2 : (Cond.instanceMethod xy_Li_nameAt) ∈ wT := wT_t (List.mem_append_right _ (List.mem_append_left _ (List.mem_of_getElem? (i := 15) rfl))) rfl
theorem k5i_3 : (Cond.selects "LayerDesk$Line" xy_Li_nameAt xy_Li_nameAt) ∈ wT := wT_t (List.mem_append_right _ (List.mem_append_left _ (List.mem_of_getElem? (i := 16) rfl))) rfl
theorem k5i_4 : (Cond.initialized "LayerDesk$Line") ∈ wT := wT_t (List.mem_append_left _ (List.mem_of_getElem? (i := 2) rfl)) rfl
theorem k5i_5 : (Cond.fieldLink "LayerDesk$Shelf" 27 "LayerDesk$Line" "words" "I") ∈ wT := wT_t (List.mem_append_left _ (List.mem_of_getElem? (i := 41) rfl)) rfl
theorem k5i_6 : (Cond.code xy_Li_wordIs xb_Li_wordIs 4 (some .boolean)) ∈ wT := wT_t (List.mem_append_left _ (List.mem_of_getElem? (i := 199) rfl)) rfl
theorem k5i_7 : (Cond.methodLink "LayerDesk$Shelf" 34 xy_Li_wordIs) ∈ wT := wT_t (List.mem_append_left _ (List.mem_of_getElem? (i := 196) rfl)) rfl
theorem k5i_8 : (Cond.instanceMethod xy_Li_wordIs) ∈ wT := wT_t (List.mem_append_left _ (List.mem_of_getElem? (i := 197) rfl)) rfl
theorem k5i_9 : (Cond.selects "LayerDesk$Line" xy_Li_wordIs xy_Li_wordIs) ∈ wT := wT_t (List.mem_append_left _ (List.mem_of_getElem? (i := 198) rfl)) rfl
theorem k5i_10 : (Cond.code xy_Sh_latest xb_Sh_latest 1 (some (.object "LayerDesk$Descriptor"))) ∈ wT := wT_t (List.mem_append_right _ (List.mem_append_left _ (List.mem_of_getElem? (i := 119) rfl))) rfl
theorem k5i_11 : (Cond.methodLink "LayerDesk$Shelf" 81 xy_Sh_latest) ∈ wT := wT_t (List.mem_append_right _ (List.mem_append_left _ (List.mem_of_getElem? (i := 116) rfl))) rfl
theorem k5i_12 : (Cond.instanceMethod xy_Sh_latest) ∈ wT := wT_t (List.mem_append_right _ (List.mem_append_left _ (List.mem_of_getElem? (i := 118) rfl))) rfl
theorem k5i_13 : (Cond.selects "LayerDesk$Shelf" xy_Sh_latest xy_Sh_latest) ∈ wT := wT_s (q := (xy_Sh_latest, 2)) (by decide +kernel) rfl
theorem k5i_14 : (Cond.initialized "LayerDesk$Shelf") ∈ wT := wT_t (List.mem_append_left _ (List.mem_of_getElem? (i := 3) rfl)) rfl
theorem k5i_15 : (Cond.code xy_Ds_exportOf xb_Ds_exportOf 3 (some (.object "LayerDesk$Grant"))) ∈ wT := wT_t (List.mem_append_right _ (List.mem_append_left _ (List.mem_of_getElem? (i := 166) rfl))) rfl
theorem k5i_16 : (Cond.methodLink "LayerDesk$Shelf" 111 xy_Ds_exportOf) ∈ wT := wT_t (List.mem_append_right _ (List.mem_append_left _ (List.mem_of_getElem? (i := 163) rfl))) rfl
theorem k5i_17 : (Cond.instanceMethod xy_Ds_exportOf) ∈ wT := wT_t (List.mem_append_right _ (List.mem_append_left _ (List.mem_of_getElem? (i := 164) rfl))) rfl
theorem k5i_18 : (Cond.selects "LayerDesk$Descriptor" xy_Ds_exportOf xy_Ds_exportOf) ∈ wT := wT_t (List.mem_append_right _ (List.mem_append_left _ (List.mem_of_getElem? (i := 165) rfl))) rfl
theorem k5i_19 : (Cond.initialized "LayerDesk$Descriptor") ∈ wT := wT_t (List.mem_append_left _ (List.mem_of_getElem? (i := 10) rfl)) rfl
theorem k5i_20 : (Cond.fieldLink "LayerDesk$Shelf" 95 "LayerDesk$Descriptor" "settled" "Z") ∈ wT := wT_t (List.mem_append_right _ (List.mem_append_left _ (List.mem_of_getElem? (i := 83) rfl))) rfl
theorem k5i_21 : (Cond.code xy_Gr_hasRoomFor xb_Gr_hasRoomFor 2 (some .boolean)) ∈ wT := wT_t (List.mem_append_right _ (List.mem_append_left _ (List.mem_of_getElem? (i := 175) rfl))) rfl
theorem k5i_22 : (Cond.methodLink "LayerDesk$Shelf" 118 xy_Gr_hasRoomFor) ∈ wT := wT_t (List.mem_append_right _ (List.mem_append_left _ (List.mem_of_getElem? (i := 172) rfl))) rfl
theorem k5i_23 : (Cond.instanceMethod xy_Gr_hasRoomFor) ∈ wT := wT_t (List.mem_append_right _ (List.mem_append_left _ (List.mem_of_getElem? (i := 173) rfl))) rfl
theorem k5i_24 : (Cond.selects "LayerDesk$Grant" xy_Gr_hasRoomFor xy_Gr_hasRoomFor) ∈ wT := wT_t (List.mem_append_right _ (List.mem_append_left _ (List.mem_of_getElem? (i := 174) rfl))) rfl
theorem k5i_25 : (Cond.initialized "LayerDesk$Grant") ∈ wT := wT_t (List.mem_append_left _ (List.mem_of_getElem? (i := 12) rfl)) rfl
theorem k5i_26 : (Cond.code xy_Gr_extendTo xb_Gr_extendTo 2 none) ∈ wT := wT_t (List.mem_append_right _ (List.mem_append_left _ (List.mem_of_getElem? (i := 185) rfl))) rfl
theorem k5i_27 : (Cond.methodLink "LayerDesk$Shelf" 121 xy_Gr_extendTo) ∈ wT := wT_t (List.mem_append_right _ (List.mem_append_left _ (List.mem_of_getElem? (i := 182) rfl))) rfl
theorem k5i_28 : (Cond.instanceMethod xy_Gr_extendTo) ∈ wT := wT_t (List.mem_append_right _ (List.mem_append_left _ (List.mem_of_getElem? (i := 183) rfl))) rfl
theorem k5i_29 : (Cond.selects "LayerDesk$Grant" xy_Gr_extendTo xy_Gr_extendTo) ∈ wT := wT_t (List.mem_append_right _ (List.mem_append_left _ (List.mem_of_getElem? (i := 184) rfl))) rfl
theorem k5i_30 : (Cond.code xy_Ds_openingOf xb_Ds_openingOf 3 (some (.object "LayerDesk$Grant"))) ∈ wT := wT_t (List.mem_append_right _ (List.mem_append_left _ (List.mem_of_getElem? (i := 171) rfl))) rfl
theorem k5i_31 : (Cond.methodLink "LayerDesk$Shelf" 115 xy_Ds_openingOf) ∈ wT := wT_t (List.mem_append_right _ (List.mem_append_left _ (List.mem_of_getElem? (i := 168) rfl))) rfl
theorem k5i_32 : (Cond.instanceMethod xy_Ds_openingOf) ∈ wT := wT_t (List.mem_append_right _ (List.mem_append_left _ (List.mem_of_getElem? (i := 169) rfl))) rfl
theorem k5i_33 : (Cond.selects "LayerDesk$Descriptor" xy_Ds_openingOf xy_Ds_openingOf) ∈ wT := wT_t (List.mem_append_right _ (List.mem_append_left _ (List.mem_of_getElem? (i := 170) rfl))) rfl
set_option maxHeartbeats 4000000 in
set_option maxRecDepth 100000 in
theorem xc_Sh_acceptGrantX (l : Launch) (D : va_G) (kA : Nat → ClassId) (sz : Nat) (ad : Nat → Nat → Nat) (E : Nat → Nat → va_E) (RL : List (Nat × Nat)) (Z : zT) (g : Nat → Nat → Int32) (ml : Nat) (nd : Nat) (len : Nat) (lt : Nat) (wl : List (Nat × Nat)) (cs : Nat) (hCI : CI kA ad E RL ml nd len wl.length cs) (hLW : LW g E lt wl) (hTD : TDs g E nd) (hZI : ZI g nd) : Met l xy_Sh_acceptGrant (.code xy_Sh_acceptGrant xb_Sh_acceptGrant 7 (some .int) :: wT) { frames := 5, cells := 0, slots := 0, locals := 108 } (va_Pc [.ref (ad 0 5), .ref (ad 0 1)] (xPreZ D kA sz (rp ad E RL) Z)) (va_Qi (fun (r : Int32) (u : (Nat → Nat → Nat) × (Nat → Nat → va_E) × List (Nat × Nat)) => CI kA u.1 u.2.1 u.2.2 ml nd len wl.length cs ∧ TDs (cif (wS (g 0) wl 0 zEx) (lG 7 9 (g 0) wl nd g) (lG 8 10 (g 0) wl nd g)) u.2.1 nd ∧ u.1 0 0 = ad 0 0 ∧ FRL ml nd ad u.1 E u.2.1) (fun (u : (Nat → Nat → Nat) × (Nat → Nat → va_E) × List (Nat × Nat)) t => va_P D xcl (rp u.1 u.2.1 u.2.2) t.heap ∧ va_D (va_A (rp ad E RL) sz) (rp u.1 u.2.1 u.2.2)) (va_A (rp ad E RL) sz)) 0 0 (va_A (rp ad E RL) sz) := by
  refine Met.ofW (cc := xb_Sh_acceptGrant) (maxL := 7) (ret := (some .int)) (by decide) rfl ?_
  intro p e s m args below meth c s₁ B hml hv
  obtain ⟨rfl, ⟨hsz, hP, hK, hD0⟩, hZ⟩ := hv
  have hx := B.exec
  have hb := B.bytes
  have hr := B.returns
  have hT := x_hT B.pre
  have hown : s.vm.findClass xR_Sh = some m.cls := findClass_of_methodNamed B.named
  have hlocks := B.notSynchronized
  subst hsz
  have hD := hD0.self (sz := s.heap.size)
  generalize hAe : va_A (rp ad E RL) s.heap.size = A at hD hZ ⊢
  have hA : ∀ q : Nat, s.heap.size ≤ q → A q := fun q h => by rw [← hAe]; exact Or.inr h
  have hS : va_S A s.heap s.heap [] := va_S.rf
  have hl := lv_entry ([.ref (ad 0 5), .ref (ad 0 1)]) (n := 7) (Nat.le_of_ble_eq_true rfl)
  rw [lg_entry_eq]
  generalize (lg_sl ([.ref (ad 0 5), .ref (ad 0 1)]) ++ List.replicate (7 - (lg_sl ([.ref (ad 0 5), .ref (ad 0 1)])).length) Slot.unset).toArray = ls at hl ⊢
  have hl : lv_has ls 7 [(0, .ref (ad 0 5)), (1, .ref (ad 0 1))] := hl
  have hP : va_P D xcl (rp ad E RL) s.heap := hP
  obtain ⟨hmB, hDk, hLi, hSh, hCh, hLa, hDIs, hLIs⟩ := id hCI
  obtain ⟨hWL, hlt40, hLwd, hLtx⟩ := id hLW
  obtain ⟨lf_1, q_1⟩ := id (hDk)
  have c_2 : E 0 0 = .inr (0, [.ref (ad 0 1), .ref (ad 0 5), .ref (ad 0 7), .ref (ad 0 9), .int (nI ml), .int lf_1]) := q_1
  have m_3 : (0, 0) ∈ RL := hmB 0 (by omega)
  obtain ⟨tx_4, fb_4, fe_4, hl1_4, hw2_4, q1_4, q2_4, q3_4, q4_4, hws_4⟩ := id (hLi)
  have c_5 : E 0 1 = .inr (1, [.ref (ad 0 2), .ref (ad 0 3), .ref (ad 0 4), .int (nI len), .int (nI (wl.length))]) := q1_4
  have m_6 : (0, 1) ∈ RL := hmB 1 (by omega)
  have c_7 : E 0 2 = .inl (kA 1, 40, .inl tx_4) := q2_4
  have m_8 : (0, 2) ∈ RL := hmB 2 (by omega)
  have c_9 : E 0 3 = .inl (kA 0, 20, .inl fb_4) := q3_4
  have m_10 : (0, 3) ∈ RL := hmB 3 (by omega)
  have c_11 : E 0 4 = .inl (kA 0, 20, .inl fe_4) := q4_4
  have m_12 : (0, 4) ∈ RL := hmB 4 (by omega)
  obtain ⟨fd_13, hnd_13, q5_13, q6_13, hds_13⟩ := id (hSh)
  have c_14 : E 0 5 = .inr (2, [.ref (ad 0 6), .int (nI nd)]) := q5_13
  have m_15 : (0, 5) ∈ RL := hmB 5 (by omega)
  have c_16 : E 0 6 = .inl (kA 4, 12, .inr (.inr (.inr (.inr fd_13)))) := q6_13
  have m_17 : (0, 6) ∈ RL := hmB 6 (by omega)
  obtain ⟨cf_18, pv_18, fc_18, hcs_18, hpv_18, q7_18, q8_18, hfc_18⟩ := id (hCh)
  have c_19 : E 0 7 = .inr (3, [.ref (ad 0 5), .ref (ad 0 8), .int (nI cs), .int cf_18, pv_18]) := q7_18
  have m_20 : (0, 7) ∈ RL := hmB 7 (by omega)
  have c_21 : E 0 8 = .inl (kA 4, 12, .inr (.inr (.inr (.inr fc_18)))) := q8_18
  have m_22 : (0, 8) ∈ RL := hmB 8 (by omega)
  obtain ⟨fl_23, hml_23, q9_23, hla_23⟩ := id (hLa)
  have c_24 : E 0 9 = .inl (kA 5, 5, .inr (.inr (.inr (.inr fl_23)))) := q9_23
  have m_25 : (0, 9) ∈ RL := hmB 9 (by omega)
  obtain ⟨zw0, zw1, zw2, zw3, zw4, zw5, zw6, zw7, zw8, zw9, zw10, zw11⟩ := zW_all
  refine lv_aload_n hx hb xd_Sh_acceptGrant_0 rfl (lv_at hl 1 rfl) ?_
  refine lv_iconst (v := 1) hx hb xd_Sh_acceptGrant_1 (by decide) ?_
  have hFc := px_free hD hS hA
  refine va_calli (va_runV (As := [.int 1]) (rest := []) ⟨hx, hb, hml, hown, hT⟩ (xc_Li_nameAtX l D kA s.heap.size ad E RL g ml nd len lt wl cs 1 (by first | assumption | omega) (by first | assumption | omega) (by first | assumption | omega)) (cwV 1 hT (wT_V k5i_1 k5i_2 k5i_3 k5i_4 k5i_0) rfl rfl rfl (by decide +kernel) ⟨Nat.le_of_ble_eq_true rfl, Nat.le_of_ble_eq_true rfl⟩) (px_preV hK hP hD m_6 c_5 rfl) rfl rfl hl.1 rfl (lv_room (Nat.le_of_ble_eq_true rfl)) xd_Sh_acceptGrant_2 ⟨(Nat.le_of_ble_eq_true rfl), (Nat.le_of_ble_eq_true rfl)⟩) hS (fun q _ h => hFc q h) hFc (fun r26 u27 t H1 locs ht hvm hp28 hB hz1 hk1 hS => ?_)
  obtain ⟨hP1, hD1⟩ := hB
  rw [ht] at hP1
  have hD1 := hD1.weaken (fun _ _ _ h => hFc _ h)
  generalize H1 = H at hP1 hS ⊢
  have hP := hP1
  have hD := hD1
  have hP : va_P D xcl (rp ad E RL) H := hP
  have hD : va_D A (rp ad E RL) := hD
  have hp28 : r26 = wN (g 0) wl 1 := hp28
  subst hp28
  have hP : va_P D xcl (rp ad E RL) H := hP
  have hD : va_D A (rp ad E RL) := hD
  refine lv_istore_n hx hb xd_Sh_acceptGrant_5 rfl hl (Nat.le_of_ble_eq_true rfl) rfl (fun ls hl => ?_)
  have hl : lv_has ls 7 [(2, .int (wN (g 0) wl 1)), (0, .ref (ad 0 5)), (1, .ref (ad 0 1))] := hl
  refine lv_aload_n hx hb xd_Sh_acceptGrant_6 rfl (lv_at hl 2 rfl) ?_
  refine px_get (D := D) (ci := 1) (v := .int (nI (wl.length))) (C := xR_Li) (T := xT_Li) (N := 5) hx hb hT xi_Li hown hK.1 hP m_6 c_5 rfl 4 (by decide) (hT _ k5i_5) (fun _ h9 => h9) rfl xd_Sh_acceptGrant_7 ?_
  refine lv_iconst (v := 2) hx hb xd_Sh_acceptGrant_10 (by decide) ?_
  refine xn_ne (a := wl.length) (b := 2) (tgt := 18) hx hb xd_Sh_acceptGrant_11 (by decide) (by omega) (by omega) (fun hc29 => ?_) (fun hc29 => ?_)
  · refine lv_aload_n hx hb xd_Sh_acceptGrant_18 rfl (lv_at hl 2 rfl) ?_
    refine lv_iconst (v := 3) hx hb xd_Sh_acceptGrant_19 (by decide) ?_
    have hFc := px_free hD hS hA
    refine va_calli (va_runV (As := [.int 3]) (rest := []) ⟨hx, hb, hml, hown, hT⟩ (xc_Li_nameAtX l D kA H.size ad E RL g ml nd len lt wl cs 3 (by first | assumption | omega) (by first | assumption | omega) (by first | assumption | omega)) (cwV 1 hT (wT_V k5i_1 k5i_2 k5i_3 k5i_4 k5i_0) rfl rfl rfl (by decide +kernel) ⟨Nat.le_of_ble_eq_true rfl, Nat.le_of_ble_eq_true rfl⟩) (px_preV hK hP hD m_6 c_5 rfl) rfl rfl hl.1 rfl (lv_room (Nat.le_of_ble_eq_true rfl)) xd_Sh_acceptGrant_20 ⟨(Nat.le_of_ble_eq_true rfl), (Nat.le_of_ble_eq_true rfl)⟩) hS (fun q _ h => hFc q h) hFc (fun r30 u31 t H1 locs ht hvm hp32 hB hz1 hk1 hS => ?_)
    obtain ⟨hP1, hD1⟩ := hB
    rw [ht] at hP1
    have hD1 := hD1.weaken (fun _ _ _ h => hFc _ h)
    generalize H1 = H at hP1 hS ⊢
    have hP := hP1
    have hD := hD1
    have hP : va_P D xcl (rp ad E RL) H := hP
    have hD : va_D A (rp ad E RL) := hD
    have hp32 : r30 = wN (g 0) wl 3 := hp32
    subst hp32
    have hP : va_P D xcl (rp ad E RL) H := hP
    have hD : va_D A (rp ad E RL) := hD
    refine lv_istore_n hx hb xd_Sh_acceptGrant_23 rfl hl (Nat.le_of_ble_eq_true rfl) rfl (fun ls hl => ?_)
    have hl : lv_has ls 7 [(3, .int (wN (g 0) wl 3)), (2, .int (wN (g 0) wl 1)), (0, .ref (ad 0 5)), (1, .ref (ad 0 1))] := hl
    refine lv_aload_n hx hb xd_Sh_acceptGrant_24 rfl (lv_at hl 3 rfl) ?_
    refine px_get (D := D) (ci := 1) (v := .int (nI (wl.length))) (C := xR_Li) (T := xT_Li) (N := 5) hx hb hT xi_Li hown hK.1 hP m_6 c_5 rfl 4 (by decide) (hT _ k5i_5) (fun _ h9 => h9) rfl xd_Sh_acceptGrant_25 ?_
    refine lv_iconst (v := 4) hx hb xd_Sh_acceptGrant_28 (by decide) ?_
    refine xn_ne (a := wl.length) (b := 4) (tgt := 50) hx hb xd_Sh_acceptGrant_29 (by decide) (by omega) (by omega) (fun hc33 => ?_) (fun hc33 => ?_)
    · refine lv_iconst (v := 0) hx hb xd_Sh_acceptGrant_50 (by decide) ?_
      refine lv_istore hx hb xd_Sh_acceptGrant_51 hl (Nat.le_of_ble_eq_true rfl) rfl (fun ls hl => ?_)
      have hl : lv_has ls 7 [(4, .int 0), (3, .int (wN (g 0) wl 3)), (2, .int (wN (g 0) wl 1)), (0, .ref (ad 0 5)), (1, .ref (ad 0 1))] := hl
      refine lv_iload_n hx hb xd_Sh_acceptGrant_53 rfl (lv_at hl 2 rfl) ?_
      refine lv_if_eq (tgt := 70) hx hb xd_Sh_acceptGrant_54 (by decide) (fun hc34 => ?_) (fun hc34 => ?_)
      · refine lv_iconst (v := (-1)) hx hb xd_Sh_acceptGrant_70 (by decide) ?_
        refine W.widen (k := 0) (n := 0) (Nat.le_of_ble_eq_true rfl) (Nat.le_of_ble_eq_true rfl) ?_
        exact W.iret (v := (-1)) hx hb hr (fun t ht hW => ⟨⟨(-1), (ad, E, RL), rfl, ⟨hCI, by rw [cif_eq (lG_no1 (a := 7) (a2 := 9) (fun q => q.2.1 hc34)).symm (lG_no1 (a := 8) (a2 := 10) (fun q => q.2.1 hc34)).symm]; exact hTD, rfl, FRL_rf⟩, by rw [ht]; exact hP, hD⟩, hS.F ht⟩) hS.2.2 xd_Sh_acceptGrant_71
      · refine lv_aload_n hx hb xd_Sh_acceptGrant_57 rfl (lv_at hl 4 rfl) ?_
        refine px_get (D := D) (ci := 1) (v := .int (nI (wl.length))) (C := xR_Li) (T := xT_Li) (N := 5) hx hb hT xi_Li hown hK.1 hP m_6 c_5 rfl 4 (by decide) (hT _ k5i_5) (fun _ h9 => h9) rfl xd_Sh_acceptGrant_58 ?_
        refine lv_iconst (v := 2) hx hb xd_Sh_acceptGrant_61 (by decide) ?_
        refine xn_eq (a := wl.length) (b := 2) (tgt := 72) hx hb xd_Sh_acceptGrant_62 (by decide) (by omega) (by omega) (fun hc35 => absurd hc35 (by omega)) (fun _ => ?_)
        refine lv_iload hx hb xd_Sh_acceptGrant_65 (lv_at hl 0 rfl) ?_
        refine lv_if_ne (tgt := 72) hx hb xd_Sh_acceptGrant_67 (by decide) (fun hc36 => absurd (by decide) hc36) (fun _ => ?_)
        refine lv_iconst (v := (-1)) hx hb xd_Sh_acceptGrant_70 (by decide) ?_
        refine W.widen (k := 0) (n := 0) (Nat.le_of_ble_eq_true rfl) (Nat.le_of_ble_eq_true rfl) ?_
        exact W.iret (v := (-1)) hx hb hr (fun t ht hW => ⟨⟨(-1), (ad, E, RL), rfl, ⟨hCI, by rw [cif_eq (lG_no1 (a := 7) (a2 := 9) (fun q => q.1.elim (fun z => absurd z (by omega)) (fun z => absurd z.1 (by omega)))).symm (lG_no1 (a := 8) (a2 := 10) (fun q => q.1.elim (fun z => absurd z (by omega)) (fun z => absurd z.1 (by omega)))).symm]; exact hTD, rfl, FRL_rf⟩, by rw [ht]; exact hP, hD⟩, hS.F ht⟩) hS.2.2 xd_Sh_acceptGrant_71
    · refine lv_aload_n hx hb xd_Sh_acceptGrant_32 rfl (lv_at hl 3 rfl) ?_
      refine lv_iconst (v := 2) hx hb xd_Sh_acceptGrant_33 (by decide) ?_
      refine va_ldcS (q := Z.1 9) hx hb hown hZ.2.2.2.1.2.2.2.2.2.2.2.2.2.1 xd_Sh_acceptGrant_34 ?_
      have hFc := px_free hD hS hA
      refine va_calli (va_runV (As := [.int 2, .ref (Z.1 9)]) (rest := []) ⟨hx, hb, hml, hown, hT⟩ (xc_Li_wordIsX l D kA H.size ad E RL Z g ml nd len lt wl cs 2 9 (by first | assumption | omega) (by first | assumption | omega) (by first | assumption | omega) (by first | assumption | omega)) (cwV 2 hT (wT_V k5i_7 k5i_8 k5i_9 k5i_4 k5i_6) rfl rfl rfl (by decide +kernel) ⟨Nat.le_of_ble_eq_true rfl, Nat.le_of_ble_eq_true rfl⟩) (px_preVZ hK hP hD m_6 c_5 rfl hFc (hZ.kept hS)) rfl rfl hl.1 rfl (lv_room (Nat.le_of_ble_eq_true rfl)) xd_Sh_acceptGrant_36 ⟨(Nat.le_of_ble_eq_true rfl), (Nat.le_of_ble_eq_true rfl)⟩) hS (fun q _ h => hFc q h) hFc (fun r37 u38 t H1 locs ht hvm hp39 hB hz1 hk1 hS => ?_)
      obtain ⟨hP1, hD1⟩ := hB
      rw [ht] at hP1
      have hD1 := hD1.weaken (fun _ _ _ h => hFc _ h)
      generalize H1 = H at hP1 hS ⊢
      have hP := hP1
      have hD := hD1
      have hP : va_P D xcl (rp ad E RL) H := hP
      have hD : va_D A (rp ad E RL) := hD
      rcases hp39 with ⟨rfl, z40⟩ | ⟨rfl, z41⟩
      · have hw9 : wS (g 0) wl 2 zTo := by have q := z40; rw [zw9] at q; exact q
        refine W.eq (g2 := F0 m 39 ls [.int 1]) rfl ?_
        refine lv_if_eq (tgt := 50) hx hb xd_Sh_acceptGrant_39 (by decide) (fun hc42 => absurd hc42 (by decide)) (fun _ => ?_)
        refine lv_iload_n hx hb xd_Sh_acceptGrant_42 rfl (lv_at hl 0 rfl) ?_
        refine lv_if_eq (tgt := 50) hx hb xd_Sh_acceptGrant_43 (by decide) (fun hc43 => ?_) (fun hc43 => ?_)
        · refine lv_iconst (v := 0) hx hb xd_Sh_acceptGrant_50 (by decide) ?_
          refine lv_istore hx hb xd_Sh_acceptGrant_51 hl (Nat.le_of_ble_eq_true rfl) rfl (fun ls hl => ?_)
          have hl : lv_has ls 7 [(4, .int 0), (3, .int (wN (g 0) wl 3)), (2, .int (wN (g 0) wl 1)), (0, .ref (ad 0 5)), (1, .ref (ad 0 1))] := hl
          refine lv_iload_n hx hb xd_Sh_acceptGrant_53 rfl (lv_at hl 2 rfl) ?_
          refine lv_if_eq (tgt := 70) hx hb xd_Sh_acceptGrant_54 (by decide) (fun hc44 => ?_) (fun hc44 => ?_)
          · refine lv_iconst (v := (-1)) hx hb xd_Sh_acceptGrant_70 (by decide) ?_
            refine W.widen (k := 0) (n := 0) (Nat.le_of_ble_eq_true rfl) (Nat.le_of_ble_eq_true rfl) ?_
            exact W.iret (v := (-1)) hx hb hr (fun t ht hW => ⟨⟨(-1), (ad, E, RL), rfl, ⟨hCI, by rw [cif_eq (lG_no1 (a := 7) (a2 := 9) (fun q => q.2.1 hc44)).symm (lG_no1 (a := 8) (a2 := 10) (fun q => q.2.1 hc44)).symm]; exact hTD, rfl, FRL_rf⟩, by rw [ht]; exact hP, hD⟩, hS.F ht⟩) hS.2.2 xd_Sh_acceptGrant_71
          · refine lv_aload_n hx hb xd_Sh_acceptGrant_57 rfl (lv_at hl 4 rfl) ?_
            refine px_get (D := D) (ci := 1) (v := .int (nI (wl.length))) (C := xR_Li) (T := xT_Li) (N := 5) hx hb hT xi_Li hown hK.1 hP m_6 c_5 rfl 4 (by decide) (hT _ k5i_5) (fun _ h9 => h9) rfl xd_Sh_acceptGrant_58 ?_
            refine lv_iconst (v := 2) hx hb xd_Sh_acceptGrant_61 (by decide) ?_
            refine xn_eq (a := wl.length) (b := 2) (tgt := 72) hx hb xd_Sh_acceptGrant_62 (by decide) (by omega) (by omega) (fun hc45 => absurd hc45 (by omega)) (fun _ => ?_)
            refine lv_iload hx hb xd_Sh_acceptGrant_65 (lv_at hl 0 rfl) ?_
            refine lv_if_ne (tgt := 72) hx hb xd_Sh_acceptGrant_67 (by decide) (fun hc46 => absurd (by decide) hc46) (fun _ => ?_)
            refine lv_iconst (v := (-1)) hx hb xd_Sh_acceptGrant_70 (by decide) ?_
            refine W.widen (k := 0) (n := 0) (Nat.le_of_ble_eq_true rfl) (Nat.le_of_ble_eq_true rfl) ?_
            exact W.iret (v := (-1)) hx hb hr (fun t ht hW => ⟨⟨(-1), (ad, E, RL), rfl, ⟨hCI, by rw [cif_eq (lG_no1 (a := 7) (a2 := 9) (fun q => q.1.elim (fun z => absurd z (by omega)) (fun z => z.2.2 hc43))).symm (lG_no1 (a := 8) (a2 := 10) (fun q => q.1.elim (fun z => absurd z (by omega)) (fun z => z.2.2 hc43))).symm]; exact hTD, rfl, FRL_rf⟩, by rw [ht]; exact hP, hD⟩, hS.F ht⟩) hS.2.2 xd_Sh_acceptGrant_71
        · refine lv_iconst (v := 1) hx hb xd_Sh_acceptGrant_46 (by decide) ?_
          refine lv_goto (tgt := 51) hx hb xd_Sh_acceptGrant_47 (by decide) ?_
          refine lv_istore hx hb xd_Sh_acceptGrant_51 hl (Nat.le_of_ble_eq_true rfl) rfl (fun ls hl => ?_)
          have hl : lv_has ls 7 [(4, .int 1), (3, .int (wN (g 0) wl 3)), (2, .int (wN (g 0) wl 1)), (0, .ref (ad 0 5)), (1, .ref (ad 0 1))] := hl
          refine lv_iload_n hx hb xd_Sh_acceptGrant_53 rfl (lv_at hl 2 rfl) ?_
          refine lv_if_eq (tgt := 70) hx hb xd_Sh_acceptGrant_54 (by decide) (fun hc47 => ?_) (fun hc47 => ?_)
          · refine lv_iconst (v := (-1)) hx hb xd_Sh_acceptGrant_70 (by decide) ?_
            refine W.widen (k := 0) (n := 0) (Nat.le_of_ble_eq_true rfl) (Nat.le_of_ble_eq_true rfl) ?_
            exact W.iret (v := (-1)) hx hb hr (fun t ht hW => ⟨⟨(-1), (ad, E, RL), rfl, ⟨hCI, by rw [cif_eq (lG_no1 (a := 7) (a2 := 9) (fun q => q.2.1 hc47)).symm (lG_no1 (a := 8) (a2 := 10) (fun q => q.2.1 hc47)).symm]; exact hTD, rfl, FRL_rf⟩, by rw [ht]; exact hP, hD⟩, hS.F ht⟩) hS.2.2 xd_Sh_acceptGrant_71
          · refine lv_aload_n hx hb xd_Sh_acceptGrant_57 rfl (lv_at hl 4 rfl) ?_
            refine px_get (D := D) (ci := 1) (v := .int (nI (wl.length))) (C := xR_Li) (T := xT_Li) (N := 5) hx hb hT xi_Li hown hK.1 hP m_6 c_5 rfl 4 (by decide) (hT _ k5i_5) (fun _ h9 => h9) rfl xd_Sh_acceptGrant_58 ?_
            refine lv_iconst (v := 2) hx hb xd_Sh_acceptGrant_61 (by decide) ?_
            refine xn_eq (a := wl.length) (b := 2) (tgt := 72) hx hb xd_Sh_acceptGrant_62 (by decide) (by omega) (by omega) (fun hc48 => absurd hc48 (by omega)) (fun _ => ?_)
            refine lv_iload hx hb xd_Sh_acceptGrant_65 (lv_at hl 0 rfl) ?_
            refine lv_if_ne (tgt := 72) hx hb xd_Sh_acceptGrant_67 (by decide) (fun _ => ?_) (fun hc49 => absurd hc49 (by decide))
            refine lv_aload_n hx hb xd_Sh_acceptGrant_72 rfl (lv_at hl 3 rfl) ?_
            have hFc := px_free hD hS hA
            refine va_callq (va_runV (As := []) (rest := []) ⟨hx, hb, hml, hown, hT⟩ (xc_Sh_latestX l D kA H.size ad E RL ml nd len wl.length cs (by first | assumption | omega)) (cwV 0 hT (wT_V k5i_11 k5i_12 k5i_13 k5i_14 k5i_10) rfl rfl rfl (by decide +kernel) ⟨Nat.le_of_ble_eq_true rfl, Nat.le_of_ble_eq_true rfl⟩) (px_preV hK hP hD m_15 c_14 rfl) rfl rfl hl.1 rfl (lv_room (Nat.le_of_ble_eq_true rfl)) xd_Sh_acceptGrant_73 ⟨(Nat.le_of_ble_eq_true rfl), (Nat.le_of_ble_eq_true rfl)⟩) hS (fun q _ h => hFc q h) hFc (fun r50 u51 t H1 locs ht hvm hp52 hB hz1 hk1 hS => ?_)
            obtain ⟨hP1, hD1⟩ := hB
            rw [ht] at hP1
            have hD1 := hD1.weaken (fun _ _ _ h => hFc _ h)
            generalize H1 = H at hP1 hS ⊢
            have hP := hP1
            have hD := hD1
            have hP : va_P D xcl (rp ad E RL) H := hP
            have hD : va_D A (rp ad E RL) := hD
            rcases hp52 with ⟨rfl, z53⟩ | ⟨z54, rfl⟩
            · refine W.eq (g2 := F0 m 76 ls [.null]) rfl ?_
              refine lv_astoreN hx hb xd_Sh_acceptGrant_76 hl (Nat.le_of_ble_eq_true rfl) rfl (fun ls hl => ?_)
              have hl : lv_has ls 7 [(5, .null), (4, .int 1), (3, .int (wN (g 0) wl 3)), (2, .int (wN (g 0) wl 1)), (0, .ref (ad 0 5)), (1, .ref (ad 0 1))] := hl
              refine lv_aloadN hx hb xd_Sh_acceptGrant_78 (lv_at hl 0 rfl) ?_
              refine lv_ifnonnullN hx hb xd_Sh_acceptGrant_80 ?_
              refine lv_bipush (v := (-2)) hx hb xd_Sh_acceptGrant_83 (by decide) ?_
              refine W.widen (k := 0) (n := 0) (Nat.le_of_ble_eq_true rfl) (Nat.le_of_ble_eq_true rfl) ?_
              exact W.iret (v := (-2)) hx hb hr (fun t ht hW => ⟨⟨(-2), (ad, E, RL), rfl, ⟨hCI, by rw [cif_eq (lG_no1 (a := 7) (a2 := 9) (fun q => absurd q.2.2.1 (by omega))).symm (lG_no1 (a := 8) (a2 := 10) (fun q => absurd q.2.2.1 (by omega))).symm]; exact hTD, rfl, FRL_rf⟩, by rw [ht]; exact hP, hD⟩, hS.F ht⟩) hS.2.2 xd_Sh_acceptGrant_85
            · refine W.eq (g2 := F0 m 76 ls [.ref (ad (1 + (nd - 1)) 0)]) rfl ?_
              refine lv_astore hx hb xd_Sh_acceptGrant_76 hl (Nat.le_of_ble_eq_true rfl) rfl (fun ls hl => ?_)
              have hl : lv_has ls 7 [(5, .ref (ad (1 + (nd - 1)) 0)), (4, .int 1), (3, .int (wN (g 0) wl 3)), (2, .int (wN (g 0) wl 1)), (0, .ref (ad 0 5)), (1, .ref (ad 0 1))] := hl
              refine lv_aload hx hb xd_Sh_acceptGrant_78 (lv_at hl 0 rfl) ?_
              refine lv_ifnonnull (tgt := 86) hx hb xd_Sh_acceptGrant_80 (by decide) ?_
              obtain ⟨hm_55, fd_55, nm_55, sd_55, k0_55, k1_55, k2_55, k3_55, f0_55, f1_55, f2_55, f3_55, fe_55, fo_55, tr_55, op_55, hk0_55, hk1_55, hk2_55, hk3_55, q0_55, q1_55, q2_55, q3_55, q4_55, q5_55, q6_55, q7_55, q8_55, q9_55, q10_55, q11_55, q12_55, hg_55⟩ := id (hDIs (nd - 1) (by omega))
              have c_56 : E (1 + (nd - 1)) 0 = .inr (7, [.int (nI ((nd - 1))), .int fd_55, .int nm_55, .ref (ad (1 + (nd - 1)) 1), .ref (ad (1 + (nd - 1)) 9), .ref (ad (1 + (nd - 1)) 10), .ref (ad (1 + (nd - 1)) 2), .ref (ad (1 + (nd - 1)) 11), .ref (ad (1 + (nd - 1)) 12), .ref (ad (1 + (nd - 1)) 3), .ref (ad (1 + (nd - 1)) 4), .int sd_55]) := q0_55
              have m_57 : (1 + (nd - 1), 0) ∈ RL := hm_55 0 (by omega)
              have c_58 : E (1 + (nd - 1)) 1 = .inr (8, [.ref (ad (1 + (nd - 1)) 5), .int (nI k0_55)]) := q1_55
              have m_59 : (1 + (nd - 1), 1) ∈ RL := hm_55 1 (by omega)
              have c_60 : E (1 + (nd - 1)) 2 = .inr (8, [.ref (ad (1 + (nd - 1)) 6), .int (nI k1_55)]) := q2_55
              have m_61 : (1 + (nd - 1), 2) ∈ RL := hm_55 2 (by omega)
              have c_62 : E (1 + (nd - 1)) 3 = .inr (8, [.ref (ad (1 + (nd - 1)) 7), .int (nI k2_55)]) := q3_55
              have m_63 : (1 + (nd - 1), 3) ∈ RL := hm_55 3 (by omega)
              have c_64 : E (1 + (nd - 1)) 4 = .inr (8, [.ref (ad (1 + (nd - 1)) 8), .int (nI k3_55)]) := q4_55
              have m_65 : (1 + (nd - 1), 4) ∈ RL := hm_55 4 (by omega)
              have c_66 : E (1 + (nd - 1)) 5 = .inl (kA 0, 6, .inl f0_55) := q5_55
              have m_67 : (1 + (nd - 1), 5) ∈ RL := hm_55 5 (by omega)
              have c_68 : E (1 + (nd - 1)) 6 = .inl (kA 0, 5, .inl f1_55) := q6_55
              have m_69 : (1 + (nd - 1), 6) ∈ RL := hm_55 6 (by omega)
              have c_70 : E (1 + (nd - 1)) 7 = .inl (kA 0, 3, .inl f2_55) := q7_55
              have m_71 : (1 + (nd - 1), 7) ∈ RL := hm_55 7 (by omega)
              have c_72 : E (1 + (nd - 1)) 8 = .inl (kA 0, 3, .inl f3_55) := q8_55
              have m_73 : (1 + (nd - 1), 8) ∈ RL := hm_55 8 (by omega)
              have c_74 : E (1 + (nd - 1)) 9 = .inl (kA 8, 6, .inr (.inr (.inr (.inr fe_55)))) := q9_55
              have m_75 : (1 + (nd - 1), 9) ∈ RL := hm_55 9 (by omega)
              have c_76 : E (1 + (nd - 1)) 10 = .inl (kA 8, 6, .inr (.inr (.inr (.inr fo_55)))) := q10_55
              have m_77 : (1 + (nd - 1), 10) ∈ RL := hm_55 10 (by omega)
              have c_78 : E (1 + (nd - 1)) 11 = .inl (kA 2, 5, .inl tr_55) := q11_55
              have m_79 : (1 + (nd - 1), 11) ∈ RL := hm_55 11 (by omega)
              have c_80 : E (1 + (nd - 1)) 12 = .inl (kA 2, 5, .inl op_55) := q12_55
              have m_81 : (1 + (nd - 1), 12) ∈ RL := hm_55 12 (by omega)
              have hg_55 : ∀ w9, w9 < k0_55 → fe_55 w9 = some (ad (1 + (nd - 1)) (20 + 3 * w9)) ∧ fo_55 w9 = some (ad (1 + (nd - 1)) (38 + 3 * w9)) ∧ GI kA (ad (1 + (nd - 1))) (E (1 + (nd - 1))) (fun o => (1 + (nd - 1), o) ∈ RL) (20 + 3 * w9) (21 + 3 * w9) (22 + 3 * w9) ∧ GI kA (ad (1 + (nd - 1))) (E (1 + (nd - 1))) (fun o => (1 + (nd - 1), o) ∈ RL) (38 + 3 * w9) (39 + 3 * w9) (40 + 3 * w9) := hg_55
              obtain ⟨hTT_55, tgr_55⟩ := TD_get hk0_55 hk1_55 hk2_55 hk3_55 c_56 c_58 c_60 c_62 c_64 c_66 c_68 c_70 c_72 c_78 c_80 (hTD (nd - 1) (by omega))
              obtain ⟨tfd_55, tnm_55, tsd_55, tk0_55, tf0_55, tk1_55, tf1_55, tk2_55, tk3_55⟩ := id hTT_55
              have ik0_55 : iN (g 5 (nd - 1)) = k0_55 := by rw [← tk0_55, iN_nI (by omega)]
              have ik1_55 : iN (g 12 (nd - 1)) = k1_55 := by rw [← tk1_55, iN_nI (by omega)]
              refine lv_aload_n hx hb xd_Sh_acceptGrant_86 rfl (lv_at hl 5 rfl) ?_
              refine lv_iconst (v := 0) hx hb xd_Sh_acceptGrant_87 (by decide) ?_
              refine va_ldcS (q := Z.1 2) hx hb hown hZ.2.2.2.1.2.2.1 xd_Sh_acceptGrant_88 ?_
              have hFc := px_free hD hS hA
              refine va_calli (va_runV (As := [.int 0, .ref (Z.1 2)]) (rest := []) ⟨hx, hb, hml, hown, hT⟩ (xc_Li_wordIsX l D kA H.size ad E RL Z g ml nd len lt wl cs 0 2 (by first | assumption | omega) (by first | assumption | omega) (by first | assumption | omega) (by first | assumption | omega)) (cwV 2 hT (wT_V k5i_7 k5i_8 k5i_9 k5i_4 k5i_6) rfl rfl rfl (by decide +kernel) ⟨Nat.le_of_ble_eq_true rfl, Nat.le_of_ble_eq_true rfl⟩) (px_preVZ hK hP hD m_6 c_5 rfl hFc (hZ.kept hS)) rfl rfl hl.1 rfl (lv_room (Nat.le_of_ble_eq_true rfl)) xd_Sh_acceptGrant_90 ⟨(Nat.le_of_ble_eq_true rfl), (Nat.le_of_ble_eq_true rfl)⟩) hS (fun q _ h => hFc q h) hFc (fun r82 u83 t H1 locs ht hvm hp84 hB hz1 hk1 hS => ?_)
              obtain ⟨hP1, hD1⟩ := hB
              rw [ht] at hP1
              have hD1 := hD1.weaken (fun _ _ _ h => hFc _ h)
              generalize H1 = H at hP1 hS ⊢
              have hP := hP1
              have hD := hD1
              have hP : va_P D xcl (rp ad E RL) H := hP
              have hD : va_D A (rp ad E RL) := hD
              rcases hp84 with ⟨rfl, z85⟩ | ⟨rfl, z86⟩
              · have hw2 : wS (g 0) wl 0 zEx := by have q := z85; rw [zw2] at q; exact q
                refine W.eq (g2 := F0 m 93 ls [.int 1]) rfl ?_
                refine lv_if_eq (tgt := 105) hx hb xd_Sh_acceptGrant_93 (by decide) (fun hc87 => absurd hc87 (by decide)) (fun _ => ?_)
                refine lv_aload hx hb xd_Sh_acceptGrant_96 (lv_at hl 0 rfl) ?_
                refine lv_iload_n hx hb xd_Sh_acceptGrant_98 rfl (lv_at hl 3 rfl) ?_
                have hFc := px_free hD hS hA
                refine va_callq (va_runV (As := [.int (wN (g 0) wl 1)]) (rest := []) ⟨hx, hb, hml, hown, hT⟩ (xc_Ds_exportOfX l D kA H.size ad E RL g nd (nd - 1) (wN (g 0) wl 1) (by first | assumption | omega) (by first | assumption | omega) (by first | assumption | omega)) (cwV 1 hT (wT_V k5i_16 k5i_17 k5i_18 k5i_19 k5i_15) rfl rfl rfl (by decide +kernel) ⟨Nat.le_of_ble_eq_true rfl, Nat.le_of_ble_eq_true rfl⟩) (px_preV hK hP hD m_57 c_56 rfl) rfl rfl hl.1 rfl (lv_room (Nat.le_of_ble_eq_true rfl)) xd_Sh_acceptGrant_99 ⟨(Nat.le_of_ble_eq_true rfl), (Nat.le_of_ble_eq_true rfl)⟩) hS (fun q _ h => hFc q h) hFc (fun r88 u89 t H1 locs ht hvm hp90 hB hz1 hk1 hS => ?_)
                obtain ⟨hP1, hD1⟩ := hB
                rw [ht] at hP1
                have hD1 := hD1.weaken (fun _ _ _ h => hFc _ h)
                generalize H1 = H at hP1 hS ⊢
                have hP := hP1
                have hD := hD1
                have hP : va_P D xcl (rp ad E RL) H := hP
                have hD : va_D A (rp ad E RL) := hD
                rcases hp90 with ⟨rfl, z91⟩ | ⟨z92, z93, rfl, z94, z95⟩
                · refine W.eq (g2 := F0 m 102 ls [.null]) rfl ?_
                  refine lv_goto (tgt := 111) hx hb xd_Sh_acceptGrant_102 (by decide) ?_
                  refine lv_astoreN hx hb xd_Sh_acceptGrant_111 hl (Nat.le_of_ble_eq_true rfl) rfl (fun ls hl => ?_)
                  have hl : lv_has ls 7 [(6, .null), (5, .ref (ad (1 + (nd - 1)) 0)), (4, .int 1), (3, .int (wN (g 0) wl 3)), (2, .int (wN (g 0) wl 1)), (0, .ref (ad 0 5)), (1, .ref (ad 0 1))] := hl
                  refine lv_aloadN hx hb xd_Sh_acceptGrant_113 (lv_at hl 0 rfl) ?_
                  refine lv_ifnonnullN hx hb xd_Sh_acceptGrant_115 ?_
                  refine lv_iconst (v := (-1)) hx hb xd_Sh_acceptGrant_118 (by decide) ?_
                  refine W.widen (k := 0) (n := 0) (Nat.le_of_ble_eq_true rfl) (Nat.le_of_ble_eq_true rfl) ?_
                  exact W.iret (v := (-1)) hx hb hr (fun t ht hW => ⟨⟨(-1), (ad, E, RL), rfl, ⟨hCI, by rw [cif_pos hw2, ← lG_no2 z91]; exact hTD, rfl, FRL_rf⟩, by rw [ht]; exact hP, hD⟩, hS.F ht⟩) hS.2.2 xd_Sh_acceptGrant_119
                · refine W.eq (g2 := F0 m 102 ls [.ref (ad (1 + (nd - 1)) (20 + 3 * z92))]) rfl ?_
                  obtain ⟨m0_96, m1_96, m2_96, ta_96, n_96, f_96, hn_96, q0_96, q1_96, q2_96⟩ := z94
                  have c_97 : E (1 + (nd - 1)) (20 + 3 * z92) = .inr (9, [.ref (ad (1 + (nd - 1)) (21 + 3 * z92)), .int ta_96]) := q0_96
                  have m_98 : (1 + (nd - 1), 20 + 3 * z92) ∈ RL := m0_96
                  have c_99 : E (1 + (nd - 1)) (21 + 3 * z92) = .inr (8, [.ref (ad (1 + (nd - 1)) (22 + 3 * z92)), .int (nI n_96)]) := q1_96
                  have m_100 : (1 + (nd - 1), 21 + 3 * z92) ∈ RL := m1_96
                  have c_101 : E (1 + (nd - 1)) (22 + 3 * z92) = .inl (kA 0, 3, .inl f_96) := q2_96
                  have m_102 : (1 + (nd - 1), 22 + 3 * z92) ∈ RL := m2_96
                  have hpi9 : pI g (nd - 1) (wN (g 0) wl 1) = some z92 := z95
                  have hik9 : z92 < k0_55 := by have q := (ff_is hpi9).1; rw [ik0_55] at q; exact q
                  have htg9 := TG_get hn_96 c_97 c_99 c_101 (tgr_55 z92 hik9).1
                  refine lv_goto (tgt := 111) hx hb xd_Sh_acceptGrant_102 (by decide) ?_
                  refine lv_astore hx hb xd_Sh_acceptGrant_111 hl (Nat.le_of_ble_eq_true rfl) rfl (fun ls hl => ?_)
                  have hl : lv_has ls 7 [(6, .ref (ad (1 + (nd - 1)) (20 + 3 * z92))), (5, .ref (ad (1 + (nd - 1)) 0)), (4, .int 1), (3, .int (wN (g 0) wl 3)), (2, .int (wN (g 0) wl 1)), (0, .ref (ad 0 5)), (1, .ref (ad 0 1))] := hl
                  refine lv_aload hx hb xd_Sh_acceptGrant_113 (lv_at hl 0 rfl) ?_
                  refine lv_ifnonnull (tgt := 120) hx hb xd_Sh_acceptGrant_115 (by decide) ?_
                  refine lv_aload hx hb xd_Sh_acceptGrant_120 (lv_at hl 1 rfl) ?_
                  refine px_get (D := D) (ci := 7) (v := .int sd_55) (C := xR_Ds) (T := xT_Ds) (N := 12) hx hb hT xi_Ds hown hK.1 hP m_57 c_56 rfl 11 (by decide) (hT _ k5i_20) (fun _ h9 => h9) rfl xd_Sh_acceptGrant_122 ?_
                  refine lv_if_ne (tgt := 137) hx hb xd_Sh_acceptGrant_125 (by decide) (fun hc103 => ?_) (fun hc103 => ?_)
                  · refine lv_bipush (v := (-2)) hx hb xd_Sh_acceptGrant_137 (by decide) ?_
                    refine W.widen (k := 0) (n := 0) (Nat.le_of_ble_eq_true rfl) (Nat.le_of_ble_eq_true rfl) ?_
                    exact W.iret (v := (-2)) hx hb hr (fun t ht hW => ⟨⟨(-2), (ad, E, RL), rfl, ⟨hCI, by rw [cif_pos hw2, ← lG_no1 (fun q => hc103 (by rw [tsd_55]; exact q.2.2.2))]; exact hTD, rfl, FRL_rf⟩, by rw [ht]; exact hP, hD⟩, hS.F ht⟩) hS.2.2 xd_Sh_acceptGrant_139
                  · refine lv_aload hx hb xd_Sh_acceptGrant_128 (lv_at hl 0 rfl) ?_
                    refine lv_iload_n hx hb xd_Sh_acceptGrant_130 rfl (lv_at hl 3 rfl) ?_
                    have hFc := px_free hD hS hA
                    refine va_calli (va_runV (As := [.int (wN (g 0) wl 3)]) (rest := []) ⟨hx, hb, hml, hown, hT⟩ (xc_Gr_hasRoomForX l D kA H.size ad E RL (1 + (nd - 1)) (20 + 3 * z92) (21 + 3 * z92) (22 + 3 * z92) ta_96 n_96 f_96 (wN (g 0) wl 3) m_98 c_97 m_100 c_99 m_102 c_101 (by first | assumption | omega)) (cwV 1 hT (wT_V k5i_22 k5i_23 k5i_24 k5i_25 k5i_21) rfl rfl rfl (by decide +kernel) ⟨Nat.le_of_ble_eq_true rfl, Nat.le_of_ble_eq_true rfl⟩) (px_preV hK hP hD m_98 c_97 rfl) rfl rfl hl.1 rfl (lv_room (Nat.le_of_ble_eq_true rfl)) xd_Sh_acceptGrant_131 ⟨(Nat.le_of_ble_eq_true rfl), (Nat.le_of_ble_eq_true rfl)⟩) hS (fun q _ h => hFc q h) hFc (fun r104 u105 t H1 locs ht hvm hp106 hB hz1 hk1 hS => ?_)
                    obtain ⟨hP1, hD1⟩ := hB
                    rw [ht] at hP1
                    have hD1 := hD1.weaken (fun _ _ _ h => hFc _ h)
                    generalize H1 = H at hP1 hS ⊢
                    have hP := hP1
                    have hD := hD1
                    have hP : va_P D xcl (rp ad E RL) H := hP
                    have hD : va_D A (rp ad E RL) := hD
                    rcases hp106 with ⟨rfl, z107⟩ | ⟨rfl, z108, z109, z110⟩
                    · refine W.eq (g2 := F0 m 134 ls [.int 1]) rfl ?_
                      refine lv_if_ne (tgt := 140) hx hb xd_Sh_acceptGrant_134 (by decide) (fun _ => ?_) (fun hc111 => absurd hc111 (by decide))
                      refine lv_aload hx hb xd_Sh_acceptGrant_140 (lv_at hl 0 rfl) ?_
                      refine lv_iload_n hx hb xd_Sh_acceptGrant_142 rfl (lv_at hl 3 rfl) ?_
                      have hFc := px_free hD hS hA
                      refine va_callv (va_runV (As := [.int (wN (g 0) wl 3)]) (rest := []) ⟨hx, hb, hml, hown, hT⟩ (xc_Gr_extendToX l D kA H.size ad E RL (1 + (nd - 1)) (20 + 3 * z92) (21 + 3 * z92) (22 + 3 * z92) ta_96 n_96 f_96 (wN (g 0) wl 3) m_98 c_97 m_100 c_99 m_102 c_101 (by first | assumption | omega) (by first | assumption | omega)) (cwV 1 hT (wT_V k5i_27 k5i_28 k5i_29 k5i_25 k5i_26) rfl rfl rfl (by decide +kernel) ⟨Nat.le_of_ble_eq_true rfl, Nat.le_of_ble_eq_true rfl⟩) (px_preV hK hP hD m_98 c_97 rfl) rfl rfl hl.1 rfl (lv_room (Nat.le_of_ble_eq_true rfl)) xd_Sh_acceptGrant_143 ⟨(Nat.le_of_ble_eq_true rfl), (Nat.le_of_ble_eq_true rfl)⟩) hS (fun q _ h => hFc q h) hFc (fun u113 t H1 locs ht hvm hp114 hB hz1 hk1 hS => ?_)
                      obtain ⟨hP1, hD1⟩ := hB
                      rw [ht] at hP1
                      have hD1 := hD1.weaken (fun _ _ _ h => hFc _ h)
                      generalize H1 = H at hP1 hS ⊢
                      have hP := hP1
                      have hD := hD1
                      obtain ⟨E115, rfl⟩ : ∃ z, z = u113 := ⟨_, rfl⟩
                      obtain ⟨w116, w117, w118, hp123, p_119, p_120, p_121, p_122⟩ := hp114
                      have p_119 : E115 (1 + (nd - 1)) (20 + 3 * z92) = .inr (9, [.ref (ad (1 + (nd - 1)) (21 + 3 * z92)), .int w116]) := p_119
                      have p_120 : E115 (1 + (nd - 1)) (21 + 3 * z92) = .inr (8, [.ref (ad (1 + (nd - 1)) (22 + 3 * z92)), .int (nI w117)]) := p_120
                      have p_121 : E115 (1 + (nd - 1)) (22 + 3 * z92) = .inl (kA 0, 3, .inl w118) := p_121
                      have p_122 : (∀ b2 o2, ¬ (b2 = (1 + (nd - 1)) ∧ o2 = (20 + 3 * z92)) → ¬ (b2 = (1 + (nd - 1)) ∧ o2 = (21 + 3 * z92)) → ¬ (b2 = (1 + (nd - 1)) ∧ o2 = (22 + 3 * z92)) → E115 b2 o2 = E b2 o2) := p_122
                      have c_124 : E115 0 0 = .inr (0, [.ref (ad 0 1), .ref (ad 0 5), .ref (ad 0 7), .ref (ad 0 9), .int (nI ml), .int lf_1]) := (p_122 0 0 (by omega) (by omega) (by omega)).trans c_2
                      have c_125 : E115 0 1 = .inr (1, [.ref (ad 0 2), .ref (ad 0 3), .ref (ad 0 4), .int (nI len), .int (nI (wl.length))]) := (p_122 0 1 (by omega) (by omega) (by omega)).trans c_5
                      have c_126 : E115 0 2 = .inl (kA 1, 40, .inl tx_4) := (p_122 0 2 (by omega) (by omega) (by omega)).trans c_7
                      have c_127 : E115 0 3 = .inl (kA 0, 20, .inl fb_4) := (p_122 0 3 (by omega) (by omega) (by omega)).trans c_9
                      have c_128 : E115 0 4 = .inl (kA 0, 20, .inl fe_4) := (p_122 0 4 (by omega) (by omega) (by omega)).trans c_11
                      have c_129 : E115 0 5 = .inr (2, [.ref (ad 0 6), .int (nI nd)]) := (p_122 0 5 (by omega) (by omega) (by omega)).trans c_14
                      have c_130 : E115 0 6 = .inl (kA 4, 12, .inr (.inr (.inr (.inr fd_13)))) := (p_122 0 6 (by omega) (by omega) (by omega)).trans c_16
                      have c_131 : E115 0 7 = .inr (3, [.ref (ad 0 5), .ref (ad 0 8), .int (nI cs), .int cf_18, pv_18]) := (p_122 0 7 (by omega) (by omega) (by omega)).trans c_19
                      have c_132 : E115 0 8 = .inl (kA 4, 12, .inr (.inr (.inr (.inr fc_18)))) := (p_122 0 8 (by omega) (by omega) (by omega)).trans c_21
                      have c_133 : E115 0 9 = .inl (kA 5, 5, .inr (.inr (.inr (.inr fl_23)))) := (p_122 0 9 (by omega) (by omega) (by omega)).trans c_24
                      have c_134 : E115 (1 + (nd - 1)) 0 = .inr (7, [.int (nI ((nd - 1))), .int fd_55, .int nm_55, .ref (ad (1 + (nd - 1)) 1), .ref (ad (1 + (nd - 1)) 9), .ref (ad (1 + (nd - 1)) 10), .ref (ad (1 + (nd - 1)) 2), .ref (ad (1 + (nd - 1)) 11), .ref (ad (1 + (nd - 1)) 12), .ref (ad (1 + (nd - 1)) 3), .ref (ad (1 + (nd - 1)) 4), .int sd_55]) := (p_122 (1 + (nd - 1)) 0 (by omega) (by omega) (by omega)).trans c_56
                      have c_135 : E115 (1 + (nd - 1)) 1 = .inr (8, [.ref (ad (1 + (nd - 1)) 5), .int (nI k0_55)]) := (p_122 (1 + (nd - 1)) 1 (by omega) (by omega) (by omega)).trans c_58
                      have c_136 : E115 (1 + (nd - 1)) 2 = .inr (8, [.ref (ad (1 + (nd - 1)) 6), .int (nI k1_55)]) := (p_122 (1 + (nd - 1)) 2 (by omega) (by omega) (by omega)).trans c_60
                      have c_137 : E115 (1 + (nd - 1)) 3 = .inr (8, [.ref (ad (1 + (nd - 1)) 7), .int (nI k2_55)]) := (p_122 (1 + (nd - 1)) 3 (by omega) (by omega) (by omega)).trans c_62
                      have c_138 : E115 (1 + (nd - 1)) 4 = .inr (8, [.ref (ad (1 + (nd - 1)) 8), .int (nI k3_55)]) := (p_122 (1 + (nd - 1)) 4 (by omega) (by omega) (by omega)).trans c_64
                      have c_139 : E115 (1 + (nd - 1)) 5 = .inl (kA 0, 6, .inl f0_55) := (p_122 (1 + (nd - 1)) 5 (by omega) (by omega) (by omega)).trans c_66
                      have c_140 : E115 (1 + (nd - 1)) 6 = .inl (kA 0, 5, .inl f1_55) := (p_122 (1 + (nd - 1)) 6 (by omega) (by omega) (by omega)).trans c_68
                      have c_141 : E115 (1 + (nd - 1)) 7 = .inl (kA 0, 3, .inl f2_55) := (p_122 (1 + (nd - 1)) 7 (by omega) (by omega) (by omega)).trans c_70
                      have c_142 : E115 (1 + (nd - 1)) 8 = .inl (kA 0, 3, .inl f3_55) := (p_122 (1 + (nd - 1)) 8 (by omega) (by omega) (by omega)).trans c_72
                      have c_143 : E115 (1 + (nd - 1)) 9 = .inl (kA 8, 6, .inr (.inr (.inr (.inr fe_55)))) := (p_122 (1 + (nd - 1)) 9 (by omega) (by omega) (by omega)).trans c_74
                      have c_144 : E115 (1 + (nd - 1)) 10 = .inl (kA 8, 6, .inr (.inr (.inr (.inr fo_55)))) := (p_122 (1 + (nd - 1)) 10 (by omega) (by omega) (by omega)).trans c_76
                      have c_145 : E115 (1 + (nd - 1)) 11 = .inl (kA 2, 5, .inl tr_55) := (p_122 (1 + (nd - 1)) 11 (by omega) (by omega) (by omega)).trans c_78
                      have c_146 : E115 (1 + (nd - 1)) 12 = .inl (kA 2, 5, .inl op_55) := (p_122 (1 + (nd - 1)) 12 (by omega) (by omega) (by omega)).trans c_80
                      have hP : va_P D xcl (rp ad E115 RL) H := hP
                      have hD : va_D A (rp ad E115 RL) := hD
                      have hok9 : okG (g 0) wl nd g := ⟨Or.inr ⟨by omega, hw9, hc43⟩, hc47, by omega, by rw [← tsd_55]; exact hc103⟩
                      have hnew9 : w116 = (lG 7 9 (g 0) wl nd g) 9 (6 * (nd - 1) + z92) ∧ (w116 = 0 → NT w117 w118 (fun j => (lG 7 9 (g 0) wl nd g) 7 (3 * (6 * (nd - 1) + z92) + j))) := by rw [lG_w4 hpi9 hok9 (by omega)]; exact gr_upd (by decide) hn_96 htg9.1 htg9.2 (wN_pos.mp hc43) hp123.2
                      have hTD9 := (show TD (lG 7 9 (g 0) wl nd g) (E115 (1 + (nd - 1))) (nd - 1) from TD_mk (by omega) (by omega) (by omega) (by omega) c_134 c_135 c_136 c_137 c_138 c_139 c_140 c_141 c_142 c_145 c_146 (TT_G (by omega) hTT_55) (gr_all7 (i := z92) hk0_55 (lG_ne (by decide) (by decide) : (lG 7 9 (g 0) wl nd g) 8 = g 8) (lG_ne (by decide) (by decide) : (lG 7 9 (g 0) wl nd g) 10 = g 10) (lG_oth (by decide) hpi9 (by omega)) (by omega) (fun o9 h19 h29 h39 => (show E115 (1 + (nd - 1)) o9 = E (1 + (nd - 1)) o9 from by show E115 (1 + (nd - 1)) o9 = _; rw [p_122 (1 + (nd - 1)) o9 (by omega) (by omega) (by omega)])) (TG_mk hp123.1 p_119 p_120 p_121 hnew9.1 hnew9.2) tgr_55))
                      have hTD2 : TDs (lG 7 9 (g 0) wl nd g) E115 nd := TDs_upd (x := nd - 1) hDIs (fun d9 hd9 hx9 => fun2 fun o9 => by show E115 (1 + d9) o9 = _; rw [p_122 (1 + d9) o9 (by omega) (by omega) (by omega)]) (fun d9 hd9 hx9 => AG_G (by omega) (by omega) hx9) hTD9 hTD
                      have hFRL : FRL ml nd ad ad E E115 := ⟨fun n9 hn9 => ⟨fun2 fun o9 => by show E115 (20 + n9) o9 = _; rw [p_122 (20 + n9) o9 (by omega) (by omega) (by omega)], fun2 fun o9 => rfl⟩, fun d9 hd9 => rfl, by show E115 0 0 = _; rw [p_122 0 0 (by omega) (by omega) (by omega)]⟩
                      have hCI : CI kA ad E115 RL ml nd len wl.length cs := ⟨hmB, ⟨lf_1, c_124⟩, ⟨tx_4, fb_4, fe_4, (by omega), (by omega), c_125, c_126, c_127, c_128, hws_4⟩, ⟨fd_13, (by omega), c_129, c_130, hds_13⟩, ⟨cf_18, pv_18, fc_18, (by omega), hpv_18, c_131, c_132, hfc_18⟩, ⟨fl_23, (by omega), c_133, hla_23⟩, (DIs_set (x := nd - 1) (fun d9 hd9 hx9 => fun2 fun o9 => by show E115 (1 + d9) o9 = _; rw [p_122 (1 + d9) o9 (by omega) (by omega) (by omega)]) (fun _ _ _ => rfl) (fun _ h => h) (DI_gr (o0 := 20) (i := z92) (hDIs (nd - 1) (by omega)) (by omega) (by omega) (fun o9 h19 h29 h39 => by show E115 (1 + (nd - 1)) o9 = _; rw [p_122 (1 + (nd - 1)) o9 (by omega) (by omega) (by omega)]) ⟨m_98, m_100, m_102, w116, w117, w118, hp123.1, p_119, p_120, p_121⟩) hDIs), (LIs_same (Nat.le_refl _) (fun n9 hn9 => fun2 fun o9 => by show E115 (20 + n9) o9 = _; rw [p_122 (20 + n9) o9 (by omega) (by omega) (by omega)]) (fun _ _ => rfl) (fun _ _ => rfl) (fun _ h9 => h9) hLIs)⟩
                      obtain ⟨hmB, hDk, hLi, hSh, hCh, hLa, hDIs, hLIs⟩ := id hCI
                      refine lv_iconst (v := 2) hx hb xd_Sh_acceptGrant_146 (by decide) ?_
                      refine W.widen (k := 0) (n := 0) (Nat.le_of_ble_eq_true rfl) (Nat.le_of_ble_eq_true rfl) ?_
                      exact W.iret (v := 2) hx hb hr (fun t ht hW => ⟨⟨2, (ad, E115, RL), rfl, (by rw [cif_pos hw2]; exact ⟨hCI, hTD2, rfl, hFRL⟩), by rw [ht]; exact hP, hD⟩, hS.F ht⟩) hS.2.2 xd_Sh_acceptGrant_147
                    · refine W.eq (g2 := F0 m 134 ls [.int 0]) rfl ?_
                      refine lv_if_ne (tgt := 140) hx hb xd_Sh_acceptGrant_134 (by decide) (fun hc147 => absurd (by decide) hc147) (fun _ => ?_)
                      refine lv_bipush (v := (-2)) hx hb xd_Sh_acceptGrant_137 (by decide) ?_
                      refine W.widen (k := 0) (n := 0) (Nat.le_of_ble_eq_true rfl) (Nat.le_of_ble_eq_true rfl) ?_
                      exact W.iret (v := (-2)) hx hb hr (fun t ht hW => ⟨⟨(-2), (ad, E, RL), rfl, ⟨hCI, by
          have hta : ta_96 = 0 := Decidable.byContradiction (fun q => z109 (Or.inl q))
          rw [cif_pos hw2, lG_w4 hpi9 ⟨Or.inr ⟨by omega, hw9, hc43⟩, hc47, by omega, by rw [← tsd_55]; exact hc103⟩ (by omega), NT_ful (htg9.2 hta) z110 (fun q => z109 (Or.inr q))]
          exact hTD, rfl, FRL_rf⟩, by rw [ht]; exact hP, hD⟩, hS.F ht⟩) hS.2.2 xd_Sh_acceptGrant_139
              · have hw2 : ¬ wS (g 0) wl 0 zEx := by have q := z86; rw [zw2] at q; exact q
                refine W.eq (g2 := F0 m 93 ls [.int 0]) rfl ?_
                refine lv_if_eq (tgt := 105) hx hb xd_Sh_acceptGrant_93 (by decide) (fun _ => ?_) (fun hc148 => absurd (by decide) hc148)
                refine lv_aload hx hb xd_Sh_acceptGrant_105 (lv_at hl 0 rfl) ?_
                refine lv_iload_n hx hb xd_Sh_acceptGrant_107 rfl (lv_at hl 3 rfl) ?_
                have hFc := px_free hD hS hA
                refine va_callq (va_runV (As := [.int (wN (g 0) wl 1)]) (rest := []) ⟨hx, hb, hml, hown, hT⟩ (xc_Ds_openingOfX l D kA H.size ad E RL g nd (nd - 1) (wN (g 0) wl 1) (by first | assumption | omega) (by first | assumption | omega) (by first | assumption | omega)) (cwV 1 hT (wT_V k5i_31 k5i_32 k5i_33 k5i_19 k5i_30) rfl rfl rfl (by decide +kernel) ⟨Nat.le_of_ble_eq_true rfl, Nat.le_of_ble_eq_true rfl⟩) (px_preV hK hP hD m_57 c_56 rfl) rfl rfl hl.1 rfl (lv_room (Nat.le_of_ble_eq_true rfl)) xd_Sh_acceptGrant_108 ⟨(Nat.le_of_ble_eq_true rfl), (Nat.le_of_ble_eq_true rfl)⟩) hS (fun q _ h => hFc q h) hFc (fun r149 u150 t H1 locs ht hvm hp151 hB hz1 hk1 hS => ?_)
                obtain ⟨hP1, hD1⟩ := hB
                rw [ht] at hP1
                have hD1 := hD1.weaken (fun _ _ _ h => hFc _ h)
                generalize H1 = H at hP1 hS ⊢
                have hP := hP1
                have hD := hD1
                have hP : va_P D xcl (rp ad E RL) H := hP
                have hD : va_D A (rp ad E RL) := hD
                rcases hp151 with ⟨rfl, z152⟩ | ⟨z153, z154, rfl, z155, z156⟩
                · refine W.eq (g2 := F0 m 111 ls [.null]) rfl ?_
                  refine lv_astoreN hx hb xd_Sh_acceptGrant_111 hl (Nat.le_of_ble_eq_true rfl) rfl (fun ls hl => ?_)
                  have hl : lv_has ls 7 [(6, .null), (5, .ref (ad (1 + (nd - 1)) 0)), (4, .int 1), (3, .int (wN (g 0) wl 3)), (2, .int (wN (g 0) wl 1)), (0, .ref (ad 0 5)), (1, .ref (ad 0 1))] := hl
                  refine lv_aloadN hx hb xd_Sh_acceptGrant_113 (lv_at hl 0 rfl) ?_
                  refine lv_ifnonnullN hx hb xd_Sh_acceptGrant_115 ?_
                  refine lv_iconst (v := (-1)) hx hb xd_Sh_acceptGrant_118 (by decide) ?_
                  refine W.widen (k := 0) (n := 0) (Nat.le_of_ble_eq_true rfl) (Nat.le_of_ble_eq_true rfl) ?_
                  exact W.iret (v := (-1)) hx hb hr (fun t ht hW => ⟨⟨(-1), (ad, E, RL), rfl, ⟨hCI, by rw [cif_neg hw2, ← lG_no2 z152]; exact hTD, rfl, FRL_rf⟩, by rw [ht]; exact hP, hD⟩, hS.F ht⟩) hS.2.2 xd_Sh_acceptGrant_119
                · refine W.eq (g2 := F0 m 111 ls [.ref (ad (1 + (nd - 1)) (38 + 3 * z153))]) rfl ?_
                  obtain ⟨m0_157, m1_157, m2_157, ta_157, n_157, f_157, hn_157, q0_157, q1_157, q2_157⟩ := z155
                  have c_158 : E (1 + (nd - 1)) (38 + 3 * z153) = .inr (9, [.ref (ad (1 + (nd - 1)) (39 + 3 * z153)), .int ta_157]) := q0_157
                  have m_159 : (1 + (nd - 1), 38 + 3 * z153) ∈ RL := m0_157
                  have c_160 : E (1 + (nd - 1)) (39 + 3 * z153) = .inr (8, [.ref (ad (1 + (nd - 1)) (40 + 3 * z153)), .int (nI n_157)]) := q1_157
                  have m_161 : (1 + (nd - 1), 39 + 3 * z153) ∈ RL := m1_157
                  have c_162 : E (1 + (nd - 1)) (40 + 3 * z153) = .inl (kA 0, 3, .inl f_157) := q2_157
                  have m_163 : (1 + (nd - 1), 40 + 3 * z153) ∈ RL := m2_157
                  have hpi9 : pI g (nd - 1) (wN (g 0) wl 1) = some z153 := z156
                  have hik9 : z153 < k0_55 := by have q := (ff_is hpi9).1; rw [ik0_55] at q; exact q
                  have htg9 := TG_get hn_157 c_158 c_160 c_162 (tgr_55 z153 hik9).2
                  refine lv_astore hx hb xd_Sh_acceptGrant_111 hl (Nat.le_of_ble_eq_true rfl) rfl (fun ls hl => ?_)
                  have hl : lv_has ls 7 [(6, .ref (ad (1 + (nd - 1)) (38 + 3 * z153))), (5, .ref (ad (1 + (nd - 1)) 0)), (4, .int 1), (3, .int (wN (g 0) wl 3)), (2, .int (wN (g 0) wl 1)), (0, .ref (ad 0 5)), (1, .ref (ad 0 1))] := hl
                  refine lv_aload hx hb xd_Sh_acceptGrant_113 (lv_at hl 0 rfl) ?_
                  refine lv_ifnonnull (tgt := 120) hx hb xd_Sh_acceptGrant_115 (by decide) ?_
                  refine lv_aload hx hb xd_Sh_acceptGrant_120 (lv_at hl 1 rfl) ?_
                  refine px_get (D := D) (ci := 7) (v := .int sd_55) (C := xR_Ds) (T := xT_Ds) (N := 12) hx hb hT xi_Ds hown hK.1 hP m_57 c_56 rfl 11 (by decide) (hT _ k5i_20) (fun _ h9 => h9) rfl xd_Sh_acceptGrant_122 ?_
                  refine lv_if_ne (tgt := 137) hx hb xd_Sh_acceptGrant_125 (by decide) (fun hc164 => ?_) (fun hc164 => ?_)
                  · refine lv_bipush (v := (-2)) hx hb xd_Sh_acceptGrant_137 (by decide) ?_
                    refine W.widen (k := 0) (n := 0) (Nat.le_of_ble_eq_true rfl) (Nat.le_of_ble_eq_true rfl) ?_
                    exact W.iret (v := (-2)) hx hb hr (fun t ht hW => ⟨⟨(-2), (ad, E, RL), rfl, ⟨hCI, by rw [cif_neg hw2, ← lG_no1 (fun q => hc164 (by rw [tsd_55]; exact q.2.2.2))]; exact hTD, rfl, FRL_rf⟩, by rw [ht]; exact hP, hD⟩, hS.F ht⟩) hS.2.2 xd_Sh_acceptGrant_139
                  · refine lv_aload hx hb xd_Sh_acceptGrant_128 (lv_at hl 0 rfl) ?_
                    refine lv_iload_n hx hb xd_Sh_acceptGrant_130 rfl (lv_at hl 3 rfl) ?_
                    have hFc := px_free hD hS hA
                    refine va_calli (va_runV (As := [.int (wN (g 0) wl 3)]) (rest := []) ⟨hx, hb, hml, hown, hT⟩ (xc_Gr_hasRoomForX l D kA H.size ad E RL (1 + (nd - 1)) (38 + 3 * z153) (39 + 3 * z153) (40 + 3 * z153) ta_157 n_157 f_157 (wN (g 0) wl 3) m_159 c_158 m_161 c_160 m_163 c_162 (by first | assumption | omega)) (cwV 1 hT (wT_V k5i_22 k5i_23 k5i_24 k5i_25 k5i_21) rfl rfl rfl (by decide +kernel) ⟨Nat.le_of_ble_eq_true rfl, Nat.le_of_ble_eq_true rfl⟩) (px_preV hK hP hD m_159 c_158 rfl) rfl rfl hl.1 rfl (lv_room (Nat.le_of_ble_eq_true rfl)) xd_Sh_acceptGrant_131 ⟨(Nat.le_of_ble_eq_true rfl), (Nat.le_of_ble_eq_true rfl)⟩) hS (fun q _ h => hFc q h) hFc (fun r165 u166 t H1 locs ht hvm hp167 hB hz1 hk1 hS => ?_)
                    obtain ⟨hP1, hD1⟩ := hB
                    rw [ht] at hP1
                    have hD1 := hD1.weaken (fun _ _ _ h => hFc _ h)
                    generalize H1 = H at hP1 hS ⊢
                    have hP := hP1
                    have hD := hD1
                    have hP : va_P D xcl (rp ad E RL) H := hP
                    have hD : va_D A (rp ad E RL) := hD
                    rcases hp167 with ⟨rfl, z168⟩ | ⟨rfl, z169, z170, z171⟩
                    · refine W.eq (g2 := F0 m 134 ls [.int 1]) rfl ?_
                      refine lv_if_ne (tgt := 140) hx hb xd_Sh_acceptGrant_134 (by decide) (fun _ => ?_) (fun hc172 => absurd hc172 (by decide))
                      refine lv_aload hx hb xd_Sh_acceptGrant_140 (lv_at hl 0 rfl) ?_
                      refine lv_iload_n hx hb xd_Sh_acceptGrant_142 rfl (lv_at hl 3 rfl) ?_
                      have hFc := px_free hD hS hA
                      refine va_callv (va_runV (As := [.int (wN (g 0) wl 3)]) (rest := []) ⟨hx, hb, hml, hown, hT⟩ (xc_Gr_extendToX l D kA H.size ad E RL (1 + (nd - 1)) (38 + 3 * z153) (39 + 3 * z153) (40 + 3 * z153) ta_157 n_157 f_157 (wN (g 0) wl 3) m_159 c_158 m_161 c_160 m_163 c_162 (by first | assumption | omega) (by first | assumption | omega)) (cwV 1 hT (wT_V k5i_27 k5i_28 k5i_29 k5i_25 k5i_26) rfl rfl rfl (by decide +kernel) ⟨Nat.le_of_ble_eq_true rfl, Nat.le_of_ble_eq_true rfl⟩) (px_preV hK hP hD m_159 c_158 rfl) rfl rfl hl.1 rfl (lv_room (Nat.le_of_ble_eq_true rfl)) xd_Sh_acceptGrant_143 ⟨(Nat.le_of_ble_eq_true rfl), (Nat.le_of_ble_eq_true rfl)⟩) hS (fun q _ h => hFc q h) hFc (fun u174 t H1 locs ht hvm hp175 hB hz1 hk1 hS => ?_)
                      obtain ⟨hP1, hD1⟩ := hB
                      rw [ht] at hP1
                      have hD1 := hD1.weaken (fun _ _ _ h => hFc _ h)
                      generalize H1 = H at hP1 hS ⊢
                      have hP := hP1
                      have hD := hD1
                      obtain ⟨E176, rfl⟩ : ∃ z, z = u174 := ⟨_, rfl⟩
                      obtain ⟨w177, w178, w179, hp184, p_180, p_181, p_182, p_183⟩ := hp175
                      have p_180 : E176 (1 + (nd - 1)) (38 + 3 * z153) = .inr (9, [.ref (ad (1 + (nd - 1)) (39 + 3 * z153)), .int w177]) := p_180
                      have p_181 : E176 (1 + (nd - 1)) (39 + 3 * z153) = .inr (8, [.ref (ad (1 + (nd - 1)) (40 + 3 * z153)), .int (nI w178)]) := p_181
                      have p_182 : E176 (1 + (nd - 1)) (40 + 3 * z153) = .inl (kA 0, 3, .inl w179) := p_182
                      have p_183 : (∀ b2 o2, ¬ (b2 = (1 + (nd - 1)) ∧ o2 = (38 + 3 * z153)) → ¬ (b2 = (1 + (nd - 1)) ∧ o2 = (39 + 3 * z153)) → ¬ (b2 = (1 + (nd - 1)) ∧ o2 = (40 + 3 * z153)) → E176 b2 o2 = E b2 o2) := p_183
                      have c_185 : E176 0 0 = .inr (0, [.ref (ad 0 1), .ref (ad 0 5), .ref (ad 0 7), .ref (ad 0 9), .int (nI ml), .int lf_1]) := (p_183 0 0 (by omega) (by omega) (by omega)).trans c_2
                      have c_186 : E176 0 1 = .inr (1, [.ref (ad 0 2), .ref (ad 0 3), .ref (ad 0 4), .int (nI len), .int (nI (wl.length))]) := (p_183 0 1 (by omega) (by omega) (by omega)).trans c_5
                      have c_187 : E176 0 2 = .inl (kA 1, 40, .inl tx_4) := (p_183 0 2 (by omega) (by omega) (by omega)).trans c_7
                      have c_188 : E176 0 3 = .inl (kA 0, 20, .inl fb_4) := (p_183 0 3 (by omega) (by omega) (by omega)).trans c_9
                      have c_189 : E176 0 4 = .inl (kA 0, 20, .inl fe_4) := (p_183 0 4 (by omega) (by omega) (by omega)).trans c_11
                      have c_190 : E176 0 5 = .inr (2, [.ref (ad 0 6), .int (nI nd)]) := (p_183 0 5 (by omega) (by omega) (by omega)).trans c_14
                      have c_191 : E176 0 6 = .inl (kA 4, 12, .inr (.inr (.inr (.inr fd_13)))) := (p_183 0 6 (by omega) (by omega) (by omega)).trans c_16
                      have c_192 : E176 0 7 = .inr (3, [.ref (ad 0 5), .ref (ad 0 8), .int (nI cs), .int cf_18, pv_18]) := (p_183 0 7 (by omega) (by omega) (by omega)).trans c_19
                      have c_193 : E176 0 8 = .inl (kA 4, 12, .inr (.inr (.inr (.inr fc_18)))) := (p_183 0 8 (by omega) (by omega) (by omega)).trans c_21
                      have c_194 : E176 0 9 = .inl (kA 5, 5, .inr (.inr (.inr (.inr fl_23)))) := (p_183 0 9 (by omega) (by omega) (by omega)).trans c_24
                      have c_195 : E176 (1 + (nd - 1)) 0 = .inr (7, [.int (nI ((nd - 1))), .int fd_55, .int nm_55, .ref (ad (1 + (nd - 1)) 1), .ref (ad (1 + (nd - 1)) 9), .ref (ad (1 + (nd - 1)) 10), .ref (ad (1 + (nd - 1)) 2), .ref (ad (1 + (nd - 1)) 11), .ref (ad (1 + (nd - 1)) 12), .ref (ad (1 + (nd - 1)) 3), .ref (ad (1 + (nd - 1)) 4), .int sd_55]) := (p_183 (1 + (nd - 1)) 0 (by omega) (by omega) (by omega)).trans c_56
                      have c_196 : E176 (1 + (nd - 1)) 1 = .inr (8, [.ref (ad (1 + (nd - 1)) 5), .int (nI k0_55)]) := (p_183 (1 + (nd - 1)) 1 (by omega) (by omega) (by omega)).trans c_58
                      have c_197 : E176 (1 + (nd - 1)) 2 = .inr (8, [.ref (ad (1 + (nd - 1)) 6), .int (nI k1_55)]) := (p_183 (1 + (nd - 1)) 2 (by omega) (by omega) (by omega)).trans c_60
                      have c_198 : E176 (1 + (nd - 1)) 3 = .inr (8, [.ref (ad (1 + (nd - 1)) 7), .int (nI k2_55)]) := (p_183 (1 + (nd - 1)) 3 (by omega) (by omega) (by omega)).trans c_62
                      have c_199 : E176 (1 + (nd - 1)) 4 = .inr (8, [.ref (ad (1 + (nd - 1)) 8), .int (nI k3_55)]) := (p_183 (1 + (nd - 1)) 4 (by omega) (by omega) (by omega)).trans c_64
                      have c_200 : E176 (1 + (nd - 1)) 5 = .inl (kA 0, 6, .inl f0_55) := (p_183 (1 + (nd - 1)) 5 (by omega) (by omega) (by omega)).trans c_66
                      have c_201 : E176 (1 + (nd - 1)) 6 = .inl (kA 0, 5, .inl f1_55) := (p_183 (1 + (nd - 1)) 6 (by omega) (by omega) (by omega)).trans c_68
                      have c_202 : E176 (1 + (nd - 1)) 7 = .inl (kA 0, 3, .inl f2_55) := (p_183 (1 + (nd - 1)) 7 (by omega) (by omega) (by omega)).trans c_70
                      have c_203 : E176 (1 + (nd - 1)) 8 = .inl (kA 0, 3, .inl f3_55) := (p_183 (1 + (nd - 1)) 8 (by omega) (by omega) (by omega)).trans c_72
                      have c_204 : E176 (1 + (nd - 1)) 9 = .inl (kA 8, 6, .inr (.inr (.inr (.inr fe_55)))) := (p_183 (1 + (nd - 1)) 9 (by omega) (by omega) (by omega)).trans c_74
                      have c_205 : E176 (1 + (nd - 1)) 10 = .inl (kA 8, 6, .inr (.inr (.inr (.inr fo_55)))) := (p_183 (1 + (nd - 1)) 10 (by omega) (by omega) (by omega)).trans c_76
                      have c_206 : E176 (1 + (nd - 1)) 11 = .inl (kA 2, 5, .inl tr_55) := (p_183 (1 + (nd - 1)) 11 (by omega) (by omega) (by omega)).trans c_78
                      have c_207 : E176 (1 + (nd - 1)) 12 = .inl (kA 2, 5, .inl op_55) := (p_183 (1 + (nd - 1)) 12 (by omega) (by omega) (by omega)).trans c_80
                      have hP : va_P D xcl (rp ad E176 RL) H := hP
                      have hD : va_D A (rp ad E176 RL) := hD
                      have hok9 : okG (g 0) wl nd g := ⟨Or.inr ⟨by omega, hw9, hc43⟩, hc47, by omega, by rw [← tsd_55]; exact hc164⟩
                      have hnew9 : w177 = (lG 8 10 (g 0) wl nd g) 10 (6 * (nd - 1) + z153) ∧ (w177 = 0 → NT w178 w179 (fun j => (lG 8 10 (g 0) wl nd g) 8 (3 * (6 * (nd - 1) + z153) + j))) := by rw [lG_w4 hpi9 hok9 (by omega)]; exact gr_upd (by decide) hn_157 htg9.1 htg9.2 (wN_pos.mp hc43) hp184.2
                      have hTD9 := (show TD (lG 8 10 (g 0) wl nd g) (E176 (1 + (nd - 1))) (nd - 1) from TD_mk (by omega) (by omega) (by omega) (by omega) c_195 c_196 c_197 c_198 c_199 c_200 c_201 c_202 c_203 c_206 c_207 (TT_G (by omega) hTT_55) (gr_all8 (i := z153) hk0_55 (lG_ne (by decide) (by decide) : (lG 8 10 (g 0) wl nd g) 7 = g 7) (lG_ne (by decide) (by decide) : (lG 8 10 (g 0) wl nd g) 9 = g 9) (lG_oth (by decide) hpi9 (by omega)) (by omega) (fun o9 h19 h29 h39 => (show E176 (1 + (nd - 1)) o9 = E (1 + (nd - 1)) o9 from by show E176 (1 + (nd - 1)) o9 = _; rw [p_183 (1 + (nd - 1)) o9 (by omega) (by omega) (by omega)])) (TG_mk hp184.1 p_180 p_181 p_182 hnew9.1 hnew9.2) tgr_55))
                      have hTD2 : TDs (lG 8 10 (g 0) wl nd g) E176 nd := TDs_upd (x := nd - 1) hDIs (fun d9 hd9 hx9 => fun2 fun o9 => by show E176 (1 + d9) o9 = _; rw [p_183 (1 + d9) o9 (by omega) (by omega) (by omega)]) (fun d9 hd9 hx9 => AG_G (by omega) (by omega) hx9) hTD9 hTD
                      have hFRL : FRL ml nd ad ad E E176 := ⟨fun n9 hn9 => ⟨fun2 fun o9 => by show E176 (20 + n9) o9 = _; rw [p_183 (20 + n9) o9 (by omega) (by omega) (by omega)], fun2 fun o9 => rfl⟩, fun d9 hd9 => rfl, by show E176 0 0 = _; rw [p_183 0 0 (by omega) (by omega) (by omega)]⟩
                      have hCI : CI kA ad E176 RL ml nd len wl.length cs := ⟨hmB, ⟨lf_1, c_185⟩, ⟨tx_4, fb_4, fe_4, (by omega), (by omega), c_186, c_187, c_188, c_189, hws_4⟩, ⟨fd_13, (by omega), c_190, c_191, hds_13⟩, ⟨cf_18, pv_18, fc_18, (by omega), hpv_18, c_192, c_193, hfc_18⟩, ⟨fl_23, (by omega), c_194, hla_23⟩, (DIs_set (x := nd - 1) (fun d9 hd9 hx9 => fun2 fun o9 => by show E176 (1 + d9) o9 = _; rw [p_183 (1 + d9) o9 (by omega) (by omega) (by omega)]) (fun _ _ _ => rfl) (fun _ h => h) (DI_gr (o0 := 38) (i := z153) (hDIs (nd - 1) (by omega)) (by omega) (by omega) (fun o9 h19 h29 h39 => by show E176 (1 + (nd - 1)) o9 = _; rw [p_183 (1 + (nd - 1)) o9 (by omega) (by omega) (by omega)]) ⟨m_159, m_161, m_163, w177, w178, w179, hp184.1, p_180, p_181, p_182⟩) hDIs), (LIs_same (Nat.le_refl _) (fun n9 hn9 => fun2 fun o9 => by show E176 (20 + n9) o9 = _; rw [p_183 (20 + n9) o9 (by omega) (by omega) (by omega)]) (fun _ _ => rfl) (fun _ _ => rfl) (fun _ h9 => h9) hLIs)⟩
                      obtain ⟨hmB, hDk, hLi, hSh, hCh, hLa, hDIs, hLIs⟩ := id hCI
                      refine lv_iconst (v := 2) hx hb xd_Sh_acceptGrant_146 (by decide) ?_
                      refine W.widen (k := 0) (n := 0) (Nat.le_of_ble_eq_true rfl) (Nat.le_of_ble_eq_true rfl) ?_
                      exact W.iret (v := 2) hx hb hr (fun t ht hW => ⟨⟨2, (ad, E176, RL), rfl, (by rw [cif_neg hw2]; exact ⟨hCI, hTD2, rfl, hFRL⟩), by rw [ht]; exact hP, hD⟩, hS.F ht⟩) hS.2.2 xd_Sh_acceptGrant_147
                    · refine W.eq (g2 := F0 m 134 ls [.int 0]) rfl ?_
                      refine lv_if_ne (tgt := 140) hx hb xd_Sh_acceptGrant_134 (by decide) (fun hc208 => absurd (by decide) hc208) (fun _ => ?_)
                      refine lv_bipush (v := (-2)) hx hb xd_Sh_acceptGrant_137 (by decide) ?_
                      refine W.widen (k := 0) (n := 0) (Nat.le_of_ble_eq_true rfl) (Nat.le_of_ble_eq_true rfl) ?_
                      exact W.iret (v := (-2)) hx hb hr (fun t ht hW => ⟨⟨(-2), (ad, E, RL), rfl, ⟨hCI, by
          have hta : ta_157 = 0 := Decidable.byContradiction (fun q => z170 (Or.inl q))
          rw [cif_neg hw2, lG_w4 hpi9 ⟨Or.inr ⟨by omega, hw9, hc43⟩, hc47, by omega, by rw [← tsd_55]; exact hc164⟩ (by omega), NT_ful (htg9.2 hta) z171 (fun q => z170 (Or.inr q))]
          exact hTD, rfl, FRL_rf⟩, by rw [ht]; exact hP, hD⟩, hS.F ht⟩) hS.2.2 xd_Sh_acceptGrant_139
      · have hw9 : ¬ wS (g 0) wl 2 zTo := by have q := z41; rw [zw9] at q; exact q
        refine W.eq (g2 := F0 m 39 ls [.int 0]) rfl ?_
        refine lv_if_eq (tgt := 50) hx hb xd_Sh_acceptGrant_39 (by decide) (fun _ => ?_) (fun hc209 => absurd (by decide) hc209)
        refine lv_iconst (v := 0) hx hb xd_Sh_acceptGrant_50 (by decide) ?_
        refine lv_istore hx hb xd_Sh_acceptGrant_51 hl (Nat.le_of_ble_eq_true rfl) rfl (fun ls hl => ?_)
        have hl : lv_has ls 7 [(4, .int 0), (3, .int (wN (g 0) wl 3)), (2, .int (wN (g 0) wl 1)), (0, .ref (ad 0 5)), (1, .ref (ad 0 1))] := hl
        refine lv_iload_n hx hb xd_Sh_acceptGrant_53 rfl (lv_at hl 2 rfl) ?_
        refine lv_if_eq (tgt := 70) hx hb xd_Sh_acceptGrant_54 (by decide) (fun hc210 => ?_) (fun hc210 => ?_)
        · refine lv_iconst (v := (-1)) hx hb xd_Sh_acceptGrant_70 (by decide) ?_
          refine W.widen (k := 0) (n := 0) (Nat.le_of_ble_eq_true rfl) (Nat.le_of_ble_eq_true rfl) ?_
          exact W.iret (v := (-1)) hx hb hr (fun t ht hW => ⟨⟨(-1), (ad, E, RL), rfl, ⟨hCI, by rw [cif_eq (lG_no1 (a := 7) (a2 := 9) (fun q => q.2.1 hc210)).symm (lG_no1 (a := 8) (a2 := 10) (fun q => q.2.1 hc210)).symm]; exact hTD, rfl, FRL_rf⟩, by rw [ht]; exact hP, hD⟩, hS.F ht⟩) hS.2.2 xd_Sh_acceptGrant_71
        · refine lv_aload_n hx hb xd_Sh_acceptGrant_57 rfl (lv_at hl 4 rfl) ?_
          refine px_get (D := D) (ci := 1) (v := .int (nI (wl.length))) (C := xR_Li) (T := xT_Li) (N := 5) hx hb hT xi_Li hown hK.1 hP m_6 c_5 rfl 4 (by decide) (hT _ k5i_5) (fun _ h9 => h9) rfl xd_Sh_acceptGrant_58 ?_
          refine lv_iconst (v := 2) hx hb xd_Sh_acceptGrant_61 (by decide) ?_
          refine xn_eq (a := wl.length) (b := 2) (tgt := 72) hx hb xd_Sh_acceptGrant_62 (by decide) (by omega) (by omega) (fun hc211 => absurd hc211 (by omega)) (fun _ => ?_)
          refine lv_iload hx hb xd_Sh_acceptGrant_65 (lv_at hl 0 rfl) ?_
          refine lv_if_ne (tgt := 72) hx hb xd_Sh_acceptGrant_67 (by decide) (fun hc212 => absurd (by decide) hc212) (fun _ => ?_)
          refine lv_iconst (v := (-1)) hx hb xd_Sh_acceptGrant_70 (by decide) ?_
          refine W.widen (k := 0) (n := 0) (Nat.le_of_ble_eq_true rfl) (Nat.le_of_ble_eq_true rfl) ?_
          exact W.iret (v := (-1)) hx hb hr (fun t ht hW => ⟨⟨(-1), (ad, E, RL), rfl, ⟨hCI, by rw [cif_eq (lG_no1 (a := 7) (a2 := 9) (fun q => q.1.elim (fun z => absurd z (by omega)) (fun z => hw9 z.2.1))).symm (lG_no1 (a := 8) (a2 := 10) (fun q => q.1.elim (fun z => absurd z (by omega)) (fun z => hw9 z.2.1))).symm]; exact hTD, rfl, FRL_rf⟩, by rw [ht]; exact hP, hD⟩, hS.F ht⟩) hS.2.2 xd_Sh_acceptGrant_71
  · refine lv_iconst (v := 0) hx hb xd_Sh_acceptGrant_14 (by decide) ?_
    refine lv_goto (tgt := 23) hx hb xd_Sh_acceptGrant_15 (by decide) ?_
    refine lv_istore_n hx hb xd_Sh_acceptGrant_23 rfl hl (Nat.le_of_ble_eq_true rfl) rfl (fun ls hl => ?_)
    have hl : lv_has ls 7 [(3, .int 0), (2, .int (wN (g 0) wl 1)), (0, .ref (ad 0 5)), (1, .ref (ad 0 1))] := hl
    refine lv_aload_n hx hb xd_Sh_acceptGrant_24 rfl (lv_at hl 3 rfl) ?_
    refine px_get (D := D) (ci := 1) (v := .int (nI (wl.length))) (C := xR_Li) (T := xT_Li) (N := 5) hx hb hT xi_Li hown hK.1 hP m_6 c_5 rfl 4 (by decide) (hT _ k5i_5) (fun _ h9 => h9) rfl xd_Sh_acceptGrant_25 ?_
    refine lv_iconst (v := 4) hx hb xd_Sh_acceptGrant_28 (by decide) ?_
    refine xn_ne (a := wl.length) (b := 4) (tgt := 50) hx hb xd_Sh_acceptGrant_29 (by decide) (by omega) (by omega) (fun _ => ?_) (fun hc213 => absurd hc213 (by omega))
    refine lv_iconst (v := 0) hx hb xd_Sh_acceptGrant_50 (by decide) ?_
    refine lv_istore hx hb xd_Sh_acceptGrant_51 hl (Nat.le_of_ble_eq_true rfl) rfl (fun ls hl => ?_)
    have hl : lv_has ls 7 [(4, .int 0), (3, .int 0), (2, .int (wN (g 0) wl 1)), (0, .ref (ad 0 5)), (1, .ref (ad 0 1))] := hl
    refine lv_iload_n hx hb xd_Sh_acceptGrant_53 rfl (lv_at hl 2 rfl) ?_
    refine lv_if_eq (tgt := 70) hx hb xd_Sh_acceptGrant_54 (by decide) (fun hc214 => ?_) (fun hc214 => ?_)
    · refine lv_iconst (v := (-1)) hx hb xd_Sh_acceptGrant_70 (by decide) ?_
      refine W.widen (k := 0) (n := 0) (Nat.le_of_ble_eq_true rfl) (Nat.le_of_ble_eq_true rfl) ?_
      exact W.iret (v := (-1)) hx hb hr (fun t ht hW => ⟨⟨(-1), (ad, E, RL), rfl, ⟨hCI, by rw [cif_eq (lG_no1 (a := 7) (a2 := 9) (fun q => q.2.1 hc214)).symm (lG_no1 (a := 8) (a2 := 10) (fun q => q.2.1 hc214)).symm]; exact hTD, rfl, FRL_rf⟩, by rw [ht]; exact hP, hD⟩, hS.F ht⟩) hS.2.2 xd_Sh_acceptGrant_71
    · refine lv_aload_n hx hb xd_Sh_acceptGrant_57 rfl (lv_at hl 4 rfl) ?_
      refine px_get (D := D) (ci := 1) (v := .int (nI (wl.length))) (C := xR_Li) (T := xT_Li) (N := 5) hx hb hT xi_Li hown hK.1 hP m_6 c_5 rfl 4 (by decide) (hT _ k5i_5) (fun _ h9 => h9) rfl xd_Sh_acceptGrant_58 ?_
      refine lv_iconst (v := 2) hx hb xd_Sh_acceptGrant_61 (by decide) ?_
      refine xn_eq (a := wl.length) (b := 2) (tgt := 72) hx hb xd_Sh_acceptGrant_62 (by decide) (by omega) (by omega) (fun _ => ?_) (fun hc215 => absurd (by omega) hc215)
      refine lv_aload_n hx hb xd_Sh_acceptGrant_72 rfl (lv_at hl 3 rfl) ?_
      have hFc := px_free hD hS hA
      refine va_callq (va_runV (As := []) (rest := []) ⟨hx, hb, hml, hown, hT⟩ (xc_Sh_latestX l D kA H.size ad E RL ml nd len wl.length cs (by first | assumption | omega)) (cwV 0 hT (wT_V k5i_11 k5i_12 k5i_13 k5i_14 k5i_10) rfl rfl rfl (by decide +kernel) ⟨Nat.le_of_ble_eq_true rfl, Nat.le_of_ble_eq_true rfl⟩) (px_preV hK hP hD m_15 c_14 rfl) rfl rfl hl.1 rfl (lv_room (Nat.le_of_ble_eq_true rfl)) xd_Sh_acceptGrant_73 ⟨(Nat.le_of_ble_eq_true rfl), (Nat.le_of_ble_eq_true rfl)⟩) hS (fun q _ h => hFc q h) hFc (fun r216 u217 t H1 locs ht hvm hp218 hB hz1 hk1 hS => ?_)
      obtain ⟨hP1, hD1⟩ := hB
      rw [ht] at hP1
      have hD1 := hD1.weaken (fun _ _ _ h => hFc _ h)
      generalize H1 = H at hP1 hS ⊢
      have hP := hP1
      have hD := hD1
      have hP : va_P D xcl (rp ad E RL) H := hP
      have hD : va_D A (rp ad E RL) := hD
      rcases hp218 with ⟨rfl, z219⟩ | ⟨z220, rfl⟩
      · refine W.eq (g2 := F0 m 76 ls [.null]) rfl ?_
        refine lv_astoreN hx hb xd_Sh_acceptGrant_76 hl (Nat.le_of_ble_eq_true rfl) rfl (fun ls hl => ?_)
        have hl : lv_has ls 7 [(5, .null), (4, .int 0), (3, .int 0), (2, .int (wN (g 0) wl 1)), (0, .ref (ad 0 5)), (1, .ref (ad 0 1))] := hl
        refine lv_aloadN hx hb xd_Sh_acceptGrant_78 (lv_at hl 0 rfl) ?_
        refine lv_ifnonnullN hx hb xd_Sh_acceptGrant_80 ?_
        refine lv_bipush (v := (-2)) hx hb xd_Sh_acceptGrant_83 (by decide) ?_
        refine W.widen (k := 0) (n := 0) (Nat.le_of_ble_eq_true rfl) (Nat.le_of_ble_eq_true rfl) ?_
        exact W.iret (v := (-2)) hx hb hr (fun t ht hW => ⟨⟨(-2), (ad, E, RL), rfl, ⟨hCI, by rw [cif_eq (lG_no1 (a := 7) (a2 := 9) (fun q => absurd q.2.2.1 (by omega))).symm (lG_no1 (a := 8) (a2 := 10) (fun q => absurd q.2.2.1 (by omega))).symm]; exact hTD, rfl, FRL_rf⟩, by rw [ht]; exact hP, hD⟩, hS.F ht⟩) hS.2.2 xd_Sh_acceptGrant_85
      · refine W.eq (g2 := F0 m 76 ls [.ref (ad (1 + (nd - 1)) 0)]) rfl ?_
        refine lv_astore hx hb xd_Sh_acceptGrant_76 hl (Nat.le_of_ble_eq_true rfl) rfl (fun ls hl => ?_)
        have hl : lv_has ls 7 [(5, .ref (ad (1 + (nd - 1)) 0)), (4, .int 0), (3, .int 0), (2, .int (wN (g 0) wl 1)), (0, .ref (ad 0 5)), (1, .ref (ad 0 1))] := hl
        refine lv_aload hx hb xd_Sh_acceptGrant_78 (lv_at hl 0 rfl) ?_
        refine lv_ifnonnull (tgt := 86) hx hb xd_Sh_acceptGrant_80 (by decide) ?_
        obtain ⟨hm_221, fd_221, nm_221, sd_221, k0_221, k1_221, k2_221, k3_221, f0_221, f1_221, f2_221, f3_221, fe_221, fo_221, tr_221, op_221, hk0_221, hk1_221, hk2_221, hk3_221, q0_221, q1_221, q2_221, q3_221, q4_221, q5_221, q6_221, q7_221, q8_221, q9_221, q10_221, q11_221, q12_221, hg_221⟩ := id (hDIs (nd - 1) (by omega))
        have c_222 : E (1 + (nd - 1)) 0 = .inr (7, [.int (nI ((nd - 1))), .int fd_221, .int nm_221, .ref (ad (1 + (nd - 1)) 1), .ref (ad (1 + (nd - 1)) 9), .ref (ad (1 + (nd - 1)) 10), .ref (ad (1 + (nd - 1)) 2), .ref (ad (1 + (nd - 1)) 11), .ref (ad (1 + (nd - 1)) 12), .ref (ad (1 + (nd - 1)) 3), .ref (ad (1 + (nd - 1)) 4), .int sd_221]) := q0_221
        have m_223 : (1 + (nd - 1), 0) ∈ RL := hm_221 0 (by omega)
        have c_224 : E (1 + (nd - 1)) 1 = .inr (8, [.ref (ad (1 + (nd - 1)) 5), .int (nI k0_221)]) := q1_221
        have m_225 : (1 + (nd - 1), 1) ∈ RL := hm_221 1 (by omega)
        have c_226 : E (1 + (nd - 1)) 2 = .inr (8, [.ref (ad (1 + (nd - 1)) 6), .int (nI k1_221)]) := q2_221
        have m_227 : (1 + (nd - 1), 2) ∈ RL := hm_221 2 (by omega)
        have c_228 : E (1 + (nd - 1)) 3 = .inr (8, [.ref (ad (1 + (nd - 1)) 7), .int (nI k2_221)]) := q3_221
        have m_229 : (1 + (nd - 1), 3) ∈ RL := hm_221 3 (by omega)
        have c_230 : E (1 + (nd - 1)) 4 = .inr (8, [.ref (ad (1 + (nd - 1)) 8), .int (nI k3_221)]) := q4_221
        have m_231 : (1 + (nd - 1), 4) ∈ RL := hm_221 4 (by omega)
        have c_232 : E (1 + (nd - 1)) 5 = .inl (kA 0, 6, .inl f0_221) := q5_221
        have m_233 : (1 + (nd - 1), 5) ∈ RL := hm_221 5 (by omega)
        have c_234 : E (1 + (nd - 1)) 6 = .inl (kA 0, 5, .inl f1_221) := q6_221
        have m_235 : (1 + (nd - 1), 6) ∈ RL := hm_221 6 (by omega)
        have c_236 : E (1 + (nd - 1)) 7 = .inl (kA 0, 3, .inl f2_221) := q7_221
        have m_237 : (1 + (nd - 1), 7) ∈ RL := hm_221 7 (by omega)
        have c_238 : E (1 + (nd - 1)) 8 = .inl (kA 0, 3, .inl f3_221) := q8_221
        have m_239 : (1 + (nd - 1), 8) ∈ RL := hm_221 8 (by omega)
        have c_240 : E (1 + (nd - 1)) 9 = .inl (kA 8, 6, .inr (.inr (.inr (.inr fe_221)))) := q9_221
        have m_241 : (1 + (nd - 1), 9) ∈ RL := hm_221 9 (by omega)
        have c_242 : E (1 + (nd - 1)) 10 = .inl (kA 8, 6, .inr (.inr (.inr (.inr fo_221)))) := q10_221
        have m_243 : (1 + (nd - 1), 10) ∈ RL := hm_221 10 (by omega)
        have c_244 : E (1 + (nd - 1)) 11 = .inl (kA 2, 5, .inl tr_221) := q11_221
        have m_245 : (1 + (nd - 1), 11) ∈ RL := hm_221 11 (by omega)
        have c_246 : E (1 + (nd - 1)) 12 = .inl (kA 2, 5, .inl op_221) := q12_221
        have m_247 : (1 + (nd - 1), 12) ∈ RL := hm_221 12 (by omega)
        have hg_221 : ∀ w9, w9 < k0_221 → fe_221 w9 = some (ad (1 + (nd - 1)) (20 + 3 * w9)) ∧ fo_221 w9 = some (ad (1 + (nd - 1)) (38 + 3 * w9)) ∧ GI kA (ad (1 + (nd - 1))) (E (1 + (nd - 1))) (fun o => (1 + (nd - 1), o) ∈ RL) (20 + 3 * w9) (21 + 3 * w9) (22 + 3 * w9) ∧ GI kA (ad (1 + (nd - 1))) (E (1 + (nd - 1))) (fun o => (1 + (nd - 1), o) ∈ RL) (38 + 3 * w9) (39 + 3 * w9) (40 + 3 * w9) := hg_221
        obtain ⟨hTT_221, tgr_221⟩ := TD_get hk0_221 hk1_221 hk2_221 hk3_221 c_222 c_224 c_226 c_228 c_230 c_232 c_234 c_236 c_238 c_244 c_246 (hTD (nd - 1) (by omega))
        obtain ⟨tfd_221, tnm_221, tsd_221, tk0_221, tf0_221, tk1_221, tf1_221, tk2_221, tk3_221⟩ := id hTT_221
        have ik0_221 : iN (g 5 (nd - 1)) = k0_221 := by rw [← tk0_221, iN_nI (by omega)]
        have ik1_221 : iN (g 12 (nd - 1)) = k1_221 := by rw [← tk1_221, iN_nI (by omega)]
        refine lv_aload_n hx hb xd_Sh_acceptGrant_86 rfl (lv_at hl 5 rfl) ?_
        refine lv_iconst (v := 0) hx hb xd_Sh_acceptGrant_87 (by decide) ?_
        refine va_ldcS (q := Z.1 2) hx hb hown hZ.2.2.2.1.2.2.1 xd_Sh_acceptGrant_88 ?_
        have hFc := px_free hD hS hA
        refine va_calli (va_runV (As := [.int 0, .ref (Z.1 2)]) (rest := []) ⟨hx, hb, hml, hown, hT⟩ (xc_Li_wordIsX l D kA H.size ad E RL Z g ml nd len lt wl cs 0 2 (by first | assumption | omega) (by first | assumption | omega) (by first | assumption | omega) (by first | assumption | omega)) (cwV 2 hT (wT_V k5i_7 k5i_8 k5i_9 k5i_4 k5i_6) rfl rfl rfl (by decide +kernel) ⟨Nat.le_of_ble_eq_true rfl, Nat.le_of_ble_eq_true rfl⟩) (px_preVZ hK hP hD m_6 c_5 rfl hFc (hZ.kept hS)) rfl rfl hl.1 rfl (lv_room (Nat.le_of_ble_eq_true rfl)) xd_Sh_acceptGrant_90 ⟨(Nat.le_of_ble_eq_true rfl), (Nat.le_of_ble_eq_true rfl)⟩) hS (fun q _ h => hFc q h) hFc (fun r248 u249 t H1 locs ht hvm hp250 hB hz1 hk1 hS => ?_)
        obtain ⟨hP1, hD1⟩ := hB
        rw [ht] at hP1
        have hD1 := hD1.weaken (fun _ _ _ h => hFc _ h)
        generalize H1 = H at hP1 hS ⊢
        have hP := hP1
        have hD := hD1
        have hP : va_P D xcl (rp ad E RL) H := hP
        have hD : va_D A (rp ad E RL) := hD
        rcases hp250 with ⟨rfl, z251⟩ | ⟨rfl, z252⟩
        · have hw2 : wS (g 0) wl 0 zEx := by have q := z251; rw [zw2] at q; exact q
          refine W.eq (g2 := F0 m 93 ls [.int 1]) rfl ?_
          refine lv_if_eq (tgt := 105) hx hb xd_Sh_acceptGrant_93 (by decide) (fun hc253 => absurd hc253 (by decide)) (fun _ => ?_)
          refine lv_aload hx hb xd_Sh_acceptGrant_96 (lv_at hl 0 rfl) ?_
          refine lv_iload_n hx hb xd_Sh_acceptGrant_98 rfl (lv_at hl 3 rfl) ?_
          have hFc := px_free hD hS hA
          refine va_callq (va_runV (As := [.int (wN (g 0) wl 1)]) (rest := []) ⟨hx, hb, hml, hown, hT⟩ (xc_Ds_exportOfX l D kA H.size ad E RL g nd (nd - 1) (wN (g 0) wl 1) (by first | assumption | omega) (by first | assumption | omega) (by first | assumption | omega)) (cwV 1 hT (wT_V k5i_16 k5i_17 k5i_18 k5i_19 k5i_15) rfl rfl rfl (by decide +kernel) ⟨Nat.le_of_ble_eq_true rfl, Nat.le_of_ble_eq_true rfl⟩) (px_preV hK hP hD m_223 c_222 rfl) rfl rfl hl.1 rfl (lv_room (Nat.le_of_ble_eq_true rfl)) xd_Sh_acceptGrant_99 ⟨(Nat.le_of_ble_eq_true rfl), (Nat.le_of_ble_eq_true rfl)⟩) hS (fun q _ h => hFc q h) hFc (fun r254 u255 t H1 locs ht hvm hp256 hB hz1 hk1 hS => ?_)
          obtain ⟨hP1, hD1⟩ := hB
          rw [ht] at hP1
          have hD1 := hD1.weaken (fun _ _ _ h => hFc _ h)
          generalize H1 = H at hP1 hS ⊢
          have hP := hP1
          have hD := hD1
          have hP : va_P D xcl (rp ad E RL) H := hP
          have hD : va_D A (rp ad E RL) := hD
          rcases hp256 with ⟨rfl, z257⟩ | ⟨z258, z259, rfl, z260, z261⟩
          · refine W.eq (g2 := F0 m 102 ls [.null]) rfl ?_
            refine lv_goto (tgt := 111) hx hb xd_Sh_acceptGrant_102 (by decide) ?_
            refine lv_astoreN hx hb xd_Sh_acceptGrant_111 hl (Nat.le_of_ble_eq_true rfl) rfl (fun ls hl => ?_)
            have hl : lv_has ls 7 [(6, .null), (5, .ref (ad (1 + (nd - 1)) 0)), (4, .int 0), (3, .int 0), (2, .int (wN (g 0) wl 1)), (0, .ref (ad 0 5)), (1, .ref (ad 0 1))] := hl
            refine lv_aloadN hx hb xd_Sh_acceptGrant_113 (lv_at hl 0 rfl) ?_
            refine lv_ifnonnullN hx hb xd_Sh_acceptGrant_115 ?_
            refine lv_iconst (v := (-1)) hx hb xd_Sh_acceptGrant_118 (by decide) ?_
            refine W.widen (k := 0) (n := 0) (Nat.le_of_ble_eq_true rfl) (Nat.le_of_ble_eq_true rfl) ?_
            exact W.iret (v := (-1)) hx hb hr (fun t ht hW => ⟨⟨(-1), (ad, E, RL), rfl, ⟨hCI, by rw [cif_pos hw2, ← lG_no2 z257]; exact hTD, rfl, FRL_rf⟩, by rw [ht]; exact hP, hD⟩, hS.F ht⟩) hS.2.2 xd_Sh_acceptGrant_119
          · refine W.eq (g2 := F0 m 102 ls [.ref (ad (1 + (nd - 1)) (20 + 3 * z258))]) rfl ?_
            obtain ⟨m0_262, m1_262, m2_262, ta_262, n_262, f_262, hn_262, q0_262, q1_262, q2_262⟩ := z260
            have c_263 : E (1 + (nd - 1)) (20 + 3 * z258) = .inr (9, [.ref (ad (1 + (nd - 1)) (21 + 3 * z258)), .int ta_262]) := q0_262
            have m_264 : (1 + (nd - 1), 20 + 3 * z258) ∈ RL := m0_262
            have c_265 : E (1 + (nd - 1)) (21 + 3 * z258) = .inr (8, [.ref (ad (1 + (nd - 1)) (22 + 3 * z258)), .int (nI n_262)]) := q1_262
            have m_266 : (1 + (nd - 1), 21 + 3 * z258) ∈ RL := m1_262
            have c_267 : E (1 + (nd - 1)) (22 + 3 * z258) = .inl (kA 0, 3, .inl f_262) := q2_262
            have m_268 : (1 + (nd - 1), 22 + 3 * z258) ∈ RL := m2_262
            have hpi9 : pI g (nd - 1) (wN (g 0) wl 1) = some z258 := z261
            have hik9 : z258 < k0_221 := by have q := (ff_is hpi9).1; rw [ik0_221] at q; exact q
            have htg9 := TG_get hn_262 c_263 c_265 c_267 (tgr_221 z258 hik9).1
            refine lv_goto (tgt := 111) hx hb xd_Sh_acceptGrant_102 (by decide) ?_
            refine lv_astore hx hb xd_Sh_acceptGrant_111 hl (Nat.le_of_ble_eq_true rfl) rfl (fun ls hl => ?_)
            have hl : lv_has ls 7 [(6, .ref (ad (1 + (nd - 1)) (20 + 3 * z258))), (5, .ref (ad (1 + (nd - 1)) 0)), (4, .int 0), (3, .int 0), (2, .int (wN (g 0) wl 1)), (0, .ref (ad 0 5)), (1, .ref (ad 0 1))] := hl
            refine lv_aload hx hb xd_Sh_acceptGrant_113 (lv_at hl 0 rfl) ?_
            refine lv_ifnonnull (tgt := 120) hx hb xd_Sh_acceptGrant_115 (by decide) ?_
            refine lv_aload hx hb xd_Sh_acceptGrant_120 (lv_at hl 1 rfl) ?_
            refine px_get (D := D) (ci := 7) (v := .int sd_221) (C := xR_Ds) (T := xT_Ds) (N := 12) hx hb hT xi_Ds hown hK.1 hP m_223 c_222 rfl 11 (by decide) (hT _ k5i_20) (fun _ h9 => h9) rfl xd_Sh_acceptGrant_122 ?_
            refine lv_if_ne (tgt := 137) hx hb xd_Sh_acceptGrant_125 (by decide) (fun hc269 => ?_) (fun hc269 => ?_)
            · refine lv_bipush (v := (-2)) hx hb xd_Sh_acceptGrant_137 (by decide) ?_
              refine W.widen (k := 0) (n := 0) (Nat.le_of_ble_eq_true rfl) (Nat.le_of_ble_eq_true rfl) ?_
              exact W.iret (v := (-2)) hx hb hr (fun t ht hW => ⟨⟨(-2), (ad, E, RL), rfl, ⟨hCI, by rw [cif_pos hw2, ← lG_no1 (fun q => hc269 (by rw [tsd_221]; exact q.2.2.2))]; exact hTD, rfl, FRL_rf⟩, by rw [ht]; exact hP, hD⟩, hS.F ht⟩) hS.2.2 xd_Sh_acceptGrant_139
            · refine lv_aload hx hb xd_Sh_acceptGrant_128 (lv_at hl 0 rfl) ?_
              refine lv_iload_n hx hb xd_Sh_acceptGrant_130 rfl (lv_at hl 3 rfl) ?_
              have hFc := px_free hD hS hA
              refine va_calli (va_runV (As := [.int 0]) (rest := []) ⟨hx, hb, hml, hown, hT⟩ (xc_Gr_hasRoomForX l D kA H.size ad E RL (1 + (nd - 1)) (20 + 3 * z258) (21 + 3 * z258) (22 + 3 * z258) ta_262 n_262 f_262 0 m_264 c_263 m_266 c_265 m_268 c_267 (by first | assumption | omega)) (cwV 1 hT (wT_V k5i_22 k5i_23 k5i_24 k5i_25 k5i_21) rfl rfl rfl (by decide +kernel) ⟨Nat.le_of_ble_eq_true rfl, Nat.le_of_ble_eq_true rfl⟩) (px_preV hK hP hD m_264 c_263 rfl) rfl rfl hl.1 rfl (lv_room (Nat.le_of_ble_eq_true rfl)) xd_Sh_acceptGrant_131 ⟨(Nat.le_of_ble_eq_true rfl), (Nat.le_of_ble_eq_true rfl)⟩) hS (fun q _ h => hFc q h) hFc (fun r270 u271 t H1 locs ht hvm hp272 hB hz1 hk1 hS => ?_)
              obtain ⟨hP1, hD1⟩ := hB
              rw [ht] at hP1
              have hD1 := hD1.weaken (fun _ _ _ h => hFc _ h)
              generalize H1 = H at hP1 hS ⊢
              have hP := hP1
              have hD := hD1
              have hP : va_P D xcl (rp ad E RL) H := hP
              have hD : va_D A (rp ad E RL) := hD
              rcases hp272 with ⟨rfl, z273⟩ | ⟨rfl, z274, z275, z276⟩
              · refine W.eq (g2 := F0 m 134 ls [.int 1]) rfl ?_
                refine lv_if_ne (tgt := 140) hx hb xd_Sh_acceptGrant_134 (by decide) (fun _ => ?_) (fun hc277 => absurd hc277 (by decide))
                refine lv_aload hx hb xd_Sh_acceptGrant_140 (lv_at hl 0 rfl) ?_
                refine lv_iload_n hx hb xd_Sh_acceptGrant_142 rfl (lv_at hl 3 rfl) ?_
                have hFc := px_free hD hS hA
                refine va_callv (va_runV (As := [.int 0]) (rest := []) ⟨hx, hb, hml, hown, hT⟩ (xc_Gr_extendToX l D kA H.size ad E RL (1 + (nd - 1)) (20 + 3 * z258) (21 + 3 * z258) (22 + 3 * z258) ta_262 n_262 f_262 0 m_264 c_263 m_266 c_265 m_268 c_267 (by first | assumption | omega) (by first | assumption | omega)) (cwV 1 hT (wT_V k5i_27 k5i_28 k5i_29 k5i_25 k5i_26) rfl rfl rfl (by decide +kernel) ⟨Nat.le_of_ble_eq_true rfl, Nat.le_of_ble_eq_true rfl⟩) (px_preV hK hP hD m_264 c_263 rfl) rfl rfl hl.1 rfl (lv_room (Nat.le_of_ble_eq_true rfl)) xd_Sh_acceptGrant_143 ⟨(Nat.le_of_ble_eq_true rfl), (Nat.le_of_ble_eq_true rfl)⟩) hS (fun q _ h => hFc q h) hFc (fun u279 t H1 locs ht hvm hp280 hB hz1 hk1 hS => ?_)
                obtain ⟨hP1, hD1⟩ := hB
                rw [ht] at hP1
                have hD1 := hD1.weaken (fun _ _ _ h => hFc _ h)
                generalize H1 = H at hP1 hS ⊢
                have hP := hP1
                have hD := hD1
                obtain ⟨E281, rfl⟩ : ∃ z, z = u279 := ⟨_, rfl⟩
                obtain ⟨w282, w283, w284, hp289, p_285, p_286, p_287, p_288⟩ := hp280
                have p_285 : E281 (1 + (nd - 1)) (20 + 3 * z258) = .inr (9, [.ref (ad (1 + (nd - 1)) (21 + 3 * z258)), .int w282]) := p_285
                have p_286 : E281 (1 + (nd - 1)) (21 + 3 * z258) = .inr (8, [.ref (ad (1 + (nd - 1)) (22 + 3 * z258)), .int (nI w283)]) := p_286
                have p_287 : E281 (1 + (nd - 1)) (22 + 3 * z258) = .inl (kA 0, 3, .inl w284) := p_287
                have p_288 : (∀ b2 o2, ¬ (b2 = (1 + (nd - 1)) ∧ o2 = (20 + 3 * z258)) → ¬ (b2 = (1 + (nd - 1)) ∧ o2 = (21 + 3 * z258)) → ¬ (b2 = (1 + (nd - 1)) ∧ o2 = (22 + 3 * z258)) → E281 b2 o2 = E b2 o2) := p_288
                have c_290 : E281 0 0 = .inr (0, [.ref (ad 0 1), .ref (ad 0 5), .ref (ad 0 7), .ref (ad 0 9), .int (nI ml), .int lf_1]) := (p_288 0 0 (by omega) (by omega) (by omega)).trans c_2
                have c_291 : E281 0 1 = .inr (1, [.ref (ad 0 2), .ref (ad 0 3), .ref (ad 0 4), .int (nI len), .int (nI (wl.length))]) := (p_288 0 1 (by omega) (by omega) (by omega)).trans c_5
                have c_292 : E281 0 2 = .inl (kA 1, 40, .inl tx_4) := (p_288 0 2 (by omega) (by omega) (by omega)).trans c_7
                have c_293 : E281 0 3 = .inl (kA 0, 20, .inl fb_4) := (p_288 0 3 (by omega) (by omega) (by omega)).trans c_9
                have c_294 : E281 0 4 = .inl (kA 0, 20, .inl fe_4) := (p_288 0 4 (by omega) (by omega) (by omega)).trans c_11
                have c_295 : E281 0 5 = .inr (2, [.ref (ad 0 6), .int (nI nd)]) := (p_288 0 5 (by omega) (by omega) (by omega)).trans c_14
                have c_296 : E281 0 6 = .inl (kA 4, 12, .inr (.inr (.inr (.inr fd_13)))) := (p_288 0 6 (by omega) (by omega) (by omega)).trans c_16
                have c_297 : E281 0 7 = .inr (3, [.ref (ad 0 5), .ref (ad 0 8), .int (nI cs), .int cf_18, pv_18]) := (p_288 0 7 (by omega) (by omega) (by omega)).trans c_19
                have c_298 : E281 0 8 = .inl (kA 4, 12, .inr (.inr (.inr (.inr fc_18)))) := (p_288 0 8 (by omega) (by omega) (by omega)).trans c_21
                have c_299 : E281 0 9 = .inl (kA 5, 5, .inr (.inr (.inr (.inr fl_23)))) := (p_288 0 9 (by omega) (by omega) (by omega)).trans c_24
                have c_300 : E281 (1 + (nd - 1)) 0 = .inr (7, [.int (nI ((nd - 1))), .int fd_221, .int nm_221, .ref (ad (1 + (nd - 1)) 1), .ref (ad (1 + (nd - 1)) 9), .ref (ad (1 + (nd - 1)) 10), .ref (ad (1 + (nd - 1)) 2), .ref (ad (1 + (nd - 1)) 11), .ref (ad (1 + (nd - 1)) 12), .ref (ad (1 + (nd - 1)) 3), .ref (ad (1 + (nd - 1)) 4), .int sd_221]) := (p_288 (1 + (nd - 1)) 0 (by omega) (by omega) (by omega)).trans c_222
                have c_301 : E281 (1 + (nd - 1)) 1 = .inr (8, [.ref (ad (1 + (nd - 1)) 5), .int (nI k0_221)]) := (p_288 (1 + (nd - 1)) 1 (by omega) (by omega) (by omega)).trans c_224
                have c_302 : E281 (1 + (nd - 1)) 2 = .inr (8, [.ref (ad (1 + (nd - 1)) 6), .int (nI k1_221)]) := (p_288 (1 + (nd - 1)) 2 (by omega) (by omega) (by omega)).trans c_226
                have c_303 : E281 (1 + (nd - 1)) 3 = .inr (8, [.ref (ad (1 + (nd - 1)) 7), .int (nI k2_221)]) := (p_288 (1 + (nd - 1)) 3 (by omega) (by omega) (by omega)).trans c_228
                have c_304 : E281 (1 + (nd - 1)) 4 = .inr (8, [.ref (ad (1 + (nd - 1)) 8), .int (nI k3_221)]) := (p_288 (1 + (nd - 1)) 4 (by omega) (by omega) (by omega)).trans c_230
                have c_305 : E281 (1 + (nd - 1)) 5 = .inl (kA 0, 6, .inl f0_221) := (p_288 (1 + (nd - 1)) 5 (by omega) (by omega) (by omega)).trans c_232
                have c_306 : E281 (1 + (nd - 1)) 6 = .inl (kA 0, 5, .inl f1_221) := (p_288 (1 + (nd - 1)) 6 (by omega) (by omega) (by omega)).trans c_234
                have c_307 : E281 (1 + (nd - 1)) 7 = .inl (kA 0, 3, .inl f2_221) := (p_288 (1 + (nd - 1)) 7 (by omega) (by omega) (by omega)).trans c_236
                have c_308 : E281 (1 + (nd - 1)) 8 = .inl (kA 0, 3, .inl f3_221) := (p_288 (1 + (nd - 1)) 8 (by omega) (by omega) (by omega)).trans c_238
                have c_309 : E281 (1 + (nd - 1)) 9 = .inl (kA 8, 6, .inr (.inr (.inr (.inr fe_221)))) := (p_288 (1 + (nd - 1)) 9 (by omega) (by omega) (by omega)).trans c_240
                have c_310 : E281 (1 + (nd - 1)) 10 = .inl (kA 8, 6, .inr (.inr (.inr (.inr fo_221)))) := (p_288 (1 + (nd - 1)) 10 (by omega) (by omega) (by omega)).trans c_242
                have c_311 : E281 (1 + (nd - 1)) 11 = .inl (kA 2, 5, .inl tr_221) := (p_288 (1 + (nd - 1)) 11 (by omega) (by omega) (by omega)).trans c_244
                have c_312 : E281 (1 + (nd - 1)) 12 = .inl (kA 2, 5, .inl op_221) := (p_288 (1 + (nd - 1)) 12 (by omega) (by omega) (by omega)).trans c_246
                have hP : va_P D xcl (rp ad E281 RL) H := hP
                have hD : va_D A (rp ad E281 RL) := hD
                have hok9 : okG (g 0) wl nd g := ⟨Or.inl (by omega), hc214, by omega, by rw [← tsd_221]; exact hc269⟩
                have hnew9 : w282 = (lG 7 9 (g 0) wl nd g) 9 (6 * (nd - 1) + z258) ∧ (w282 = 0 → NT w283 w284 (fun j => (lG 7 9 (g 0) wl nd g) 7 (3 * (6 * (nd - 1) + z258) + j))) := by rw [lG_w2 hpi9 hok9 (by omega)]; exact gr_up2 rfl hp289.2
                have hTD9 := (show TD (lG 7 9 (g 0) wl nd g) (E281 (1 + (nd - 1))) (nd - 1) from TD_mk (by omega) (by omega) (by omega) (by omega) c_300 c_301 c_302 c_303 c_304 c_305 c_306 c_307 c_308 c_311 c_312 (TT_G (by omega) hTT_221) (gr_all7 (i := z258) hk0_221 (lG_ne (by decide) (by decide) : (lG 7 9 (g 0) wl nd g) 8 = g 8) (lG_ne (by decide) (by decide) : (lG 7 9 (g 0) wl nd g) 10 = g 10) (lG_oth (by decide) hpi9 (by omega)) (by omega) (fun o9 h19 h29 h39 => (show E281 (1 + (nd - 1)) o9 = E (1 + (nd - 1)) o9 from by show E281 (1 + (nd - 1)) o9 = _; rw [p_288 (1 + (nd - 1)) o9 (by omega) (by omega) (by omega)])) (TG_mk hp289.1 p_285 p_286 p_287 hnew9.1 hnew9.2) tgr_221))
                have hTD2 : TDs (lG 7 9 (g 0) wl nd g) E281 nd := TDs_upd (x := nd - 1) hDIs (fun d9 hd9 hx9 => fun2 fun o9 => by show E281 (1 + d9) o9 = _; rw [p_288 (1 + d9) o9 (by omega) (by omega) (by omega)]) (fun d9 hd9 hx9 => AG_G (by omega) (by omega) hx9) hTD9 hTD
                have hFRL : FRL ml nd ad ad E E281 := ⟨fun n9 hn9 => ⟨fun2 fun o9 => by show E281 (20 + n9) o9 = _; rw [p_288 (20 + n9) o9 (by omega) (by omega) (by omega)], fun2 fun o9 => rfl⟩, fun d9 hd9 => rfl, by show E281 0 0 = _; rw [p_288 0 0 (by omega) (by omega) (by omega)]⟩
                have hCI : CI kA ad E281 RL ml nd len wl.length cs := ⟨hmB, ⟨lf_1, c_290⟩, ⟨tx_4, fb_4, fe_4, (by omega), (by omega), c_291, c_292, c_293, c_294, hws_4⟩, ⟨fd_13, (by omega), c_295, c_296, hds_13⟩, ⟨cf_18, pv_18, fc_18, (by omega), hpv_18, c_297, c_298, hfc_18⟩, ⟨fl_23, (by omega), c_299, hla_23⟩, (DIs_set (x := nd - 1) (fun d9 hd9 hx9 => fun2 fun o9 => by show E281 (1 + d9) o9 = _; rw [p_288 (1 + d9) o9 (by omega) (by omega) (by omega)]) (fun _ _ _ => rfl) (fun _ h => h) (DI_gr (o0 := 20) (i := z258) (hDIs (nd - 1) (by omega)) (by omega) (by omega) (fun o9 h19 h29 h39 => by show E281 (1 + (nd - 1)) o9 = _; rw [p_288 (1 + (nd - 1)) o9 (by omega) (by omega) (by omega)]) ⟨m_264, m_266, m_268, w282, w283, w284, hp289.1, p_285, p_286, p_287⟩) hDIs), (LIs_same (Nat.le_refl _) (fun n9 hn9 => fun2 fun o9 => by show E281 (20 + n9) o9 = _; rw [p_288 (20 + n9) o9 (by omega) (by omega) (by omega)]) (fun _ _ => rfl) (fun _ _ => rfl) (fun _ h9 => h9) hLIs)⟩
                obtain ⟨hmB, hDk, hLi, hSh, hCh, hLa, hDIs, hLIs⟩ := id hCI
                refine lv_iconst (v := 2) hx hb xd_Sh_acceptGrant_146 (by decide) ?_
                refine W.widen (k := 0) (n := 0) (Nat.le_of_ble_eq_true rfl) (Nat.le_of_ble_eq_true rfl) ?_
                exact W.iret (v := 2) hx hb hr (fun t ht hW => ⟨⟨2, (ad, E281, RL), rfl, (by rw [cif_pos hw2]; exact ⟨hCI, hTD2, rfl, hFRL⟩), by rw [ht]; exact hP, hD⟩, hS.F ht⟩) hS.2.2 xd_Sh_acceptGrant_147
              · refine W.eq (g2 := F0 m 134 ls [.int 0]) rfl ?_
                refine lv_if_ne (tgt := 140) hx hb xd_Sh_acceptGrant_134 (by decide) (fun hc313 => absurd (by decide) hc313) (fun _ => ?_)
                refine lv_bipush (v := (-2)) hx hb xd_Sh_acceptGrant_137 (by decide) ?_
                refine W.widen (k := 0) (n := 0) (Nat.le_of_ble_eq_true rfl) (Nat.le_of_ble_eq_true rfl) ?_
                exact W.iret (v := (-2)) hx hb hr (fun t ht hW => ⟨⟨(-2), (ad, E, RL), rfl, absurd rfl z274, by rw [ht]; exact hP, hD⟩, hS.F ht⟩) hS.2.2 xd_Sh_acceptGrant_139
        · have hw2 : ¬ wS (g 0) wl 0 zEx := by have q := z252; rw [zw2] at q; exact q
          refine W.eq (g2 := F0 m 93 ls [.int 0]) rfl ?_
          refine lv_if_eq (tgt := 105) hx hb xd_Sh_acceptGrant_93 (by decide) (fun _ => ?_) (fun hc314 => absurd (by decide) hc314)
          refine lv_aload hx hb xd_Sh_acceptGrant_105 (lv_at hl 0 rfl) ?_
          refine lv_iload_n hx hb xd_Sh_acceptGrant_107 rfl (lv_at hl 3 rfl) ?_
          have hFc := px_free hD hS hA
          refine va_callq (va_runV (As := [.int (wN (g 0) wl 1)]) (rest := []) ⟨hx, hb, hml, hown, hT⟩ (xc_Ds_openingOfX l D kA H.size ad E RL g nd (nd - 1) (wN (g 0) wl 1) (by first | assumption | omega) (by first | assumption | omega) (by first | assumption | omega)) (cwV 1 hT (wT_V k5i_31 k5i_32 k5i_33 k5i_19 k5i_30) rfl rfl rfl (by decide +kernel) ⟨Nat.le_of_ble_eq_true rfl, Nat.le_of_ble_eq_true rfl⟩) (px_preV hK hP hD m_223 c_222 rfl) rfl rfl hl.1 rfl (lv_room (Nat.le_of_ble_eq_true rfl)) xd_Sh_acceptGrant_108 ⟨(Nat.le_of_ble_eq_true rfl), (Nat.le_of_ble_eq_true rfl)⟩) hS (fun q _ h => hFc q h) hFc (fun r315 u316 t H1 locs ht hvm hp317 hB hz1 hk1 hS => ?_)
          obtain ⟨hP1, hD1⟩ := hB
          rw [ht] at hP1
          have hD1 := hD1.weaken (fun _ _ _ h => hFc _ h)
          generalize H1 = H at hP1 hS ⊢
          have hP := hP1
          have hD := hD1
          have hP : va_P D xcl (rp ad E RL) H := hP
          have hD : va_D A (rp ad E RL) := hD
          rcases hp317 with ⟨rfl, z318⟩ | ⟨z319, z320, rfl, z321, z322⟩
          · refine W.eq (g2 := F0 m 111 ls [.null]) rfl ?_
            refine lv_astoreN hx hb xd_Sh_acceptGrant_111 hl (Nat.le_of_ble_eq_true rfl) rfl (fun ls hl => ?_)
            have hl : lv_has ls 7 [(6, .null), (5, .ref (ad (1 + (nd - 1)) 0)), (4, .int 0), (3, .int 0), (2, .int (wN (g 0) wl 1)), (0, .ref (ad 0 5)), (1, .ref (ad 0 1))] := hl
            refine lv_aloadN hx hb xd_Sh_acceptGrant_113 (lv_at hl 0 rfl) ?_
            refine lv_ifnonnullN hx hb xd_Sh_acceptGrant_115 ?_
            refine lv_iconst (v := (-1)) hx hb xd_Sh_acceptGrant_118 (by decide) ?_
            refine W.widen (k := 0) (n := 0) (Nat.le_of_ble_eq_true rfl) (Nat.le_of_ble_eq_true rfl) ?_
            exact W.iret (v := (-1)) hx hb hr (fun t ht hW => ⟨⟨(-1), (ad, E, RL), rfl, ⟨hCI, by rw [cif_neg hw2, ← lG_no2 z318]; exact hTD, rfl, FRL_rf⟩, by rw [ht]; exact hP, hD⟩, hS.F ht⟩) hS.2.2 xd_Sh_acceptGrant_119
          · refine W.eq (g2 := F0 m 111 ls [.ref (ad (1 + (nd - 1)) (38 + 3 * z319))]) rfl ?_
            obtain ⟨m0_323, m1_323, m2_323, ta_323, n_323, f_323, hn_323, q0_323, q1_323, q2_323⟩ := z321
            have c_324 : E (1 + (nd - 1)) (38 + 3 * z319) = .inr (9, [.ref (ad (1 + (nd - 1)) (39 + 3 * z319)), .int ta_323]) := q0_323
            have m_325 : (1 + (nd - 1), 38 + 3 * z319) ∈ RL := m0_323
            have c_326 : E (1 + (nd - 1)) (39 + 3 * z319) = .inr (8, [.ref (ad (1 + (nd - 1)) (40 + 3 * z319)), .int (nI n_323)]) := q1_323
            have m_327 : (1 + (nd - 1), 39 + 3 * z319) ∈ RL := m1_323
            have c_328 : E (1 + (nd - 1)) (40 + 3 * z319) = .inl (kA 0, 3, .inl f_323) := q2_323
            have m_329 : (1 + (nd - 1), 40 + 3 * z319) ∈ RL := m2_323
            have hpi9 : pI g (nd - 1) (wN (g 0) wl 1) = some z319 := z322
            have hik9 : z319 < k0_221 := by have q := (ff_is hpi9).1; rw [ik0_221] at q; exact q
            have htg9 := TG_get hn_323 c_324 c_326 c_328 (tgr_221 z319 hik9).2
            refine lv_astore hx hb xd_Sh_acceptGrant_111 hl (Nat.le_of_ble_eq_true rfl) rfl (fun ls hl => ?_)
            have hl : lv_has ls 7 [(6, .ref (ad (1 + (nd - 1)) (38 + 3 * z319))), (5, .ref (ad (1 + (nd - 1)) 0)), (4, .int 0), (3, .int 0), (2, .int (wN (g 0) wl 1)), (0, .ref (ad 0 5)), (1, .ref (ad 0 1))] := hl
            refine lv_aload hx hb xd_Sh_acceptGrant_113 (lv_at hl 0 rfl) ?_
            refine lv_ifnonnull (tgt := 120) hx hb xd_Sh_acceptGrant_115 (by decide) ?_
            refine lv_aload hx hb xd_Sh_acceptGrant_120 (lv_at hl 1 rfl) ?_
            refine px_get (D := D) (ci := 7) (v := .int sd_221) (C := xR_Ds) (T := xT_Ds) (N := 12) hx hb hT xi_Ds hown hK.1 hP m_223 c_222 rfl 11 (by decide) (hT _ k5i_20) (fun _ h9 => h9) rfl xd_Sh_acceptGrant_122 ?_
            refine lv_if_ne (tgt := 137) hx hb xd_Sh_acceptGrant_125 (by decide) (fun hc330 => ?_) (fun hc330 => ?_)
            · refine lv_bipush (v := (-2)) hx hb xd_Sh_acceptGrant_137 (by decide) ?_
              refine W.widen (k := 0) (n := 0) (Nat.le_of_ble_eq_true rfl) (Nat.le_of_ble_eq_true rfl) ?_
              exact W.iret (v := (-2)) hx hb hr (fun t ht hW => ⟨⟨(-2), (ad, E, RL), rfl, ⟨hCI, by rw [cif_neg hw2, ← lG_no1 (fun q => hc330 (by rw [tsd_221]; exact q.2.2.2))]; exact hTD, rfl, FRL_rf⟩, by rw [ht]; exact hP, hD⟩, hS.F ht⟩) hS.2.2 xd_Sh_acceptGrant_139
            · refine lv_aload hx hb xd_Sh_acceptGrant_128 (lv_at hl 0 rfl) ?_
              refine lv_iload_n hx hb xd_Sh_acceptGrant_130 rfl (lv_at hl 3 rfl) ?_
              have hFc := px_free hD hS hA
              refine va_calli (va_runV (As := [.int 0]) (rest := []) ⟨hx, hb, hml, hown, hT⟩ (xc_Gr_hasRoomForX l D kA H.size ad E RL (1 + (nd - 1)) (38 + 3 * z319) (39 + 3 * z319) (40 + 3 * z319) ta_323 n_323 f_323 0 m_325 c_324 m_327 c_326 m_329 c_328 (by first | assumption | omega)) (cwV 1 hT (wT_V k5i_22 k5i_23 k5i_24 k5i_25 k5i_21) rfl rfl rfl (by decide +kernel) ⟨Nat.le_of_ble_eq_true rfl, Nat.le_of_ble_eq_true rfl⟩) (px_preV hK hP hD m_325 c_324 rfl) rfl rfl hl.1 rfl (lv_room (Nat.le_of_ble_eq_true rfl)) xd_Sh_acceptGrant_131 ⟨(Nat.le_of_ble_eq_true rfl), (Nat.le_of_ble_eq_true rfl)⟩) hS (fun q _ h => hFc q h) hFc (fun r331 u332 t H1 locs ht hvm hp333 hB hz1 hk1 hS => ?_)
              obtain ⟨hP1, hD1⟩ := hB
              rw [ht] at hP1
              have hD1 := hD1.weaken (fun _ _ _ h => hFc _ h)
              generalize H1 = H at hP1 hS ⊢
              have hP := hP1
              have hD := hD1
              have hP : va_P D xcl (rp ad E RL) H := hP
              have hD : va_D A (rp ad E RL) := hD
              rcases hp333 with ⟨rfl, z334⟩ | ⟨rfl, z335, z336, z337⟩
              · refine W.eq (g2 := F0 m 134 ls [.int 1]) rfl ?_
                refine lv_if_ne (tgt := 140) hx hb xd_Sh_acceptGrant_134 (by decide) (fun _ => ?_) (fun hc338 => absurd hc338 (by decide))
                refine lv_aload hx hb xd_Sh_acceptGrant_140 (lv_at hl 0 rfl) ?_
                refine lv_iload_n hx hb xd_Sh_acceptGrant_142 rfl (lv_at hl 3 rfl) ?_
                have hFc := px_free hD hS hA
                refine va_callv (va_runV (As := [.int 0]) (rest := []) ⟨hx, hb, hml, hown, hT⟩ (xc_Gr_extendToX l D kA H.size ad E RL (1 + (nd - 1)) (38 + 3 * z319) (39 + 3 * z319) (40 + 3 * z319) ta_323 n_323 f_323 0 m_325 c_324 m_327 c_326 m_329 c_328 (by first | assumption | omega) (by first | assumption | omega)) (cwV 1 hT (wT_V k5i_27 k5i_28 k5i_29 k5i_25 k5i_26) rfl rfl rfl (by decide +kernel) ⟨Nat.le_of_ble_eq_true rfl, Nat.le_of_ble_eq_true rfl⟩) (px_preV hK hP hD m_325 c_324 rfl) rfl rfl hl.1 rfl (lv_room (Nat.le_of_ble_eq_true rfl)) xd_Sh_acceptGrant_143 ⟨(Nat.le_of_ble_eq_true rfl), (Nat.le_of_ble_eq_true rfl)⟩) hS (fun q _ h => hFc q h) hFc (fun u340 t H1 locs ht hvm hp341 hB hz1 hk1 hS => ?_)
                obtain ⟨hP1, hD1⟩ := hB
                rw [ht] at hP1
                have hD1 := hD1.weaken (fun _ _ _ h => hFc _ h)
                generalize H1 = H at hP1 hS ⊢
                have hP := hP1
                have hD := hD1
                obtain ⟨E342, rfl⟩ : ∃ z, z = u340 := ⟨_, rfl⟩
                obtain ⟨w343, w344, w345, hp350, p_346, p_347, p_348, p_349⟩ := hp341
                have p_346 : E342 (1 + (nd - 1)) (38 + 3 * z319) = .inr (9, [.ref (ad (1 + (nd - 1)) (39 + 3 * z319)), .int w343]) := p_346
                have p_347 : E342 (1 + (nd - 1)) (39 + 3 * z319) = .inr (8, [.ref (ad (1 + (nd - 1)) (40 + 3 * z319)), .int (nI w344)]) := p_347
                have p_348 : E342 (1 + (nd - 1)) (40 + 3 * z319) = .inl (kA 0, 3, .inl w345) := p_348
                have p_349 : (∀ b2 o2, ¬ (b2 = (1 + (nd - 1)) ∧ o2 = (38 + 3 * z319)) → ¬ (b2 = (1 + (nd - 1)) ∧ o2 = (39 + 3 * z319)) → ¬ (b2 = (1 + (nd - 1)) ∧ o2 = (40 + 3 * z319)) → E342 b2 o2 = E b2 o2) := p_349
                have c_351 : E342 0 0 = .inr (0, [.ref (ad 0 1), .ref (ad 0 5), .ref (ad 0 7), .ref (ad 0 9), .int (nI ml), .int lf_1]) := (p_349 0 0 (by omega) (by omega) (by omega)).trans c_2
                have c_352 : E342 0 1 = .inr (1, [.ref (ad 0 2), .ref (ad 0 3), .ref (ad 0 4), .int (nI len), .int (nI (wl.length))]) := (p_349 0 1 (by omega) (by omega) (by omega)).trans c_5
                have c_353 : E342 0 2 = .inl (kA 1, 40, .inl tx_4) := (p_349 0 2 (by omega) (by omega) (by omega)).trans c_7
                have c_354 : E342 0 3 = .inl (kA 0, 20, .inl fb_4) := (p_349 0 3 (by omega) (by omega) (by omega)).trans c_9
                have c_355 : E342 0 4 = .inl (kA 0, 20, .inl fe_4) := (p_349 0 4 (by omega) (by omega) (by omega)).trans c_11
                have c_356 : E342 0 5 = .inr (2, [.ref (ad 0 6), .int (nI nd)]) := (p_349 0 5 (by omega) (by omega) (by omega)).trans c_14
                have c_357 : E342 0 6 = .inl (kA 4, 12, .inr (.inr (.inr (.inr fd_13)))) := (p_349 0 6 (by omega) (by omega) (by omega)).trans c_16
                have c_358 : E342 0 7 = .inr (3, [.ref (ad 0 5), .ref (ad 0 8), .int (nI cs), .int cf_18, pv_18]) := (p_349 0 7 (by omega) (by omega) (by omega)).trans c_19
                have c_359 : E342 0 8 = .inl (kA 4, 12, .inr (.inr (.inr (.inr fc_18)))) := (p_349 0 8 (by omega) (by omega) (by omega)).trans c_21
                have c_360 : E342 0 9 = .inl (kA 5, 5, .inr (.inr (.inr (.inr fl_23)))) := (p_349 0 9 (by omega) (by omega) (by omega)).trans c_24
                have c_361 : E342 (1 + (nd - 1)) 0 = .inr (7, [.int (nI ((nd - 1))), .int fd_221, .int nm_221, .ref (ad (1 + (nd - 1)) 1), .ref (ad (1 + (nd - 1)) 9), .ref (ad (1 + (nd - 1)) 10), .ref (ad (1 + (nd - 1)) 2), .ref (ad (1 + (nd - 1)) 11), .ref (ad (1 + (nd - 1)) 12), .ref (ad (1 + (nd - 1)) 3), .ref (ad (1 + (nd - 1)) 4), .int sd_221]) := (p_349 (1 + (nd - 1)) 0 (by omega) (by omega) (by omega)).trans c_222
                have c_362 : E342 (1 + (nd - 1)) 1 = .inr (8, [.ref (ad (1 + (nd - 1)) 5), .int (nI k0_221)]) := (p_349 (1 + (nd - 1)) 1 (by omega) (by omega) (by omega)).trans c_224
                have c_363 : E342 (1 + (nd - 1)) 2 = .inr (8, [.ref (ad (1 + (nd - 1)) 6), .int (nI k1_221)]) := (p_349 (1 + (nd - 1)) 2 (by omega) (by omega) (by omega)).trans c_226
                have c_364 : E342 (1 + (nd - 1)) 3 = .inr (8, [.ref (ad (1 + (nd - 1)) 7), .int (nI k2_221)]) := (p_349 (1 + (nd - 1)) 3 (by omega) (by omega) (by omega)).trans c_228
                have c_365 : E342 (1 + (nd - 1)) 4 = .inr (8, [.ref (ad (1 + (nd - 1)) 8), .int (nI k3_221)]) := (p_349 (1 + (nd - 1)) 4 (by omega) (by omega) (by omega)).trans c_230
                have c_366 : E342 (1 + (nd - 1)) 5 = .inl (kA 0, 6, .inl f0_221) := (p_349 (1 + (nd - 1)) 5 (by omega) (by omega) (by omega)).trans c_232
                have c_367 : E342 (1 + (nd - 1)) 6 = .inl (kA 0, 5, .inl f1_221) := (p_349 (1 + (nd - 1)) 6 (by omega) (by omega) (by omega)).trans c_234
                have c_368 : E342 (1 + (nd - 1)) 7 = .inl (kA 0, 3, .inl f2_221) := (p_349 (1 + (nd - 1)) 7 (by omega) (by omega) (by omega)).trans c_236
                have c_369 : E342 (1 + (nd - 1)) 8 = .inl (kA 0, 3, .inl f3_221) := (p_349 (1 + (nd - 1)) 8 (by omega) (by omega) (by omega)).trans c_238
                have c_370 : E342 (1 + (nd - 1)) 9 = .inl (kA 8, 6, .inr (.inr (.inr (.inr fe_221)))) := (p_349 (1 + (nd - 1)) 9 (by omega) (by omega) (by omega)).trans c_240
                have c_371 : E342 (1 + (nd - 1)) 10 = .inl (kA 8, 6, .inr (.inr (.inr (.inr fo_221)))) := (p_349 (1 + (nd - 1)) 10 (by omega) (by omega) (by omega)).trans c_242
                have c_372 : E342 (1 + (nd - 1)) 11 = .inl (kA 2, 5, .inl tr_221) := (p_349 (1 + (nd - 1)) 11 (by omega) (by omega) (by omega)).trans c_244
                have c_373 : E342 (1 + (nd - 1)) 12 = .inl (kA 2, 5, .inl op_221) := (p_349 (1 + (nd - 1)) 12 (by omega) (by omega) (by omega)).trans c_246
                have hP : va_P D xcl (rp ad E342 RL) H := hP
                have hD : va_D A (rp ad E342 RL) := hD
                have hok9 : okG (g 0) wl nd g := ⟨Or.inl (by omega), hc214, by omega, by rw [← tsd_221]; exact hc330⟩
                have hnew9 : w343 = (lG 8 10 (g 0) wl nd g) 10 (6 * (nd - 1) + z319) ∧ (w343 = 0 → NT w344 w345 (fun j => (lG 8 10 (g 0) wl nd g) 8 (3 * (6 * (nd - 1) + z319) + j))) := by rw [lG_w2 hpi9 hok9 (by omega)]; exact gr_up2 rfl hp350.2
                have hTD9 := (show TD (lG 8 10 (g 0) wl nd g) (E342 (1 + (nd - 1))) (nd - 1) from TD_mk (by omega) (by omega) (by omega) (by omega) c_361 c_362 c_363 c_364 c_365 c_366 c_367 c_368 c_369 c_372 c_373 (TT_G (by omega) hTT_221) (gr_all8 (i := z319) hk0_221 (lG_ne (by decide) (by decide) : (lG 8 10 (g 0) wl nd g) 7 = g 7) (lG_ne (by decide) (by decide) : (lG 8 10 (g 0) wl nd g) 9 = g 9) (lG_oth (by decide) hpi9 (by omega)) (by omega) (fun o9 h19 h29 h39 => (show E342 (1 + (nd - 1)) o9 = E (1 + (nd - 1)) o9 from by show E342 (1 + (nd - 1)) o9 = _; rw [p_349 (1 + (nd - 1)) o9 (by omega) (by omega) (by omega)])) (TG_mk hp350.1 p_346 p_347 p_348 hnew9.1 hnew9.2) tgr_221))
                have hTD2 : TDs (lG 8 10 (g 0) wl nd g) E342 nd := TDs_upd (x := nd - 1) hDIs (fun d9 hd9 hx9 => fun2 fun o9 => by show E342 (1 + d9) o9 = _; rw [p_349 (1 + d9) o9 (by omega) (by omega) (by omega)]) (fun d9 hd9 hx9 => AG_G (by omega) (by omega) hx9) hTD9 hTD
                have hFRL : FRL ml nd ad ad E E342 := ⟨fun n9 hn9 => ⟨fun2 fun o9 => by show E342 (20 + n9) o9 = _; rw [p_349 (20 + n9) o9 (by omega) (by omega) (by omega)], fun2 fun o9 => rfl⟩, fun d9 hd9 => rfl, by show E342 0 0 = _; rw [p_349 0 0 (by omega) (by omega) (by omega)]⟩
                have hCI : CI kA ad E342 RL ml nd len wl.length cs := ⟨hmB, ⟨lf_1, c_351⟩, ⟨tx_4, fb_4, fe_4, (by omega), (by omega), c_352, c_353, c_354, c_355, hws_4⟩, ⟨fd_13, (by omega), c_356, c_357, hds_13⟩, ⟨cf_18, pv_18, fc_18, (by omega), hpv_18, c_358, c_359, hfc_18⟩, ⟨fl_23, (by omega), c_360, hla_23⟩, (DIs_set (x := nd - 1) (fun d9 hd9 hx9 => fun2 fun o9 => by show E342 (1 + d9) o9 = _; rw [p_349 (1 + d9) o9 (by omega) (by omega) (by omega)]) (fun _ _ _ => rfl) (fun _ h => h) (DI_gr (o0 := 38) (i := z319) (hDIs (nd - 1) (by omega)) (by omega) (by omega) (fun o9 h19 h29 h39 => by show E342 (1 + (nd - 1)) o9 = _; rw [p_349 (1 + (nd - 1)) o9 (by omega) (by omega) (by omega)]) ⟨m_325, m_327, m_329, w343, w344, w345, hp350.1, p_346, p_347, p_348⟩) hDIs), (LIs_same (Nat.le_refl _) (fun n9 hn9 => fun2 fun o9 => by show E342 (20 + n9) o9 = _; rw [p_349 (20 + n9) o9 (by omega) (by omega) (by omega)]) (fun _ _ => rfl) (fun _ _ => rfl) (fun _ h9 => h9) hLIs)⟩
                obtain ⟨hmB, hDk, hLi, hSh, hCh, hLa, hDIs, hLIs⟩ := id hCI
                refine lv_iconst (v := 2) hx hb xd_Sh_acceptGrant_146 (by decide) ?_
                refine W.widen (k := 0) (n := 0) (Nat.le_of_ble_eq_true rfl) (Nat.le_of_ble_eq_true rfl) ?_
                exact W.iret (v := 2) hx hb hr (fun t ht hW => ⟨⟨2, (ad, E342, RL), rfl, (by rw [cif_neg hw2]; exact ⟨hCI, hTD2, rfl, hFRL⟩), by rw [ht]; exact hP, hD⟩, hS.F ht⟩) hS.2.2 xd_Sh_acceptGrant_147
              · refine W.eq (g2 := F0 m 134 ls [.int 0]) rfl ?_
                refine lv_if_ne (tgt := 140) hx hb xd_Sh_acceptGrant_134 (by decide) (fun hc374 => absurd (by decide) hc374) (fun _ => ?_)
                refine lv_bipush (v := (-2)) hx hb xd_Sh_acceptGrant_137 (by decide) ?_
                refine W.widen (k := 0) (n := 0) (Nat.le_of_ble_eq_true rfl) (Nat.le_of_ble_eq_true rfl) ?_
                exact W.iret (v := (-2)) hx hb hr (fun t ht hW => ⟨⟨(-2), (ad, E, RL), rfl, absurd rfl z335, by rw [ht]; exact hP, hD⟩, hS.F ht⟩) hS.2.2 xd_Sh_acceptGrant_139
