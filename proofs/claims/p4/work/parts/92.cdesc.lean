theorem k5c_0 : (Cond.fieldLink "LayerDesk$Shelf" 17 "LayerDesk$Shelf" "size" "I") ∈ wT := wT_t (List.mem_append_left _ (List.mem_of_getElem? (i := 66) rfl)) rfl
theorem k5c_1 : (Cond.fieldLink "LayerDesk$Shelf" 11 "LayerDesk$Shelf" "descriptors" "[LLayerDesk$Descriptor;") ∈ wT := wT_t (List.mem_append_left _ (List.mem_of_getElem? (i := 64) rfl)) rfl
theorem k5c_2 : (Cond.fieldLink "LayerDesk$Shelf" 21 "LayerDesk$Descriptor" "finder" "I") ∈ wT := wT_t (List.mem_append_right _ (List.mem_append_left _ (List.mem_of_getElem? (i := 52) rfl))) rfl
theorem k5c_3 : (Cond.fieldLink "LayerDesk$Shelf" 24 "LayerDesk$Descriptor" "name" "I") ∈ wT := wT_t (List.mem_append_right _ (List.mem_append_left _ (List.mem_of_getElem? (i := 56) rfl))) rfl
theorem k5c_4 : (Cond.code xy_Gr_covers xb_Gr_covers 2 (some .boolean)) ∈ wT := wT_t (List.mem_append_right _ (List.mem_append_left _ (List.mem_of_getElem? (i := 179) rfl))) rfl
theorem k5c_5 : (Cond.methodLink "LayerDesk$Grant" 28 xy_Gr_covers) ∈ wT := wT_t (List.mem_append_right _ (List.mem_append_left _ (List.mem_of_getElem? (i := 176) rfl))) rfl
theorem k5c_6 : (Cond.instanceMethod xy_Gr_covers) ∈ wT := wT_t (List.mem_append_right _ (List.mem_append_left _ (List.mem_of_getElem? (i := 177) rfl))) rfl
theorem k5c_7 : (Cond.selects "LayerDesk$Grant" xy_Gr_covers xy_Gr_covers) ∈ wT := wT_t (List.mem_append_right _ (List.mem_append_left _ (List.mem_of_getElem? (i := 178) rfl))) rfl
theorem k5c_8 : (Cond.initialized "LayerDesk$Grant") ∈ wT := wT_t (List.mem_append_left _ (List.mem_of_getElem? (i := 12) rfl)) rfl
theorem k5c_9 : (Cond.fieldLink "LayerDesk$Grant" 16 "LayerDesk$Grant" "names" "LLayerDesk$Names;") ∈ wT := wT_t (List.mem_append_right _ (List.mem_append_left _ (List.mem_of_getElem? (i := 144) rfl))) rfl
theorem k5c_10 : (Cond.code xy_Na_isFull xb_Na_isFull 1 (some .boolean)) ∈ wT := wT_t (List.mem_append_right _ (List.mem_append_left _ (List.mem_of_getElem? (i := 131) rfl))) rfl
theorem k5c_11 : (Cond.methodLink "LayerDesk$Grant" 32 xy_Na_isFull) ∈ wT := wT_t (List.mem_append_right _ (List.mem_append_left _ (List.mem_of_getElem? (i := 181) rfl))) rfl
theorem k5c_12 : (Cond.instanceMethod xy_Na_isFull) ∈ wT := wT_t (List.mem_append_right _ (List.mem_append_left _ (List.mem_of_getElem? (i := 129) rfl))) rfl
theorem k5c_13 : (Cond.selects "LayerDesk$Names" xy_Na_isFull xy_Na_isFull) ∈ wT := wT_t (List.mem_append_right _ (List.mem_append_left _ (List.mem_of_getElem? (i := 130) rfl))) rfl
theorem k5c_14 : (Cond.initialized "LayerDesk$Names") ∈ wT := wT_t (List.mem_append_left _ (List.mem_of_getElem? (i := 11) rfl)) rfl
theorem k5c_15 : (Cond.code xy_Na_append xb_Na_append 2 none) ∈ wT := wT_t (List.mem_append_right _ (List.mem_append_left _ (List.mem_of_getElem? (i := 154) rfl))) rfl
theorem k5c_16 : (Cond.methodLink "LayerDesk$Grant" 36 xy_Na_append) ∈ wT := wT_t (List.mem_append_right _ (List.mem_append_left _ (List.mem_of_getElem? (i := 186) rfl))) rfl
theorem k5c_17 : (Cond.instanceMethod xy_Na_append) ∈ wT := wT_t (List.mem_append_right _ (List.mem_append_left _ (List.mem_of_getElem? (i := 152) rfl))) rfl
theorem k5c_18 : (Cond.selects "LayerDesk$Names" xy_Na_append xy_Na_append) ∈ wT := wT_t (List.mem_append_right _ (List.mem_append_left _ (List.mem_of_getElem? (i := 153) rfl))) rfl
theorem k5c_19 : (Cond.fieldLink "LayerDesk$Grant" 20 "LayerDesk$Grant" "toAll" "Z") ∈ wT := wT_t (List.mem_append_right _ (List.mem_append_left _ (List.mem_of_getElem? (i := 145) rfl))) rfl
theorem k5c_20 : (Cond.fieldLink "LayerDesk$Descriptor" 14 "LayerDesk$Descriptor" "packages" "LLayerDesk$Names;") ∈ wT := wT_t (List.mem_append_right _ (List.mem_append_left _ (List.mem_of_getElem? (i := 60) rfl))) rfl
theorem k5c_21 : (Cond.code xy_Na_indexOf xb_Na_indexOf 3 (some .int)) ∈ wT := wT_t (List.mem_append_right _ (List.mem_append_left _ (List.mem_of_getElem? (i := 127) rfl))) rfl
theorem k5c_22 : (Cond.methodLink "LayerDesk$Descriptor" 68 xy_Na_indexOf) ∈ wT := wT_t (List.mem_append_right _ (List.mem_append_left _ (List.mem_of_getElem? (i := 167) rfl))) rfl
theorem k5c_23 : (Cond.instanceMethod xy_Na_indexOf) ∈ wT := wT_t (List.mem_append_right _ (List.mem_append_left _ (List.mem_of_getElem? (i := 125) rfl))) rfl
theorem k5c_24 : (Cond.selects "LayerDesk$Names" xy_Na_indexOf xy_Na_indexOf) ∈ wT := wT_t (List.mem_append_right _ (List.mem_append_left _ (List.mem_of_getElem? (i := 126) rfl))) rfl
theorem k5c_25 : (Cond.fieldLink "LayerDesk$Descriptor" 20 "LayerDesk$Descriptor" "exported" "[LLayerDesk$Grant;") ∈ wT := wT_t (List.mem_append_right _ (List.mem_append_left _ (List.mem_of_getElem? (i := 64) rfl))) rfl
theorem k5c_26 : (Cond.fieldLink "LayerDesk$Descriptor" 24 "LayerDesk$Descriptor" "opened" "[LLayerDesk$Grant;") ∈ wT := wT_t (List.mem_append_right _ (List.mem_append_left _ (List.mem_of_getElem? (i := 65) rfl))) rfl
theorem k5c_27 : (Cond.methodLink "LayerDesk$Descriptor" 72 xy_Gr_covers) ∈ wT := wT_t (List.mem_append_right _ (List.mem_append_right _ (List.mem_append_right _ (List.mem_append_left _ (List.mem_of_getElem? (i := 21) rfl))))) rfl
set_option maxHeartbeats 4000000 in
set_option maxRecDepth 100000 in
theorem xc_Sh_findX (l : Launch) (D : va_G) (kA : Nat → ClassId) (sz : Nat) (ad : Nat → Nat → Nat) (E : Nat → Nat → va_E) (RL : List (Nat × Nat)) (g : Nat → Nat → Int32) (ml : Nat) (nd : Nat) (len : Nat) (wn : Nat) (cs : Nat) (fi : Int32) (nm : Int32) (hCI : CI kA ad E RL ml nd len wn cs) (hTD : TDs g E nd) : Met l xy_Sh_find (.code xy_Sh_find xb_Sh_find 4 (some (.object "LayerDesk$Descriptor")) :: wT) { frames := 0, cells := 0, slots := 0, locals := 0 } (va_Pc [.ref (ad 0 5), .int fi, .int nm] (xPre D kA sz (rp ad E RL))) (va_Qq (fun (r : Option Nat) (u : Unit) => (r = none ∧ dsG g nd fi nm = none) ∨ ∃ d, d < nd ∧ r = some (ad (1 + d) 0) ∧ dsG g nd fi nm = some d) (fun (u : Unit) t => va_P D xcl (rp ad E RL) t.heap ∧ va_D (va_A (rp ad E RL) sz) (rp ad E RL)) (va_A (rp ad E RL) sz)) 0 0 (va_A (rp ad E RL) sz) := by
  refine Met.ofW (cc := xb_Sh_find) (maxL := 4) (ret := (some (.object "LayerDesk$Descriptor"))) (by decide) rfl ?_
  intro p e s m args below meth c s₁ B hml hv
  obtain ⟨rfl, hsz, hP, hK, hD0⟩ := hv
  have hx := B.exec
  have hb := B.bytes
  have hr := B.returns
  have hT := x_hT B.pre
  have hown : s.vm.findClass xR_Sh = some m.cls := findClass_of_methodNamed B.named
  have hlocks := B.notSynchronized
  subst hsz
  have hD := hD0.self (sz := s.heap.size)
  generalize hAe : va_A (rp ad E RL) s.heap.size = A at hD ⊢
  have hA : ∀ q : Nat, s.heap.size ≤ q → A q := fun q h => by rw [← hAe]; exact Or.inr h
  have hS : va_S A s.heap s.heap [] := va_S.rf
  have hl := lv_entry ([.ref (ad 0 5), .int fi, .int nm]) (n := 4) (Nat.le_of_ble_eq_true rfl)
  rw [lg_entry_eq]
  generalize (lg_sl ([.ref (ad 0 5), .int fi, .int nm]) ++ List.replicate (4 - (lg_sl ([.ref (ad 0 5), .int fi, .int nm])).length) Slot.unset).toArray = ls at hl ⊢
  have hl : lv_has ls 4 [(0, .ref (ad 0 5)), (1, .int fi), (2, .int nm)] := hl
  have hP : va_P D xcl (rp ad E RL) s.heap := hP
  obtain ⟨hmB, hDk, hLi, hSh, hCh, hLa, hDIs, hLIs⟩ := id hCI
  obtain ⟨fd_1, hnd_1, q5_1, q6_1, hds_1⟩ := id (hSh)
  have c_2 : E 0 5 = .inr (2, [.ref (ad 0 6), .int (nI nd)]) := q5_1
  have m_3 : (0, 5) ∈ RL := hmB 5 (by omega)
  have c_4 : E 0 6 = .inl (kA 4, 12, .inr (.inr (.inr (.inr fd_1)))) := q6_1
  have m_5 : (0, 6) ∈ RL := hmB 6 (by omega)
  refine lv_iconst (v := 0) hx hb xd_Sh_find_0 (by decide) ?_
  refine lv_istore_n hx hb xd_Sh_find_1 rfl hl (Nat.le_of_ble_eq_true rfl) rfl (fun ls hl => ?_)
  have hl : lv_has ls 4 [(3, .int 0), (0, .ref (ad 0 5)), (1, .int fi), (2, .int nm)] := hl
  refine xlab (σ := Nat) (ml := 4) 2 (fun (i : Nat) => [(3, .int (nI i)), (0, .ref (ad 0 5)), (1, .int fi), (2, .int nm)]) (fun (i : Nat) => []) (fun (i : Nat) => rp ad E RL) (fun (i : Nat) => (i ≤ nd) ∧ (∀ j, j < i → ¬ (g 3 j = fi ∧ g 4 j = nm))) (fun (i : Nat) => nd - i) ?_ 0 _ _ _ (lv_sub hl [0, 1, 2, 3] rfl) hP hD hS ⟨(show 0 ≤ nd from by first | assumption | omega), (show ∀ j, j < 0 → ¬ (g 3 j = fi ∧ g 4 j = nm) from fun j hj => absurd hj (by omega))⟩
  intro n9 ih6 a9 ls H locs hμ hl hP hD hS hI
  subst hμ
  obtain ⟨i, rfl⟩ : ∃ z, z = a9 := ⟨_, rfl⟩
  obtain ⟨hi, hno⟩ := hI
  have hi : i ≤ nd := hi
  have hno : ∀ j, j < i → ¬ (g 3 j = fi ∧ g 4 j = nm) := hno
  have hl : lv_has ls 4 [(3, .int (nI i)), (0, .ref (ad 0 5)), (1, .int fi), (2, .int nm)] := hl
  have hP : va_P D xcl (rp ad E RL) H := hP
  have hD : va_D A (rp ad E RL) := hD
  refine lv_iload_n hx hb xd_Sh_find_2 rfl (lv_at hl 0 rfl) ?_
  refine lv_aload_n hx hb xd_Sh_find_3 rfl (lv_at hl 1 rfl) ?_
  refine px_get (D := D) (ci := 2) (v := .int (nI nd)) (C := xR_Sh) (T := xT_Sh) (N := 2) hx hb hT xi_Sh hown hK.1 hP m_3 c_2 rfl 1 (by decide) (hT _ k5c_0) (fun _ h9 => h9) rfl xd_Sh_find_4 ?_
  refine xn_ge (a := i) (b := nd) (tgt := 49) hx hb xd_Sh_find_7 (by decide) (by omega) (by omega) (fun hc7 => ?_) (fun hc7 => ?_)
  · refine lv_null hx hb xd_Sh_find_49 ?_
    exact W.aret (v := .null) hx hb hr (Or.inl ⟨_, rfl⟩) (Or.inl rfl) (fun t ht hW => ⟨⟨none, (), rfl, Or.inl ⟨rfl, ff_none (fun j hj => hno j (by omega))⟩, by rw [ht]; exact hP, hD⟩, hS.F ht⟩) hS.2.2 xd_Sh_find_50
  · refine lv_aload_n hx hb xd_Sh_find_10 rfl (lv_at hl 1 rfl) ?_
    refine px_get (D := D) (ci := 2) (v := .ref (ad 0 6)) (C := xR_Sh) (T := xT_Sh) (N := 2) hx hb hT xi_Sh hown hK.1 hP m_3 c_2 rfl 0 (by decide) (hT _ k5c_1) (fun _ h9 => h9) rfl xd_Sh_find_11 ?_
    refine lv_iload_n hx hb xd_Sh_find_14 rfl (lv_at hl 0 rfl) ?_
    refine px_aald (i := i) (x := (some (ad (1 + i) 0))) hx hb hK.1 hP m_5 c_4 4 rfl (hds_1 i (by omega)) (by omega) (by decide) xd_Sh_find_15 ?_
    obtain ⟨hm_8, fd_8, nm_8, sd_8, k0_8, k1_8, k2_8, k3_8, f0_8, f1_8, f2_8, f3_8, fe_8, fo_8, tr_8, op_8, hk0_8, hk1_8, hk2_8, hk3_8, q0_8, q1_8, q2_8, q3_8, q4_8, q5_8, q6_8, q7_8, q8_8, q9_8, q10_8, q11_8, q12_8, hg_8⟩ := id (hDIs i (by omega))
    have c_9 : E (1 + i) 0 = .inr (7, [.int (nI i), .int fd_8, .int nm_8, .ref (ad (1 + i) 1), .ref (ad (1 + i) 9), .ref (ad (1 + i) 10), .ref (ad (1 + i) 2), .ref (ad (1 + i) 11), .ref (ad (1 + i) 12), .ref (ad (1 + i) 3), .ref (ad (1 + i) 4), .int sd_8]) := q0_8
    have m_10 : (1 + i, 0) ∈ RL := hm_8 0 (by omega)
    have c_11 : E (1 + i) 1 = .inr (8, [.ref (ad (1 + i) 5), .int (nI k0_8)]) := q1_8
    have m_12 : (1 + i, 1) ∈ RL := hm_8 1 (by omega)
    have c_13 : E (1 + i) 2 = .inr (8, [.ref (ad (1 + i) 6), .int (nI k1_8)]) := q2_8
    have m_14 : (1 + i, 2) ∈ RL := hm_8 2 (by omega)
    have c_15 : E (1 + i) 3 = .inr (8, [.ref (ad (1 + i) 7), .int (nI k2_8)]) := q3_8
    have m_16 : (1 + i, 3) ∈ RL := hm_8 3 (by omega)
    have c_17 : E (1 + i) 4 = .inr (8, [.ref (ad (1 + i) 8), .int (nI k3_8)]) := q4_8
    have m_18 : (1 + i, 4) ∈ RL := hm_8 4 (by omega)
    have c_19 : E (1 + i) 5 = .inl (kA 0, 6, .inl f0_8) := q5_8
    have m_20 : (1 + i, 5) ∈ RL := hm_8 5 (by omega)
    have c_21 : E (1 + i) 6 = .inl (kA 0, 5, .inl f1_8) := q6_8
    have m_22 : (1 + i, 6) ∈ RL := hm_8 6 (by omega)
    have c_23 : E (1 + i) 7 = .inl (kA 0, 3, .inl f2_8) := q7_8
    have m_24 : (1 + i, 7) ∈ RL := hm_8 7 (by omega)
    have c_25 : E (1 + i) 8 = .inl (kA 0, 3, .inl f3_8) := q8_8
    have m_26 : (1 + i, 8) ∈ RL := hm_8 8 (by omega)
    have c_27 : E (1 + i) 9 = .inl (kA 8, 6, .inr (.inr (.inr (.inr fe_8)))) := q9_8
    have m_28 : (1 + i, 9) ∈ RL := hm_8 9 (by omega)
    have c_29 : E (1 + i) 10 = .inl (kA 8, 6, .inr (.inr (.inr (.inr fo_8)))) := q10_8
    have m_30 : (1 + i, 10) ∈ RL := hm_8 10 (by omega)
    have c_31 : E (1 + i) 11 = .inl (kA 2, 5, .inl tr_8) := q11_8
    have m_32 : (1 + i, 11) ∈ RL := hm_8 11 (by omega)
    have c_33 : E (1 + i) 12 = .inl (kA 2, 5, .inl op_8) := q12_8
    have m_34 : (1 + i, 12) ∈ RL := hm_8 12 (by omega)
    have hg_8 : ∀ w9, w9 < k0_8 → fe_8 w9 = some (ad (1 + i) (20 + 3 * w9)) ∧ fo_8 w9 = some (ad (1 + i) (38 + 3 * w9)) ∧ GI kA (ad (1 + i)) (E (1 + i)) (fun o => (1 + i, o) ∈ RL) (20 + 3 * w9) (21 + 3 * w9) (22 + 3 * w9) ∧ GI kA (ad (1 + i)) (E (1 + i)) (fun o => (1 + i, o) ∈ RL) (38 + 3 * w9) (39 + 3 * w9) (40 + 3 * w9) := hg_8
    obtain ⟨⟨tfd_8, tnm_8, tsd_8, tk0_8, tf0_8, tk1_8, tf1_8, tk2_8, tk3_8⟩, tgr_8⟩ := TD_get hk0_8 hk1_8 hk2_8 hk3_8 c_9 c_11 c_13 c_15 c_17 c_19 c_21 c_23 c_25 c_31 c_33 (hTD i (by omega))
    refine px_get (D := D) (ci := 7) (v := .int fd_8) (C := xR_Ds) (T := xT_Ds) (N := 12) hx hb hT xi_Ds hown hK.1 hP m_10 c_9 rfl 1 (by decide) (hT _ k5c_2) (fun _ h9 => h9) rfl xd_Sh_find_16 ?_
    refine lv_iload_n hx hb xd_Sh_find_19 rfl (lv_at hl 2 rfl) ?_
    refine lv_icmp_ne (tgt := 43) hx hb xd_Sh_find_20 (by decide) (fun hc35 => ?_) (fun hc35 => ?_)
    · refine lv_iinc (k := 0) (x := (nI i)) (v := (nI (i + 1))) hx hb xd_Sh_find_43 hl rfl (xb_inc i 1) (Nat.le_of_ble_eq_true rfl) rfl (fun ls hl => ?_)
      have hl : lv_has ls 4 [(3, .int (nI (i + 1))), (0, .ref (ad 0 5)), (1, .int fi), (2, .int nm)] := hl
      refine lv_goto (tgt := 2) hx hb xd_Sh_find_46 (by decide) ?_
      exact ih6 (i + 1) _ _ _ (show nd - (i + 1) < nd - i by omega) (lv_sub hl [0, 1, 2, 3] rfl) hP hD hS ⟨(show (i + 1) ≤ nd from by first | assumption | omega), (show ∀ j, j < (i + 1) → ¬ (g 3 j = fi ∧ g 4 j = nm) from fun j hj q => by
        rcases Nat.lt_or_ge j i with z | z
        · exact hno j z q
        · rw [show j = i by omega] at q
          exact hc35 (tfd_8.trans q.1))⟩
    · refine lv_aload_n hx hb xd_Sh_find_23 rfl (lv_at hl 1 rfl) ?_
      refine px_get (D := D) (ci := 2) (v := .ref (ad 0 6)) (C := xR_Sh) (T := xT_Sh) (N := 2) hx hb hT xi_Sh hown hK.1 hP m_3 c_2 rfl 0 (by decide) (hT _ k5c_1) (fun _ h9 => h9) rfl xd_Sh_find_24 ?_
      refine lv_iload_n hx hb xd_Sh_find_27 rfl (lv_at hl 0 rfl) ?_
      refine px_aald (i := i) (x := (some (ad (1 + i) 0))) hx hb hK.1 hP m_5 c_4 4 rfl (hds_1 i (by omega)) (by omega) (by decide) xd_Sh_find_28 ?_
      refine px_get (D := D) (ci := 7) (v := .int nm_8) (C := xR_Ds) (T := xT_Ds) (N := 12) hx hb hT xi_Ds hown hK.1 hP m_10 c_9 rfl 2 (by decide) (hT _ k5c_3) (fun _ h9 => h9) rfl xd_Sh_find_29 ?_
      refine lv_iload_n hx hb xd_Sh_find_32 rfl (lv_at hl 3 rfl) ?_
      refine lv_icmp_ne (tgt := 43) hx hb xd_Sh_find_33 (by decide) (fun hc36 => ?_) (fun hc36 => ?_)
      · refine lv_iinc (k := 0) (x := (nI i)) (v := (nI (i + 1))) hx hb xd_Sh_find_43 hl rfl (xb_inc i 1) (Nat.le_of_ble_eq_true rfl) rfl (fun ls hl => ?_)
        have hl : lv_has ls 4 [(3, .int (nI (i + 1))), (0, .ref (ad 0 5)), (1, .int fi), (2, .int nm)] := hl
        refine lv_goto (tgt := 2) hx hb xd_Sh_find_46 (by decide) ?_
        exact ih6 (i + 1) _ _ _ (show nd - (i + 1) < nd - i by omega) (lv_sub hl [0, 1, 2, 3] rfl) hP hD hS ⟨(show (i + 1) ≤ nd from by first | assumption | omega), (show ∀ j, j < (i + 1) → ¬ (g 3 j = fi ∧ g 4 j = nm) from fun j hj q => by
        rcases Nat.lt_or_ge j i with z | z
        · exact hno j z q
        · rw [show j = i by omega] at q
          exact hc36 (tnm_8.trans q.2))⟩
      · refine lv_aload_n hx hb xd_Sh_find_36 rfl (lv_at hl 1 rfl) ?_
        refine px_get (D := D) (ci := 2) (v := .ref (ad 0 6)) (C := xR_Sh) (T := xT_Sh) (N := 2) hx hb hT xi_Sh hown hK.1 hP m_3 c_2 rfl 0 (by decide) (hT _ k5c_1) (fun _ h9 => h9) rfl xd_Sh_find_37 ?_
        refine lv_iload_n hx hb xd_Sh_find_40 rfl (lv_at hl 0 rfl) ?_
        refine px_aald (i := i) (x := (some (ad (1 + i) 0))) hx hb hK.1 hP m_5 c_4 4 rfl (hds_1 i (by omega)) (by omega) (by decide) xd_Sh_find_41 ?_
        exact W.aret (v := .ref (ad (1 + i) 0)) hx hb hr (Or.inl ⟨_, rfl⟩) (Or.inr ⟨_, rfl⟩) (fun t ht hW => ⟨⟨(some (ad (1 + i) 0)), (), rfl, Or.inr ⟨i, by omega, rfl, ff_some (by omega) ⟨tfd_8.symm.trans hc35, tnm_8.symm.trans hc36⟩ hno⟩, by rw [ht]; exact hP, hD⟩, hS.F ht⟩) hS.2.2 xd_Sh_find_42
set_option maxHeartbeats 4000000 in
set_option maxRecDepth 100000 in
theorem xc_Sh_latestX (l : Launch) (D : va_G) (kA : Nat → ClassId) (sz : Nat) (ad : Nat → Nat → Nat) (E : Nat → Nat → va_E) (RL : List (Nat × Nat)) (ml : Nat) (nd : Nat) (len : Nat) (wn : Nat) (cs : Nat) (hCI : CI kA ad E RL ml nd len wn cs) : Met l xy_Sh_latest (.code xy_Sh_latest xb_Sh_latest 1 (some (.object "LayerDesk$Descriptor")) :: wT) { frames := 0, cells := 0, slots := 0, locals := 0 } (va_Pc [.ref (ad 0 5)] (xPre D kA sz (rp ad E RL))) (va_Qq (fun (r : Option Nat) (u : Unit) => (r = none ∧ nd = 0) ∨ (0 < nd ∧ r = some (ad (1 + (nd - 1)) 0))) (fun (u : Unit) t => va_P D xcl (rp ad E RL) t.heap ∧ va_D (va_A (rp ad E RL) sz) (rp ad E RL)) (va_A (rp ad E RL) sz)) 0 0 (va_A (rp ad E RL) sz) := by
  refine Met.ofW (cc := xb_Sh_latest) (maxL := 1) (ret := (some (.object "LayerDesk$Descriptor"))) (by decide) rfl ?_
  intro p e s m args below meth c s₁ B hml hv
  obtain ⟨rfl, hsz, hP, hK, hD0⟩ := hv
  have hx := B.exec
  have hb := B.bytes
  have hr := B.returns
  have hT := x_hT B.pre
  have hown : s.vm.findClass xR_Sh = some m.cls := findClass_of_methodNamed B.named
  have hlocks := B.notSynchronized
  subst hsz
  have hD := hD0.self (sz := s.heap.size)
  generalize hAe : va_A (rp ad E RL) s.heap.size = A at hD ⊢
  have hA : ∀ q : Nat, s.heap.size ≤ q → A q := fun q h => by rw [← hAe]; exact Or.inr h
  have hS : va_S A s.heap s.heap [] := va_S.rf
  have hl := lv_entry ([.ref (ad 0 5)]) (n := 1) (Nat.le_of_ble_eq_true rfl)
  rw [lg_entry_eq]
  generalize (lg_sl ([.ref (ad 0 5)]) ++ List.replicate (1 - (lg_sl ([.ref (ad 0 5)])).length) Slot.unset).toArray = ls at hl ⊢
  have hl : lv_has ls 1 [(0, .ref (ad 0 5))] := hl
  have hP : va_P D xcl (rp ad E RL) s.heap := hP
  obtain ⟨hmB, hDk, hLi, hSh, hCh, hLa, hDIs, hLIs⟩ := id hCI
  obtain ⟨fd_1, hnd_1, q5_1, q6_1, hds_1⟩ := id (hSh)
  have c_2 : E 0 5 = .inr (2, [.ref (ad 0 6), .int (nI nd)]) := q5_1
  have m_3 : (0, 5) ∈ RL := hmB 5 (by omega)
  have c_4 : E 0 6 = .inl (kA 4, 12, .inr (.inr (.inr (.inr fd_1)))) := q6_1
  have m_5 : (0, 6) ∈ RL := hmB 6 (by omega)
  refine lv_aload_n hx hb xd_Sh_latest_0 rfl (lv_at hl 0 rfl) ?_
  refine px_get (D := D) (ci := 2) (v := .int (nI nd)) (C := xR_Sh) (T := xT_Sh) (N := 2) hx hb hT xi_Sh hown hK.1 hP m_3 c_2 rfl 1 (by decide) (hT _ k5c_0) (fun _ h9 => h9) rfl xd_Sh_latest_1 ?_
  refine xz_ne (a := nd) (tgt := 11) hx hb xd_Sh_latest_4 (by decide) (by omega) (fun hc6 => ?_) (fun hc6 => ?_)
  · refine lv_aload_n hx hb xd_Sh_latest_11 rfl (lv_at hl 0 rfl) ?_
    refine px_get (D := D) (ci := 2) (v := .ref (ad 0 6)) (C := xR_Sh) (T := xT_Sh) (N := 2) hx hb hT xi_Sh hown hK.1 hP m_3 c_2 rfl 0 (by decide) (hT _ k5c_1) (fun _ h9 => h9) rfl xd_Sh_latest_12 ?_
    refine lv_aload_n hx hb xd_Sh_latest_15 rfl (lv_at hl 0 rfl) ?_
    refine px_get (D := D) (ci := 2) (v := .int (nI nd)) (C := xR_Sh) (T := xT_Sh) (N := 2) hx hb hT xi_Sh hown hK.1 hP m_3 c_2 rfl 1 (by decide) (hT _ k5c_0) (fun _ h9 => h9) rfl xd_Sh_latest_16 ?_
    refine lv_iconst (v := 1) hx hb xd_Sh_latest_19 (by decide) ?_
    refine lv_isub hx hb xd_Sh_latest_20 ?_
    refine xn_top (y := nI (nd - 1)) (pk_sub (a := nd) (b := 1) (by omega)) ?_
    refine px_aald (i := nd - 1) (x := (some (ad (1 + (nd - 1)) 0))) hx hb hK.1 hP m_5 c_4 4 rfl (hds_1 (nd - 1) (by omega)) (by omega) (by decide) xd_Sh_latest_21 ?_
    exact W.aret (v := .ref (ad (1 + (nd - 1)) 0)) hx hb hr (Or.inl ⟨_, rfl⟩) (Or.inr ⟨_, rfl⟩) (fun t ht hW => ⟨⟨(some (ad (1 + (nd - 1)) 0)), (), rfl, Or.inr ⟨by omega, rfl⟩, by rw [ht]; exact hP, hD⟩, hS.F ht⟩) hS.2.2 xd_Sh_latest_22
  · refine lv_null hx hb xd_Sh_latest_7 ?_
    refine lv_goto (tgt := 22) hx hb xd_Sh_latest_8 (by decide) ?_
    exact W.aret (v := .null) hx hb hr (Or.inl ⟨_, rfl⟩) (Or.inl rfl) (fun t ht hW => ⟨⟨none, (), rfl, Or.inl ⟨rfl, by omega⟩, by rw [ht]; exact hP, hD⟩, hS.F ht⟩) hS.2.2 xd_Sh_latest_22
set_option maxHeartbeats 4000000 in
set_option maxRecDepth 100000 in
theorem xc_Gr_hasRoomForX (l : Launch) (D : va_G) (kA : Nat → ClassId) (sz : Nat) (ad : Nat → Nat → Nat) (E : Nat → Nat → va_E) (RL : List (Nat × Nat)) (b : Nat) (g : Nat) (gn : Nat) (ga : Nat) (ta : Int32) (n : Nat) (f : Nat → Int32) (nm : Int32) (ym0 : (b, g) ∈ RL) (yc0 : E b g = .inr (9, [.ref (ad b gn), .int ta])) (ym1 : (b, gn) ∈ RL) (yc1 : E b gn = .inr (8, [.ref (ad b ga), .int (nI n)])) (ym2 : (b, ga) ∈ RL) (yc2 : E b ga = .inl (kA 0, 3, .inl f)) (hn3 : n ≤ 3) : Met l xy_Gr_hasRoomFor (.code xy_Gr_hasRoomFor xb_Gr_hasRoomFor 2 (some .boolean) :: wT) { frames := 2, cells := 0, slots := 0, locals := 43 } (va_Pc [.ref (ad b g), .int nm] (xPre D kA sz (rp ad E RL))) (va_Qi (fun (r : Int32) (u : Unit) => (r = 1 ∧ (nm = 0 ∨ COV ta n f nm ∨ n < 3)) ∨ (r = 0 ∧ ¬ nm = 0 ∧ ¬ COV ta n f nm ∧ 3 ≤ n)) (fun (u : Unit) t => va_P D xcl (rp ad E RL) t.heap ∧ va_D (va_A (rp ad E RL) sz) (rp ad E RL)) (va_A (rp ad E RL) sz)) 0 0 (va_A (rp ad E RL) sz) := by
  refine Met.ofW (cc := xb_Gr_hasRoomFor) (maxL := 2) (ret := (some .boolean)) (by decide) rfl ?_
  intro p e s m args below meth c s₁ B hml hv
  obtain ⟨rfl, hsz, hP, hK, hD0⟩ := hv
  have hx := B.exec
  have hb := B.bytes
  have hr := B.returns
  have hT := x_hT B.pre
  have hown : s.vm.findClass xR_Gr = some m.cls := findClass_of_methodNamed B.named
  have hlocks := B.notSynchronized
  subst hsz
  have hD := hD0.self (sz := s.heap.size)
  generalize hAe : va_A (rp ad E RL) s.heap.size = A at hD ⊢
  have hA : ∀ q : Nat, s.heap.size ≤ q → A q := fun q h => by rw [← hAe]; exact Or.inr h
  have hS : va_S A s.heap s.heap [] := va_S.rf
  have hl := lv_entry ([.ref (ad b g), .int nm]) (n := 2) (Nat.le_of_ble_eq_true rfl)
  rw [lg_entry_eq]
  generalize (lg_sl ([.ref (ad b g), .int nm]) ++ List.replicate (2 - (lg_sl ([.ref (ad b g), .int nm])).length) Slot.unset).toArray = ls at hl ⊢
  have hl : lv_has ls 2 [(0, .ref (ad b g)), (1, .int nm)] := hl
  have hP : va_P D xcl (rp ad E RL) s.heap := hP
  refine lv_iload_n hx hb xd_Gr_hasRoomFor_0 rfl (lv_at hl 1 rfl) ?_
  refine lv_if_eq (tgt := 22) hx hb xd_Gr_hasRoomFor_1 (by decide) (fun hc1 => ?_) (fun hc1 => ?_)
  · refine lv_iconst (v := 1) hx hb xd_Gr_hasRoomFor_22 (by decide) ?_
    refine lv_goto (tgt := 27) hx hb xd_Gr_hasRoomFor_23 (by decide) ?_
    exact W.zret (v := 1) hx hb hr rfl (fun t ht hW => ⟨⟨1, (), rfl, Or.inl ⟨rfl, Or.inl hc1⟩, by rw [ht]; exact hP, hD⟩, hS.F ht⟩) hS.2.2 xd_Gr_hasRoomFor_27
  · refine lv_aload_n hx hb xd_Gr_hasRoomFor_4 rfl (lv_at hl 0 rfl) ?_
    refine lv_iload_n hx hb xd_Gr_hasRoomFor_5 rfl (lv_at hl 1 rfl) ?_
    have hFc := px_free hD hS hA
    refine va_calli (va_runV (As := [.int nm]) (rest := []) ⟨hx, hb, hml, hown, hT⟩ (xc_Gr_covers l D kA s.heap.size ad E RL b g gn ga ta n f nm ym0 yc0 ym1 yc1 ym2 yc2 (by first | assumption | omega)) (cwV 1 hT (wT_V k5c_5 k5c_6 k5c_7 k5c_8 k5c_4) rfl rfl rfl (by decide +kernel) ⟨Nat.le_of_ble_eq_true rfl, Nat.le_of_ble_eq_true rfl⟩) (px_preV hK hP hD ym0 yc0 rfl) rfl rfl hl.1 rfl (lv_room (Nat.le_of_ble_eq_true rfl)) xd_Gr_hasRoomFor_6 ⟨(Nat.le_of_ble_eq_true rfl), (Nat.le_of_ble_eq_true rfl)⟩) hS (fun q _ h => hFc q h) hFc (fun r2 u3 t H1 locs ht hvm hp4 hB hz1 hk1 hS => ?_)
    obtain ⟨hP1, hD1⟩ := hB
    rw [ht] at hP1
    have hD1 := hD1.weaken (fun _ _ _ h => hFc _ h)
    generalize H1 = H at hP1 hS ⊢
    have hP := hP1
    have hD := hD1
    have hP : va_P D xcl (rp ad E RL) H := hP
    have hD : va_D A (rp ad E RL) := hD
    rcases hp4 with ⟨rfl, z5⟩ | ⟨rfl, z6, z7⟩
    · refine W.eq (g2 := F0 m 9 ls [.int 1]) rfl ?_
      refine lv_if_ne (tgt := 22) hx hb xd_Gr_hasRoomFor_9 (by decide) (fun _ => ?_) (fun hc8 => absurd hc8 (by decide))
      refine lv_iconst (v := 1) hx hb xd_Gr_hasRoomFor_22 (by decide) ?_
      refine lv_goto (tgt := 27) hx hb xd_Gr_hasRoomFor_23 (by decide) ?_
      exact W.zret (v := 1) hx hb hr rfl (fun t ht hW => ⟨⟨1, (), rfl, Or.inl ⟨rfl, Or.inr (Or.inl z5)⟩, by rw [ht]; exact hP, hD⟩, hS.F ht⟩) hS.2.2 xd_Gr_hasRoomFor_27
    · refine W.eq (g2 := F0 m 9 ls [.int 0]) rfl ?_
      refine lv_if_ne (tgt := 22) hx hb xd_Gr_hasRoomFor_9 (by decide) (fun hc9 => absurd (by decide) hc9) (fun _ => ?_)
      refine lv_aload_n hx hb xd_Gr_hasRoomFor_12 rfl (lv_at hl 0 rfl) ?_
      refine px_get (D := D) (ci := 9) (v := .ref (ad b gn)) (C := xR_Gr) (T := xT_Gr) (N := 2) hx hb hT xi_Gr hown hK.1 hP ym0 yc0 rfl 0 (by decide) (hT _ k5c_9) (fun _ h9 => h9) rfl xd_Gr_hasRoomFor_13 ?_
      have hFc := px_free hD hS hA
      refine va_calli (va_runV (As := []) (rest := []) ⟨hx, hb, hml, hown, hT⟩ (xc_Na_isFull l D kA H.size ad E RL b gn ga 3 n f ym1 yc1 ym2 yc2 (by first | assumption | omega) (by first | assumption | omega)) (cwV 0 hT (wT_V k5c_11 k5c_12 k5c_13 k5c_14 k5c_10) rfl rfl rfl (by decide +kernel) ⟨Nat.le_of_ble_eq_true rfl, Nat.le_of_ble_eq_true rfl⟩) (px_preV hK hP hD ym1 yc1 rfl) rfl rfl hl.1 rfl (lv_room (Nat.le_of_ble_eq_true rfl)) xd_Gr_hasRoomFor_16 ⟨(Nat.le_of_ble_eq_true rfl), (Nat.le_of_ble_eq_true rfl)⟩) hS (fun q _ h => hFc q h) hFc (fun r10 u11 t H1 locs ht hvm hp12 hB hz1 hk1 hS => ?_)
      obtain ⟨hP1, hD1⟩ := hB
      rw [ht] at hP1
      have hD1 := hD1.weaken (fun _ _ _ h => hFc _ h)
      generalize H1 = H at hP1 hS ⊢
      have hP := hP1
      have hD := hD1
      have hP : va_P D xcl (rp ad E RL) H := hP
      have hD : va_D A (rp ad E RL) := hD
      rcases hp12 with ⟨rfl, z13⟩ | ⟨rfl, z14⟩
      · refine W.eq (g2 := F0 m 19 ls [.int 1]) rfl ?_
        refine lv_if_ne (tgt := 26) hx hb xd_Gr_hasRoomFor_19 (by decide) (fun _ => ?_) (fun hc15 => absurd hc15 (by decide))
        refine lv_iconst (v := 0) hx hb xd_Gr_hasRoomFor_26 (by decide) ?_
        exact W.zret (v := 0) hx hb hr rfl (fun t ht hW => ⟨⟨0, (), rfl, Or.inr ⟨rfl, hc1, (fun q => q.elim (fun z => z z6) (fun ⟨k9, q1, q2⟩ => z7 k9 q1 q2)), z13⟩, by rw [ht]; exact hP, hD⟩, hS.F ht⟩) hS.2.2 xd_Gr_hasRoomFor_27
      · refine W.eq (g2 := F0 m 19 ls [.int 0]) rfl ?_
        refine lv_if_ne (tgt := 26) hx hb xd_Gr_hasRoomFor_19 (by decide) (fun hc16 => absurd (by decide) hc16) (fun _ => ?_)
        refine lv_iconst (v := 1) hx hb xd_Gr_hasRoomFor_22 (by decide) ?_
        refine lv_goto (tgt := 27) hx hb xd_Gr_hasRoomFor_23 (by decide) ?_
        exact W.zret (v := 1) hx hb hr rfl (fun t ht hW => ⟨⟨1, (), rfl, Or.inl ⟨rfl, Or.inr (Or.inr z14)⟩, by rw [ht]; exact hP, hD⟩, hS.F ht⟩) hS.2.2 xd_Gr_hasRoomFor_27
set_option maxHeartbeats 4000000 in
set_option maxRecDepth 100000 in
theorem xc_Gr_extendToX (l : Launch) (D : va_G) (kA : Nat → ClassId) (sz : Nat) (ad : Nat → Nat → Nat) (E : Nat → Nat → va_E) (RL : List (Nat × Nat)) (b : Nat) (g : Nat) (gn : Nat) (ga : Nat) (ta : Int32) (n : Nat) (f : Nat → Int32) (nm : Int32) (ym0 : (b, g) ∈ RL) (yc0 : E b g = .inr (9, [.ref (ad b gn), .int ta])) (ym1 : (b, gn) ∈ RL) (yc1 : E b gn = .inr (8, [.ref (ad b ga), .int (nI n)])) (ym2 : (b, ga) ∈ RL) (yc2 : E b ga = .inl (kA 0, 3, .inl f)) (hn3 : n ≤ 3) (hgd : g ≠ gn ∧ gn ≠ ga ∧ g ≠ ga) : Met l xy_Gr_extendTo (.code xy_Gr_extendTo xb_Gr_extendTo 2 none :: wT) { frames := 2, cells := 0, slots := 0, locals := 43 } (va_Pc [.ref (ad b g), .int nm] (xPre D kA sz (rp ad E RL))) (va_Qv (fun (u : Nat → Nat → va_E) => ∃ ta2 : Int32, ∃ n2 : Nat, ∃ f2 : Nat → Int32, (n2 ≤ 3 ∧ ((nm = 0 ∧ ta2 = 1 ∧ n2 = n ∧ f2 = f) ∨ (¬ nm = 0 ∧ COV ta n f nm ∧ ta2 = ta ∧ n2 = n ∧ f2 = f) ∨ (¬ nm = 0 ∧ ¬ COV ta n f nm ∧ ta2 = ta ∧ ((n < 3 ∧ n2 = n + 1 ∧ f2 = upd f n nm) ∨ (3 ≤ n ∧ n2 = n ∧ f2 = f))))) ∧ (u b g = .inr (9, [.ref (ad b gn), .int ta2])) ∧ (u b gn = .inr (8, [.ref (ad b ga), .int (nI n2)])) ∧ (u b ga = .inl (kA 0, 3, .inl f2)) ∧ ((∀ b2 o2, ¬ (b2 = b ∧ o2 = g) → ¬ (b2 = b ∧ o2 = gn) → ¬ (b2 = b ∧ o2 = ga) → u b2 o2 = E b2 o2))) (fun (u : Nat → Nat → va_E) t => va_P D xcl (rp ad u RL) t.heap ∧ va_D (va_A (rp ad E RL) sz) (rp ad u RL)) (va_A (rp ad E RL) sz)) 0 0 (va_A (rp ad E RL) sz) := by
  refine Met.ofW (cc := xb_Gr_extendTo) (maxL := 2) (ret := none) (by decide) rfl ?_
  intro p e s m args below meth c s₁ B hml hv
  obtain ⟨rfl, hsz, hP, hK, hD0⟩ := hv
  have hx := B.exec
  have hb := B.bytes
  have hr := B.returns
  have hT := x_hT B.pre
  have hown : s.vm.findClass xR_Gr = some m.cls := findClass_of_methodNamed B.named
  have hlocks := B.notSynchronized
  subst hsz
  have hD := hD0.self (sz := s.heap.size)
  generalize hAe : va_A (rp ad E RL) s.heap.size = A at hD ⊢
  have hA : ∀ q : Nat, s.heap.size ≤ q → A q := fun q h => by rw [← hAe]; exact Or.inr h
  have hS : va_S A s.heap s.heap [] := va_S.rf
  have hl := lv_entry ([.ref (ad b g), .int nm]) (n := 2) (Nat.le_of_ble_eq_true rfl)
  rw [lg_entry_eq]
  generalize (lg_sl ([.ref (ad b g), .int nm]) ++ List.replicate (2 - (lg_sl ([.ref (ad b g), .int nm])).length) Slot.unset).toArray = ls at hl ⊢
  have hl : lv_has ls 2 [(0, .ref (ad b g)), (1, .int nm)] := hl
  have hP : va_P D xcl (rp ad E RL) s.heap := hP
  refine lv_iload_n hx hb xd_Gr_extendTo_0 rfl (lv_at hl 1 rfl) ?_
  refine lv_if_ne (tgt := 12) hx hb xd_Gr_extendTo_1 (by decide) (fun hc1 => ?_) (fun hc1 => ?_)
  · refine lv_aload_n hx hb xd_Gr_extendTo_12 rfl (lv_at hl 0 rfl) ?_
    refine lv_iload_n hx hb xd_Gr_extendTo_13 rfl (lv_at hl 1 rfl) ?_
    have hFc := px_free hD hS hA
    refine va_calli (va_runV (As := [.int nm]) (rest := []) ⟨hx, hb, hml, hown, hT⟩ (xc_Gr_covers l D kA s.heap.size ad E RL b g gn ga ta n f nm ym0 yc0 ym1 yc1 ym2 yc2 (by first | assumption | omega)) (cwV 1 hT (wT_V k5c_5 k5c_6 k5c_7 k5c_8 k5c_4) rfl rfl rfl (by decide +kernel) ⟨Nat.le_of_ble_eq_true rfl, Nat.le_of_ble_eq_true rfl⟩) (px_preV hK hP hD ym0 yc0 rfl) rfl rfl hl.1 rfl (lv_room (Nat.le_of_ble_eq_true rfl)) xd_Gr_extendTo_14 ⟨(Nat.le_of_ble_eq_true rfl), (Nat.le_of_ble_eq_true rfl)⟩) hS (fun q _ h => hFc q h) hFc (fun r2 u3 t H1 locs ht hvm hp4 hB hz1 hk1 hS => ?_)
    obtain ⟨hP1, hD1⟩ := hB
    rw [ht] at hP1
    have hD1 := hD1.weaken (fun _ _ _ h => hFc _ h)
    generalize H1 = H at hP1 hS ⊢
    have hP := hP1
    have hD := hD1
    have hP : va_P D xcl (rp ad E RL) H := hP
    have hD : va_D A (rp ad E RL) := hD
    rcases hp4 with ⟨rfl, z5⟩ | ⟨rfl, z6, z7⟩
    · refine W.eq (g2 := F0 m 17 ls [.int 1]) rfl ?_
      refine lv_if_ne (tgt := 28) hx hb xd_Gr_extendTo_17 (by decide) (fun _ => ?_) (fun hc8 => absurd hc8 (by decide))
      exact W.vret hx hb hr (fun t ht hW => ⟨⟨E, rfl, ⟨ta, n, f, ⟨by omega, Or.inr (Or.inl ⟨hc1, z5, rfl, rfl, rfl⟩)⟩, yc0, yc1, yc2, (fun b2 o2 h09 h19 h29 => rfl)⟩, by rw [ht]; exact hP, hD⟩, hS.F ht⟩) hS.2.2 xd_Gr_extendTo_28
    · refine W.eq (g2 := F0 m 17 ls [.int 0]) rfl ?_
      refine lv_if_ne (tgt := 28) hx hb xd_Gr_extendTo_17 (by decide) (fun hc9 => absurd (by decide) hc9) (fun _ => ?_)
      refine lv_aload_n hx hb xd_Gr_extendTo_20 rfl (lv_at hl 0 rfl) ?_
      refine px_get (D := D) (ci := 9) (v := .ref (ad b gn)) (C := xR_Gr) (T := xT_Gr) (N := 2) hx hb hT xi_Gr hown hK.1 hP ym0 yc0 rfl 0 (by decide) (hT _ k5c_9) (fun _ h9 => h9) rfl xd_Gr_extendTo_21 ?_
      refine lv_iload_n hx hb xd_Gr_extendTo_24 rfl (lv_at hl 1 rfl) ?_
      have hFc := px_free hD hS hA
      refine va_callv (va_runV (As := [.int nm]) (rest := []) ⟨hx, hb, hml, hown, hT⟩ (xc_Na_append l D kA H.size ad E RL b gn ga 3 n f nm ym1 yc1 ym2 yc2 (by first | assumption | omega) (by first | assumption | omega) (by first | assumption | omega)) (cwV 1 hT (wT_V k5c_16 k5c_17 k5c_18 k5c_14 k5c_15) rfl rfl rfl (by decide +kernel) ⟨Nat.le_of_ble_eq_true rfl, Nat.le_of_ble_eq_true rfl⟩) (px_preV hK hP hD ym1 yc1 rfl) rfl rfl hl.1 rfl (lv_room (Nat.le_of_ble_eq_true rfl)) xd_Gr_extendTo_25 ⟨(Nat.le_of_ble_eq_true rfl), (Nat.le_of_ble_eq_true rfl)⟩) hS (fun q _ h => hFc q h) hFc (fun u11 t H1 locs ht hvm hp12 hB hz1 hk1 hS => ?_)
      obtain ⟨hP1, hD1⟩ := hB
      rw [ht] at hP1
      have hD1 := hD1.weaken (fun _ _ _ h => hFc _ h)
      generalize H1 = H at hP1 hS ⊢
      have hP := hP1
      have hD := hD1
      obtain ⟨E13, rfl⟩ : ∃ z, z = u11 := ⟨_, rfl⟩
      obtain ⟨w14, w15, hp19, p_16, p_17, p_18⟩ := hp12
      have p_16 : E13 b gn = .inr (8, [.ref (ad b ga), .int (nI w14)]) := p_16
      have p_17 : E13 b ga = .inl (kA 0, 3, .inl w15) := p_17
      have p_18 : (∀ b2 o2, ¬ (b2 = b ∧ o2 = gn) → ¬ (b2 = b ∧ o2 = ga) → E13 b2 o2 = E b2 o2) := p_18
      have c_20 : E13 b g = .inr (9, [.ref (ad b gn), .int ta]) := (p_18 b g (by omega) (by omega)).trans yc0
      have hP : va_P D xcl (rp ad E13 RL) H := hP
      have hD : va_D A (rp ad E13 RL) := hD
      exact W.vret hx hb hr (fun t ht hW => ⟨⟨E13, rfl, ⟨ta, w14, w15, ⟨by omega, Or.inr (Or.inr ⟨hc1, (fun q => q.elim (fun z => z z6) (fun ⟨k9, q1, q2⟩ => z7 k9 q1 q2)), rfl, hp19.2⟩)⟩, c_20, p_16, p_17, (fun b2 o2 h09 h19 h29 => by show E13 b2 o2 = _; rw [p_18 b2 o2 (by omega) (by omega)])⟩, by rw [ht]; exact hP, hD⟩, hS.F ht⟩) hS.2.2 xd_Gr_extendTo_28
  · refine lv_aload_n hx hb xd_Gr_extendTo_4 rfl (lv_at hl 0 rfl) ?_
    refine lv_iconst (v := 1) hx hb xd_Gr_extendTo_5 (by decide) ?_
    refine px_put (D := D) (ci := 9) (v := .int 1) (ty := .boolean) (C := xR_Gr) (T := xT_Gr) (N := 2) hx hb hT xi_Gr xt_Gr xt_Gr_ok xn_Gr hown hK.1 hP hD hS ym0 yc0 rfl 1 (by decide) (hT _ k5c_19) (fun _ h9 => h9) rfl (by decide +kernel) rfl rfl (Nat.le_of_ble_eq_true rfl) xd_Gr_extendTo_6 (fun H locs hP hD hS => ?_)
    have hP : va_P D xcl (rp ad (up2 E b g (.inr (9, [.ref (ad b gn), .int 1]))) RL) H := hP
    have hD : va_D A (rp ad (up2 E b g (.inr (9, [.ref (ad b gn), .int 1]))) RL) := hD
    generalize hE22 : up2 E b g (.inr (9, [.ref (ad b gn), .int 1])) = E21 at hP hD
    have fE23 : ∀ b2 o2, ¬ (b2 = b ∧ o2 = g) → E21 b2 o2 = E b2 o2 := fun b2 o2 h9 => by rw [← hE22]; exact up2_ne (by omega)
    have c_24 : E21 b g = .inr (9, [.ref (ad b gn), .int 1]) := by rw [← hE22]; exact up2_eq
    have c_25 : E21 b gn = .inr (8, [.ref (ad b ga), .int (nI n)]) := (fE23 b gn (by omega)).trans yc1
    have c_26 : E21 b ga = .inl (kA 0, 3, .inl f) := (fE23 b ga (by omega)).trans yc2
    refine lv_goto (tgt := 28) hx hb xd_Gr_extendTo_9 (by decide) ?_
    exact W.vret hx hb hr (fun t ht hW => ⟨⟨E21, rfl, ⟨1, n, f, ⟨by omega, Or.inl ⟨hc1, rfl, rfl, rfl⟩⟩, c_24, c_25, c_26, (fun b2 o2 h09 h19 h29 => by show E21 b2 o2 = _; rw [fE23 b2 o2 (by omega)])⟩, by rw [ht]; exact hP, hD⟩, hS.F ht⟩) hS.2.2 xd_Gr_extendTo_28
set_option maxHeartbeats 4000000 in
set_option maxRecDepth 100000 in
theorem xc_Ds_exportOfX (l : Launch) (D : va_G) (kA : Nat → ClassId) (sz : Nat) (ad : Nat → Nat → Nat) (E : Nat → Nat → va_E) (RL : List (Nat × Nat)) (g : Nat → Nat → Int32) (nd : Nat) (d : Nat) (pn : Int32) (hDIs : DIs kA ad E RL nd) (hd : d < nd) (hTD : TDs g E nd) : Met l xy_Ds_exportOf (.code xy_Ds_exportOf xb_Ds_exportOf 3 (some (.object "LayerDesk$Grant")) :: wT) { frames := 1, cells := 0, slots := 0, locals := 22 } (va_Pc [.ref (ad (1 + d) 0), .int pn] (xPre D kA sz (rp ad E RL))) (va_Qq (fun (r : Option Nat) (u : Unit) => (r = none ∧ pI g d pn = none) ∨ ∃ i, i < 6 ∧ r = some (ad (1 + d) (20 + 3 * i)) ∧ GI kA (ad (1 + d)) (E (1 + d)) (fun o => (1 + d, o) ∈ RL) (20 + 3 * i) (21 + 3 * i) (22 + 3 * i) ∧ pI g d pn = some i) (fun (u : Unit) t => va_P D xcl (rp ad E RL) t.heap ∧ va_D (va_A (rp ad E RL) sz) (rp ad E RL)) (va_A (rp ad E RL) sz)) 0 0 (va_A (rp ad E RL) sz) := by
  refine Met.ofW (cc := xb_Ds_exportOf) (maxL := 3) (ret := (some (.object "LayerDesk$Grant"))) (by decide) rfl ?_
  intro p e s m args below meth c s₁ B hml hv
  obtain ⟨rfl, hsz, hP, hK, hD0⟩ := hv
  have hx := B.exec
  have hb := B.bytes
  have hr := B.returns
  have hT := x_hT B.pre
  have hown : s.vm.findClass xR_Ds = some m.cls := findClass_of_methodNamed B.named
  have hlocks := B.notSynchronized
  subst hsz
  have hD := hD0.self (sz := s.heap.size)
  generalize hAe : va_A (rp ad E RL) s.heap.size = A at hD ⊢
  have hA : ∀ q : Nat, s.heap.size ≤ q → A q := fun q h => by rw [← hAe]; exact Or.inr h
  have hS : va_S A s.heap s.heap [] := va_S.rf
  have hl := lv_entry ([.ref (ad (1 + d) 0), .int pn]) (n := 3) (Nat.le_of_ble_eq_true rfl)
  rw [lg_entry_eq]
  generalize (lg_sl ([.ref (ad (1 + d) 0), .int pn]) ++ List.replicate (3 - (lg_sl ([.ref (ad (1 + d) 0), .int pn])).length) Slot.unset).toArray = ls at hl ⊢
  have hl : lv_has ls 3 [(0, .ref (ad (1 + d) 0)), (1, .int pn)] := hl
  have hP : va_P D xcl (rp ad E RL) s.heap := hP
  refine lv_aload_n hx hb xd_Ds_exportOf_0 rfl (lv_at hl 0 rfl) ?_
  obtain ⟨hm_1, fd_1, nm_1, sd_1, k0_1, k1_1, k2_1, k3_1, f0_1, f1_1, f2_1, f3_1, fe_1, fo_1, tr_1, op_1, hk0_1, hk1_1, hk2_1, hk3_1, q0_1, q1_1, q2_1, q3_1, q4_1, q5_1, q6_1, q7_1, q8_1, q9_1, q10_1, q11_1, q12_1, hg_1⟩ := id (hDIs d (by omega))
  have c_2 : E (1 + d) 0 = .inr (7, [.int (nI d), .int fd_1, .int nm_1, .ref (ad (1 + d) 1), .ref (ad (1 + d) 9), .ref (ad (1 + d) 10), .ref (ad (1 + d) 2), .ref (ad (1 + d) 11), .ref (ad (1 + d) 12), .ref (ad (1 + d) 3), .ref (ad (1 + d) 4), .int sd_1]) := q0_1
  have m_3 : (1 + d, 0) ∈ RL := hm_1 0 (by omega)
  have c_4 : E (1 + d) 1 = .inr (8, [.ref (ad (1 + d) 5), .int (nI k0_1)]) := q1_1
  have m_5 : (1 + d, 1) ∈ RL := hm_1 1 (by omega)
  have c_6 : E (1 + d) 2 = .inr (8, [.ref (ad (1 + d) 6), .int (nI k1_1)]) := q2_1
  have m_7 : (1 + d, 2) ∈ RL := hm_1 2 (by omega)
  have c_8 : E (1 + d) 3 = .inr (8, [.ref (ad (1 + d) 7), .int (nI k2_1)]) := q3_1
  have m_9 : (1 + d, 3) ∈ RL := hm_1 3 (by omega)
  have c_10 : E (1 + d) 4 = .inr (8, [.ref (ad (1 + d) 8), .int (nI k3_1)]) := q4_1
  have m_11 : (1 + d, 4) ∈ RL := hm_1 4 (by omega)
  have c_12 : E (1 + d) 5 = .inl (kA 0, 6, .inl f0_1) := q5_1
  have m_13 : (1 + d, 5) ∈ RL := hm_1 5 (by omega)
  have c_14 : E (1 + d) 6 = .inl (kA 0, 5, .inl f1_1) := q6_1
  have m_15 : (1 + d, 6) ∈ RL := hm_1 6 (by omega)
  have c_16 : E (1 + d) 7 = .inl (kA 0, 3, .inl f2_1) := q7_1
  have m_17 : (1 + d, 7) ∈ RL := hm_1 7 (by omega)
  have c_18 : E (1 + d) 8 = .inl (kA 0, 3, .inl f3_1) := q8_1
  have m_19 : (1 + d, 8) ∈ RL := hm_1 8 (by omega)
  have c_20 : E (1 + d) 9 = .inl (kA 8, 6, .inr (.inr (.inr (.inr fe_1)))) := q9_1
  have m_21 : (1 + d, 9) ∈ RL := hm_1 9 (by omega)
  have c_22 : E (1 + d) 10 = .inl (kA 8, 6, .inr (.inr (.inr (.inr fo_1)))) := q10_1
  have m_23 : (1 + d, 10) ∈ RL := hm_1 10 (by omega)
  have c_24 : E (1 + d) 11 = .inl (kA 2, 5, .inl tr_1) := q11_1
  have m_25 : (1 + d, 11) ∈ RL := hm_1 11 (by omega)
  have c_26 : E (1 + d) 12 = .inl (kA 2, 5, .inl op_1) := q12_1
  have m_27 : (1 + d, 12) ∈ RL := hm_1 12 (by omega)
  have hg_1 : ∀ w9, w9 < k0_1 → fe_1 w9 = some (ad (1 + d) (20 + 3 * w9)) ∧ fo_1 w9 = some (ad (1 + d) (38 + 3 * w9)) ∧ GI kA (ad (1 + d)) (E (1 + d)) (fun o => (1 + d, o) ∈ RL) (20 + 3 * w9) (21 + 3 * w9) (22 + 3 * w9) ∧ GI kA (ad (1 + d)) (E (1 + d)) (fun o => (1 + d, o) ∈ RL) (38 + 3 * w9) (39 + 3 * w9) (40 + 3 * w9) := hg_1
  obtain ⟨⟨tfd_1, tnm_1, tsd_1, tk0_1, tf0_1, tk1_1, tf1_1, tk2_1, tk3_1⟩, tgr_1⟩ := TD_get hk0_1 hk1_1 hk2_1 hk3_1 c_2 c_4 c_6 c_8 c_10 c_12 c_14 c_16 c_18 c_24 c_26 (hTD d (by omega))
  refine px_get (D := D) (ci := 7) (v := .ref (ad (1 + d) 1)) (C := xR_Ds) (T := xT_Ds) (N := 12) hx hb hT xi_Ds hown hK.1 hP m_3 c_2 rfl 3 (by decide) (hT _ k5c_20) (fun _ h9 => h9) rfl xd_Ds_exportOf_1 ?_
  refine lv_iload_n hx hb xd_Ds_exportOf_4 rfl (lv_at hl 1 rfl) ?_
  have hFc := px_free hD hS hA
  refine va_calli (va_runV (As := [.int pn]) (rest := []) ⟨hx, hb, hml, hown, hT⟩ (xc_Na_indexOf l D kA s.heap.size ad E RL (1 + d) 1 5 6 k0_1 f0_1 pn m_5 c_4 m_13 c_12 (by first | assumption | omega) (by first | assumption | omega)) (cwV 1 hT (wT_V k5c_22 k5c_23 k5c_24 k5c_14 k5c_21) rfl rfl rfl (by decide +kernel) ⟨Nat.le_of_ble_eq_true rfl, Nat.le_of_ble_eq_true rfl⟩) (px_preV hK hP hD m_5 c_4 rfl) rfl rfl hl.1 rfl (lv_room (Nat.le_of_ble_eq_true rfl)) xd_Ds_exportOf_5 ⟨(Nat.le_of_ble_eq_true rfl), (Nat.le_of_ble_eq_true rfl)⟩) hS (fun q _ h => hFc q h) hFc (fun r28 u29 t H1 locs ht hvm hp30 hB hz1 hk1 hS => ?_)
  obtain ⟨hP1, hD1⟩ := hB
  rw [ht] at hP1
  have hD1 := hD1.weaken (fun _ _ _ h => hFc _ h)
  generalize H1 = H at hP1 hS ⊢
  have hP := hP1
  have hD := hD1
  have hP : va_P D xcl (rp ad E RL) H := hP
  have hD : va_D A (rp ad E RL) := hD
  rcases hp30 with ⟨z31, z32, rfl, z33, z34⟩ | ⟨rfl, z35⟩
  · refine W.eq (g2 := F0 m 8 ls [.int (nI z31)]) rfl ?_
    refine lv_istore_n hx hb xd_Ds_exportOf_8 rfl hl (Nat.le_of_ble_eq_true rfl) rfl (fun ls hl => ?_)
    have hl : lv_has ls 3 [(2, .int (nI z31)), (0, .ref (ad (1 + d) 0)), (1, .int pn)] := hl
    refine lv_iload_n hx hb xd_Ds_exportOf_9 rfl (lv_at hl 0 rfl) ?_
    refine xz_ge (a := z31) (tgt := 17) hx hb xd_Ds_exportOf_10 (by decide) (by omega) ?_
    refine lv_aload_n hx hb xd_Ds_exportOf_17 rfl (lv_at hl 1 rfl) ?_
    refine px_get (D := D) (ci := 7) (v := .ref (ad (1 + d) 9)) (C := xR_Ds) (T := xT_Ds) (N := 12) hx hb hT xi_Ds hown hK.1 hP m_3 c_2 rfl 4 (by decide) (hT _ k5c_25) (fun _ h9 => h9) rfl xd_Ds_exportOf_18 ?_
    refine lv_iload_n hx hb xd_Ds_exportOf_21 rfl (lv_at hl 0 rfl) ?_
    refine px_aald (i := z31) (x := (some (ad (1 + d) (20 + 3 * z31)))) hx hb hK.1 hP m_21 c_20 8 rfl ((hg_1 z31 (by omega)).1) (by omega) (by decide) xd_Ds_exportOf_22 ?_
    exact W.aret (v := .ref (ad (1 + d) (20 + 3 * z31))) hx hb hr (Or.inl ⟨_, rfl⟩) (Or.inr ⟨_, rfl⟩) (fun t ht hW => ⟨⟨(some (ad (1 + d) (20 + 3 * z31))), (), rfl, Or.inr ⟨z31, by omega, rfl, (hg_1 z31 (by omega)).2.2.1, pI_y hk0_1 tk0_1 tf0_1 z32 z33 z34⟩, by rw [ht]; exact hP, hD⟩, hS.F ht⟩) hS.2.2 xd_Ds_exportOf_23
  · refine W.eq (g2 := F0 m 8 ls [.int (-1)]) rfl ?_
    refine lv_istore_n hx hb xd_Ds_exportOf_8 rfl hl (Nat.le_of_ble_eq_true rfl) rfl (fun ls hl => ?_)
    have hl : lv_has ls 3 [(2, .int (-1)), (0, .ref (ad (1 + d) 0)), (1, .int pn)] := hl
    refine lv_iload_n hx hb xd_Ds_exportOf_9 rfl (lv_at hl 0 rfl) ?_
    refine lv_if_ge (tgt := 17) hx hb xd_Ds_exportOf_10 (by decide) (fun hc37 => absurd hc37 (by decide)) (fun _ => ?_)
    refine lv_null hx hb xd_Ds_exportOf_13 ?_
    refine lv_goto (tgt := 23) hx hb xd_Ds_exportOf_14 (by decide) ?_
    exact W.aret (v := .null) hx hb hr (Or.inl ⟨_, rfl⟩) (Or.inl rfl) (fun t ht hW => ⟨⟨none, (), rfl, Or.inl ⟨rfl, pI_x hk0_1 tk0_1 tf0_1 z35⟩, by rw [ht]; exact hP, hD⟩, hS.F ht⟩) hS.2.2 xd_Ds_exportOf_23
set_option maxHeartbeats 4000000 in
set_option maxRecDepth 100000 in
theorem xc_Ds_openingOfX (l : Launch) (D : va_G) (kA : Nat → ClassId) (sz : Nat) (ad : Nat → Nat → Nat) (E : Nat → Nat → va_E) (RL : List (Nat × Nat)) (g : Nat → Nat → Int32) (nd : Nat) (d : Nat) (pn : Int32) (hDIs : DIs kA ad E RL nd) (hd : d < nd) (hTD : TDs g E nd) : Met l xy_Ds_openingOf (.code xy_Ds_openingOf xb_Ds_openingOf 3 (some (.object "LayerDesk$Grant")) :: wT) { frames := 1, cells := 0, slots := 0, locals := 22 } (va_Pc [.ref (ad (1 + d) 0), .int pn] (xPre D kA sz (rp ad E RL))) (va_Qq (fun (r : Option Nat) (u : Unit) => (r = none ∧ pI g d pn = none) ∨ ∃ i, i < 6 ∧ r = some (ad (1 + d) (38 + 3 * i)) ∧ GI kA (ad (1 + d)) (E (1 + d)) (fun o => (1 + d, o) ∈ RL) (38 + 3 * i) (39 + 3 * i) (40 + 3 * i) ∧ pI g d pn = some i) (fun (u : Unit) t => va_P D xcl (rp ad E RL) t.heap ∧ va_D (va_A (rp ad E RL) sz) (rp ad E RL)) (va_A (rp ad E RL) sz)) 0 0 (va_A (rp ad E RL) sz) := by
  refine Met.ofW (cc := xb_Ds_openingOf) (maxL := 3) (ret := (some (.object "LayerDesk$Grant"))) (by decide) rfl ?_
  intro p e s m args below meth c s₁ B hml hv
  obtain ⟨rfl, hsz, hP, hK, hD0⟩ := hv
  have hx := B.exec
  have hb := B.bytes
  have hr := B.returns
  have hT := x_hT B.pre
  have hown : s.vm.findClass xR_Ds = some m.cls := findClass_of_methodNamed B.named
  have hlocks := B.notSynchronized
  subst hsz
  have hD := hD0.self (sz := s.heap.size)
  generalize hAe : va_A (rp ad E RL) s.heap.size = A at hD ⊢
  have hA : ∀ q : Nat, s.heap.size ≤ q → A q := fun q h => by rw [← hAe]; exact Or.inr h
  have hS : va_S A s.heap s.heap [] := va_S.rf
  have hl := lv_entry ([.ref (ad (1 + d) 0), .int pn]) (n := 3) (Nat.le_of_ble_eq_true rfl)
  rw [lg_entry_eq]
  generalize (lg_sl ([.ref (ad (1 + d) 0), .int pn]) ++ List.replicate (3 - (lg_sl ([.ref (ad (1 + d) 0), .int pn])).length) Slot.unset).toArray = ls at hl ⊢
  have hl : lv_has ls 3 [(0, .ref (ad (1 + d) 0)), (1, .int pn)] := hl
  have hP : va_P D xcl (rp ad E RL) s.heap := hP
  refine lv_aload_n hx hb xd_Ds_openingOf_0 rfl (lv_at hl 0 rfl) ?_
  obtain ⟨hm_1, fd_1, nm_1, sd_1, k0_1, k1_1, k2_1, k3_1, f0_1, f1_1, f2_1, f3_1, fe_1, fo_1, tr_1, op_1, hk0_1, hk1_1, hk2_1, hk3_1, q0_1, q1_1, q2_1, q3_1, q4_1, q5_1, q6_1, q7_1, q8_1, q9_1, q10_1, q11_1, q12_1, hg_1⟩ := id (hDIs d (by omega))
  have c_2 : E (1 + d) 0 = .inr (7, [.int (nI d), .int fd_1, .int nm_1, .ref (ad (1 + d) 1), .ref (ad (1 + d) 9), .ref (ad (1 + d) 10), .ref (ad (1 + d) 2), .ref (ad (1 + d) 11), .ref (ad (1 + d) 12), .ref (ad (1 + d) 3), .ref (ad (1 + d) 4), .int sd_1]) := q0_1
  have m_3 : (1 + d, 0) ∈ RL := hm_1 0 (by omega)
  have c_4 : E (1 + d) 1 = .inr (8, [.ref (ad (1 + d) 5), .int (nI k0_1)]) := q1_1
  have m_5 : (1 + d, 1) ∈ RL := hm_1 1 (by omega)
  have c_6 : E (1 + d) 2 = .inr (8, [.ref (ad (1 + d) 6), .int (nI k1_1)]) := q2_1
  have m_7 : (1 + d, 2) ∈ RL := hm_1 2 (by omega)
  have c_8 : E (1 + d) 3 = .inr (8, [.ref (ad (1 + d) 7), .int (nI k2_1)]) := q3_1
  have m_9 : (1 + d, 3) ∈ RL := hm_1 3 (by omega)
  have c_10 : E (1 + d) 4 = .inr (8, [.ref (ad (1 + d) 8), .int (nI k3_1)]) := q4_1
  have m_11 : (1 + d, 4) ∈ RL := hm_1 4 (by omega)
  have c_12 : E (1 + d) 5 = .inl (kA 0, 6, .inl f0_1) := q5_1
  have m_13 : (1 + d, 5) ∈ RL := hm_1 5 (by omega)
  have c_14 : E (1 + d) 6 = .inl (kA 0, 5, .inl f1_1) := q6_1
  have m_15 : (1 + d, 6) ∈ RL := hm_1 6 (by omega)
  have c_16 : E (1 + d) 7 = .inl (kA 0, 3, .inl f2_1) := q7_1
  have m_17 : (1 + d, 7) ∈ RL := hm_1 7 (by omega)
  have c_18 : E (1 + d) 8 = .inl (kA 0, 3, .inl f3_1) := q8_1
  have m_19 : (1 + d, 8) ∈ RL := hm_1 8 (by omega)
  have c_20 : E (1 + d) 9 = .inl (kA 8, 6, .inr (.inr (.inr (.inr fe_1)))) := q9_1
  have m_21 : (1 + d, 9) ∈ RL := hm_1 9 (by omega)
  have c_22 : E (1 + d) 10 = .inl (kA 8, 6, .inr (.inr (.inr (.inr fo_1)))) := q10_1
  have m_23 : (1 + d, 10) ∈ RL := hm_1 10 (by omega)
  have c_24 : E (1 + d) 11 = .inl (kA 2, 5, .inl tr_1) := q11_1
  have m_25 : (1 + d, 11) ∈ RL := hm_1 11 (by omega)
  have c_26 : E (1 + d) 12 = .inl (kA 2, 5, .inl op_1) := q12_1
  have m_27 : (1 + d, 12) ∈ RL := hm_1 12 (by omega)
  have hg_1 : ∀ w9, w9 < k0_1 → fe_1 w9 = some (ad (1 + d) (20 + 3 * w9)) ∧ fo_1 w9 = some (ad (1 + d) (38 + 3 * w9)) ∧ GI kA (ad (1 + d)) (E (1 + d)) (fun o => (1 + d, o) ∈ RL) (20 + 3 * w9) (21 + 3 * w9) (22 + 3 * w9) ∧ GI kA (ad (1 + d)) (E (1 + d)) (fun o => (1 + d, o) ∈ RL) (38 + 3 * w9) (39 + 3 * w9) (40 + 3 * w9) := hg_1
  obtain ⟨⟨tfd_1, tnm_1, tsd_1, tk0_1, tf0_1, tk1_1, tf1_1, tk2_1, tk3_1⟩, tgr_1⟩ := TD_get hk0_1 hk1_1 hk2_1 hk3_1 c_2 c_4 c_6 c_8 c_10 c_12 c_14 c_16 c_18 c_24 c_26 (hTD d (by omega))
  refine px_get (D := D) (ci := 7) (v := .ref (ad (1 + d) 1)) (C := xR_Ds) (T := xT_Ds) (N := 12) hx hb hT xi_Ds hown hK.1 hP m_3 c_2 rfl 3 (by decide) (hT _ k5c_20) (fun _ h9 => h9) rfl xd_Ds_openingOf_1 ?_
  refine lv_iload_n hx hb xd_Ds_openingOf_4 rfl (lv_at hl 1 rfl) ?_
  have hFc := px_free hD hS hA
  refine va_calli (va_runV (As := [.int pn]) (rest := []) ⟨hx, hb, hml, hown, hT⟩ (xc_Na_indexOf l D kA s.heap.size ad E RL (1 + d) 1 5 6 k0_1 f0_1 pn m_5 c_4 m_13 c_12 (by first | assumption | omega) (by first | assumption | omega)) (cwV 1 hT (wT_V k5c_22 k5c_23 k5c_24 k5c_14 k5c_21) rfl rfl rfl (by decide +kernel) ⟨Nat.le_of_ble_eq_true rfl, Nat.le_of_ble_eq_true rfl⟩) (px_preV hK hP hD m_5 c_4 rfl) rfl rfl hl.1 rfl (lv_room (Nat.le_of_ble_eq_true rfl)) xd_Ds_openingOf_5 ⟨(Nat.le_of_ble_eq_true rfl), (Nat.le_of_ble_eq_true rfl)⟩) hS (fun q _ h => hFc q h) hFc (fun r28 u29 t H1 locs ht hvm hp30 hB hz1 hk1 hS => ?_)
  obtain ⟨hP1, hD1⟩ := hB
  rw [ht] at hP1
  have hD1 := hD1.weaken (fun _ _ _ h => hFc _ h)
  generalize H1 = H at hP1 hS ⊢
  have hP := hP1
  have hD := hD1
  have hP : va_P D xcl (rp ad E RL) H := hP
  have hD : va_D A (rp ad E RL) := hD
  rcases hp30 with ⟨z31, z32, rfl, z33, z34⟩ | ⟨rfl, z35⟩
  · refine W.eq (g2 := F0 m 8 ls [.int (nI z31)]) rfl ?_
    refine lv_istore_n hx hb xd_Ds_openingOf_8 rfl hl (Nat.le_of_ble_eq_true rfl) rfl (fun ls hl => ?_)
    have hl : lv_has ls 3 [(2, .int (nI z31)), (0, .ref (ad (1 + d) 0)), (1, .int pn)] := hl
    refine lv_iload_n hx hb xd_Ds_openingOf_9 rfl (lv_at hl 0 rfl) ?_
    refine xz_ge (a := z31) (tgt := 17) hx hb xd_Ds_openingOf_10 (by decide) (by omega) ?_
    refine lv_aload_n hx hb xd_Ds_openingOf_17 rfl (lv_at hl 1 rfl) ?_
    refine px_get (D := D) (ci := 7) (v := .ref (ad (1 + d) 10)) (C := xR_Ds) (T := xT_Ds) (N := 12) hx hb hT xi_Ds hown hK.1 hP m_3 c_2 rfl 5 (by decide) (hT _ k5c_26) (fun _ h9 => h9) rfl xd_Ds_openingOf_18 ?_
    refine lv_iload_n hx hb xd_Ds_openingOf_21 rfl (lv_at hl 0 rfl) ?_
    refine px_aald (i := z31) (x := (some (ad (1 + d) (38 + 3 * z31)))) hx hb hK.1 hP m_23 c_22 8 rfl ((hg_1 z31 (by omega)).2.1) (by omega) (by decide) xd_Ds_openingOf_22 ?_
    exact W.aret (v := .ref (ad (1 + d) (38 + 3 * z31))) hx hb hr (Or.inl ⟨_, rfl⟩) (Or.inr ⟨_, rfl⟩) (fun t ht hW => ⟨⟨(some (ad (1 + d) (38 + 3 * z31))), (), rfl, Or.inr ⟨z31, by omega, rfl, (hg_1 z31 (by omega)).2.2.2, pI_y hk0_1 tk0_1 tf0_1 z32 z33 z34⟩, by rw [ht]; exact hP, hD⟩, hS.F ht⟩) hS.2.2 xd_Ds_openingOf_23
  · refine W.eq (g2 := F0 m 8 ls [.int (-1)]) rfl ?_
    refine lv_istore_n hx hb xd_Ds_openingOf_8 rfl hl (Nat.le_of_ble_eq_true rfl) rfl (fun ls hl => ?_)
    have hl : lv_has ls 3 [(2, .int (-1)), (0, .ref (ad (1 + d) 0)), (1, .int pn)] := hl
    refine lv_iload_n hx hb xd_Ds_openingOf_9 rfl (lv_at hl 0 rfl) ?_
    refine lv_if_ge (tgt := 17) hx hb xd_Ds_openingOf_10 (by decide) (fun hc37 => absurd hc37 (by decide)) (fun _ => ?_)
    refine lv_null hx hb xd_Ds_openingOf_13 ?_
    refine lv_goto (tgt := 23) hx hb xd_Ds_openingOf_14 (by decide) ?_
    exact W.aret (v := .null) hx hb hr (Or.inl ⟨_, rfl⟩) (Or.inl rfl) (fun t ht hW => ⟨⟨none, (), rfl, Or.inl ⟨rfl, pI_x hk0_1 tk0_1 tf0_1 z35⟩, by rw [ht]; exact hP, hD⟩, hS.F ht⟩) hS.2.2 xd_Ds_openingOf_23
set_option maxHeartbeats 4000000 in
set_option maxRecDepth 100000 in
theorem xc_Ds_exportsToX (l : Launch) (D : va_G) (kA : Nat → ClassId) (sz : Nat) (ad : Nat → Nat → Nat) (E : Nat → Nat → va_E) (RL : List (Nat × Nat)) (g : Nat → Nat → Int32) (nd : Nat) (d : Nat) (pn : Int32) (rd : Int32) (hDIs : DIs kA ad E RL nd) (hd : d < nd) (hTD : TDs g E nd) (hrd0 : ¬ rd = 0) : Met l xy_Ds_exportsTo (.code xy_Ds_exportsTo xb_Ds_exportsTo 4 (some .boolean) :: wT) { frames := 2, cells := 0, slots := 0, locals := 43 } (va_Pc [.ref (ad (1 + d) 0), .int pn, .int rd] (xPre D kA sz (rp ad E RL))) (va_Qi (fun (r : Int32) (u : Unit) => (r = 1 ∧ (∃ i, pI g d pn = some i ∧ exP g (6 * d + i) rd)) ∨ (r = 0 ∧ ¬ (∃ i, pI g d pn = some i ∧ exP g (6 * d + i) rd))) (fun (u : Unit) t => va_P D xcl (rp ad E RL) t.heap ∧ va_D (va_A (rp ad E RL) sz) (rp ad E RL)) (va_A (rp ad E RL) sz)) 0 0 (va_A (rp ad E RL) sz) := by
  refine Met.ofW (cc := xb_Ds_exportsTo) (maxL := 4) (ret := (some .boolean)) (by decide) rfl ?_
  intro p e s m args below meth c s₁ B hml hv
  obtain ⟨rfl, hsz, hP, hK, hD0⟩ := hv
  have hx := B.exec
  have hb := B.bytes
  have hr := B.returns
  have hT := x_hT B.pre
  have hown : s.vm.findClass xR_Ds = some m.cls := findClass_of_methodNamed B.named
  have hlocks := B.notSynchronized
  subst hsz
  have hD := hD0.self (sz := s.heap.size)
  generalize hAe : va_A (rp ad E RL) s.heap.size = A at hD ⊢
  have hA : ∀ q : Nat, s.heap.size ≤ q → A q := fun q h => by rw [← hAe]; exact Or.inr h
  have hS : va_S A s.heap s.heap [] := va_S.rf
  have hl := lv_entry ([.ref (ad (1 + d) 0), .int pn, .int rd]) (n := 4) (Nat.le_of_ble_eq_true rfl)
  rw [lg_entry_eq]
  generalize (lg_sl ([.ref (ad (1 + d) 0), .int pn, .int rd]) ++ List.replicate (4 - (lg_sl ([.ref (ad (1 + d) 0), .int pn, .int rd])).length) Slot.unset).toArray = ls at hl ⊢
  have hl : lv_has ls 4 [(0, .ref (ad (1 + d) 0)), (1, .int pn), (2, .int rd)] := hl
  have hP : va_P D xcl (rp ad E RL) s.heap := hP
  refine lv_aload_n hx hb xd_Ds_exportsTo_0 rfl (lv_at hl 0 rfl) ?_
  obtain ⟨hm_1, fd_1, nm_1, sd_1, k0_1, k1_1, k2_1, k3_1, f0_1, f1_1, f2_1, f3_1, fe_1, fo_1, tr_1, op_1, hk0_1, hk1_1, hk2_1, hk3_1, q0_1, q1_1, q2_1, q3_1, q4_1, q5_1, q6_1, q7_1, q8_1, q9_1, q10_1, q11_1, q12_1, hg_1⟩ := id (hDIs d (by omega))
  have c_2 : E (1 + d) 0 = .inr (7, [.int (nI d), .int fd_1, .int nm_1, .ref (ad (1 + d) 1), .ref (ad (1 + d) 9), .ref (ad (1 + d) 10), .ref (ad (1 + d) 2), .ref (ad (1 + d) 11), .ref (ad (1 + d) 12), .ref (ad (1 + d) 3), .ref (ad (1 + d) 4), .int sd_1]) := q0_1
  have m_3 : (1 + d, 0) ∈ RL := hm_1 0 (by omega)
  have c_4 : E (1 + d) 1 = .inr (8, [.ref (ad (1 + d) 5), .int (nI k0_1)]) := q1_1
  have m_5 : (1 + d, 1) ∈ RL := hm_1 1 (by omega)
  have c_6 : E (1 + d) 2 = .inr (8, [.ref (ad (1 + d) 6), .int (nI k1_1)]) := q2_1
  have m_7 : (1 + d, 2) ∈ RL := hm_1 2 (by omega)
  have c_8 : E (1 + d) 3 = .inr (8, [.ref (ad (1 + d) 7), .int (nI k2_1)]) := q3_1
  have m_9 : (1 + d, 3) ∈ RL := hm_1 3 (by omega)
  have c_10 : E (1 + d) 4 = .inr (8, [.ref (ad (1 + d) 8), .int (nI k3_1)]) := q4_1
  have m_11 : (1 + d, 4) ∈ RL := hm_1 4 (by omega)
  have c_12 : E (1 + d) 5 = .inl (kA 0, 6, .inl f0_1) := q5_1
  have m_13 : (1 + d, 5) ∈ RL := hm_1 5 (by omega)
  have c_14 : E (1 + d) 6 = .inl (kA 0, 5, .inl f1_1) := q6_1
  have m_15 : (1 + d, 6) ∈ RL := hm_1 6 (by omega)
  have c_16 : E (1 + d) 7 = .inl (kA 0, 3, .inl f2_1) := q7_1
  have m_17 : (1 + d, 7) ∈ RL := hm_1 7 (by omega)
  have c_18 : E (1 + d) 8 = .inl (kA 0, 3, .inl f3_1) := q8_1
  have m_19 : (1 + d, 8) ∈ RL := hm_1 8 (by omega)
  have c_20 : E (1 + d) 9 = .inl (kA 8, 6, .inr (.inr (.inr (.inr fe_1)))) := q9_1
  have m_21 : (1 + d, 9) ∈ RL := hm_1 9 (by omega)
  have c_22 : E (1 + d) 10 = .inl (kA 8, 6, .inr (.inr (.inr (.inr fo_1)))) := q10_1
  have m_23 : (1 + d, 10) ∈ RL := hm_1 10 (by omega)
  have c_24 : E (1 + d) 11 = .inl (kA 2, 5, .inl tr_1) := q11_1
  have m_25 : (1 + d, 11) ∈ RL := hm_1 11 (by omega)
  have c_26 : E (1 + d) 12 = .inl (kA 2, 5, .inl op_1) := q12_1
  have m_27 : (1 + d, 12) ∈ RL := hm_1 12 (by omega)
  have hg_1 : ∀ w9, w9 < k0_1 → fe_1 w9 = some (ad (1 + d) (20 + 3 * w9)) ∧ fo_1 w9 = some (ad (1 + d) (38 + 3 * w9)) ∧ GI kA (ad (1 + d)) (E (1 + d)) (fun o => (1 + d, o) ∈ RL) (20 + 3 * w9) (21 + 3 * w9) (22 + 3 * w9) ∧ GI kA (ad (1 + d)) (E (1 + d)) (fun o => (1 + d, o) ∈ RL) (38 + 3 * w9) (39 + 3 * w9) (40 + 3 * w9) := hg_1
  obtain ⟨⟨tfd_1, tnm_1, tsd_1, tk0_1, tf0_1, tk1_1, tf1_1, tk2_1, tk3_1⟩, tgr_1⟩ := TD_get hk0_1 hk1_1 hk2_1 hk3_1 c_2 c_4 c_6 c_8 c_10 c_12 c_14 c_16 c_18 c_24 c_26 (hTD d (by omega))
  refine px_get (D := D) (ci := 7) (v := .ref (ad (1 + d) 1)) (C := xR_Ds) (T := xT_Ds) (N := 12) hx hb hT xi_Ds hown hK.1 hP m_3 c_2 rfl 3 (by decide) (hT _ k5c_20) (fun _ h9 => h9) rfl xd_Ds_exportsTo_1 ?_
  refine lv_iload_n hx hb xd_Ds_exportsTo_4 rfl (lv_at hl 1 rfl) ?_
  have hFc := px_free hD hS hA
  refine va_calli (va_runV (As := [.int pn]) (rest := []) ⟨hx, hb, hml, hown, hT⟩ (xc_Na_indexOf l D kA s.heap.size ad E RL (1 + d) 1 5 6 k0_1 f0_1 pn m_5 c_4 m_13 c_12 (by first | assumption | omega) (by first | assumption | omega)) (cwV 1 hT (wT_V k5c_22 k5c_23 k5c_24 k5c_14 k5c_21) rfl rfl rfl (by decide +kernel) ⟨Nat.le_of_ble_eq_true rfl, Nat.le_of_ble_eq_true rfl⟩) (px_preV hK hP hD m_5 c_4 rfl) rfl rfl hl.1 rfl (lv_room (Nat.le_of_ble_eq_true rfl)) xd_Ds_exportsTo_5 ⟨(Nat.le_of_ble_eq_true rfl), (Nat.le_of_ble_eq_true rfl)⟩) hS (fun q _ h => hFc q h) hFc (fun r28 u29 t H1 locs ht hvm hp30 hB hz1 hk1 hS => ?_)
  obtain ⟨hP1, hD1⟩ := hB
  rw [ht] at hP1
  have hD1 := hD1.weaken (fun _ _ _ h => hFc _ h)
  generalize H1 = H at hP1 hS ⊢
  have hP := hP1
  have hD := hD1
  have hP : va_P D xcl (rp ad E RL) H := hP
  have hD : va_D A (rp ad E RL) := hD
  rcases hp30 with ⟨z31, z32, rfl, z33, z34⟩ | ⟨rfl, z35⟩
  · refine W.eq (g2 := F0 m 8 ls [.int (nI z31)]) rfl ?_
    refine lv_istore_n hx hb xd_Ds_exportsTo_8 rfl hl (Nat.le_of_ble_eq_true rfl) rfl (fun ls hl => ?_)
    have hl : lv_has ls 4 [(3, .int (nI z31)), (0, .ref (ad (1 + d) 0)), (1, .int pn), (2, .int rd)] := hl
    refine lv_iload_n hx hb xd_Ds_exportsTo_9 rfl (lv_at hl 0 rfl) ?_
    refine xz_lt (a := z31) (tgt := 30) hx hb xd_Ds_exportsTo_10 (by decide) (by omega) ?_
    refine lv_aload_n hx hb xd_Ds_exportsTo_13 rfl (lv_at hl 1 rfl) ?_
    refine px_get (D := D) (ci := 7) (v := .ref (ad (1 + d) 9)) (C := xR_Ds) (T := xT_Ds) (N := 12) hx hb hT xi_Ds hown hK.1 hP m_3 c_2 rfl 4 (by decide) (hT _ k5c_25) (fun _ h9 => h9) rfl xd_Ds_exportsTo_14 ?_
    refine lv_iload_n hx hb xd_Ds_exportsTo_17 rfl (lv_at hl 0 rfl) ?_
    refine px_aald (i := z31) (x := (some (ad (1 + d) (20 + 3 * z31)))) hx hb hK.1 hP m_21 c_20 8 rfl ((hg_1 z31 (by omega)).1) (by omega) (by decide) xd_Ds_exportsTo_18 ?_
    refine lv_iload_n hx hb xd_Ds_exportsTo_19 rfl (lv_at hl 3 rfl) ?_
    obtain ⟨m0_37, m1_37, m2_37, ta_37, n_37, f_37, hn_37, q0_37, q1_37, q2_37⟩ := (hg_1 z31 (by omega)).2.2.1
    have c_38 : E (1 + d) (20 + 3 * z31) = .inr (9, [.ref (ad (1 + d) (21 + 3 * z31)), .int ta_37]) := q0_37
    have m_39 : (1 + d, 20 + 3 * z31) ∈ RL := m0_37
    have c_40 : E (1 + d) (21 + 3 * z31) = .inr (8, [.ref (ad (1 + d) (22 + 3 * z31)), .int (nI n_37)]) := q1_37
    have m_41 : (1 + d, 21 + 3 * z31) ∈ RL := m1_37
    have c_42 : E (1 + d) (22 + 3 * z31) = .inl (kA 0, 3, .inl f_37) := q2_37
    have m_43 : (1 + d, 22 + 3 * z31) ∈ RL := m2_37
    have hFc := px_free hD hS hA
    refine va_calli (va_runV (As := [.int rd]) (rest := []) ⟨hx, hb, hml, hown, hT⟩ (xc_Gr_covers l D kA H.size ad E RL (1 + d) (20 + 3 * z31) (21 + 3 * z31) (22 + 3 * z31) ta_37 n_37 f_37 rd m_39 c_38 m_41 c_40 m_43 c_42 (by first | assumption | omega)) (cwV 1 hT (wT_V k5c_27 k5c_6 k5c_7 k5c_8 k5c_4) rfl rfl rfl (by decide +kernel) ⟨Nat.le_of_ble_eq_true rfl, Nat.le_of_ble_eq_true rfl⟩) (px_preV hK hP hD m_39 c_38 rfl) rfl rfl hl.1 rfl (lv_room (Nat.le_of_ble_eq_true rfl)) xd_Ds_exportsTo_20 ⟨(Nat.le_of_ble_eq_true rfl), (Nat.le_of_ble_eq_true rfl)⟩) hS (fun q _ h => hFc q h) hFc (fun r44 u45 t H1 locs ht hvm hp46 hB hz1 hk1 hS => ?_)
    obtain ⟨hP1, hD1⟩ := hB
    rw [ht] at hP1
    have hD1 := hD1.weaken (fun _ _ _ h => hFc _ h)
    generalize H1 = H at hP1 hS ⊢
    have hP := hP1
    have hD := hD1
    have hP : va_P D xcl (rp ad E RL) H := hP
    have hD : va_D A (rp ad E RL) := hD
    rcases hp46 with ⟨rfl, z47⟩ | ⟨rfl, z48, z49⟩
    · refine W.eq (g2 := F0 m 23 ls [.int 1]) rfl ?_
      refine lv_if_eq (tgt := 30) hx hb xd_Ds_exportsTo_23 (by decide) (fun hc50 => absurd hc50 (by decide)) (fun _ => ?_)
      refine lv_iconst (v := 1) hx hb xd_Ds_exportsTo_26 (by decide) ?_
      refine lv_goto (tgt := 31) hx hb xd_Ds_exportsTo_27 (by decide) ?_
      exact W.zret (v := 1) hx hb hr rfl (fun t ht hW => ⟨⟨1, (), rfl, Or.inl ⟨rfl, z31, (pI_y hk0_1 tk0_1 tf0_1 z32 z33 z34), (exP_c (p := 6 * d + z31) hn_37 hrd0 (TG_get hn_37 c_38 c_40 c_42 (tgr_1 z31 (by omega)).1).1 (TG_get hn_37 c_38 c_40 c_42 (tgr_1 z31 (by omega)).1).2).mpr z47⟩, by rw [ht]; exact hP, hD⟩, hS.F ht⟩) hS.2.2 xd_Ds_exportsTo_31
    · refine W.eq (g2 := F0 m 23 ls [.int 0]) rfl ?_
      refine lv_if_eq (tgt := 30) hx hb xd_Ds_exportsTo_23 (by decide) (fun _ => ?_) (fun hc51 => absurd (by decide) hc51)
      refine lv_iconst (v := 0) hx hb xd_Ds_exportsTo_30 (by decide) ?_
      exact W.zret (v := 0) hx hb hr rfl (fun t ht hW => ⟨⟨0, (), rfl, Or.inr ⟨rfl, fun ⟨i9, q1, q2⟩ => by
        rw [(pI_y hk0_1 tk0_1 tf0_1 z32 z33 z34)] at q1
        rw [← Option.some.inj q1] at q2
        rcases (exP_c (p := 6 * d + z31) hn_37 hrd0 (TG_get hn_37 c_38 c_40 c_42 (tgr_1 z31 (by omega)).1).1 (TG_get hn_37 c_38 c_40 c_42 (tgr_1 z31 (by omega)).1).2).mp q2 with q | ⟨k9, q3, q4⟩
        · exact q z48
        · exact z49 k9 q3 q4⟩, by rw [ht]; exact hP, hD⟩, hS.F ht⟩) hS.2.2 xd_Ds_exportsTo_31
  · refine W.eq (g2 := F0 m 8 ls [.int (-1)]) rfl ?_
    refine lv_istore_n hx hb xd_Ds_exportsTo_8 rfl hl (Nat.le_of_ble_eq_true rfl) rfl (fun ls hl => ?_)
    have hl : lv_has ls 4 [(3, .int (-1)), (0, .ref (ad (1 + d) 0)), (1, .int pn), (2, .int rd)] := hl
    refine lv_iload_n hx hb xd_Ds_exportsTo_9 rfl (lv_at hl 0 rfl) ?_
    refine lv_if_lt (tgt := 30) hx hb xd_Ds_exportsTo_10 (by decide) (fun _ => ?_) (fun hc52 => absurd (by decide) hc52)
    refine lv_iconst (v := 0) hx hb xd_Ds_exportsTo_30 (by decide) ?_
    exact W.zret (v := 0) hx hb hr rfl (fun t ht hW => ⟨⟨0, (), rfl, Or.inr ⟨rfl, fun ⟨i9, q1, q2⟩ => by rw [pI_x hk0_1 tk0_1 tf0_1 z35] at q1; cases q1⟩, by rw [ht]; exact hP, hD⟩, hS.F ht⟩) hS.2.2 xd_Ds_exportsTo_31
