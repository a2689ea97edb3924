theorem k6a_0 : (Cond.code xy_Ly_hasCycle xb_Ly_hasCycle 2 (some .boolean)) ∈ wT := wT_t (List.mem_append_right _ (List.mem_append_right _ (List.mem_append_right _ (List.mem_append_left _ (List.mem_of_getElem? (i := 7) rfl))))) rfl
theorem k6a_1 : (Cond.methodLink "LayerDesk" 208 xy_Ly_hasCycle) ∈ wT := wT_t (List.mem_append_right _ (List.mem_append_right _ (List.mem_append_right _ (List.mem_append_left _ (List.mem_of_getElem? (i := 4) rfl))))) rfl
theorem k6a_2 : (Cond.instanceMethod xy_Ly_hasCycle) ∈ wT := wT_t (List.mem_append_right _ (List.mem_append_right _ (List.mem_append_right _ (List.mem_append_left _ (List.mem_of_getElem? (i := 5) rfl))))) rfl
theorem k6a_3 : (Cond.selects "LayerDesk$Layer" xy_Ly_hasCycle xy_Ly_hasCycle) ∈ wT := wT_t (List.mem_append_right _ (List.mem_append_right _ (List.mem_append_right _ (List.mem_append_left _ (List.mem_of_getElem? (i := 6) rfl))))) rfl
theorem k6a_4 : (Cond.initialized "LayerDesk$Layer") ∈ wT := wT_t (List.mem_append_left _ (List.mem_of_getElem? (i := 19) rfl)) rfl
theorem k6a_5 : (Cond.code xy_Ly_hasSplit xb_Ly_hasSplit 4 (some .boolean)) ∈ wT := wT_t (List.mem_append_right _ (List.mem_append_right _ (List.mem_append_right _ (List.mem_append_left _ (List.mem_of_getElem? (i := 11) rfl))))) rfl
theorem k6a_6 : (Cond.methodLink "LayerDesk" 211 xy_Ly_hasSplit) ∈ wT := wT_t (List.mem_append_right _ (List.mem_append_right _ (List.mem_append_right _ (List.mem_append_left _ (List.mem_of_getElem? (i := 8) rfl))))) rfl
theorem k6a_7 : (Cond.instanceMethod xy_Ly_hasSplit) ∈ wT := wT_t (List.mem_append_right _ (List.mem_append_right _ (List.mem_append_right _ (List.mem_append_left _ (List.mem_of_getElem? (i := 9) rfl))))) rfl
theorem k6a_8 : (Cond.selects "LayerDesk$Layer" xy_Ly_hasSplit xy_Ly_hasSplit) ∈ wT := wT_t (List.mem_append_right _ (List.mem_append_right _ (List.mem_append_right _ (List.mem_append_left _ (List.mem_of_getElem? (i := 10) rfl))))) rfl
theorem k6a_9 : (Cond.fieldLink "LayerDesk" 38 "LayerDesk" "made" "I") ∈ wT := wT_t (List.mem_append_left _ (List.mem_of_getElem? (i := 103) rfl)) rfl
set_option maxHeartbeats 4000000 in
set_option maxRecDepth 100000 in
theorem xc_De_faultOfX (l : Launch) (D : va_G) (kA : Nat → ClassId) (sz : Nat) (ad : Nat → Nat → Nat) (E : Nat → Nat → va_E) (RL : List (Nat × Nat)) (g : Nat → Nat → Int32) (ml : Nat) (nd : Nat) (len : Nat) (wn : Nat) (cs : Nat) (hCI : CI kA ad E RL ml nd len wn cs) (hLI : LI kA ad E RL nd ml) (hTD : TDs g E nd) (hTLx : TLas g ad E nd (ml + 1)) (hLB : LBs g E ml) (hRB : RBs g E ml) (hNZ : NZ g nd) (hND : NDq g (ml + 1)) (hU : ∀ la, la < ml + 1 → ∀ k, k < mcv g la → UQ1 g (mdv g la k)) : Met l xy_De_faultOf (.code xy_De_faultOf xb_De_faultOf 2 (some .int) :: wT) { frames := 6, cells := 0, slots := 0, locals := 137 } (va_Pc [.ref (ad 0 0), .ref (ad (20 + ml) 0)] (xPre D kA sz (rp ad E RL))) (va_Qi (fun (r : Int32) (u : Unit) => r = nI (rsW g ml (mcv g ml))) (fun (u : Unit) t => va_P D xcl (rp ad E RL) t.heap ∧ va_D (va_A (rp ad E RL) sz) (rp ad E RL)) (va_A (rp ad E RL) sz)) 0 0 (va_A (rp ad E RL) sz) := by
  refine Met.ofW (cc := xb_De_faultOf) (maxL := 2) (ret := (some .int)) (by decide) rfl ?_
  intro p e s m args below meth c s₁ B hml hv
  obtain ⟨rfl, hsz, hP, hK, hD0⟩ := hv
  have hx := B.exec
  have hb := B.bytes
  have hr := B.returns
  have hT := x_hT B.pre
  have hown : s.vm.findClass xR_De = some m.cls := findClass_of_methodNamed B.named
  have hlocks := B.notSynchronized
  subst hsz
  have hD := hD0.self (sz := s.heap.size)
  generalize hAe : va_A (rp ad E RL) s.heap.size = A at hD ⊢
  have hA : ∀ q : Nat, s.heap.size ≤ q → A q := fun q h => by rw [← hAe]; exact Or.inr h
  have hS : va_S A s.heap s.heap [] := va_S.rf
  have hl := lv_entry ([.ref (ad 0 0), .ref (ad (20 + ml) 0)]) (n := 2) (Nat.le_of_ble_eq_true rfl)
  rw [lg_entry_eq]
  generalize (lg_sl ([.ref (ad 0 0), .ref (ad (20 + ml) 0)]) ++ List.replicate (2 - (lg_sl ([.ref (ad 0 0), .ref (ad (20 + ml) 0)])).length) Slot.unset).toArray = ls at hl ⊢
  have hl : lv_has ls 2 [(0, .ref (ad 0 0)), (1, .ref (ad (20 + ml) 0))] := hl
  have hP : va_P D xcl (rp ad E RL) s.heap := hP
  obtain ⟨hmB, hDk, hLi, hSh, hCh, hLa, hDIs, hLIs⟩ := id hCI
  obtain ⟨lf_1, q_1⟩ := id (hDk)
  have c_2 : E 0 0 = .inr (0, [.ref (ad 0 1), .ref (ad 0 5), .ref (ad 0 7), .ref (ad 0 9), .int (nI ml), .int lf_1]) := q_1
  have m_3 : (0, 0) ∈ RL := hmB 0 (by omega)
  obtain ⟨fd_4, hnd_4, q5_4, q6_4, hds_4⟩ := id (hSh)
  have c_5 : E 0 5 = .inr (2, [.ref (ad 0 6), .int (nI nd)]) := q5_4
  have m_6 : (0, 5) ∈ RL := hmB 5 (by omega)
  have c_7 : E 0 6 = .inl (kA 4, 12, .inr (.inr (.inr (.inr fd_4)))) := q6_4
  have m_8 : (0, 6) ∈ RL := hmB 6 (by omega)
  obtain ⟨fl_9, hml_9, q9_9, hla_9⟩ := id (hLa)
  have c_10 : E 0 9 = .inl (kA 5, 5, .inr (.inr (.inr (.inr fl_9)))) := q9_9
  have m_11 : (0, 9) ∈ RL := hmB 9 (by omega)
  have hLIx := LIs_add hLIs hLI
  have hnd12 : nd ≤ 12 := by omega
  have hml5 : ml ≤ 5 := by omega
  have hLKP : LKP g (ml + 1) := LKP_L (by omega) hnd12 hLIx hTLx
  have h21x : ∀ k, k < mcv g ml → g 21 (12 * ml + k) = nI (mdv g ml k) := fun k hk => T_21 hnd12 (by omega) hLIx hTLx hk
  have hCYi := CYC_iff (R := fun k t => BS (eA (E (20 + ml) (15 + 10 * k))) t) hLKP h21x hLB
  have hSPi := SPL_iff (R := fun k => RWb E ml k) (by omega) hLKP hND hU h21x hRB
  refine lv_aload_n hx hb xd_De_faultOf_0 rfl (lv_at hl 1 rfl) ?_
  have hFc := px_free hD hS hA
  obtain ⟨m0_12, m1_12, pv_12, op_12, mk_12, fm_12, hmk_12, hpv_12, q0_12, q1_12, hk_12⟩ := id (hLI)
  have c_13 : E (20 + ml) 0 = .inr (5, [.int (nI ml), pv_12, .ref (ad (20 + ml) 1), .int op_12]) := q0_12
  have m_14 : (20 + ml, 0) ∈ RL := m0_12
  have c_15 : E (20 + ml) 1 = .inl (kA 6, mk_12, .inr (.inr (.inr (.inr fm_12)))) := q1_12
  have m_16 : (20 + ml, 1) ∈ RL := m1_12
  refine va_calli (va_runV (As := []) (rest := []) ⟨hx, hb, hml, hown, hT⟩ (xc_Ly_hasCycleX l D kA s.heap.size ad E RL g nd (ml + 1) ml (by first | assumption | omega) hLIx (by first | assumption | omega) (by first | assumption | omega) (by first | assumption | omega) hTLx (by first | assumption | omega)) (cwV 0 hT (wT_V k6a_1 k6a_2 k6a_3 k6a_4 k6a_0) rfl rfl rfl (by decide +kernel) ⟨Nat.le_of_ble_eq_true rfl, Nat.le_of_ble_eq_true rfl⟩) (px_preV hK hP hD m_14 c_13 rfl) rfl rfl hl.1 rfl (lv_room (Nat.le_of_ble_eq_true rfl)) xd_De_faultOf_1 ⟨(Nat.le_of_ble_eq_true rfl), (Nat.le_of_ble_eq_true rfl)⟩) hS (fun q _ h => hFc q h) hFc (fun r17 u18 t H1 locs ht hvm hp19 hB hz1 hk1 hS => ?_)
  obtain ⟨hP1, hD1⟩ := hB
  rw [ht] at hP1
  have hD1 := hD1.weaken (fun _ _ _ h => hFc _ h)
  generalize H1 = H at hP1 hS ⊢
  have hP := hP1
  have hD := hD1
  have hP : va_P D xcl (rp ad E RL) H := hP
  have hD : va_D A (rp ad E RL) := hD
  rcases hp19 with ⟨rfl, z20⟩ | ⟨rfl, z21⟩
  · refine W.eq (g2 := F0 m 4 ls [.int 1]) rfl ?_
    refine lv_if_eq (tgt := 9) hx hb xd_De_faultOf_4 (by decide) (fun hc22 => absurd hc22 (by decide)) (fun _ => ?_)
    refine lv_iconst (v := 1) hx hb xd_De_faultOf_7 (by decide) ?_
    exact W.iret (v := 1) hx hb hr (fun t ht hW => ⟨⟨1, (), rfl, by rw [show rsW g ml (mcv g ml) = 1 from by unfold rsW; rw [cif_pos (hCYi.mp z20)]]; rfl, by rw [ht]; exact hP, hD⟩, hS.F ht⟩) hS.2.2 xd_De_faultOf_8
  · refine W.eq (g2 := F0 m 4 ls [.int 0]) rfl ?_
    refine lv_if_eq (tgt := 9) hx hb xd_De_faultOf_4 (by decide) (fun _ => ?_) (fun hc23 => absurd (by decide) hc23)
    refine lv_aload_n hx hb xd_De_faultOf_9 rfl (lv_at hl 1 rfl) ?_
    have hFc := px_free hD hS hA
    refine va_calli (va_runV (As := []) (rest := []) ⟨hx, hb, hml, hown, hT⟩ (xc_Ly_hasSplitX l D kA H.size ad E RL g nd (ml + 1) ml (by first | assumption | omega) hLIx (by first | assumption | omega) (by first | assumption | omega) (by first | assumption | omega) hTLx (by first | assumption | omega) (by first | assumption | omega)) (cwV 0 hT (wT_V k6a_6 k6a_7 k6a_8 k6a_4 k6a_5) rfl rfl rfl (by decide +kernel) ⟨Nat.le_of_ble_eq_true rfl, Nat.le_of_ble_eq_true rfl⟩) (px_preV hK hP hD m_14 c_13 rfl) rfl rfl hl.1 rfl (lv_room (Nat.le_of_ble_eq_true rfl)) xd_De_faultOf_10 ⟨(Nat.le_of_ble_eq_true rfl), (Nat.le_of_ble_eq_true rfl)⟩) hS (fun q _ h => hFc q h) hFc (fun r24 u25 t H1 locs ht hvm hp26 hB hz1 hk1 hS => ?_)
    obtain ⟨hP1, hD1⟩ := hB
    rw [ht] at hP1
    have hD1 := hD1.weaken (fun _ _ _ h => hFc _ h)
    generalize H1 = H at hP1 hS ⊢
    have hP := hP1
    have hD := hD1
    have hP : va_P D xcl (rp ad E RL) H := hP
    have hD : va_D A (rp ad E RL) := hD
    rcases hp26 with ⟨rfl, z27⟩ | ⟨rfl, z28⟩
    · refine W.eq (g2 := F0 m 13 ls [.int 1]) rfl ?_
      refine lv_if_eq (tgt := 18) hx hb xd_De_faultOf_13 (by decide) (fun hc29 => absurd hc29 (by decide)) (fun _ => ?_)
      refine lv_iconst (v := 2) hx hb xd_De_faultOf_16 (by decide) ?_
      exact W.iret (v := 2) hx hb hr (fun t ht hW => ⟨⟨2, (), rfl, by rw [show rsW g ml (mcv g ml) = 2 from by unfold rsW; rw [cif_neg (fun q => z21 (hCYi.mpr q)), cif_pos (hSPi.mp z27)]]; rfl, by rw [ht]; exact hP, hD⟩, hS.F ht⟩) hS.2.2 xd_De_faultOf_17
    · refine W.eq (g2 := F0 m 13 ls [.int 0]) rfl ?_
      refine lv_if_eq (tgt := 18) hx hb xd_De_faultOf_13 (by decide) (fun _ => ?_) (fun hc30 => absurd (by decide) hc30)
      refine lv_aload_n hx hb xd_De_faultOf_18 rfl (lv_at hl 0 rfl) ?_
      refine px_get (D := D) (ci := 0) (v := .int (nI ml)) (C := xR_De) (T := xT_De) (N := 6) hx hb hT xi_De hown hK.1 hP m_3 c_2 rfl 4 (by decide) (hT _ k6a_9) (fun _ h9 => h9) rfl xd_De_faultOf_19 ?_
      refine lv_iconst (v := 5) hx hb xd_De_faultOf_22 (by decide) ?_
      refine xn_lt (a := ml) (b := 5) (tgt := 30) hx hb xd_De_faultOf_23 (by decide) (by omega) (by omega) (fun hc31 => ?_) (fun hc31 => ?_)
      · refine lv_iconst (v := 0) hx hb xd_De_faultOf_30 (by decide) ?_
        exact W.iret (v := 0) hx hb hr (fun t ht hW => ⟨⟨0, (), rfl, by rw [show rsW g ml (mcv g ml) = 0 from by unfold rsW; rw [cif_neg (fun q => z21 (hCYi.mpr q)), cif_neg (fun q => z28 (hSPi.mpr q)), cif_neg (by omega)]]; rfl, by rw [ht]; exact hP, hD⟩, hS.F ht⟩) hS.2.2 xd_De_faultOf_31
      · refine lv_iconst (v := 3) hx hb xd_De_faultOf_26 (by decide) ?_
        refine lv_goto (tgt := 31) hx hb xd_De_faultOf_27 (by decide) ?_
        exact W.iret (v := 3) hx hb hr (fun t ht hW => ⟨⟨3, (), rfl, by rw [show rsW g ml (mcv g ml) = 3 from by unfold rsW; rw [cif_neg (fun q => z21 (hCYi.mpr q)), cif_neg (fun q => z28 (hSPi.mpr q)), cif_pos (by omega)]]; rfl, by rw [ht]; exact hP, hD⟩, hS.F ht⟩) hS.2.2 xd_De_faultOf_31
