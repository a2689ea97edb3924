theorem k5z_0 : (Cond.fieldLink "LayerDesk$Layer" 19 "LayerDesk$Layer" "members" "[LLayerDesk$Member;") ∈ wT := wT_t (List.mem_append_right _ (List.mem_append_right _ (List.mem_append_left _ (List.mem_of_getElem? (i := 147) rfl)))) rfl
theorem k5z_1 : (Cond.fieldLink "LayerDesk$Layer" 52 "LayerDesk$Member" "leading" "LLayerDesk$Reach;") ∈ wT := wT_t (List.mem_append_right _ (List.mem_append_right _ (List.mem_append_left _ (List.mem_of_getElem? (i := 188) rfl)))) rfl
theorem k5z_2 : (Cond.code xy_Re_marks xb_Re_marks 2 (some .boolean)) ∈ wT := wT_t (List.mem_append_left _ (List.mem_of_getElem? (i := 177) rfl)) rfl
theorem k5z_3 : (Cond.methodLink "LayerDesk$Layer" 66 xy_Re_marks) ∈ wT := wT_t (List.mem_append_right _ (List.mem_append_right _ (List.mem_append_left _ (List.mem_of_getElem? (i := 230) rfl)))) rfl
theorem k5z_4 : (Cond.instanceMethod xy_Re_marks) ∈ wT := wT_t (List.mem_append_left _ (List.mem_of_getElem? (i := 175) rfl)) rfl
theorem k5z_5 : (Cond.selects "LayerDesk$Reach" xy_Re_marks xy_Re_marks) ∈ wT := wT_t (List.mem_append_left _ (List.mem_of_getElem? (i := 176) rfl)) rfl
theorem k5z_6 : (Cond.initialized "LayerDesk$Reach") ∈ wT := wT_t (List.mem_append_left _ (List.mem_of_getElem? (i := 21) rfl)) rfl
theorem k5z_7 : (Cond.fieldLink "LayerDesk$Layer" 13 "LayerDesk$Layer" "parent" "LLayerDesk$Layer;") ∈ wT := wT_t (List.mem_append_right _ (List.mem_append_right _ (List.mem_append_left _ (List.mem_of_getElem? (i := 143) rfl)))) rfl
theorem k5z_8 : (Cond.code xy_Me_isSplitBy xb_Me_isSplitBy 5 (some .boolean)) ∈ wT := wT_t (List.mem_append_right _ (List.mem_append_right _ (List.mem_append_right _ (List.mem_append_left _ (List.mem_of_getElem? (i := 15) rfl))))) rfl
theorem k5z_9 : (Cond.methodLink "LayerDesk$Layer" 70 xy_Me_isSplitBy) ∈ wT := wT_t (List.mem_append_right _ (List.mem_append_right _ (List.mem_append_right _ (List.mem_append_left _ (List.mem_of_getElem? (i := 12) rfl))))) rfl
theorem k5z_10 : (Cond.instanceMethod xy_Me_isSplitBy) ∈ wT := wT_t (List.mem_append_right _ (List.mem_append_right _ (List.mem_append_right _ (List.mem_append_left _ (List.mem_of_getElem? (i := 13) rfl))))) rfl
theorem k5z_11 : (Cond.selects "LayerDesk$Member" xy_Me_isSplitBy xy_Me_isSplitBy) ∈ wT := wT_t (List.mem_append_right _ (List.mem_append_right _ (List.mem_append_right _ (List.mem_append_left _ (List.mem_of_getElem? (i := 14) rfl))))) rfl
theorem k5z_12 : (Cond.initialized "LayerDesk$Member") ∈ wT := wT_t (List.mem_append_left _ (List.mem_of_getElem? (i := 20) rfl)) rfl
set_option maxHeartbeats 4000000 in
set_option maxRecDepth 100000 in
theorem xc_Ly_hasCycleX (l : Launch) (D : va_G) (kA : Nat → ClassId) (sz : Nat) (ad : Nat → Nat → Nat) (E : Nat → Nat → va_E) (RL : List (Nat × Nat)) (g : Nat → Nat → Int32) (nd : Nat) (nL : Nat) (n : Nat) (hDIs : DIs kA ad E RL nd) (hLIs : LIs kA ad E RL nd nL) (hnL : nL ≤ 6) (hn : n < nL) (hTD : TDs g E nd) (hTL : TLas g ad E nd nL) (hnd12 : nd ≤ 12) : Met l xy_Ly_hasCycle (.code xy_Ly_hasCycle xb_Ly_hasCycle 2 (some .boolean) :: wT) { frames := 1, cells := 0, slots := 0, locals := 21 } (va_Pc [.ref (ad (20 + n) 0)] (xPre D kA sz (rp ad E RL))) (va_Qi (fun (r : Int32) (u : Unit) => (r = 1 ∧ (∃ k8, k8 < mcv g n ∧ BS (eA (E (20 + n) (15 + 10 * k8))) (12 * n + mdv g n k8))) ∨ (r = 0 ∧ ¬ (∃ k8, k8 < mcv g n ∧ BS (eA (E (20 + n) (15 + 10 * k8))) (12 * n + mdv g n k8)))) (fun (u : Unit) t => va_P D xcl (rp ad E RL) t.heap ∧ va_D (va_A (rp ad E RL) sz) (rp ad E RL)) (va_A (rp ad E RL) sz)) 0 0 (va_A (rp ad E RL) sz) := by
  refine Met.ofW (cc := xb_Ly_hasCycle) (maxL := 2) (ret := (some .boolean)) (by decide) rfl ?_
  intro p e s m args below meth c s₁ B hml hv
  obtain ⟨rfl, hsz, hP, hK, hD0⟩ := hv
  have hx := B.exec
  have hb := B.bytes
  have hr := B.returns
  have hT := x_hT B.pre
  have hown : s.vm.findClass xR_Ly = some m.cls := findClass_of_methodNamed B.named
  have hlocks := B.notSynchronized
  subst hsz
  have hD := hD0.self (sz := s.heap.size)
  generalize hAe : va_A (rp ad E RL) s.heap.size = A at hD ⊢
  have hA : ∀ q : Nat, s.heap.size ≤ q → A q := fun q h => by rw [← hAe]; exact Or.inr h
  have hS : va_S A s.heap s.heap [] := va_S.rf
  have hl := lv_entry ([.ref (ad (20 + n) 0)]) (n := 2) (Nat.le_of_ble_eq_true rfl)
  rw [lg_entry_eq]
  generalize (lg_sl ([.ref (ad (20 + n) 0)]) ++ List.replicate (2 - (lg_sl ([.ref (ad (20 + n) 0)])).length) Slot.unset).toArray = ls at hl ⊢
  have hl : lv_has ls 2 [(0, .ref (ad (20 + n) 0))] := hl
  have hP : va_P D xcl (rp ad E RL) s.heap := hP
  refine lv_iconst (v := 0) hx hb xd_Ly_hasCycle_0 (by decide) ?_
  refine lv_istore_n hx hb xd_Ly_hasCycle_1 rfl hl (Nat.le_of_ble_eq_true rfl) rfl (fun ls hl => ?_)
  have hl : lv_has ls 2 [(1, .int 0), (0, .ref (ad (20 + n) 0))] := hl
  obtain ⟨m0_1, m1_1, pv_1, op_1, mk_1, fm_1, hmk_1, hpv_1, q0_1, q1_1, hk_1⟩ := id (hLIs n (by omega))
  have c_2 : E (20 + n) 0 = .inr (5, [.int (nI n), pv_1, .ref (ad (20 + n) 1), .int op_1]) := q0_1
  have m_3 : (20 + n, 0) ∈ RL := m0_1
  have c_4 : E (20 + n) 1 = .inl (kA 6, mk_1, .inr (.inr (.inr (.inr fm_1)))) := q1_1
  have m_5 : (20 + n, 1) ∈ RL := m1_1
  obtain ⟨top_1, ⟨lq_1, hlq_1, h19_1, hpv2_1⟩, h20_1, tmd_1⟩ := TLa_get c_2 c_4 (hTL n (by omega))
  have c_6 : E (20 + n) 0 = .inr (5, [.int (nI n), (lyv ad lq_1), .ref (ad (20 + n) 1), .int op_1]) := by rw [← hpv2_1]; exact c_2
  have i20_1 : iN (g 20 n) = mk_1 := by rw [h20_1, iN_nI (by omega)]
  refine xlab (σ := Nat) (ml := 2) 2 (fun (k : Nat) => [(1, .int (nI k)), (0, .ref (ad (20 + n) 0))]) (fun (k : Nat) => []) (fun (k : Nat) => rp ad E RL) (fun (k : Nat) => (k ≤ mk_1) ∧ (∀ j8, j8 < k → ¬ BS (eA (E (20 + n) (15 + 10 * j8))) (12 * n + mdv g n j8))) (fun (k : Nat) => mk_1 - k) ?_ 0 _ _ _ (lv_sub hl [0, 1] rfl) hP hD hS ⟨(show 0 ≤ mk_1 from by first | assumption | omega), (show ∀ j8, j8 < 0 → ¬ BS (eA (E (20 + n) (15 + 10 * j8))) (12 * n + mdv g n j8) from fun j hj => absurd hj (by omega))⟩
  intro n9 ih7 a9 ls H locs hμ hl hP hD hS hI
  subst hμ
  obtain ⟨k, rfl⟩ : ∃ z, z = a9 := ⟨_, rfl⟩
  obtain ⟨hk, hno⟩ := hI
  have hk : k ≤ mk_1 := hk
  have hno : ∀ j8, j8 < k → ¬ BS (eA (E (20 + n) (15 + 10 * j8))) (12 * n + mdv g n j8) := hno
  have hl : lv_has ls 2 [(1, .int (nI k)), (0, .ref (ad (20 + n) 0))] := hl
  have hP : va_P D xcl (rp ad E RL) H := hP
  have hD : va_D A (rp ad E RL) := hD
  refine lv_iload_n hx hb xd_Ly_hasCycle_2 rfl (lv_at hl 0 rfl) ?_
  refine lv_aload_n hx hb xd_Ly_hasCycle_3 rfl (lv_at hl 1 rfl) ?_
  refine px_get (D := D) (ci := 5) (v := .ref (ad (20 + n) 1)) (C := xR_Ly) (T := xT_Ly) (N := 4) hx hb hT xi_Ly hown hK.1 hP m_3 c_6 rfl 2 (by decide) (hT _ k5z_0) (fun _ h9 => h9) rfl xd_Ly_hasCycle_4 ?_
  refine px_alen hx hb hK.1 hP m_5 c_4 6 rfl xd_Ly_hasCycle_7 ?_
  refine W.eq (g2 := F0 m 8 ls [.int (nI mk_1), .int (nI k)]) rfl ?_
  refine xn_ge (a := k) (b := mk_1) (tgt := 40) hx hb xd_Ly_hasCycle_8 (by decide) (by omega) (by omega) (fun hc8 => ?_) (fun hc8 => ?_)
  · refine lv_iconst (v := 0) hx hb xd_Ly_hasCycle_40 (by decide) ?_
    exact W.zret (v := 0) hx hb hr rfl (fun t ht hW => ⟨⟨0, (), rfl, Or.inr ⟨rfl, fun ⟨k8, q1, q2⟩ => hno k8 (by
        unfold mcv at q1
        rw [h20_1, iN_nI (by omega)] at q1
        omega) q2⟩, by rw [ht]; exact hP, hD⟩, hS.F ht⟩) hS.2.2 xd_Ly_hasCycle_41
  · refine lv_aload_n hx hb xd_Ly_hasCycle_11 rfl (lv_at hl 1 rfl) ?_
    refine px_get (D := D) (ci := 5) (v := .ref (ad (20 + n) 1)) (C := xR_Ly) (T := xT_Ly) (N := 4) hx hb hT xi_Ly hown hK.1 hP m_3 c_6 rfl 2 (by decide) (hT _ k5z_0) (fun _ h9 => h9) rfl xd_Ly_hasCycle_12 ?_
    refine lv_iload_n hx hb xd_Ly_hasCycle_15 rfl (lv_at hl 0 rfl) ?_
    refine px_aald (i := k) (x := (some (ad (20 + n) (10 + 10 * k)))) hx hb hK.1 hP m_5 c_4 6 rfl ((hk_1 k (by omega)).1) (by omega) (by omega) xd_Ly_hasCycle_16 ?_
    obtain ⟨hm_9, d_9, rs_9, fr_9, g2_9, g3_9, g4_9, hd_9, hrs_9, q0_9, q1_9, q2_9, q3_9, q4_9, q5_9, q6_9, q7_9⟩ := (hk_1 k (by omega)).2
    have c_10 : E (20 + n) (10 + 10 * k) = .inr (6, [.ref (ad (20 + n) 0), .ref (ad (1 + d_9) 0), .ref (ad (20 + n) (11 + 10 * k)), .ref (ad (20 + n) (12 + 10 * k)), .ref (ad (20 + n) (13 + 10 * k)), .ref (ad (20 + n) (14 + 10 * k))]) := q0_9
    have m_11 : (20 + n, 10 + 10 * k) ∈ RL := hm_9 0 (by omega)
    have c_12 : E (20 + n) (11 + 10 * k) = .inl (kA 6, rs_9, .inr (.inr (.inr (.inr fr_9)))) := q1_9
    have m_13 : (20 + n, 11 + 10 * k) ∈ RL := hm_9 1 (by omega)
    have c_14 : E (20 + n) (12 + 10 * k) = .inr (10, [.ref (ad (20 + n) (15 + 10 * k))]) := q2_9
    have m_15 : (20 + n, 12 + 10 * k) ∈ RL := hm_9 2 (by omega)
    have c_16 : E (20 + n) (13 + 10 * k) = .inr (10, [.ref (ad (20 + n) (16 + 10 * k))]) := q3_9
    have m_17 : (20 + n, 13 + 10 * k) ∈ RL := hm_9 3 (by omega)
    have c_18 : E (20 + n) (14 + 10 * k) = .inr (10, [.ref (ad (20 + n) (17 + 10 * k))]) := q4_9
    have m_19 : (20 + n, 14 + 10 * k) ∈ RL := hm_9 4 (by omega)
    have c_20 : E (20 + n) (15 + 10 * k) = .inl (kA 0, 6, .inl g2_9) := q5_9
    have m_21 : (20 + n, 15 + 10 * k) ∈ RL := hm_9 5 (by omega)
    have c_22 : E (20 + n) (16 + 10 * k) = .inl (kA 0, 6, .inl g3_9) := q6_9
    have m_23 : (20 + n, 16 + 10 * k) ∈ RL := hm_9 6 (by omega)
    have c_24 : E (20 + n) (17 + 10 * k) = .inl (kA 0, 6, .inl g4_9) := q7_9
    have m_25 : (20 + n, 17 + 10 * k) ∈ RL := hm_9 7 (by omega)
    have hdm_9 : mdv g n k = d_9 := by
      obtain ⟨dz, hdz, h21z, hvz⟩ := tmd_1 k (by omega)
      rw [c_10] at hvz
      have ez := (rp_inj hD ((hDIs d_9 hd_9).1 0 (by omega)) ((hDIs dz hdz).1 0 (by omega)) (Value.ref.inj hvz)).1
      unfold mdv
      rw [h21z, iN_nI (by omega)]; omega
    refine px_get (D := D) (ci := 6) (v := .ref (ad (20 + n) (12 + 10 * k))) (C := xR_Me) (T := xT_Me) (N := 6) hx hb hT xi_Me hown hK.1 hP m_11 c_10 rfl 3 (by decide) (hT _ k5z_1) (fun _ h9 => h9) rfl xd_Ly_hasCycle_17 ?_
    refine lv_aload_n hx hb xd_Ly_hasCycle_20 rfl (lv_at hl 1 rfl) ?_
    refine px_get (D := D) (ci := 5) (v := .ref (ad (20 + n) 1)) (C := xR_Ly) (T := xT_Ly) (N := 4) hx hb hT xi_Ly hown hK.1 hP m_3 c_6 rfl 2 (by decide) (hT _ k5z_0) (fun _ h9 => h9) rfl xd_Ly_hasCycle_21 ?_
    refine lv_iload_n hx hb xd_Ly_hasCycle_24 rfl (lv_at hl 0 rfl) ?_
    refine px_aald (i := k) (x := (some (ad (20 + n) (10 + 10 * k)))) hx hb hK.1 hP m_5 c_4 6 rfl ((hk_1 k (by omega)).1) (by omega) (by omega) xd_Ly_hasCycle_25 ?_
    obtain ⟨hm_26, fd_26, nm_26, sd_26, k0_26, k1_26, k2_26, k3_26, f0_26, f1_26, f2_26, f3_26, fe_26, fo_26, tr_26, op_26, hk0_26, hk1_26, hk2_26, hk3_26, q0_26, q1_26, q2_26, q3_26, q4_26, q5_26, q6_26, q7_26, q8_26, q9_26, q10_26, q11_26, q12_26, hg_26⟩ := id (hDIs d_9 (by omega))
    have c_27 : E (1 + d_9) 0 = .inr (7, [.int (nI d_9), .int fd_26, .int nm_26, .ref (ad (1 + d_9) 1), .ref (ad (1 + d_9) 9), .ref (ad (1 + d_9) 10), .ref (ad (1 + d_9) 2), .ref (ad (1 + d_9) 11), .ref (ad (1 + d_9) 12), .ref (ad (1 + d_9) 3), .ref (ad (1 + d_9) 4), .int sd_26]) := q0_26
    have m_28 : (1 + d_9, 0) ∈ RL := hm_26 0 (by omega)
    have c_29 : E (1 + d_9) 1 = .inr (8, [.ref (ad (1 + d_9) 5), .int (nI k0_26)]) := q1_26
    have m_30 : (1 + d_9, 1) ∈ RL := hm_26 1 (by omega)
    have c_31 : E (1 + d_9) 2 = .inr (8, [.ref (ad (1 + d_9) 6), .int (nI k1_26)]) := q2_26
    have m_32 : (1 + d_9, 2) ∈ RL := hm_26 2 (by omega)
    have c_33 : E (1 + d_9) 3 = .inr (8, [.ref (ad (1 + d_9) 7), .int (nI k2_26)]) := q3_26
    have m_34 : (1 + d_9, 3) ∈ RL := hm_26 3 (by omega)
    have c_35 : E (1 + d_9) 4 = .inr (8, [.ref (ad (1 + d_9) 8), .int (nI k3_26)]) := q4_26
    have m_36 : (1 + d_9, 4) ∈ RL := hm_26 4 (by omega)
    have c_37 : E (1 + d_9) 5 = .inl (kA 0, 6, .inl f0_26) := q5_26
    have m_38 : (1 + d_9, 5) ∈ RL := hm_26 5 (by omega)
    have c_39 : E (1 + d_9) 6 = .inl (kA 0, 5, .inl f1_26) := q6_26
    have m_40 : (1 + d_9, 6) ∈ RL := hm_26 6 (by omega)
    have c_41 : E (1 + d_9) 7 = .inl (kA 0, 3, .inl f2_26) := q7_26
    have m_42 : (1 + d_9, 7) ∈ RL := hm_26 7 (by omega)
    have c_43 : E (1 + d_9) 8 = .inl (kA 0, 3, .inl f3_26) := q8_26
    have m_44 : (1 + d_9, 8) ∈ RL := hm_26 8 (by omega)
    have c_45 : E (1 + d_9) 9 = .inl (kA 8, 6, .inr (.inr (.inr (.inr fe_26)))) := q9_26
    have m_46 : (1 + d_9, 9) ∈ RL := hm_26 9 (by omega)
    have c_47 : E (1 + d_9) 10 = .inl (kA 8, 6, .inr (.inr (.inr (.inr fo_26)))) := q10_26
    have m_48 : (1 + d_9, 10) ∈ RL := hm_26 10 (by omega)
    have c_49 : E (1 + d_9) 11 = .inl (kA 2, 5, .inl tr_26) := q11_26
    have m_50 : (1 + d_9, 11) ∈ RL := hm_26 11 (by omega)
    have c_51 : E (1 + d_9) 12 = .inl (kA 2, 5, .inl op_26) := q12_26
    have m_52 : (1 + d_9, 12) ∈ RL := hm_26 12 (by omega)
    have hg_26 : ∀ w9, w9 < k0_26 → fe_26 w9 = some (ad (1 + d_9) (20 + 3 * w9)) ∧ fo_26 w9 = some (ad (1 + d_9) (38 + 3 * w9)) ∧ GI kA (ad (1 + d_9)) (E (1 + d_9)) (fun o => (1 + d_9, o) ∈ RL) (20 + 3 * w9) (21 + 3 * w9) (22 + 3 * w9) ∧ GI kA (ad (1 + d_9)) (E (1 + d_9)) (fun o => (1 + d_9, o) ∈ RL) (38 + 3 * w9) (39 + 3 * w9) (40 + 3 * w9) := hg_26
    obtain ⟨hTT_26, tgr_26⟩ := TD_get hk0_26 hk1_26 hk2_26 hk3_26 c_27 c_29 c_31 c_33 c_35 c_37 c_39 c_41 c_43 c_49 c_51 (hTD d_9 (by omega))
    obtain ⟨tfd_26, tnm_26, tsd_26, tk0_26, tf0_26, tk1_26, tf1_26, tk2_26, tk3_26⟩ := id hTT_26
    have ik0_26 : iN (g 5 d_9) = k0_26 := by rw [← tk0_26, iN_nI (by omega)]
    have ik1_26 : iN (g 12 d_9) = k1_26 := by rw [← tk1_26, iN_nI (by omega)]
    have hFc := px_free hD hS hA
    refine va_calli (va_runV (As := [.ref (ad (20 + n) (10 + 10 * k))]) (rest := []) ⟨hx, hb, hml, hown, hT⟩ (xc_Re_marks l D kA H.size ad E RL (20 + n) (12 + 10 * k) (15 + 10 * k) g2_9 n k d_9 (lyv ad lq_1) op_1 fd_26 nm_26 sd_26 m_15 c_14 m_21 c_20 m_11 c_10 m_3 c_6 m_28 c_27 (by first | assumption | omega)) (cwV 1 hT (wT_V k5z_3 k5z_4 k5z_5 k5z_6 k5z_2) rfl rfl rfl (by decide +kernel) ⟨Nat.le_of_ble_eq_true rfl, Nat.le_of_ble_eq_true rfl⟩) (px_preV hK hP hD m_15 c_14 rfl) rfl rfl hl.1 rfl (lv_room (Nat.le_of_ble_eq_true rfl)) xd_Ly_hasCycle_26 ⟨(Nat.le_of_ble_eq_true rfl), (Nat.le_of_ble_eq_true rfl)⟩) hS (fun q _ h => hFc q h) hFc (fun r53 u54 t H1 locs ht hvm hp55 hB hz1 hk1 hS => ?_)
    obtain ⟨hP1, hD1⟩ := hB
    rw [ht] at hP1
    have hD1 := hD1.weaken (fun _ _ _ h => hFc _ h)
    generalize H1 = H at hP1 hS ⊢
    have hP := hP1
    have hD := hD1
    have hP : va_P D xcl (rp ad E RL) H := hP
    have hD : va_D A (rp ad E RL) := hD
    rcases hp55 with ⟨rfl, z56⟩ | ⟨rfl, z57⟩
    · refine W.eq (g2 := F0 m 29 ls [.int 1]) rfl ?_
      refine lv_if_eq (tgt := 34) hx hb xd_Ly_hasCycle_29 (by decide) (fun hc58 => absurd hc58 (by decide)) (fun _ => ?_)
      refine lv_iconst (v := 1) hx hb xd_Ly_hasCycle_32 (by decide) ?_
      exact W.zret (v := 1) hx hb hr rfl (fun t ht hW => ⟨⟨1, (), rfl, Or.inl ⟨rfl, k, (by unfold mcv; rw [h20_1, iN_nI (by omega)]; omega), (show BS (eA (E (20 + n) (15 + 10 * k))) (12 * n + mdv g n k) ↔ ¬ ((g2_9 n >>> (nI d_9 &&& 31)) &&& 1) = 0 from by
          rw [hdm_9, show eA (E (20 + n) (15 + 10 * k)) = g2_9 from by rw [c_20]; rfl]
          exact (BS_marks (by omega)).symm).mpr z56⟩, by rw [ht]; exact hP, hD⟩, hS.F ht⟩) hS.2.2 xd_Ly_hasCycle_33
    · refine W.eq (g2 := F0 m 29 ls [.int 0]) rfl ?_
      refine lv_if_eq (tgt := 34) hx hb xd_Ly_hasCycle_29 (by decide) (fun _ => ?_) (fun hc59 => absurd (by decide) hc59)
      refine lv_iinc (k := 0) (x := (nI k)) (v := (nI (k + 1))) hx hb xd_Ly_hasCycle_34 hl rfl (xb_inc k 1) (Nat.le_of_ble_eq_true rfl) rfl (fun ls hl => ?_)
      have hl : lv_has ls 2 [(1, .int (nI (k + 1))), (0, .ref (ad (20 + n) 0))] := hl
      refine lv_goto (tgt := 2) hx hb xd_Ly_hasCycle_37 (by decide) ?_
      exact ih7 (k + 1) _ _ _ (show mk_1 - (k + 1) < mk_1 - k by omega) (lv_sub hl [0, 1] rfl) hP hD hS ⟨(show (k + 1) ≤ mk_1 from by first | assumption | omega), (show ∀ j8, j8 < (k + 1) → ¬ BS (eA (E (20 + n) (15 + 10 * j8))) (12 * n + mdv g n j8) from fun j hj => by
        rcases Nat.lt_or_ge j k with z | z
        · exact hno j z
        · rw [show j = k by omega]
          exact fun q => absurd z57 ((show BS (eA (E (20 + n) (15 + 10 * k))) (12 * n + mdv g n k) ↔ ¬ ((g2_9 n >>> (nI d_9 &&& 31)) &&& 1) = 0 from by
          rw [hdm_9, show eA (E (20 + n) (15 + 10 * k)) = g2_9 from by rw [c_20]; rfl]
          exact (BS_marks (by omega)).symm).mp q))⟩
set_option maxHeartbeats 4000000 in
set_option maxRecDepth 100000 in
theorem xc_Ly_hasSplitX (l : Launch) (D : va_G) (kA : Nat → ClassId) (sz : Nat) (ad : Nat → Nat → Nat) (E : Nat → Nat → va_E) (RL : List (Nat × Nat)) (g : Nat → Nat → Int32) (nd : Nat) (nL : Nat) (n : Nat) (hDIs : DIs kA ad E RL nd) (hLIs : LIs kA ad E RL nd nL) (hnL : nL ≤ 6) (hn : n < nL) (hTD : TDs g E nd) (hTL : TLas g ad E nd nL) (hnd12 : nd ≤ 12) (hNZ : NZ g nd) : Met l xy_Ly_hasSplit (.code xy_Ly_hasSplit xb_Ly_hasSplit 4 (some .boolean) :: wT) { frames := 5, cells := 0, slots := 0, locals := 114 } (va_Pc [.ref (ad (20 + n) 0)] (xPre D kA sz (rp ad E RL))) (va_Qi (fun (r : Int32) (u : Unit) => (r = 1 ∧ (∃ k8, k8 < mcv g n ∧ ∃ la8, Ch (prv g) (n + 1) la8 ∧ ∃ j8, j8 < mcv g la8 ∧ SB g (RWb E n k8) n (mdv g n k8) la8 j8)) ∨ (r = 0 ∧ ¬ (∃ k8, k8 < mcv g n ∧ ∃ la8, Ch (prv g) (n + 1) la8 ∧ ∃ j8, j8 < mcv g la8 ∧ SB g (RWb E n k8) n (mdv g n k8) la8 j8))) (fun (u : Unit) t => va_P D xcl (rp ad E RL) t.heap ∧ va_D (va_A (rp ad E RL) sz) (rp ad E RL)) (va_A (rp ad E RL) sz)) 0 0 (va_A (rp ad E RL) sz) := by
  refine Met.ofW (cc := xb_Ly_hasSplit) (maxL := 4) (ret := (some .boolean)) (by decide) rfl ?_
  intro p e s m args below meth c s₁ B hml hv
  obtain ⟨rfl, hsz, hP, hK, hD0⟩ := hv
  have hx := B.exec
  have hb := B.bytes
  have hr := B.returns
  have hT := x_hT B.pre
  have hown : s.vm.findClass xR_Ly = some m.cls := findClass_of_methodNamed B.named
  have hlocks := B.notSynchronized
  subst hsz
  have hD := hD0.self (sz := s.heap.size)
  generalize hAe : va_A (rp ad E RL) s.heap.size = A at hD ⊢
  have hA : ∀ q : Nat, s.heap.size ≤ q → A q := fun q h => by rw [← hAe]; exact Or.inr h
  have hS : va_S A s.heap s.heap [] := va_S.rf
  have hl := lv_entry ([.ref (ad (20 + n) 0)]) (n := 4) (Nat.le_of_ble_eq_true rfl)
  rw [lg_entry_eq]
  generalize (lg_sl ([.ref (ad (20 + n) 0)]) ++ List.replicate (4 - (lg_sl ([.ref (ad (20 + n) 0)])).length) Slot.unset).toArray = ls at hl ⊢
  have hl : lv_has ls 4 [(0, .ref (ad (20 + n) 0))] := hl
  have hP : va_P D xcl (rp ad E RL) s.heap := hP
  refine lv_iconst (v := 0) hx hb xd_Ly_hasSplit_0 (by decide) ?_
  refine lv_istore_n hx hb xd_Ly_hasSplit_1 rfl hl (Nat.le_of_ble_eq_true rfl) rfl (fun ls hl => ?_)
  have hl : lv_has ls 4 [(1, .int 0), (0, .ref (ad (20 + n) 0))] := hl
  obtain ⟨m0_1, m1_1, pv_1, op_1, mk_1, fm_1, hmk_1, hpv_1, q0_1, q1_1, hk_1⟩ := id (hLIs n (by omega))
  have c_2 : E (20 + n) 0 = .inr (5, [.int (nI n), pv_1, .ref (ad (20 + n) 1), .int op_1]) := q0_1
  have m_3 : (20 + n, 0) ∈ RL := m0_1
  have c_4 : E (20 + n) 1 = .inl (kA 6, mk_1, .inr (.inr (.inr (.inr fm_1)))) := q1_1
  have m_5 : (20 + n, 1) ∈ RL := m1_1
  obtain ⟨top_1, ⟨lq_1, hlq_1, h19_1, hpv2_1⟩, h20_1, tmd_1⟩ := TLa_get c_2 c_4 (hTL n (by omega))
  have c_6 : E (20 + n) 0 = .inr (5, [.int (nI n), (lyv ad lq_1), .ref (ad (20 + n) 1), .int op_1]) := by rw [← hpv2_1]; exact c_2
  have i20_1 : iN (g 20 n) = mk_1 := by rw [h20_1, iN_nI (by omega)]
  refine xlab (σ := Nat) (ml := 4) 2 (fun (k : Nat) => [(1, .int (nI k)), (0, .ref (ad (20 + n) 0))]) (fun (k : Nat) => []) (fun (k : Nat) => rp ad E RL) (fun (k : Nat) => (k ≤ mk_1) ∧ (∀ k8, k8 < k → ∀ la8, Ch (prv g) (n + 1) la8 → ∀ j8, j8 < mcv g la8 → ¬ SB g (RWb E n k8) n (mdv g n k8) la8 j8)) (fun (k : Nat) => mk_1 - k) ?_ 0 _ _ _ (lv_sub hl [0, 1] rfl) hP hD hS ⟨(show 0 ≤ mk_1 from by first | assumption | omega), (show ∀ k8, k8 < 0 → ∀ la8, Ch (prv g) (n + 1) la8 → ∀ j8, j8 < mcv g la8 → ¬ SB g (RWb E n k8) n (mdv g n k8) la8 j8 from fun k8 hk8 => absurd hk8 (by omega))⟩
  intro n9 ih7 a9 ls H locs hμ hl hP hD hS hI
  subst hμ
  obtain ⟨k, rfl⟩ : ∃ z, z = a9 := ⟨_, rfl⟩
  obtain ⟨hk, hno2⟩ := hI
  have hk : k ≤ mk_1 := hk
  have hno2 : ∀ k8, k8 < k → ∀ la8, Ch (prv g) (n + 1) la8 → ∀ j8, j8 < mcv g la8 → ¬ SB g (RWb E n k8) n (mdv g n k8) la8 j8 := hno2
  have hl : lv_has ls 4 [(1, .int (nI k)), (0, .ref (ad (20 + n) 0))] := hl
  have hP : va_P D xcl (rp ad E RL) H := hP
  have hD : va_D A (rp ad E RL) := hD
  refine lv_iload_n hx hb xd_Ly_hasSplit_2 rfl (lv_at hl 0 rfl) ?_
  refine lv_aload_n hx hb xd_Ly_hasSplit_3 rfl (lv_at hl 1 rfl) ?_
  refine px_get (D := D) (ci := 5) (v := .ref (ad (20 + n) 1)) (C := xR_Ly) (T := xT_Ly) (N := 4) hx hb hT xi_Ly hown hK.1 hP m_3 c_6 rfl 2 (by decide) (hT _ k5z_0) (fun _ h9 => h9) rfl xd_Ly_hasSplit_4 ?_
  refine px_alen hx hb hK.1 hP m_5 c_4 6 rfl xd_Ly_hasSplit_7 ?_
  refine W.eq (g2 := F0 m 8 ls [.int (nI mk_1), .int (nI k)]) rfl ?_
  refine xn_ge (a := k) (b := mk_1) (tgt := 68) hx hb xd_Ly_hasSplit_8 (by decide) (by omega) (by omega) (fun hc8 => ?_) (fun hc8 => ?_)
  · refine lv_iconst (v := 0) hx hb xd_Ly_hasSplit_68 (by decide) ?_
    exact W.zret (v := 0) hx hb hr rfl (fun t ht hW => ⟨⟨0, (), rfl, Or.inr ⟨rfl, fun ⟨k8, q1, la8, q2, j8, q3, q4⟩ => hno2 k8 (by
        unfold mcv at q1
        rw [h20_1, iN_nI (by omega)] at q1
        omega) la8 q2 j8 q3 q4⟩, by rw [ht]; exact hP, hD⟩, hS.F ht⟩) hS.2.2 xd_Ly_hasSplit_69
  · refine lv_aload_n hx hb xd_Ly_hasSplit_11 rfl (lv_at hl 1 rfl) ?_
    refine lv_astore_n hx hb xd_Ly_hasSplit_12 rfl hl (Nat.le_of_ble_eq_true rfl) rfl (fun ls hl => ?_)
    have hl : lv_has ls 4 [(2, .ref (ad (20 + n) 0)), (1, .int (nI k)), (0, .ref (ad (20 + n) 0))] := hl
    refine xlab (σ := Nat) (ml := 4) 13 (fun (y : Nat) => [(2, (lyv ad y)), (1, .int (nI k)), (0, .ref (ad (20 + n) 0))]) (fun (y : Nat) => []) (fun (y : Nat) => rp ad E RL) (fun (y : Nat) => (y ≤ n + 1) ∧ ((∀ la8, Ch (prv g) y la8 → ∀ j8, j8 < mcv g la8 → ¬ SB g (RWb E n k) n (mdv g n k) la8 j8) → ∀ la8, Ch (prv g) (n + 1) la8 → ∀ j8, j8 < mcv g la8 → ¬ SB g (RWb E n k) n (mdv g n k) la8 j8) ∧ (∀ la8, Ch (prv g) y la8 → Ch (prv g) (n + 1) la8)) (fun (y : Nat) => y) ?_ (n + 1) _ _ _ (lv_sub hl [0, 1, 2] rfl) hP hD hS ⟨(show (n + 1) ≤ n + 1 from by first | assumption | omega), (show (∀ la8, Ch (prv g) (n + 1) la8 → ∀ j8, j8 < mcv g la8 → ¬ SB g (RWb E n k) n (mdv g n k) la8 j8) → ∀ la8, Ch (prv g) (n + 1) la8 → ∀ j8, j8 < mcv g la8 → ¬ SB g (RWb E n k) n (mdv g n k) la8 j8 from fun q => q), (show ∀ la8, Ch (prv g) (n + 1) la8 → Ch (prv g) (n + 1) la8 from fun la8 hc => hc)⟩
    intro n9 ih9 a9 ls H locs hμ hl hP hD hS hI
    subst hμ
    obtain ⟨y, rfl⟩ : ∃ z, z = a9 := ⟨_, rfl⟩
    obtain ⟨hy, hN13, hC13⟩ := hI
    have hy : y ≤ n + 1 := hy
    have hN13 : (∀ la8, Ch (prv g) y la8 → ∀ j8, j8 < mcv g la8 → ¬ SB g (RWb E n k) n (mdv g n k) la8 j8) → ∀ la8, Ch (prv g) (n + 1) la8 → ∀ j8, j8 < mcv g la8 → ¬ SB g (RWb E n k) n (mdv g n k) la8 j8 := hN13
    have hC13 : ∀ la8, Ch (prv g) y la8 → Ch (prv g) (n + 1) la8 := hC13
    have hl : lv_has ls 4 [(2, (lyv ad y)), (1, .int (nI k)), (0, .ref (ad (20 + n) 0))] := hl
    have hP : va_P D xcl (rp ad E RL) H := hP
    have hD : va_D A (rp ad E RL) := hD
    rcases y with _ | y
    · have hl : lv_has ls 4 [(2, .null), (1, .int (nI k)), (0, .ref (ad (20 + n) 0))] := hl
      refine lv_aload_nN hx hb xd_Ly_hasSplit_13 rfl (lv_at hl 0 rfl) ?_
      refine lv_ifnullN (tgt := 62) hx hb xd_Ly_hasSplit_14 (by decide) ?_
      refine lv_iinc (k := 1) (x := (nI k)) (v := (nI (k + 1))) hx hb xd_Ly_hasSplit_62 hl rfl (xb_inc k 1) (Nat.le_of_ble_eq_true rfl) rfl (fun ls hl => ?_)
      have hl : lv_has ls 4 [(1, .int (nI (k + 1))), (2, .null), (0, .ref (ad (20 + n) 0))] := hl
      refine lv_goto (tgt := 2) hx hb xd_Ly_hasSplit_65 (by decide) ?_
      exact ih7 (k + 1) _ _ _ (show mk_1 - (k + 1) < mk_1 - k by omega) (lv_sub hl [0, 2] rfl) hP hD hS ⟨(show (k + 1) ≤ mk_1 from by first | assumption | omega), (show ∀ k8, k8 < (k + 1) → ∀ la8, Ch (prv g) (n + 1) la8 → ∀ j8, j8 < mcv g la8 → ¬ SB g (RWb E n k8) n (mdv g n k8) la8 j8 from fun k8 hk8 => by
        rcases Nat.lt_or_ge k8 k with z | z
        · exact hno2 k8 z
        · rw [show k8 = k by omega]; exact hN13 (fun la8 hc => absurd hc Ch_0))⟩
    · have hl : lv_has ls 4 [(2, .ref (ad (20 + y) 0)), (1, .int (nI k)), (0, .ref (ad (20 + n) 0))] := hl
      refine lv_aload_n hx hb xd_Ly_hasSplit_13 rfl (lv_at hl 0 rfl) ?_
      refine lv_ifnull hx hb xd_Ly_hasSplit_14 ?_
      refine lv_iconst (v := 0) hx hb xd_Ly_hasSplit_17 (by decide) ?_
      refine lv_istore_n hx hb xd_Ly_hasSplit_18 rfl hl (Nat.le_of_ble_eq_true rfl) rfl (fun ls hl => ?_)
      have hl : lv_has ls 4 [(3, .int 0), (2, .ref (ad (20 + y) 0)), (1, .int (nI k)), (0, .ref (ad (20 + n) 0))] := hl
      obtain ⟨m0_10, m1_10, pv_10, op_10, mk_10, fm_10, hmk_10, hpv_10, q0_10, q1_10, hk_10⟩ := id (hLIs y (by omega))
      have c_11 : E (20 + y) 0 = .inr (5, [.int (nI y), pv_10, .ref (ad (20 + y) 1), .int op_10]) := q0_10
      have m_12 : (20 + y, 0) ∈ RL := m0_10
      have c_13 : E (20 + y) 1 = .inl (kA 6, mk_10, .inr (.inr (.inr (.inr fm_10)))) := q1_10
      have m_14 : (20 + y, 1) ∈ RL := m1_10
      obtain ⟨top_10, ⟨lq_10, hlq_10, h19_10, hpv2_10⟩, h20_10, tmd_10⟩ := TLa_get c_11 c_13 (hTL y (by omega))
      have c_15 : E (20 + y) 0 = .inr (5, [.int (nI y), (lyv ad lq_10), .ref (ad (20 + y) 1), .int op_10]) := by rw [← hpv2_10]; exact c_11
      have i20_10 : iN (g 20 y) = mk_10 := by rw [h20_10, iN_nI (by omega)]
      refine xlab (σ := Nat) (ml := 4) 19 (fun (k3 : Nat) => [(3, .int (nI k3)), (2, .ref (ad (20 + y) 0)), (1, .int (nI k)), (0, .ref (ad (20 + n) 0))]) (fun (k3 : Nat) => []) (fun (k3 : Nat) => rp ad E RL) (fun (k3 : Nat) => (k3 ≤ mk_10) ∧ (∀ j8, j8 < k3 → ¬ SB g (RWb E n k) n (mdv g n k) y j8)) (fun (k3 : Nat) => mk_10 - k3) ?_ 0 _ _ _ (lv_sub hl [0, 1, 2, 3] rfl) hP hD hS ⟨(show 0 ≤ mk_10 from by first | assumption | omega), (show ∀ j8, j8 < 0 → ¬ SB g (RWb E n k) n (mdv g n k) y j8 from fun j hj => absurd hj (by omega))⟩
      intro n9 ih16 a9 ls H locs hμ hl hP hD hS hI
      subst hμ
      obtain ⟨k3, rfl⟩ : ∃ z, z = a9 := ⟨_, rfl⟩
      obtain ⟨hk3, hno3⟩ := hI
      have hk3 : k3 ≤ mk_10 := hk3
      have hno3 : ∀ j8, j8 < k3 → ¬ SB g (RWb E n k) n (mdv g n k) y j8 := hno3
      have hl : lv_has ls 4 [(3, .int (nI k3)), (2, .ref (ad (20 + y) 0)), (1, .int (nI k)), (0, .ref (ad (20 + n) 0))] := hl
      have hP : va_P D xcl (rp ad E RL) H := hP
      have hD : va_D A (rp ad E RL) := hD
      refine lv_iload_n hx hb xd_Ly_hasSplit_19 rfl (lv_at hl 0 rfl) ?_
      refine lv_aload_n hx hb xd_Ly_hasSplit_20 rfl (lv_at hl 1 rfl) ?_
      refine px_get (D := D) (ci := 5) (v := .ref (ad (20 + y) 1)) (C := xR_Ly) (T := xT_Ly) (N := 4) hx hb hT xi_Ly hown hK.1 hP m_12 c_15 rfl 2 (by decide) (hT _ k5z_0) (fun _ h9 => h9) rfl xd_Ly_hasSplit_21 ?_
      refine px_alen hx hb hK.1 hP m_14 c_13 6 rfl xd_Ly_hasSplit_24 ?_
      refine W.eq (g2 := F0 m 25 ls [.int (nI mk_10), .int (nI k3)]) rfl ?_
      refine xn_ge (a := k3) (b := mk_10) (tgt := 54) hx hb xd_Ly_hasSplit_25 (by decide) (by omega) (by omega) (fun hc17 => ?_) (fun hc17 => ?_)
      · refine lv_aload_n hx hb xd_Ly_hasSplit_54 rfl (lv_at hl 1 rfl) ?_
        refine px_get (D := D) (ci := 5) (v := (lyv ad lq_10)) (C := xR_Ly) (T := xT_Ly) (N := 4) hx hb hT xi_Ly hown hK.1 hP m_12 c_15 rfl 1 (by decide) (hT _ k5z_7) (fun _ h9 => h9) rfl xd_Ly_hasSplit_55 ?_
        rcases (show lq_10 = 0 ∨ ∃ yq, lq_10 = yq + 1 from by rcases Nat.eq_zero_or_pos lq_10 with q | q; exact Or.inl q; exact Or.inr ⟨lq_10 - 1, by omega⟩) with hyq | ⟨yq, hyq⟩
        · refine W.eq (g2 := F0 m 58 ls [.null]) (by rw [lyv_0 hyq]) ?_
          refine lv_astore_nN hx hb xd_Ly_hasSplit_58 rfl hl (Nat.le_of_ble_eq_true rfl) rfl (fun ls hl => ?_)
          have hl : lv_has ls 4 [(2, .null), (3, .int (nI k3)), (1, .int (nI k)), (0, .ref (ad (20 + n) 0))] := hl
          refine lv_goto (tgt := 13) hx hb xd_Ly_hasSplit_59 (by decide) ?_
          exact ih9 0 _ _ _ (show 0 < y + 1 by omega) (lv_sub hl [0, 2, 3] rfl) hP hD hS ⟨(show 0 ≤ n + 1 from by first | assumption | omega), (show (∀ la8, Ch (prv g) 0 la8 → ∀ j8, j8 < mcv g la8 → ¬ SB g (RWb E n k) n (mdv g n k) la8 j8) → ∀ la8, Ch (prv g) (n + 1) la8 → ∀ j8, j8 < mcv g la8 → ¬ SB g (RWb E n k) n (mdv g n k) la8 j8 from fun q => hN13 (fun la8 hc j8 hj8 => by
        rcases Ch_s.mp hc with e | c9
        · rw [e] at hj8 ⊢
          exact hno3 j8 (by
            unfold mcv at hj8
            rw [h20_10, iN_nI (by omega)] at hj8
            omega)
        · rw [prv_of h19_10 (by omega), hyq] at c9
          exact q la8 c9 j8 hj8)), (show ∀ la8, Ch (prv g) 0 la8 → Ch (prv g) (n + 1) la8 from fun la8 hc => hC13 la8 (Ch_s.mpr (Or.inr (by rw [prv_of h19_10 (by omega), hyq]; exact hc))))⟩
        · refine W.eq (g2 := F0 m 58 ls [.ref (ad (20 + yq) 0)]) (by rw [lyv_s hyq]) ?_
          refine lv_astore_n hx hb xd_Ly_hasSplit_58 rfl hl (Nat.le_of_ble_eq_true rfl) rfl (fun ls hl => ?_)
          have hl : lv_has ls 4 [(2, .ref (ad (20 + yq) 0)), (3, .int (nI k3)), (1, .int (nI k)), (0, .ref (ad (20 + n) 0))] := hl
          refine lv_goto (tgt := 13) hx hb xd_Ly_hasSplit_59 (by decide) ?_
          exact ih9 (yq + 1) _ _ _ (show (yq + 1) < y + 1 by omega) (lv_sub hl [0, 2, 3] rfl) hP hD hS ⟨(show (yq + 1) ≤ n + 1 from by first | assumption | omega), (show (∀ la8, Ch (prv g) (yq + 1) la8 → ∀ j8, j8 < mcv g la8 → ¬ SB g (RWb E n k) n (mdv g n k) la8 j8) → ∀ la8, Ch (prv g) (n + 1) la8 → ∀ j8, j8 < mcv g la8 → ¬ SB g (RWb E n k) n (mdv g n k) la8 j8 from fun q => hN13 (fun la8 hc j8 hj8 => by
        rcases Ch_s.mp hc with e | c9
        · rw [e] at hj8 ⊢
          exact hno3 j8 (by
            unfold mcv at hj8
            rw [h20_10, iN_nI (by omega)] at hj8
            omega)
        · rw [prv_of h19_10 (by omega), hyq] at c9
          exact q la8 c9 j8 hj8)), (show ∀ la8, Ch (prv g) (yq + 1) la8 → Ch (prv g) (n + 1) la8 from fun la8 hc => hC13 la8 (Ch_s.mpr (Or.inr (by rw [prv_of h19_10 (by omega), hyq]; exact hc))))⟩
      · refine lv_aload_n hx hb xd_Ly_hasSplit_28 rfl (lv_at hl 3 rfl) ?_
        refine px_get (D := D) (ci := 5) (v := .ref (ad (20 + n) 1)) (C := xR_Ly) (T := xT_Ly) (N := 4) hx hb hT xi_Ly hown hK.1 hP m_3 c_6 rfl 2 (by decide) (hT _ k5z_0) (fun _ h9 => h9) rfl xd_Ly_hasSplit_29 ?_
        refine lv_iload_n hx hb xd_Ly_hasSplit_32 rfl (lv_at hl 2 rfl) ?_
        refine px_aald (i := k) (x := (some (ad (20 + n) (10 + 10 * k)))) hx hb hK.1 hP m_5 c_4 6 rfl ((hk_1 k (by omega)).1) (by omega) (by omega) xd_Ly_hasSplit_33 ?_
        refine lv_aload_n hx hb xd_Ly_hasSplit_34 rfl (lv_at hl 1 rfl) ?_
        refine px_get (D := D) (ci := 5) (v := .ref (ad (20 + y) 1)) (C := xR_Ly) (T := xT_Ly) (N := 4) hx hb hT xi_Ly hown hK.1 hP m_12 c_15 rfl 2 (by decide) (hT _ k5z_0) (fun _ h9 => h9) rfl xd_Ly_hasSplit_35 ?_
        refine lv_iload_n hx hb xd_Ly_hasSplit_38 rfl (lv_at hl 0 rfl) ?_
        refine px_aald (i := k3) (x := (some (ad (20 + y) (10 + 10 * k3)))) hx hb hK.1 hP m_14 c_13 6 rfl ((hk_10 k3 (by omega)).1) (by omega) (by omega) xd_Ly_hasSplit_39 ?_
        have hFc := px_free hD hS hA
        obtain ⟨hm_18, d_18, rs_18, fr_18, g2_18, g3_18, g4_18, hd_18, hrs_18, q0_18, q1_18, q2_18, q3_18, q4_18, q5_18, q6_18, q7_18⟩ := (hk_1 k (by omega)).2
        have c_19 : E (20 + n) (10 + 10 * k) = .inr (6, [.ref (ad (20 + n) 0), .ref (ad (1 + d_18) 0), .ref (ad (20 + n) (11 + 10 * k)), .ref (ad (20 + n) (12 + 10 * k)), .ref (ad (20 + n) (13 + 10 * k)), .ref (ad (20 + n) (14 + 10 * k))]) := q0_18
        have m_20 : (20 + n, 10 + 10 * k) ∈ RL := hm_18 0 (by omega)
        have c_21 : E (20 + n) (11 + 10 * k) = .inl (kA 6, rs_18, .inr (.inr (.inr (.inr fr_18)))) := q1_18
        have m_22 : (20 + n, 11 + 10 * k) ∈ RL := hm_18 1 (by omega)
        have c_23 : E (20 + n) (12 + 10 * k) = .inr (10, [.ref (ad (20 + n) (15 + 10 * k))]) := q2_18
        have m_24 : (20 + n, 12 + 10 * k) ∈ RL := hm_18 2 (by omega)
        have c_25 : E (20 + n) (13 + 10 * k) = .inr (10, [.ref (ad (20 + n) (16 + 10 * k))]) := q3_18
        have m_26 : (20 + n, 13 + 10 * k) ∈ RL := hm_18 3 (by omega)
        have c_27 : E (20 + n) (14 + 10 * k) = .inr (10, [.ref (ad (20 + n) (17 + 10 * k))]) := q4_18
        have m_28 : (20 + n, 14 + 10 * k) ∈ RL := hm_18 4 (by omega)
        have c_29 : E (20 + n) (15 + 10 * k) = .inl (kA 0, 6, .inl g2_18) := q5_18
        have m_30 : (20 + n, 15 + 10 * k) ∈ RL := hm_18 5 (by omega)
        have c_31 : E (20 + n) (16 + 10 * k) = .inl (kA 0, 6, .inl g3_18) := q6_18
        have m_32 : (20 + n, 16 + 10 * k) ∈ RL := hm_18 6 (by omega)
        have c_33 : E (20 + n) (17 + 10 * k) = .inl (kA 0, 6, .inl g4_18) := q7_18
        have m_34 : (20 + n, 17 + 10 * k) ∈ RL := hm_18 7 (by omega)
        have hdm_18 : mdv g n k = d_18 := by
          obtain ⟨dz, hdz, h21z, hvz⟩ := tmd_1 k (by omega)
          rw [c_19] at hvz
          have ez := (rp_inj hD ((hDIs d_18 hd_18).1 0 (by omega)) ((hDIs dz hdz).1 0 (by omega)) (Value.ref.inj hvz)).1
          unfold mdv
          rw [h21z, iN_nI (by omega)]; omega
        refine va_calli (va_runV (As := [.ref (ad (20 + y) (10 + 10 * k3))]) (rest := []) ⟨hx, hb, hml, hown, hT⟩ (xc_Me_isSplitByX l D kA H.size ad E RL g nd nL n k y k3 (by first | assumption | omega) (by first | assumption | omega) (by first | assumption | omega) (by first | assumption | omega) (by first | assumption | omega) (by first | assumption | omega) (by first | assumption | omega) ((hk_1 k (by omega)).2) (by rw [i20_1]; omega) (by first | assumption | omega) (by first | assumption | omega) ((hk_10 k3 (by omega)).2) (by rw [i20_10]; omega)) (cwV 1 hT (wT_V k5z_9 k5z_10 k5z_11 k5z_12 k5z_8) rfl rfl rfl (by decide +kernel) ⟨Nat.le_of_ble_eq_true rfl, Nat.le_of_ble_eq_true rfl⟩) (px_preV hK hP hD m_20 c_19 rfl) rfl rfl hl.1 rfl (lv_room (Nat.le_of_ble_eq_true rfl)) xd_Ly_hasSplit_40 ⟨(Nat.le_of_ble_eq_true rfl), (Nat.le_of_ble_eq_true rfl)⟩) hS (fun q _ h => hFc q h) hFc (fun r35 u36 t H1 locs ht hvm hp37 hB hz1 hk1 hS => ?_)
        obtain ⟨hP1, hD1⟩ := hB
        rw [ht] at hP1
        have hD1 := hD1.weaken (fun _ _ _ h => hFc _ h)
        generalize H1 = H at hP1 hS ⊢
        have hP := hP1
        have hD := hD1
        have hP : va_P D xcl (rp ad E RL) H := hP
        have hD : va_D A (rp ad E RL) := hD
        rcases hp37 with ⟨rfl, z38⟩ | ⟨rfl, z39⟩
        · refine W.eq (g2 := F0 m 43 ls [.int 1]) rfl ?_
          refine lv_if_eq (tgt := 48) hx hb xd_Ly_hasSplit_43 (by decide) (fun hc40 => absurd hc40 (by decide)) (fun _ => ?_)
          refine lv_iconst (v := 1) hx hb xd_Ly_hasSplit_46 (by decide) ?_
          exact W.zret (v := 1) hx hb hr rfl (fun t ht hW => ⟨⟨1, (), rfl, Or.inl ⟨rfl, k, (by unfold mcv; rw [h20_1, iN_nI (by omega)]; omega), y, hC13 y (Ch_s.mpr (Or.inl rfl)), k3, (by unfold mcv; rw [h20_10, iN_nI (by omega)]; omega), z38⟩, by rw [ht]; exact hP, hD⟩, hS.F ht⟩) hS.2.2 xd_Ly_hasSplit_47
        · refine W.eq (g2 := F0 m 43 ls [.int 0]) rfl ?_
          refine lv_if_eq (tgt := 48) hx hb xd_Ly_hasSplit_43 (by decide) (fun _ => ?_) (fun hc41 => absurd (by decide) hc41)
          refine lv_iinc (k := 0) (x := (nI k3)) (v := (nI (k3 + 1))) hx hb xd_Ly_hasSplit_48 hl rfl (xb_inc k3 1) (Nat.le_of_ble_eq_true rfl) rfl (fun ls hl => ?_)
          have hl : lv_has ls 4 [(3, .int (nI (k3 + 1))), (2, .ref (ad (20 + y) 0)), (1, .int (nI k)), (0, .ref (ad (20 + n) 0))] := hl
          refine lv_goto (tgt := 19) hx hb xd_Ly_hasSplit_51 (by decide) ?_
          exact ih16 (k3 + 1) _ _ _ (show mk_10 - (k3 + 1) < mk_10 - k3 by omega) (lv_sub hl [0, 1, 2, 3] rfl) hP hD hS ⟨(show (k3 + 1) ≤ mk_10 from by first | assumption | omega), (show ∀ j8, j8 < (k3 + 1) → ¬ SB g (RWb E n k) n (mdv g n k) y j8 from fun j hj => by
        rcases Nat.lt_or_ge j k3 with z | z
        · exact hno3 j z
        · rw [show j = k3 by omega]; exact z39)⟩
