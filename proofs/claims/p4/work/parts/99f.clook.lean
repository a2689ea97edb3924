theorem k5k_0 : (Cond.fieldLink "LayerDesk$Layer" 19 "LayerDesk$Layer" "members" "[LLayerDesk$Member;") ∈ wT := wT_t (List.mem_append_right _ (List.mem_append_right _ (List.mem_append_left _ (List.mem_of_getElem? (i := 147) rfl)))) rfl
theorem k5k_1 : (Cond.fieldLink "LayerDesk$Layer" 13 "LayerDesk$Layer" "parent" "LLayerDesk$Layer;") ∈ wT := wT_t (List.mem_append_right _ (List.mem_append_right _ (List.mem_append_left _ (List.mem_of_getElem? (i := 143) rfl)))) rfl
theorem k5k_2 : (Cond.fieldLink "LayerDesk$Layer" 27 "LayerDesk$Member" "descriptor" "LLayerDesk$Descriptor;") ∈ wT := wT_t (List.mem_append_right _ (List.mem_append_right _ (List.mem_append_left _ (List.mem_of_getElem? (i := 183) rfl)))) rfl
theorem k5k_3 : (Cond.fieldLink "LayerDesk$Layer" 31 "LayerDesk$Descriptor" "name" "I") ∈ wT := wT_t (List.mem_append_right _ (List.mem_append_left _ (List.mem_of_getElem? (i := 55) rfl))) rfl
theorem k5k_4 : (Cond.fieldLink "LayerDesk" 38 "LayerDesk" "made" "I") ∈ wT := wT_t (List.mem_append_left _ (List.mem_of_getElem? (i := 103) rfl)) rfl
theorem k5k_5 : (Cond.fieldLink "LayerDesk" 34 "LayerDesk" "layers" "[LLayerDesk$Layer;") ∈ wT := wT_t (List.mem_append_left _ (List.mem_of_getElem? (i := 102) rfl)) rfl
theorem k5k_6 : (Cond.fieldLink "LayerDesk" 117 "LayerDesk$Layer" "open" "Z") ∈ wT := wT_t (List.mem_append_right _ (List.mem_append_right _ (List.mem_append_left _ (List.mem_of_getElem? (i := 152) rfl)))) rfl
theorem k5k_7 : (Cond.fieldLink "LayerDesk$Chooser" 17 "LayerDesk$Chooser" "size" "I") ∈ wT := wT_t (List.mem_append_left _ (List.mem_of_getElem? (i := 83) rfl)) rfl
theorem k5k_8 : (Cond.fieldLink "LayerDesk$Chooser" 11 "LayerDesk$Chooser" "chosen" "[LLayerDesk$Descriptor;") ∈ wT := wT_t (List.mem_append_left _ (List.mem_of_getElem? (i := 82) rfl)) rfl
set_option maxHeartbeats 4000000 in
set_option maxRecDepth 100000 in
theorem xc_Ly_lookUpX (l : Launch) (D : va_G) (kA : Nat → ClassId) (sz : Nat) (ad : Nat → Nat → Nat) (E : Nat → Nat → va_E) (RL : List (Nat × Nat)) (g : Nat → Nat → Int32) (nd : Nat) (nL : Nat) (n : Nat) (nm : Int32) (hDIs : DIs kA ad E RL nd) (hLIs : LIs kA ad E RL nd nL) (hnL : nL ≤ 6) (hn : n < nL) (hTD : TDs g E nd) (hTL : TLas g ad E nd nL) (hnd12 : nd ≤ 12) : Met l xy_Ly_lookUp (.code xy_Ly_lookUp xb_Ly_lookUp 4 (some (.object "LayerDesk$Member")) :: wT) { frames := 0, cells := 0, slots := 0, locals := 0 } (va_Pc [.ref (ad (20 + n) 0), .int nm] (xPre D kA sz (rp ad E RL))) (va_Qq (fun (r : Option Nat) (u : Unit) => (r = none ∧ lkG g (n + 1) nm = none) ∨ ∃ x k, x ≤ n ∧ r = some (ad (20 + x) (10 + 10 * k)) ∧ MEI kA ad E RL nd x k ∧ k < iN (g 20 x) ∧ lkG g (n + 1) nm = some (x, mdv g x k)) (fun (u : Unit) t => va_P D xcl (rp ad E RL) t.heap ∧ va_D (va_A (rp ad E RL) sz) (rp ad E RL)) (va_A (rp ad E RL) sz)) 0 0 (va_A (rp ad E RL) sz) := by
  refine Met.ofW (cc := xb_Ly_lookUp) (maxL := 4) (ret := (some (.object "LayerDesk$Member"))) (by decide) rfl ?_
  intro p e s m args below meth c s₁ B hml hv
  obtain ⟨rfl, hsz, hP, hK, hD0⟩ := hv
  have hx := B.exec
  have hb := B.bytes
  have hr := B.returns
  have hT := x_hT B.pre
  have hown : s.vm.findClass xR_Ly = some m.cls := findClass_of_methodNamed B.named
  have hlocks := B.notSynchronized
  subst hsz
  have hD := hD0.self (sz := s.heap.size)
  generalize hAe : va_A (rp ad E RL) s.heap.size = A at hD ⊢
  have hA : ∀ q : Nat, s.heap.size ≤ q → A q := fun q h => by rw [← hAe]; exact Or.inr h
  have hS : va_S A s.heap s.heap [] := va_S.rf
  have hl := lv_entry ([.ref (ad (20 + n) 0), .int nm]) (n := 4) (Nat.le_of_ble_eq_true rfl)
  rw [lg_entry_eq]
  generalize (lg_sl ([.ref (ad (20 + n) 0), .int nm]) ++ List.replicate (4 - (lg_sl ([.ref (ad (20 + n) 0), .int nm])).length) Slot.unset).toArray = ls at hl ⊢
  have hl : lv_has ls 4 [(0, .ref (ad (20 + n) 0)), (1, .int nm)] := hl
  have hP : va_P D xcl (rp ad E RL) s.heap := hP
  refine lv_aload_n hx hb xd_Ly_lookUp_0 rfl (lv_at hl 0 rfl) ?_
  refine lv_astore_n hx hb xd_Ly_lookUp_1 rfl hl (Nat.le_of_ble_eq_true rfl) rfl (fun ls hl => ?_)
  have hl : lv_has ls 4 [(2, .ref (ad (20 + n) 0)), (0, .ref (ad (20 + n) 0)), (1, .int nm)] := hl
  refine xlab (σ := Nat) (ml := 4) 2 (fun (y : Nat) => [(2, (lyv ad y)), (0, .ref (ad (20 + n) 0)), (1, .int nm)]) (fun (y : Nat) => []) (fun (y : Nat) => rp ad E RL) (fun (y : Nat) => (y ≤ n + 1) ∧ (lkG g (n + 1) nm = lkG g y nm)) (fun (y : Nat) => y) ?_ (n + 1) _ _ _ (lv_sub hl [0, 1, 2] rfl) hP hD hS ⟨(show (n + 1) ≤ n + 1 from by first | assumption | omega), (show lkG g (n + 1) nm = lkG g (n + 1) nm from rfl)⟩
  intro n9 ih1 a9 ls H locs hμ hl hP hD hS hI
  subst hμ
  obtain ⟨y, rfl⟩ : ∃ z, z = a9 := ⟨_, rfl⟩
  obtain ⟨hy, hlk⟩ := hI
  have hy : y ≤ n + 1 := hy
  have hlk : lkG g (n + 1) nm = lkG g y nm := hlk
  have hl : lv_has ls 4 [(2, (lyv ad y)), (0, .ref (ad (20 + n) 0)), (1, .int nm)] := hl
  have hP : va_P D xcl (rp ad E RL) H := hP
  have hD : va_D A (rp ad E RL) := hD
  rcases y with _ | y
  · have hl : lv_has ls 4 [(2, .null), (0, .ref (ad (20 + n) 0)), (1, .int nm)] := hl
    refine lv_aload_nN hx hb xd_Ly_lookUp_2 rfl (lv_at hl 0 rfl) ?_
    refine lv_ifnullN (tgt := 54) hx hb xd_Ly_lookUp_3 (by decide) ?_
    refine lv_null hx hb xd_Ly_lookUp_54 ?_
    exact W.aret (v := .null) hx hb hr (Or.inl ⟨_, rfl⟩) (Or.inl rfl) (fun t ht hW => ⟨⟨none, (), rfl, Or.inl ⟨rfl, by rw [hlk]; rfl⟩, by rw [ht]; exact hP, hD⟩, hS.F ht⟩) hS.2.2 xd_Ly_lookUp_55
  · have hl : lv_has ls 4 [(2, .ref (ad (20 + y) 0)), (0, .ref (ad (20 + n) 0)), (1, .int nm)] := hl
    refine lv_aload_n hx hb xd_Ly_lookUp_2 rfl (lv_at hl 0 rfl) ?_
    refine lv_ifnull hx hb xd_Ly_lookUp_3 ?_
    refine lv_iconst (v := 0) hx hb xd_Ly_lookUp_6 (by decide) ?_
    refine lv_istore_n hx hb xd_Ly_lookUp_7 rfl hl (Nat.le_of_ble_eq_true rfl) rfl (fun ls hl => ?_)
    have hl : lv_has ls 4 [(3, .int 0), (2, .ref (ad (20 + y) 0)), (0, .ref (ad (20 + n) 0)), (1, .int nm)] := hl
    obtain ⟨m0_2, m1_2, pv_2, op_2, mk_2, fm_2, hmk_2, hpv_2, q0_2, q1_2, hk_2⟩ := id (hLIs y (by omega))
    have c_3 : E (20 + y) 0 = .inr (5, [.int (nI y), pv_2, .ref (ad (20 + y) 1), .int op_2]) := q0_2
    have m_4 : (20 + y, 0) ∈ RL := m0_2
    have c_5 : E (20 + y) 1 = .inl (kA 6, mk_2, .inr (.inr (.inr (.inr fm_2)))) := q1_2
    have m_6 : (20 + y, 1) ∈ RL := m1_2
    obtain ⟨top_2, ⟨lq_2, hlq_2, h19_2, hpv2_2⟩, h20_2, tmd_2⟩ := TLa_get c_3 c_5 (hTL y (by omega))
    have c_7 : E (20 + y) 0 = .inr (5, [.int (nI y), (lyv ad lq_2), .ref (ad (20 + y) 1), .int op_2]) := by rw [← hpv2_2]; exact c_3
    refine xlab (σ := Nat) (ml := 4) 8 (fun (k : Nat) => [(3, .int (nI k)), (2, .ref (ad (20 + y) 0)), (0, .ref (ad (20 + n) 0)), (1, .int nm)]) (fun (k : Nat) => []) (fun (k : Nat) => rp ad E RL) (fun (k : Nat) => (k ≤ mk_2) ∧ (∀ j, j < k → ¬ g 4 (mdv g y j) = nm)) (fun (k : Nat) => mk_2 - k) ?_ 0 _ _ _ (lv_sub hl [0, 1, 2, 3] rfl) hP hD hS ⟨(show 0 ≤ mk_2 from by first | assumption | omega), (show ∀ j, j < 0 → ¬ g 4 (mdv g y j) = nm from fun j hj => absurd hj (by omega))⟩
    intro n9 ih8 a9 ls H locs hμ hl hP hD hS hI
    subst hμ
    obtain ⟨k, rfl⟩ : ∃ z, z = a9 := ⟨_, rfl⟩
    obtain ⟨hk9, hno⟩ := hI
    have hk9 : k ≤ mk_2 := hk9
    have hno : ∀ j, j < k → ¬ g 4 (mdv g y j) = nm := hno
    have hl : lv_has ls 4 [(3, .int (nI k)), (2, .ref (ad (20 + y) 0)), (0, .ref (ad (20 + n) 0)), (1, .int nm)] := hl
    have hP : va_P D xcl (rp ad E RL) H := hP
    have hD : va_D A (rp ad E RL) := hD
    refine lv_iload_n hx hb xd_Ly_lookUp_8 rfl (lv_at hl 0 rfl) ?_
    refine lv_aload_n hx hb xd_Ly_lookUp_9 rfl (lv_at hl 1 rfl) ?_
    refine px_get (D := D) (ci := 5) (v := .ref (ad (20 + y) 1)) (C := xR_Ly) (T := xT_Ly) (N := 4) hx hb hT xi_Ly hown hK.1 hP m_4 c_7 rfl 2 (by decide) (hT _ k5k_0) (fun _ h9 => h9) rfl xd_Ly_lookUp_10 ?_
    refine px_alen hx hb hK.1 hP m_6 c_5 6 rfl xd_Ly_lookUp_13 ?_
    refine W.eq (g2 := F0 m 14 ls [.int (nI mk_2), .int (nI k)]) rfl ?_
    refine xn_ge (a := k) (b := mk_2) (tgt := 46) hx hb xd_Ly_lookUp_14 (by decide) (by omega) (by omega) (fun hc9 => ?_) (fun hc9 => ?_)
    · refine lv_aload_n hx hb xd_Ly_lookUp_46 rfl (lv_at hl 1 rfl) ?_
      refine px_get (D := D) (ci := 5) (v := (lyv ad lq_2)) (C := xR_Ly) (T := xT_Ly) (N := 4) hx hb hT xi_Ly hown hK.1 hP m_4 c_7 rfl 1 (by decide) (hT _ k5k_1) (fun _ h9 => h9) rfl xd_Ly_lookUp_47 ?_
      rcases (show lq_2 = 0 ∨ ∃ yq, lq_2 = yq + 1 from by rcases Nat.eq_zero_or_pos lq_2 with q | q; exact Or.inl q; exact Or.inr ⟨lq_2 - 1, by omega⟩) with hyq | ⟨yq, hyq⟩
      · refine W.eq (g2 := F0 m 50 ls [.null]) (by rw [lyv_0 hyq]) ?_
        refine lv_astore_nN hx hb xd_Ly_lookUp_50 rfl hl (Nat.le_of_ble_eq_true rfl) rfl (fun ls hl => ?_)
        have hl : lv_has ls 4 [(2, .null), (3, .int (nI k)), (0, .ref (ad (20 + n) 0)), (1, .int nm)] := hl
        refine lv_goto (tgt := 2) hx hb xd_Ly_lookUp_51 (by decide) ?_
        exact ih1 0 _ _ _ (show 0 < y + 1 by omega) (lv_sub hl [0, 2, 3] rfl) hP hD hS ⟨(show 0 ≤ n + 1 from by first | assumption | omega), (show lkG g (n + 1) nm = lkG g 0 nm from (hlk.trans (lkG_missT (fun x hx => prv_T hnL hTL x (by omega)) h20_2 hmk_2 h19_2 (by omega) (fun j hj => hno j (by omega)))).trans (by rw [hyq]))⟩
      · refine W.eq (g2 := F0 m 50 ls [.ref (ad (20 + yq) 0)]) (by rw [lyv_s hyq]) ?_
        refine lv_astore_n hx hb xd_Ly_lookUp_50 rfl hl (Nat.le_of_ble_eq_true rfl) rfl (fun ls hl => ?_)
        have hl : lv_has ls 4 [(2, .ref (ad (20 + yq) 0)), (3, .int (nI k)), (0, .ref (ad (20 + n) 0)), (1, .int nm)] := hl
        refine lv_goto (tgt := 2) hx hb xd_Ly_lookUp_51 (by decide) ?_
        exact ih1 (yq + 1) _ _ _ (show (yq + 1) < y + 1 by omega) (lv_sub hl [0, 2, 3] rfl) hP hD hS ⟨(show (yq + 1) ≤ n + 1 from by first | assumption | omega), (show lkG g (n + 1) nm = lkG g (yq + 1) nm from (hlk.trans (lkG_missT (fun x hx => prv_T hnL hTL x (by omega)) h20_2 hmk_2 h19_2 (by omega) (fun j hj => hno j (by omega)))).trans (by rw [hyq]))⟩
    · refine lv_aload_n hx hb xd_Ly_lookUp_17 rfl (lv_at hl 1 rfl) ?_
      refine px_get (D := D) (ci := 5) (v := .ref (ad (20 + y) 1)) (C := xR_Ly) (T := xT_Ly) (N := 4) hx hb hT xi_Ly hown hK.1 hP m_4 c_7 rfl 2 (by decide) (hT _ k5k_0) (fun _ h9 => h9) rfl xd_Ly_lookUp_18 ?_
      refine lv_iload_n hx hb xd_Ly_lookUp_21 rfl (lv_at hl 0 rfl) ?_
      refine px_aald (i := k) (x := (some (ad (20 + y) (10 + 10 * k)))) hx hb hK.1 hP m_6 c_5 6 rfl ((hk_2 k (by omega)).1) (by omega) (by omega) xd_Ly_lookUp_22 ?_
      obtain ⟨hm_10, d_10, rs_10, fr_10, g2_10, g3_10, g4_10, hd_10, hrs_10, q0_10, q1_10, q2_10, q3_10, q4_10, q5_10, q6_10, q7_10⟩ := (hk_2 k (by omega)).2
      have c_11 : E (20 + y) (10 + 10 * k) = .inr (6, [.ref (ad (20 + y) 0), .ref (ad (1 + d_10) 0), .ref (ad (20 + y) (11 + 10 * k)), .ref (ad (20 + y) (12 + 10 * k)), .ref (ad (20 + y) (13 + 10 * k)), .ref (ad (20 + y) (14 + 10 * k))]) := q0_10
      have m_12 : (20 + y, 10 + 10 * k) ∈ RL := hm_10 0 (by omega)
      have c_13 : E (20 + y) (11 + 10 * k) = .inl (kA 6, rs_10, .inr (.inr (.inr (.inr fr_10)))) := q1_10
      have m_14 : (20 + y, 11 + 10 * k) ∈ RL := hm_10 1 (by omega)
      have c_15 : E (20 + y) (12 + 10 * k) = .inr (10, [.ref (ad (20 + y) (15 + 10 * k))]) := q2_10
      have m_16 : (20 + y, 12 + 10 * k) ∈ RL := hm_10 2 (by omega)
      have c_17 : E (20 + y) (13 + 10 * k) = .inr (10, [.ref (ad (20 + y) (16 + 10 * k))]) := q3_10
      have m_18 : (20 + y, 13 + 10 * k) ∈ RL := hm_10 3 (by omega)
      have c_19 : E (20 + y) (14 + 10 * k) = .inr (10, [.ref (ad (20 + y) (17 + 10 * k))]) := q4_10
      have m_20 : (20 + y, 14 + 10 * k) ∈ RL := hm_10 4 (by omega)
      have c_21 : E (20 + y) (15 + 10 * k) = .inl (kA 0, 6, .inl g2_10) := q5_10
      have m_22 : (20 + y, 15 + 10 * k) ∈ RL := hm_10 5 (by omega)
      have c_23 : E (20 + y) (16 + 10 * k) = .inl (kA 0, 6, .inl g3_10) := q6_10
      have m_24 : (20 + y, 16 + 10 * k) ∈ RL := hm_10 6 (by omega)
      have c_25 : E (20 + y) (17 + 10 * k) = .inl (kA 0, 6, .inl g4_10) := q7_10
      have m_26 : (20 + y, 17 + 10 * k) ∈ RL := hm_10 7 (by omega)
      have hdm_10 : mdv g y k = d_10 := by
        obtain ⟨dz, hdz, h21z, hvz⟩ := tmd_2 k (by omega)
        rw [c_11] at hvz
        have ez := (rp_inj hD ((hDIs d_10 hd_10).1 0 (by omega)) ((hDIs dz hdz).1 0 (by omega)) (Value.ref.inj hvz)).1
        unfold mdv
        rw [h21z, iN_nI (by omega)]; omega
      refine px_get (D := D) (ci := 6) (v := .ref (ad (1 + d_10) 0)) (C := xR_Me) (T := xT_Me) (N := 6) hx hb hT xi_Me hown hK.1 hP m_12 c_11 rfl 1 (by decide) (hT _ k5k_2) (fun _ h9 => h9) rfl xd_Ly_lookUp_23 ?_
      obtain ⟨hm_27, fd_27, nm_27, sd_27, k0_27, k1_27, k2_27, k3_27, f0_27, f1_27, f2_27, f3_27, fe_27, fo_27, tr_27, op_27, hk0_27, hk1_27, hk2_27, hk3_27, q0_27, q1_27, q2_27, q3_27, q4_27, q5_27, q6_27, q7_27, q8_27, q9_27, q10_27, q11_27, q12_27, hg_27⟩ := id (hDIs d_10 (by omega))
      have c_28 : E (1 + d_10) 0 = .inr (7, [.int (nI d_10), .int fd_27, .int nm_27, .ref (ad (1 + d_10) 1), .ref (ad (1 + d_10) 9), .ref (ad (1 + d_10) 10), .ref (ad (1 + d_10) 2), .ref (ad (1 + d_10) 11), .ref (ad (1 + d_10) 12), .ref (ad (1 + d_10) 3), .ref (ad (1 + d_10) 4), .int sd_27]) := q0_27
      have m_29 : (1 + d_10, 0) ∈ RL := hm_27 0 (by omega)
      have c_30 : E (1 + d_10) 1 = .inr (8, [.ref (ad (1 + d_10) 5), .int (nI k0_27)]) := q1_27
      have m_31 : (1 + d_10, 1) ∈ RL := hm_27 1 (by omega)
      have c_32 : E (1 + d_10) 2 = .inr (8, [.ref (ad (1 + d_10) 6), .int (nI k1_27)]) := q2_27
      have m_33 : (1 + d_10, 2) ∈ RL := hm_27 2 (by omega)
      have c_34 : E (1 + d_10) 3 = .inr (8, [.ref (ad (1 + d_10) 7), .int (nI k2_27)]) := q3_27
      have m_35 : (1 + d_10, 3) ∈ RL := hm_27 3 (by omega)
      have c_36 : E (1 + d_10) 4 = .inr (8, [.ref (ad (1 + d_10) 8), .int (nI k3_27)]) := q4_27
      have m_37 : (1 + d_10, 4) ∈ RL := hm_27 4 (by omega)
      have c_38 : E (1 + d_10) 5 = .inl (kA 0, 6, .inl f0_27) := q5_27
      have m_39 : (1 + d_10, 5) ∈ RL := hm_27 5 (by omega)
      have c_40 : E (1 + d_10) 6 = .inl (kA 0, 5, .inl f1_27) := q6_27
      have m_41 : (1 + d_10, 6) ∈ RL := hm_27 6 (by omega)
      have c_42 : E (1 + d_10) 7 = .inl (kA 0, 3, .inl f2_27) := q7_27
      have m_43 : (1 + d_10, 7) ∈ RL := hm_27 7 (by omega)
      have c_44 : E (1 + d_10) 8 = .inl (kA 0, 3, .inl f3_27) := q8_27
      have m_45 : (1 + d_10, 8) ∈ RL := hm_27 8 (by omega)
      have c_46 : E (1 + d_10) 9 = .inl (kA 8, 6, .inr (.inr (.inr (.inr fe_27)))) := q9_27
      have m_47 : (1 + d_10, 9) ∈ RL := hm_27 9 (by omega)
      have c_48 : E (1 + d_10) 10 = .inl (kA 8, 6, .inr (.inr (.inr (.inr fo_27)))) := q10_27
      have m_49 : (1 + d_10, 10) ∈ RL := hm_27 10 (by omega)
      have c_50 : E (1 + d_10) 11 = .inl (kA 2, 5, .inl tr_27) := q11_27
      have m_51 : (1 + d_10, 11) ∈ RL := hm_27 11 (by omega)
      have c_52 : E (1 + d_10) 12 = .inl (kA 2, 5, .inl op_27) := q12_27
      have m_53 : (1 + d_10, 12) ∈ RL := hm_27 12 (by omega)
      have hg_27 : ∀ w9, w9 < k0_27 → fe_27 w9 = some (ad (1 + d_10) (20 + 3 * w9)) ∧ fo_27 w9 = some (ad (1 + d_10) (38 + 3 * w9)) ∧ GI kA (ad (1 + d_10)) (E (1 + d_10)) (fun o => (1 + d_10, o) ∈ RL) (20 + 3 * w9) (21 + 3 * w9) (22 + 3 * w9) ∧ GI kA (ad (1 + d_10)) (E (1 + d_10)) (fun o => (1 + d_10, o) ∈ RL) (38 + 3 * w9) (39 + 3 * w9) (40 + 3 * w9) := hg_27
      obtain ⟨hTT_27, tgr_27⟩ := TD_get hk0_27 hk1_27 hk2_27 hk3_27 c_28 c_30 c_32 c_34 c_36 c_38 c_40 c_42 c_44 c_50 c_52 (hTD d_10 (by omega))
      obtain ⟨tfd_27, tnm_27, tsd_27, tk0_27, tf0_27, tk1_27, tf1_27, tk2_27, tk3_27⟩ := id hTT_27
      have ik0_27 : iN (g 5 d_10) = k0_27 := by rw [← tk0_27, iN_nI (by omega)]
      have ik1_27 : iN (g 12 d_10) = k1_27 := by rw [← tk1_27, iN_nI (by omega)]
      refine px_get (D := D) (ci := 7) (v := .int nm_27) (C := xR_Ds) (T := xT_Ds) (N := 12) hx hb hT xi_Ds hown hK.1 hP m_29 c_28 rfl 2 (by decide) (hT _ k5k_3) (fun _ h9 => h9) rfl xd_Ly_lookUp_26 ?_
      refine lv_iload_n hx hb xd_Ly_lookUp_29 rfl (lv_at hl 3 rfl) ?_
      refine lv_icmp_ne (tgt := 40) hx hb xd_Ly_lookUp_30 (by decide) (fun hc54 => ?_) (fun hc54 => ?_)
      · refine lv_iinc (k := 0) (x := (nI k)) (v := (nI (k + 1))) hx hb xd_Ly_lookUp_40 hl rfl (xb_inc k 1) (Nat.le_of_ble_eq_true rfl) rfl (fun ls hl => ?_)
        have hl : lv_has ls 4 [(3, .int (nI (k + 1))), (2, .ref (ad (20 + y) 0)), (0, .ref (ad (20 + n) 0)), (1, .int nm)] := hl
        refine lv_goto (tgt := 8) hx hb xd_Ly_lookUp_43 (by decide) ?_
        exact ih8 (k + 1) _ _ _ (show mk_2 - (k + 1) < mk_2 - k by omega) (lv_sub hl [0, 1, 2, 3] rfl) hP hD hS ⟨(show (k + 1) ≤ mk_2 from by first | assumption | omega), (show ∀ j, j < (k + 1) → ¬ g 4 (mdv g y j) = nm from fun j hj => by
        rcases Nat.lt_or_ge j k with z | z
        · exact hno j z
        · rw [show j = k by omega, hdm_10, ← tnm_27]; exact hc54)⟩
      · refine lv_aload_n hx hb xd_Ly_lookUp_33 rfl (lv_at hl 1 rfl) ?_
        refine px_get (D := D) (ci := 5) (v := .ref (ad (20 + y) 1)) (C := xR_Ly) (T := xT_Ly) (N := 4) hx hb hT xi_Ly hown hK.1 hP m_4 c_7 rfl 2 (by decide) (hT _ k5k_0) (fun _ h9 => h9) rfl xd_Ly_lookUp_34 ?_
        refine lv_iload_n hx hb xd_Ly_lookUp_37 rfl (lv_at hl 0 rfl) ?_
        refine px_aald (i := k) (x := (some (ad (20 + y) (10 + 10 * k)))) hx hb hK.1 hP m_6 c_5 6 rfl ((hk_2 k (by omega)).1) (by omega) (by omega) xd_Ly_lookUp_38 ?_
        exact W.aret (v := .ref (ad (20 + y) (10 + 10 * k))) hx hb hr (Or.inl ⟨_, rfl⟩) (Or.inr ⟨_, rfl⟩) (fun t ht hW => ⟨⟨(some (ad (20 + y) (10 + 10 * k))), (), rfl, Or.inr ⟨y, k, by omega, rfl, (hk_2 k (by omega)).2, by rw [h20_2, iN_nI (by omega)]; omega, hlk.trans (lkG_hitT h20_2 hmk_2 (by omega) (by rw [hdm_10, ← tnm_27]; exact hc54) hno)⟩, by rw [ht]; exact hP, hD⟩, hS.F ht⟩) hS.2.2 xd_Ly_lookUp_39
set_option maxHeartbeats 4000000 in
set_option maxRecDepth 100000 in
theorem xc_De_openLayerX (l : Launch) (D : va_G) (kA : Nat → ClassId) (sz : Nat) (ad : Nat → Nat → Nat) (E : Nat → Nat → va_E) (RL : List (Nat × Nat)) (g : Nat → Nat → Int32) (ml : Nat) (nd : Nat) (len : Nat) (wn : Nat) (cs : Nat) (ix : Int32) (hCI : CI kA ad E RL ml nd len wn cs) (hTL : TLas g ad E nd ml) : Met l xy_De_openLayer (.code xy_De_openLayer xb_De_openLayer 3 (some (.object "LayerDesk$Layer")) :: wT) { frames := 0, cells := 0, slots := 0, locals := 0 } (va_Pc [.ref (ad 0 0), .int ix] (xPre D kA sz (rp ad E RL))) (va_Qq (fun (r : Option Nat) (u : Unit) => (r = none ∧ ¬ opP g ml ix) ∨ ∃ x, x < ml ∧ ix = nI x ∧ ¬ g 22 x = 0 ∧ r = some (ad (20 + x) 0)) (fun (u : Unit) t => va_P D xcl (rp ad E RL) t.heap ∧ va_D (va_A (rp ad E RL) sz) (rp ad E RL)) (va_A (rp ad E RL) sz)) 0 0 (va_A (rp ad E RL) sz) := by
  refine Met.ofW (cc := xb_De_openLayer) (maxL := 3) (ret := (some (.object "LayerDesk$Layer"))) (by decide) rfl ?_
  intro p e s m args below meth c s₁ B hml hv
  obtain ⟨rfl, hsz, hP, hK, hD0⟩ := hv
  have hx := B.exec
  have hb := B.bytes
  have hr := B.returns
  have hT := x_hT B.pre
  have hown : s.vm.findClass xR_De = some m.cls := findClass_of_methodNamed B.named
  have hlocks := B.notSynchronized
  subst hsz
  have hD := hD0.self (sz := s.heap.size)
  generalize hAe : va_A (rp ad E RL) s.heap.size = A at hD ⊢
  have hA : ∀ q : Nat, s.heap.size ≤ q → A q := fun q h => by rw [← hAe]; exact Or.inr h
  have hS : va_S A s.heap s.heap [] := va_S.rf
  have hl := lv_entry ([.ref (ad 0 0), .int ix]) (n := 3) (Nat.le_of_ble_eq_true rfl)
  rw [lg_entry_eq]
  generalize (lg_sl ([.ref (ad 0 0), .int ix]) ++ List.replicate (3 - (lg_sl ([.ref (ad 0 0), .int ix])).length) Slot.unset).toArray = ls at hl ⊢
  have hl : lv_has ls 3 [(0, .ref (ad 0 0)), (1, .int ix)] := hl
  have hP : va_P D xcl (rp ad E RL) s.heap := hP
  obtain ⟨hmB, hDk, hLi, hSh, hCh, hLa, hDIs, hLIs⟩ := id hCI
  obtain ⟨lf_1, q_1⟩ := id (hDk)
  have c_2 : E 0 0 = .inr (0, [.ref (ad 0 1), .ref (ad 0 5), .ref (ad 0 7), .ref (ad 0 9), .int (nI ml), .int lf_1]) := q_1
  have m_3 : (0, 0) ∈ RL := hmB 0 (by omega)
  obtain ⟨fl_4, hml_4, q9_4, hla_4⟩ := id (hLa)
  have c_5 : E 0 9 = .inl (kA 5, 5, .inr (.inr (.inr (.inr fl_4)))) := q9_4
  have m_6 : (0, 9) ∈ RL := hmB 9 (by omega)
  refine lv_iload_n hx hb xd_De_openLayer_0 rfl (lv_at hl 1 rfl) ?_
  refine lv_if_lt (tgt := 12) hx hb xd_De_openLayer_1 (by decide) (fun hc7 => ?_) (fun hc7 => ?_)
  · refine lv_null hx hb xd_De_openLayer_12 ?_
    exact W.aret (v := .null) hx hb hr (Or.inl ⟨_, rfl⟩) (Or.inl rfl) (fun t ht hW => ⟨⟨none, (), rfl, Or.inl ⟨rfl, fun ⟨la9, q1, q2, q3⟩ => absurd (show nI la9 < 0 by rw [← q2]; exact hc7) (nI_pos (by rw [xb_31]; omega))⟩, by rw [ht]; exact hP, hD⟩, hS.F ht⟩) hS.2.2 xd_De_openLayer_13
  · obtain ⟨x, hx31, hix⟩ := nI_of hc7
    rw [xb_31] at hx31
    rw [hix] at hl
    refine lv_iload_n hx hb xd_De_openLayer_4 rfl (lv_at hl 1 rfl) ?_
    refine lv_aload_n hx hb xd_De_openLayer_5 rfl (lv_at hl 0 rfl) ?_
    refine px_get (D := D) (ci := 0) (v := .int (nI ml)) (C := xR_De) (T := xT_De) (N := 6) hx hb hT xi_De hown hK.1 hP m_3 c_2 rfl 4 (by decide) (hT _ k5k_4) (fun _ h9 => h9) rfl xd_De_openLayer_6 ?_
    refine xn_lt (a := x) (b := ml) (tgt := 14) hx hb xd_De_openLayer_9 (by decide) (by omega) (by omega) (fun hc8 => ?_) (fun hc8 => ?_)
    · refine lv_aload_n hx hb xd_De_openLayer_14 rfl (lv_at hl 0 rfl) ?_
      refine px_get (D := D) (ci := 0) (v := .ref (ad 0 9)) (C := xR_De) (T := xT_De) (N := 6) hx hb hT xi_De hown hK.1 hP m_3 c_2 rfl 3 (by decide) (hT _ k5k_5) (fun _ h9 => h9) rfl xd_De_openLayer_15 ?_
      refine lv_iload_n hx hb xd_De_openLayer_18 rfl (lv_at hl 1 rfl) ?_
      refine px_aald (i := x) (x := (some (ad (20 + x) 0))) hx hb hK.1 hP m_6 c_5 5 rfl (hla_4 x (by omega)) (by omega) (by decide) xd_De_openLayer_19 ?_
      refine lv_astore_n hx hb xd_De_openLayer_20 rfl hl (Nat.le_of_ble_eq_true rfl) rfl (fun ls hl => ?_)
      have hl : lv_has ls 3 [(2, .ref (ad (20 + x) 0)), (0, .ref (ad 0 0)), (1, .int (nI x))] := hl
      refine lv_aload_n hx hb xd_De_openLayer_21 rfl (lv_at hl 0 rfl) ?_
      refine lv_ifnull hx hb xd_De_openLayer_22 ?_
      refine lv_aload_n hx hb xd_De_openLayer_25 rfl (lv_at hl 0 rfl) ?_
      obtain ⟨m0_9, m1_9, pv_9, op_9, mk_9, fm_9, hmk_9, hpv_9, q0_9, q1_9, hk_9⟩ := id (hLIs x (by omega))
      have c_10 : E (20 + x) 0 = .inr (5, [.int (nI x), pv_9, .ref (ad (20 + x) 1), .int op_9]) := q0_9
      have m_11 : (20 + x, 0) ∈ RL := m0_9
      have c_12 : E (20 + x) 1 = .inl (kA 6, mk_9, .inr (.inr (.inr (.inr fm_9)))) := q1_9
      have m_13 : (20 + x, 1) ∈ RL := m1_9
      obtain ⟨top_9, ⟨lq_9, hlq_9, h19_9, hpv2_9⟩, h20_9, tmd_9⟩ := TLa_get c_10 c_12 (hTL x (by omega))
      have c_14 : E (20 + x) 0 = .inr (5, [.int (nI x), (lyv ad lq_9), .ref (ad (20 + x) 1), .int op_9]) := by rw [← hpv2_9]; exact c_10
      refine px_get (D := D) (ci := 5) (v := .int op_9) (C := xR_Ly) (T := xT_Ly) (N := 4) hx hb hT xi_Ly hown hK.1 hP m_11 c_14 rfl 3 (by decide) (hT _ k5k_6) (fun _ h9 => h9) rfl xd_De_openLayer_26 ?_
      refine lv_if_eq (tgt := 36) hx hb xd_De_openLayer_29 (by decide) (fun hc15 => ?_) (fun hc15 => ?_)
      · refine lv_null hx hb xd_De_openLayer_36 ?_
        exact W.aret (v := .null) hx hb hr (Or.inl ⟨_, rfl⟩) (Or.inl rfl) (fun t ht hW => ⟨⟨none, (), rfl, Or.inl ⟨rfl, fun ⟨la9, q1, q2, q3⟩ => by rw [hix] at q2; have e9 := (nI_eq (by rw [xb_31]; omega) (by rw [xb_31]; omega)).mp q2; rw [← e9, ← top_9] at q3; exact q3 hc15⟩, by rw [ht]; exact hP, hD⟩, hS.F ht⟩) hS.2.2 xd_De_openLayer_37
      · refine lv_aload_n hx hb xd_De_openLayer_32 rfl (lv_at hl 0 rfl) ?_
        refine lv_goto (tgt := 37) hx hb xd_De_openLayer_33 (by decide) ?_
        exact W.aret (v := .ref (ad (20 + x) 0)) hx hb hr (Or.inl ⟨_, rfl⟩) (Or.inr ⟨_, rfl⟩) (fun t ht hW => ⟨⟨(some (ad (20 + x) 0)), (), rfl, Or.inr ⟨x, by omega, hix, (by rw [← top_9]; exact hc15), rfl⟩, by rw [ht]; exact hP, hD⟩, hS.F ht⟩) hS.2.2 xd_De_openLayer_37
    · refine lv_null hx hb xd_De_openLayer_12 ?_
      exact W.aret (v := .null) hx hb hr (Or.inl ⟨_, rfl⟩) (Or.inl rfl) (fun t ht hW => ⟨⟨none, (), rfl, Or.inl ⟨rfl, fun ⟨la9, q1, q2, q3⟩ => by rw [hix] at q2; have e9 := (nI_eq (by rw [xb_31]; omega) (by rw [xb_31]; omega)).mp q2; omega⟩, by rw [ht]; exact hP, hD⟩, hS.F ht⟩) hS.2.2 xd_De_openLayer_13
set_option maxHeartbeats 4000000 in
set_option maxRecDepth 100000 in
theorem xc_Ch_isChosenX (l : Launch) (D : va_G) (kA : Nat → ClassId) (sz : Nat) (ad : Nat → Nat → Nat) (E : Nat → Nat → va_E) (RL : List (Nat × Nat)) (g : Nat → Nat → Int32) (ml : Nat) (nd : Nat) (len : Nat) (wn : Nat) (fi : Int32) (lq : Nat) (L : List Nat) (d : Nat) (hCI : CI kA ad E RL ml nd len wn L.length) (hCX : CX ad E nd fi lq L) (hd9 : d < nd) : Met l xy_Ch_isChosen (.code xy_Ch_isChosen xb_Ch_isChosen 3 (some .boolean) :: wT) { frames := 0, cells := 0, slots := 0, locals := 0 } (va_Pc [.ref (ad 0 7), .ref (ad (1 + d) 0)] (xPre D kA sz (rp ad E RL))) (va_Qi (fun (r : Int32) (u : Unit) => (r = 1 ∧ d ∈ L) ∨ (r = 0 ∧ d ∉ L)) (fun (u : Unit) t => va_P D xcl (rp ad E RL) t.heap ∧ va_D (va_A (rp ad E RL) sz) (rp ad E RL)) (va_A (rp ad E RL) sz)) 0 0 (va_A (rp ad E RL) sz) := by
  refine Met.ofW (cc := xb_Ch_isChosen) (maxL := 3) (ret := (some .boolean)) (by decide) rfl ?_
  intro p e s m args below meth c s₁ B hml hv
  obtain ⟨rfl, hsz, hP, hK, hD0⟩ := hv
  have hx := B.exec
  have hb := B.bytes
  have hr := B.returns
  have hT := x_hT B.pre
  have hown : s.vm.findClass xR_Ch = some m.cls := findClass_of_methodNamed B.named
  have hlocks := B.notSynchronized
  subst hsz
  have hD := hD0.self (sz := s.heap.size)
  generalize hAe : va_A (rp ad E RL) s.heap.size = A at hD ⊢
  have hA : ∀ q : Nat, s.heap.size ≤ q → A q := fun q h => by rw [← hAe]; exact Or.inr h
  have hS : va_S A s.heap s.heap [] := va_S.rf
  have hl := lv_entry ([.ref (ad 0 7), .ref (ad (1 + d) 0)]) (n := 3) (Nat.le_of_ble_eq_true rfl)
  rw [lg_entry_eq]
  generalize (lg_sl ([.ref (ad 0 7), .ref (ad (1 + d) 0)]) ++ List.replicate (3 - (lg_sl ([.ref (ad 0 7), .ref (ad (1 + d) 0)])).length) Slot.unset).toArray = ls at hl ⊢
  have hl : lv_has ls 3 [(0, .ref (ad 0 7)), (1, .ref (ad (1 + d) 0))] := hl
  have hP : va_P D xcl (rp ad E RL) s.heap := hP
  obtain ⟨hmB, hDk, hLi, hSh, hCh, hLa, hDIs, hLIs⟩ := id hCI
  obtain ⟨cf_1, pv_1, fc_1, hcs_1, hpv_1, q7_1, q8_1, hfc_1⟩ := id (hCh)
  have c_2 : E 0 7 = .inr (3, [.ref (ad 0 5), .ref (ad 0 8), .int (nI (L.length)), .int cf_1, pv_1]) := q7_1
  have m_3 : (0, 7) ∈ RL := hmB 7 (by omega)
  have c_4 : E 0 8 = .inl (kA 4, 12, .inr (.inr (.inr (.inr fc_1)))) := q8_1
  have m_5 : (0, 8) ∈ RL := hmB 8 (by omega)
  obtain ⟨xfi_1, xpv_1, xfc_1, xGL_1⟩ := id hCX
  rw [c_2] at xfi_1 xpv_1
  rw [c_4] at xfc_1
  have xfi_1 : cf_1 = fi := xfi_1
  have xpv_1 : pv_1 = lyv ad lq := xpv_1
  have xfc_1 : ∀ k, k < L.length → fc_1 k = some (ad (1 + L.getD k 0) 0) := xfc_1
  have xln_1 := GL_len xGL_1
  refine lv_iconst (v := 0) hx hb xd_Ch_isChosen_0 (by decide) ?_
  refine lv_istore_n hx hb xd_Ch_isChosen_1 rfl hl (Nat.le_of_ble_eq_true rfl) rfl (fun ls hl => ?_)
  have hl : lv_has ls 3 [(2, .int 0), (0, .ref (ad 0 7)), (1, .ref (ad (1 + d) 0))] := hl
  refine xlab (σ := Nat) (ml := 3) 2 (fun (i : Nat) => [(2, .int (nI i)), (0, .ref (ad 0 7)), (1, .ref (ad (1 + d) 0))]) (fun (i : Nat) => []) (fun (i : Nat) => rp ad E RL) (fun (i : Nat) => (i ≤ L.length) ∧ (∀ j, j < i → ¬ L.getD j 0 = d)) (fun (i : Nat) => L.length - i) ?_ 0 _ _ _ (lv_sub hl [0, 1, 2] rfl) hP hD hS ⟨(show 0 ≤ L.length from by first | assumption | omega), (show ∀ j, j < 0 → ¬ L.getD j 0 = d from fun j hj => absurd hj (by omega))⟩
  intro n9 ih6 a9 ls H locs hμ hl hP hD hS hI
  subst hμ
  obtain ⟨i, rfl⟩ : ∃ z, z = a9 := ⟨_, rfl⟩
  obtain ⟨hi, hno⟩ := hI
  have hi : i ≤ L.length := hi
  have hno : ∀ j, j < i → ¬ L.getD j 0 = d := hno
  have hl : lv_has ls 3 [(2, .int (nI i)), (0, .ref (ad 0 7)), (1, .ref (ad (1 + d) 0))] := hl
  have hP : va_P D xcl (rp ad E RL) H := hP
  have hD : va_D A (rp ad E RL) := hD
  refine lv_iload_n hx hb xd_Ch_isChosen_2 rfl (lv_at hl 0 rfl) ?_
  refine lv_aload_n hx hb xd_Ch_isChosen_3 rfl (lv_at hl 1 rfl) ?_
  refine px_get (D := D) (ci := 3) (v := .int (nI (L.length))) (C := xR_Ch) (T := xT_Ch) (N := 5) hx hb hT xi_Ch hown hK.1 hP m_3 c_2 rfl 2 (by decide) (hT _ k5k_7) (fun _ h9 => h9) rfl xd_Ch_isChosen_4 ?_
  refine xn_ge (a := i) (b := L.length) (tgt := 28) hx hb xd_Ch_isChosen_7 (by decide) (by omega) (by omega) (fun hc7 => ?_) (fun hc7 => ?_)
  · refine lv_iconst (v := 0) hx hb xd_Ch_isChosen_28 (by decide) ?_
    exact W.zret (v := 0) hx hb hr rfl (fun t ht hW => ⟨⟨0, (), rfl, Or.inr ⟨rfl, fun q => by
        obtain ⟨k9, q1, q2⟩ := mem_getD q
        exact hno k9 (by omega) q2⟩, by rw [ht]; exact hP, hD⟩, hS.F ht⟩) hS.2.2 xd_Ch_isChosen_29
  · refine lv_aload_n hx hb xd_Ch_isChosen_10 rfl (lv_at hl 1 rfl) ?_
    refine px_get (D := D) (ci := 3) (v := .ref (ad 0 8)) (C := xR_Ch) (T := xT_Ch) (N := 5) hx hb hT xi_Ch hown hK.1 hP m_3 c_2 rfl 1 (by decide) (hT _ k5k_8) (fun _ h9 => h9) rfl xd_Ch_isChosen_11 ?_
    refine lv_iload_n hx hb xd_Ch_isChosen_14 rfl (lv_at hl 0 rfl) ?_
    refine px_aald (i := i) (x := (some (ad (1 + L.getD i 0) 0))) hx hb hK.1 hP m_5 c_4 4 rfl (xfc_1 i (by omega)) (by omega) (by decide) xd_Ch_isChosen_15 ?_
    refine lv_aload_n hx hb xd_Ch_isChosen_16 rfl (lv_at hl 2 rfl) ?_
    refine lv_acmp_ne (rx := (some (ad (1 + L.getD i 0) 0))) (ry := (some (ad (1 + d) 0))) (tgt := 22) hx hb xd_Ch_isChosen_17 (by decide) (fun hc8 => ?_) (fun hc8 => ?_)
    · refine lv_iinc (k := 0) (x := (nI i)) (v := (nI (i + 1))) hx hb xd_Ch_isChosen_22 hl rfl (xb_inc i 1) (Nat.le_of_ble_eq_true rfl) rfl (fun ls hl => ?_)
      have hl : lv_has ls 3 [(2, .int (nI (i + 1))), (0, .ref (ad 0 7)), (1, .ref (ad (1 + d) 0))] := hl
      refine lv_goto (tgt := 2) hx hb xd_Ch_isChosen_25 (by decide) ?_
      exact ih6 (i + 1) _ _ _ (show L.length - (i + 1) < L.length - i by omega) (lv_sub hl [0, 1, 2] rfl) hP hD hS ⟨(show (i + 1) ≤ L.length from by first | assumption | omega), (show ∀ j, j < (i + 1) → ¬ L.getD j 0 = d from fun j hj q => by
        rcases Nat.lt_or_ge j i with z | z
        · exact hno j z q
        · rw [show j = i by omega] at q; exact hc8 (by rw [q]))⟩
    · refine lv_iconst (v := 1) hx hb xd_Ch_isChosen_20 (by decide) ?_
      exact W.zret (v := 1) hx hb hr rfl (fun t ht hW => ⟨⟨1, (), rfl, Or.inl ⟨rfl, by
        have hm9 := getD_mem (L := L) (k := i) (by omega)
        have e9 := (rp_inj hD ((hDIs (L.getD i 0) (xGL_1.1 _ hm9)).1 0 (by omega)) ((hDIs d hd9).1 0 (by omega)) (Option.some.inj hc8)).1
        rw [show d = L.getD i 0 by omega]; exact hm9⟩, by rw [ht]; exact hP, hD⟩, hS.F ht⟩) hS.2.2 xd_Ch_isChosen_21
