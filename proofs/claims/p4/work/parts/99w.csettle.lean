theorem k5u_0 : (Cond.fieldLink "LayerDesk$Member" 44 "LayerDesk$Member" "required" "[LLayerDesk$Member;") ∈ wT := wT_t (List.mem_append_right _ (List.mem_append_right _ (List.mem_append_left _ (List.mem_of_getElem? (i := 186) rfl)))) rfl
theorem k5u_1 : (Cond.fieldLink "LayerDesk$Member" 21 "LayerDesk$Member" "reading" "LLayerDesk$Reach;") ∈ wT := wT_t (List.mem_append_right _ (List.mem_append_right _ (List.mem_append_left _ (List.mem_of_getElem? (i := 191) rfl)))) rfl
theorem k5u_2 : (Cond.code xy_Re_unmark xb_Re_unmark 2 none) ∈ wT := wT_t (List.mem_append_right _ (List.mem_append_right _ (List.mem_append_left _ (List.mem_of_getElem? (i := 239) rfl)))) rfl
theorem k5u_3 : (Cond.methodLink "LayerDesk$Member" 72 xy_Re_unmark) ∈ wT := wT_t (List.mem_append_right _ (List.mem_append_right _ (List.mem_append_left _ (List.mem_of_getElem? (i := 236) rfl)))) rfl
theorem k5u_4 : (Cond.instanceMethod xy_Re_unmark) ∈ wT := wT_t (List.mem_append_right _ (List.mem_append_right _ (List.mem_append_left _ (List.mem_of_getElem? (i := 237) rfl)))) rfl
theorem k5u_5 : (Cond.selects "LayerDesk$Reach" xy_Re_unmark xy_Re_unmark) ∈ wT := wT_t (List.mem_append_right _ (List.mem_append_right _ (List.mem_append_left _ (List.mem_of_getElem? (i := 238) rfl)))) rfl
theorem k5u_6 : (Cond.initialized "LayerDesk$Reach") ∈ wT := wT_t (List.mem_append_left _ (List.mem_of_getElem? (i := 21) rfl)) rfl
theorem k5u_7 : (Cond.code xy_Re_mark xb_Re_mark 2 none) ∈ wT := wT_t (List.mem_append_right _ (List.mem_append_right _ (List.mem_append_left _ (List.mem_of_getElem? (i := 221) rfl)))) rfl
theorem k5u_8 : (Cond.methodLink "LayerDesk$Member" 61 xy_Re_mark) ∈ wT := wT_t (List.mem_append_right _ (List.mem_append_right _ (List.mem_append_left _ (List.mem_of_getElem? (i := 218) rfl)))) rfl
theorem k5u_9 : (Cond.instanceMethod xy_Re_mark) ∈ wT := wT_t (List.mem_append_right _ (List.mem_append_right _ (List.mem_append_left _ (List.mem_of_getElem? (i := 219) rfl)))) rfl
theorem k5u_10 : (Cond.selects "LayerDesk$Reach" xy_Re_mark xy_Re_mark) ∈ wT := wT_t (List.mem_append_right _ (List.mem_append_right _ (List.mem_append_left _ (List.mem_of_getElem? (i := 220) rfl)))) rfl
theorem k5u_11 : (Cond.fieldLink "LayerDesk$Member" 18 "LayerDesk$Member" "carried" "LLayerDesk$Reach;") ∈ wT := wT_t (List.mem_append_right _ (List.mem_append_right _ (List.mem_append_left _ (List.mem_of_getElem? (i := 189) rfl)))) rfl
theorem k5u_12 : (Cond.code xy_Re_join xb_Re_join 3 none) ∈ wT := wT_t (List.mem_append_right _ (List.mem_append_right _ (List.mem_append_left _ (List.mem_of_getElem? (i := 225) rfl)))) rfl
theorem k5u_13 : (Cond.methodLink "LayerDesk$Member" 68 xy_Re_join) ∈ wT := wT_t (List.mem_append_right _ (List.mem_append_right _ (List.mem_append_left _ (List.mem_of_getElem? (i := 222) rfl)))) rfl
theorem k5u_14 : (Cond.instanceMethod xy_Re_join) ∈ wT := wT_t (List.mem_append_right _ (List.mem_append_right _ (List.mem_append_left _ (List.mem_of_getElem? (i := 223) rfl)))) rfl
theorem k5u_15 : (Cond.selects "LayerDesk$Reach" xy_Re_join xy_Re_join) ∈ wT := wT_t (List.mem_append_right _ (List.mem_append_right _ (List.mem_append_left _ (List.mem_of_getElem? (i := 224) rfl)))) rfl
set_option maxHeartbeats 4000000 in
set_option maxRecDepth 100000 in
theorem xc_Me_settleReadingX (l : Launch) (D : va_G) (kA : Nat → ClassId) (sz : Nat) (ad : Nat → Nat → Nat) (E : Nat → Nat → va_E) (RL : List (Nat × Nat)) (g : Nat → Nat → Int32) (nd : Nat) (nL : Nat) (n : Nat) (k : Nat) (d : Nat) (rs : Nat) (fr : Nat → Option Nat) (gc : Nat → Int32) (gb : Nat → Int32) (ym0 : (20 + n, 10 + 10 * k) ∈ RL) (yc0 : E (20 + n) (10 + 10 * k) = .inr (6, [.ref (ad (20 + n) 0), .ref (ad (1 + d) 0), .ref (ad (20 + n) (11 + 10 * k)), .ref (ad (20 + n) (12 + 10 * k)), .ref (ad (20 + n) (13 + 10 * k)), .ref (ad (20 + n) (14 + 10 * k))])) (ym1 : (20 + n, 11 + 10 * k) ∈ RL) (yc1 : E (20 + n) (11 + 10 * k) = .inl (kA 6, rs, .inr (.inr (.inr (.inr fr))))) (ym2 : (20 + n, 13 + 10 * k) ∈ RL) (yc2 : E (20 + n) (13 + 10 * k) = .inr (10, [.ref (ad (20 + n) (16 + 10 * k))])) (ym3 : (20 + n, 14 + 10 * k) ∈ RL) (yc3 : E (20 + n) (14 + 10 * k) = .inr (10, [.ref (ad (20 + n) (17 + 10 * k))])) (ym4 : (20 + n, 17 + 10 * k) ∈ RL) (yc4 : E (20 + n) (17 + 10 * k) = .inl (kA 0, 6, .inl gc)) (ym5 : (20 + n, 16 + 10 * k) ∈ RL) (yc5 : E (20 + n) (16 + 10 * k) = .inl (kA 0, 6, .inl gb)) (hDIs : DIs kA ad E RL nd) (hLIs : LIs kA ad E RL nd nL) (hnd12 : nd ≤ 12) (hnL : nL ≤ 6) (hn : n < nL) (hd : d < nd) (hrs : rs ≤ 5) (hRQ : RQX g kA ad E RL nd n d rs fr) (hTD : TDs g E nd) (hTL : TLas g ad E nd nL) (hdk : mdv g n k = d) (hCB : CBs g E (n + 1)) (hkm : k < iN (g 20 n)) : Met l xy_Me_settleReading (.code xy_Me_settleReading xb_Me_settleReading 2 none :: wT) { frames := 1, cells := 0, slots := 0, locals := 22 } (va_Pc [.ref (ad (20 + n) (10 + 10 * k))] (xPre D kA sz (rp ad E RL))) (va_Qv (fun (u : Nat → Nat → va_E) => ∃ gc2 : Nat → Int32, (∀ t, t < 72 → (BS gc2 t ↔ ((BS gc t ∨ RDp g n d rs t) ∧ t ≠ 12 * n + d))) ∧ (u (20 + n) (17 + 10 * k) = .inl (kA 0, 6, .inl gc2)) ∧ ((∀ b2 o2, ¬ (b2 = 20 + n ∧ o2 = 17 + 10 * k) → u b2 o2 = E b2 o2))) (fun (u : Nat → Nat → va_E) t => va_P D xcl (rp ad u RL) t.heap ∧ va_D (va_A (rp ad E RL) sz) (rp ad u RL)) (va_A (rp ad E RL) sz)) 0 0 (va_A (rp ad E RL) sz) := by
  refine Met.ofW (cc := xb_Me_settleReading) (maxL := 2) (ret := none) (by decide) rfl ?_
  intro p e s m args below meth c s₁ B hml hv
  obtain ⟨rfl, hsz, hP, hK, hD0⟩ := hv
  have hx := B.exec
  have hb := B.bytes
  have hr := B.returns
  have hT := x_hT B.pre
  have hown : s.vm.findClass xR_Me = some m.cls := findClass_of_methodNamed B.named
  have hlocks := B.notSynchronized
  subst hsz
  have hD := hD0.self (sz := s.heap.size)
  generalize hAe : va_A (rp ad E RL) s.heap.size = A at hD ⊢
  have hA : ∀ q : Nat, s.heap.size ≤ q → A q := fun q h => by rw [← hAe]; exact Or.inr h
  have hS : va_S A s.heap s.heap [] := va_S.rf
  have hl := lv_entry ([.ref (ad (20 + n) (10 + 10 * k))]) (n := 2) (Nat.le_of_ble_eq_true rfl)
  rw [lg_entry_eq]
  generalize (lg_sl ([.ref (ad (20 + n) (10 + 10 * k))]) ++ List.replicate (2 - (lg_sl ([.ref (ad (20 + n) (10 + 10 * k))])).length) Slot.unset).toArray = ls at hl ⊢
  have hl : lv_has ls 2 [(0, .ref (ad (20 + n) (10 + 10 * k)))] := hl
  have hP : va_P D xcl (rp ad E RL) s.heap := hP
  have hDIs0 := hDIs
  have hLIs0 := hLIs
  refine lv_iconst (v := 0) hx hb xd_Me_settleReading_0 (by decide) ?_
  refine lv_istore_n hx hb xd_Me_settleReading_1 rfl hl (Nat.le_of_ble_eq_true rfl) rfl (fun ls hl => ?_)
  have hl : lv_has ls 2 [(1, .int 0), (0, .ref (ad (20 + n) (10 + 10 * k)))] := hl
  refine xlab (σ := Nat × (Nat → Nat → va_E) × (Nat → Int32)) (ml := 2) 2 (fun (i, E1, gc1) => [(1, .int (nI i)), (0, .ref (ad (20 + n) (10 + 10 * k)))]) (fun (i, E1, gc1) => []) (fun (i, E1, gc1) => rp ad E1 RL) (fun (i, E1, gc1) => (i ≤ rs) ∧ (E1 (20 + n) (17 + 10 * k) = .inl (kA 0, 6, .inl gc1)) ∧ (∀ b2 o2, ¬ (b2 = 20 + n ∧ o2 = 17 + 10 * k) → E1 b2 o2 = E b2 o2) ∧ (∀ t, t < 72 → (BS gc1 t ↔ (BS gc t ∨ RDp g n d i t)))) (fun (i, E1, gc1) => rs - i) ?_ (0, E, gc) _ _ _ (lv_sub hl [0, 1] rfl) hP hD hS ⟨(show 0 ≤ rs from by first | assumption | omega), (show E (20 + n) (17 + 10 * k) = .inl (kA 0, 6, .inl gc) from yc4), (show ∀ b2 o2, ¬ (b2 = 20 + n ∧ o2 = 17 + 10 * k) → E b2 o2 = E b2 o2 from fun b2 o2 h09 => rfl), (show ∀ t, t < 72 → (BS gc t ↔ (BS gc t ∨ RDp g n d 0 t)) from fun t _ => ⟨Or.inl, fun q => q.elim id (fun z => absurd z RDp_0)⟩)⟩
  intro n9 ih1 a9 ls H locs hμ hl hP hD hS hI
  subst hμ
  obtain ⟨i, E1, gc1⟩ := a9
  obtain ⟨hi, hcA7, hfr, hR9⟩ := hI
  have hi : i ≤ rs := hi
  have hcA7 : E1 (20 + n) (17 + 10 * k) = .inl (kA 0, 6, .inl gc1) := hcA7
  have hfr : ∀ b2 o2, ¬ (b2 = 20 + n ∧ o2 = 17 + 10 * k) → E1 b2 o2 = E b2 o2 := hfr
  have hR9 : ∀ t, t < 72 → (BS gc1 t ↔ (BS gc t ∨ RDp g n d i t)) := hR9
  have hl : lv_has ls 2 [(1, .int (nI i)), (0, .ref (ad (20 + n) (10 + 10 * k)))] := hl
  have hP : va_P D xcl (rp ad E1 RL) H := hP
  have hD : va_D A (rp ad E1 RL) := hD
  have hTD1 : TDs g E1 nd := TDs_same (fun d9 hd9 => fun2 fun o9 => hfr (1 + d9) o9 (by omega)) hTD
  have hTL1 : TLas g ad E1 nd nL := TLas_ro (fun n9 o9 hn9 ho9 => hfr (20 + n9) o9 (by omega)) hTL
  have hRU : RU kA E E1 := (RI.row yc4 hcA7 hfr).ru
  have hDIs := DIs_RU hRU hnd12 hDIs0
  have hLIs := LIs_RU hRU hLIs0
  have c_2 : E1 (20 + n) (10 + 10 * k) = .inr (6, [.ref (ad (20 + n) 0), .ref (ad (1 + d) 0), .ref (ad (20 + n) (11 + 10 * k)), .ref (ad (20 + n) (12 + 10 * k)), .ref (ad (20 + n) (13 + 10 * k)), .ref (ad (20 + n) (14 + 10 * k))]) := (hfr (20 + n) (10 + 10 * k) (by omega)).trans yc0
  have c_3 : E1 (20 + n) (11 + 10 * k) = .inl (kA 6, rs, .inr (.inr (.inr (.inr fr)))) := (hfr (20 + n) (11 + 10 * k) (by omega)).trans yc1
  have c_4 : E1 (20 + n) (13 + 10 * k) = .inr (10, [.ref (ad (20 + n) (16 + 10 * k))]) := (hfr (20 + n) (13 + 10 * k) (by omega)).trans yc2
  have c_5 : E1 (20 + n) (14 + 10 * k) = .inr (10, [.ref (ad (20 + n) (17 + 10 * k))]) := (hfr (20 + n) (14 + 10 * k) (by omega)).trans yc3
  have c_6 : E1 (20 + n) (16 + 10 * k) = .inl (kA 0, 6, .inl gb) := (hfr (20 + n) (16 + 10 * k) (by omega)).trans yc5
  refine lv_iload_n hx hb xd_Me_settleReading_2 rfl (lv_at hl 0 rfl) ?_
  refine lv_aload_n hx hb xd_Me_settleReading_3 rfl (lv_at hl 1 rfl) ?_
  refine px_get (D := D) (ci := 6) (v := .ref (ad (20 + n) (11 + 10 * k))) (C := xR_Me) (T := xT_Me) (N := 6) hx hb hT xi_Me hown hK.1 hP ym0 c_2 rfl 2 (by decide) (hT _ k5u_0) (fun _ h9 => h9) rfl xd_Me_settleReading_4 ?_
  refine px_alen hx hb hK.1 hP ym1 c_3 6 rfl xd_Me_settleReading_7 ?_
  refine W.eq (g2 := F0 m 8 ls [.int (nI rs), .int (nI i)]) rfl ?_
  refine xn_ge (a := i) (b := rs) (tgt := 55) hx hb xd_Me_settleReading_8 (by decide) (by omega) (by omega) (fun hc7 => ?_) (fun hc7 => ?_)
  · obtain ⟨m0_8, m1_8, pv_8, op_8, mk_8, fm_8, hmk_8, hpv_8, q0_8, q1_8, hk_8⟩ := id (hLIs n (by omega))
    have c_9 : E1 (20 + n) 0 = .inr (5, [.int (nI n), pv_8, .ref (ad (20 + n) 1), .int op_8]) := q0_8
    have m_10 : (20 + n, 0) ∈ RL := m0_8
    have c_11 : E1 (20 + n) 1 = .inl (kA 6, mk_8, .inr (.inr (.inr (.inr fm_8)))) := q1_8
    have m_12 : (20 + n, 1) ∈ RL := m1_8
    obtain ⟨top_8, ⟨lq_8, hlq_8, h19_8, hpv2_8⟩, h20_8, tmd_8⟩ := TLa_get c_9 c_11 (hTL1 n (by omega))
    have c_13 : E1 (20 + n) 0 = .inr (5, [.int (nI n), (lyv ad lq_8), .ref (ad (20 + n) 1), .int op_8]) := by rw [← hpv2_8]; exact c_9
    have i20_8 : iN (g 20 n) = mk_8 := by rw [h20_8, iN_nI (by omega)]
    obtain ⟨hm_14, fd_14, nm_14, sd_14, k0_14, k1_14, k2_14, k3_14, f0_14, f1_14, f2_14, f3_14, fe_14, fo_14, tr_14, op_14, hk0_14, hk1_14, hk2_14, hk3_14, q0_14, q1_14, q2_14, q3_14, q4_14, q5_14, q6_14, q7_14, q8_14, q9_14, q10_14, q11_14, q12_14, hg_14⟩ := id (hDIs d (by omega))
    have c_15 : E1 (1 + d) 0 = .inr (7, [.int (nI d), .int fd_14, .int nm_14, .ref (ad (1 + d) 1), .ref (ad (1 + d) 9), .ref (ad (1 + d) 10), .ref (ad (1 + d) 2), .ref (ad (1 + d) 11), .ref (ad (1 + d) 12), .ref (ad (1 + d) 3), .ref (ad (1 + d) 4), .int sd_14]) := q0_14
    have m_16 : (1 + d, 0) ∈ RL := hm_14 0 (by omega)
    have c_17 : E1 (1 + d) 1 = .inr (8, [.ref (ad (1 + d) 5), .int (nI k0_14)]) := q1_14
    have m_18 : (1 + d, 1) ∈ RL := hm_14 1 (by omega)
    have c_19 : E1 (1 + d) 2 = .inr (8, [.ref (ad (1 + d) 6), .int (nI k1_14)]) := q2_14
    have m_20 : (1 + d, 2) ∈ RL := hm_14 2 (by omega)
    have c_21 : E1 (1 + d) 3 = .inr (8, [.ref (ad (1 + d) 7), .int (nI k2_14)]) := q3_14
    have m_22 : (1 + d, 3) ∈ RL := hm_14 3 (by omega)
    have c_23 : E1 (1 + d) 4 = .inr (8, [.ref (ad (1 + d) 8), .int (nI k3_14)]) := q4_14
    have m_24 : (1 + d, 4) ∈ RL := hm_14 4 (by omega)
    have c_25 : E1 (1 + d) 5 = .inl (kA 0, 6, .inl f0_14) := q5_14
    have m_26 : (1 + d, 5) ∈ RL := hm_14 5 (by omega)
    have c_27 : E1 (1 + d) 6 = .inl (kA 0, 5, .inl f1_14) := q6_14
    have m_28 : (1 + d, 6) ∈ RL := hm_14 6 (by omega)
    have c_29 : E1 (1 + d) 7 = .inl (kA 0, 3, .inl f2_14) := q7_14
    have m_30 : (1 + d, 7) ∈ RL := hm_14 7 (by omega)
    have c_31 : E1 (1 + d) 8 = .inl (kA 0, 3, .inl f3_14) := q8_14
    have m_32 : (1 + d, 8) ∈ RL := hm_14 8 (by omega)
    have c_33 : E1 (1 + d) 9 = .inl (kA 8, 6, .inr (.inr (.inr (.inr fe_14)))) := q9_14
    have m_34 : (1 + d, 9) ∈ RL := hm_14 9 (by omega)
    have c_35 : E1 (1 + d) 10 = .inl (kA 8, 6, .inr (.inr (.inr (.inr fo_14)))) := q10_14
    have m_36 : (1 + d, 10) ∈ RL := hm_14 10 (by omega)
    have c_37 : E1 (1 + d) 11 = .inl (kA 2, 5, .inl tr_14) := q11_14
    have m_38 : (1 + d, 11) ∈ RL := hm_14 11 (by omega)
    have c_39 : E1 (1 + d) 12 = .inl (kA 2, 5, .inl op_14) := q12_14
    have m_40 : (1 + d, 12) ∈ RL := hm_14 12 (by omega)
    have hg_14 : ∀ w9, w9 < k0_14 → fe_14 w9 = some (ad (1 + d) (20 + 3 * w9)) ∧ fo_14 w9 = some (ad (1 + d) (38 + 3 * w9)) ∧ GI kA (ad (1 + d)) (E1 (1 + d)) (fun o => (1 + d, o) ∈ RL) (20 + 3 * w9) (21 + 3 * w9) (22 + 3 * w9) ∧ GI kA (ad (1 + d)) (E1 (1 + d)) (fun o => (1 + d, o) ∈ RL) (38 + 3 * w9) (39 + 3 * w9) (40 + 3 * w9) := hg_14
    obtain ⟨hTT_14, tgr_14⟩ := TD_get hk0_14 hk1_14 hk2_14 hk3_14 c_15 c_17 c_19 c_21 c_23 c_25 c_27 c_29 c_31 c_37 c_39 (hTD1 d (by omega))
    obtain ⟨tfd_14, tnm_14, tsd_14, tk0_14, tf0_14, tk1_14, tf1_14, tk2_14, tk3_14⟩ := id hTT_14
    have ik0_14 : iN (g 5 d) = k0_14 := by rw [← tk0_14, iN_nI (by omega)]
    have ik1_14 : iN (g 12 d) = k1_14 := by rw [← tk1_14, iN_nI (by omega)]
    refine lv_aload_n hx hb xd_Me_settleReading_55 rfl (lv_at hl 1 rfl) ?_
    refine px_get (D := D) (ci := 6) (v := .ref (ad (20 + n) (14 + 10 * k))) (C := xR_Me) (T := xT_Me) (N := 6) hx hb hT xi_Me hown hK.1 hP ym0 c_2 rfl 5 (by decide) (hT _ k5u_1) (fun _ h9 => h9) rfl xd_Me_settleReading_56 ?_
    refine lv_aload_n hx hb xd_Me_settleReading_59 rfl (lv_at hl 1 rfl) ?_
    have hFc := px_free hD hS hA
    refine va_callv (va_runV (As := [.ref (ad (20 + n) (10 + 10 * k))]) (rest := []) ⟨hx, hb, hml, hown, hT⟩ (xc_Re_unmark l D kA H.size ad E1 RL (20 + n) (14 + 10 * k) (17 + 10 * k) gc1 n k d (lyv ad lq_8) op_8 fd_14 nm_14 sd_14 ym3 c_5 ym4 hcA7 ym0 c_2 m_10 c_13 m_16 c_15 (by first | assumption | omega) (by first | assumption | omega) (by first | assumption | omega)) (cwV 1 hT (wT_V k5u_3 k5u_4 k5u_5 k5u_6 k5u_2) rfl rfl rfl (by decide +kernel) ⟨Nat.le_of_ble_eq_true rfl, Nat.le_of_ble_eq_true rfl⟩) (px_preV hK hP hD ym3 c_5 rfl) rfl rfl hl.1 rfl (lv_room (Nat.le_of_ble_eq_true rfl)) xd_Me_settleReading_60 ⟨(Nat.le_of_ble_eq_true rfl), (Nat.le_of_ble_eq_true rfl)⟩) hS (fun q _ h => hFc q h) hFc (fun u42 t H1 locs ht hvm hp43 hB hz1 hk1 hS => ?_)
    obtain ⟨hP1, hD1⟩ := hB
    rw [ht] at hP1
    have hD1 := hD1.weaken (fun _ _ _ h => hFc _ h)
    generalize H1 = H at hP1 hS ⊢
    have hP := hP1
    have hD := hD1
    obtain ⟨E44, rfl⟩ : ∃ z, z = u42 := ⟨_, rfl⟩
    obtain ⟨w45, hp48, p_46, p_47⟩ := hp43
    have p_46 : E44 (20 + n) (17 + 10 * k) = .inl (kA 0, 6, .inl w45) := p_46
    have p_47 : (∀ b2 o2, ¬ (b2 = (20 + n) ∧ o2 = (17 + 10 * k)) → E44 b2 o2 = E1 b2 o2) := p_47
    have c_49 : E44 (20 + n) (10 + 10 * k) = .inr (6, [.ref (ad (20 + n) 0), .ref (ad (1 + d) 0), .ref (ad (20 + n) (11 + 10 * k)), .ref (ad (20 + n) (12 + 10 * k)), .ref (ad (20 + n) (13 + 10 * k)), .ref (ad (20 + n) (14 + 10 * k))]) := (p_47 (20 + n) (10 + 10 * k) (by omega)).trans c_2
    have c_50 : E44 (20 + n) (11 + 10 * k) = .inl (kA 6, rs, .inr (.inr (.inr (.inr fr)))) := (p_47 (20 + n) (11 + 10 * k) (by omega)).trans c_3
    have c_51 : E44 (20 + n) (13 + 10 * k) = .inr (10, [.ref (ad (20 + n) (16 + 10 * k))]) := (p_47 (20 + n) (13 + 10 * k) (by omega)).trans c_4
    have c_52 : E44 (20 + n) (14 + 10 * k) = .inr (10, [.ref (ad (20 + n) (17 + 10 * k))]) := (p_47 (20 + n) (14 + 10 * k) (by omega)).trans c_5
    have c_53 : E44 (20 + n) (16 + 10 * k) = .inl (kA 0, 6, .inl gb) := (p_47 (20 + n) (16 + 10 * k) (by omega)).trans c_6
    have c_54 : E44 (20 + n) 0 = .inr (5, [.int (nI n), (lyv ad lq_8), .ref (ad (20 + n) 1), .int op_8]) := (p_47 (20 + n) 0 (by omega)).trans c_13
    have c_55 : E44 (20 + n) 1 = .inl (kA 6, mk_8, .inr (.inr (.inr (.inr fm_8)))) := (p_47 (20 + n) 1 (by omega)).trans c_11
    have c_56 : E44 (1 + d) 0 = .inr (7, [.int (nI d), .int fd_14, .int nm_14, .ref (ad (1 + d) 1), .ref (ad (1 + d) 9), .ref (ad (1 + d) 10), .ref (ad (1 + d) 2), .ref (ad (1 + d) 11), .ref (ad (1 + d) 12), .ref (ad (1 + d) 3), .ref (ad (1 + d) 4), .int sd_14]) := (p_47 (1 + d) 0 (by omega)).trans c_15
    have c_57 : E44 (1 + d) 1 = .inr (8, [.ref (ad (1 + d) 5), .int (nI k0_14)]) := (p_47 (1 + d) 1 (by omega)).trans c_17
    have c_58 : E44 (1 + d) 2 = .inr (8, [.ref (ad (1 + d) 6), .int (nI k1_14)]) := (p_47 (1 + d) 2 (by omega)).trans c_19
    have c_59 : E44 (1 + d) 3 = .inr (8, [.ref (ad (1 + d) 7), .int (nI k2_14)]) := (p_47 (1 + d) 3 (by omega)).trans c_21
    have c_60 : E44 (1 + d) 4 = .inr (8, [.ref (ad (1 + d) 8), .int (nI k3_14)]) := (p_47 (1 + d) 4 (by omega)).trans c_23
    have c_61 : E44 (1 + d) 5 = .inl (kA 0, 6, .inl f0_14) := (p_47 (1 + d) 5 (by omega)).trans c_25
    have c_62 : E44 (1 + d) 6 = .inl (kA 0, 5, .inl f1_14) := (p_47 (1 + d) 6 (by omega)).trans c_27
    have c_63 : E44 (1 + d) 7 = .inl (kA 0, 3, .inl f2_14) := (p_47 (1 + d) 7 (by omega)).trans c_29
    have c_64 : E44 (1 + d) 8 = .inl (kA 0, 3, .inl f3_14) := (p_47 (1 + d) 8 (by omega)).trans c_31
    have c_65 : E44 (1 + d) 9 = .inl (kA 8, 6, .inr (.inr (.inr (.inr fe_14)))) := (p_47 (1 + d) 9 (by omega)).trans c_33
    have c_66 : E44 (1 + d) 10 = .inl (kA 8, 6, .inr (.inr (.inr (.inr fo_14)))) := (p_47 (1 + d) 10 (by omega)).trans c_35
    have c_67 : E44 (1 + d) 11 = .inl (kA 2, 5, .inl tr_14) := (p_47 (1 + d) 11 (by omega)).trans c_37
    have c_68 : E44 (1 + d) 12 = .inl (kA 2, 5, .inl op_14) := (p_47 (1 + d) 12 (by omega)).trans c_39
    have hP : va_P D xcl (rp ad E44 RL) H := hP
    have hD : va_D A (rp ad E44 RL) := hD
    have hRu : ∀ t, t < 72 → (BS w45 t ↔ ((BS gc t ∨ RDp g n d rs t) ∧ t ≠ 12 * n + d)) := fun t ht => by rw [hp48, BS_unmark (by omega), hR9 t ht, show i = rs by omega]
    exact W.vret hx hb hr (fun t ht hW => ⟨⟨E44, rfl, ⟨w45, hRu, p_46, (fun b2 o2 h09 => by show E44 b2 o2 = _; rw [p_47 b2 o2 (by omega), hfr b2 o2 (by omega)])⟩, by rw [ht]; exact hP, hD⟩, hS.F ht⟩) hS.2.2 xd_Me_settleReading_63
  · rcases (show (fr i = none ∧ lkG g (n + 1) (g 13 (5 * d + i)) = none) ∨ (∃ x9 k9, (x9 = n ∧ k9 = k) ∧ fr i = some (ad (20 + x9) (10 + 10 * k9)) ∧ lkG g (n + 1) (g 13 (5 * d + i)) = some (x9, mdv g x9 k9)) ∨ ∃ x9 k9, x9 ≤ n ∧ ¬ (x9 = n ∧ k9 = k) ∧ fr i = some (ad (20 + x9) (10 + 10 * k9)) ∧ MEI kA ad E RL nd x9 k9 ∧ k9 < iN (g 20 x9) ∧ lkG g (n + 1) (g 13 (5 * d + i)) = some (x9, mdv g x9 k9) from by
      rcases hRQ i (by omega) with q | ⟨x9, k9, q1, q2, q3, q5, q6⟩
      · exact Or.inl q
      · by_cases q4 : x9 = n ∧ k9 = k
        · exact Or.inr (Or.inl ⟨x9, k9, q4, q2, q6⟩)
        · exact Or.inr (Or.inr ⟨x9, k9, q1, q4, q2, q3, q5, q6⟩)) with ⟨hq, hlk9⟩ | ⟨x9, k9, ⟨hxk1, hxk2⟩, hq, hlk8⟩ | ⟨x9, k9, hx9, hxk, hq, hM9, hkm9, hlk8⟩
    · have hq := hq
      refine lv_aload_n hx hb xd_Me_settleReading_11 rfl (lv_at hl 1 rfl) ?_
      refine px_get (D := D) (ci := 6) (v := .ref (ad (20 + n) (11 + 10 * k))) (C := xR_Me) (T := xT_Me) (N := 6) hx hb hT xi_Me hown hK.1 hP ym0 c_2 rfl 2 (by decide) (hT _ k5u_0) (fun _ h9 => h9) rfl xd_Me_settleReading_12 ?_
      refine lv_iload_n hx hb xd_Me_settleReading_15 rfl (lv_at hl 0 rfl) ?_
      refine px_aald (i := i) (x := none) hx hb hK.1 hP ym1 c_3 6 rfl (hq) (by omega) (by omega) xd_Me_settleReading_16 ?_
      refine lv_ifnullN (tgt := 49) hx hb xd_Me_settleReading_17 (by decide) ?_
      refine lv_iinc (k := 0) (x := (nI i)) (v := (nI (i + 1))) hx hb xd_Me_settleReading_49 hl rfl (xb_inc i 1) (Nat.le_of_ble_eq_true rfl) rfl (fun ls hl => ?_)
      have hl : lv_has ls 2 [(1, .int (nI (i + 1))), (0, .ref (ad (20 + n) (10 + 10 * k)))] := hl
      refine lv_goto (tgt := 2) hx hb xd_Me_settleReading_52 (by decide) ?_
      exact ih1 (i + 1, E1, gc1) _ _ _ (show rs - (i + 1) < rs - i by omega) (lv_sub hl [0, 1] rfl) hP hD hS ⟨(show (i + 1) ≤ rs from by first | assumption | omega), (show E1 (20 + n) (17 + 10 * k) = .inl (kA 0, 6, .inl gc1) from hcA7), (show ∀ b2 o2, ¬ (b2 = 20 + n ∧ o2 = 17 + 10 * k) → E1 b2 o2 = E b2 o2 from fun b2 o2 h09 => by rw [hfr b2 o2 (by omega)]), (show ∀ t, t < 72 → (BS gc1 t ↔ (BS gc t ∨ RDp g n d (i + 1) t)) from fun t ht => by rw [hR9 t ht, RDp_n hlk9])⟩
    · rw [hxk1, hxk2] at hq
      have hlk9 : lkG g (n + 1) (g 13 (5 * d + i)) = some (n, d) := by rw [hxk1, hxk2, hdk] at hlk8; exact hlk8
      obtain ⟨m0_69, m1_69, pv_69, op_69, mk_69, fm_69, hmk_69, hpv_69, q0_69, q1_69, hk_69⟩ := id (hLIs n (by omega))
      have c_70 : E1 (20 + n) 0 = .inr (5, [.int (nI n), pv_69, .ref (ad (20 + n) 1), .int op_69]) := q0_69
      have m_71 : (20 + n, 0) ∈ RL := m0_69
      have c_72 : E1 (20 + n) 1 = .inl (kA 6, mk_69, .inr (.inr (.inr (.inr fm_69)))) := q1_69
      have m_73 : (20 + n, 1) ∈ RL := m1_69
      obtain ⟨top_69, ⟨lq_69, hlq_69, h19_69, hpv2_69⟩, h20_69, tmd_69⟩ := TLa_get c_70 c_72 (hTL1 n (by omega))
      have c_74 : E1 (20 + n) 0 = .inr (5, [.int (nI n), (lyv ad lq_69), .ref (ad (20 + n) 1), .int op_69]) := by rw [← hpv2_69]; exact c_70
      have i20_69 : iN (g 20 n) = mk_69 := by rw [h20_69, iN_nI (by omega)]
      obtain ⟨hm_75, fd_75, nm_75, sd_75, k0_75, k1_75, k2_75, k3_75, f0_75, f1_75, f2_75, f3_75, fe_75, fo_75, tr_75, op_75, hk0_75, hk1_75, hk2_75, hk3_75, q0_75, q1_75, q2_75, q3_75, q4_75, q5_75, q6_75, q7_75, q8_75, q9_75, q10_75, q11_75, q12_75, hg_75⟩ := id (hDIs d (by omega))
      have c_76 : E1 (1 + d) 0 = .inr (7, [.int (nI d), .int fd_75, .int nm_75, .ref (ad (1 + d) 1), .ref (ad (1 + d) 9), .ref (ad (1 + d) 10), .ref (ad (1 + d) 2), .ref (ad (1 + d) 11), .ref (ad (1 + d) 12), .ref (ad (1 + d) 3), .ref (ad (1 + d) 4), .int sd_75]) := q0_75
      have m_77 : (1 + d, 0) ∈ RL := hm_75 0 (by omega)
      have c_78 : E1 (1 + d) 1 = .inr (8, [.ref (ad (1 + d) 5), .int (nI k0_75)]) := q1_75
      have m_79 : (1 + d, 1) ∈ RL := hm_75 1 (by omega)
      have c_80 : E1 (1 + d) 2 = .inr (8, [.ref (ad (1 + d) 6), .int (nI k1_75)]) := q2_75
      have m_81 : (1 + d, 2) ∈ RL := hm_75 2 (by omega)
      have c_82 : E1 (1 + d) 3 = .inr (8, [.ref (ad (1 + d) 7), .int (nI k2_75)]) := q3_75
      have m_83 : (1 + d, 3) ∈ RL := hm_75 3 (by omega)
      have c_84 : E1 (1 + d) 4 = .inr (8, [.ref (ad (1 + d) 8), .int (nI k3_75)]) := q4_75
      have m_85 : (1 + d, 4) ∈ RL := hm_75 4 (by omega)
      have c_86 : E1 (1 + d) 5 = .inl (kA 0, 6, .inl f0_75) := q5_75
      have m_87 : (1 + d, 5) ∈ RL := hm_75 5 (by omega)
      have c_88 : E1 (1 + d) 6 = .inl (kA 0, 5, .inl f1_75) := q6_75
      have m_89 : (1 + d, 6) ∈ RL := hm_75 6 (by omega)
      have c_90 : E1 (1 + d) 7 = .inl (kA 0, 3, .inl f2_75) := q7_75
      have m_91 : (1 + d, 7) ∈ RL := hm_75 7 (by omega)
      have c_92 : E1 (1 + d) 8 = .inl (kA 0, 3, .inl f3_75) := q8_75
      have m_93 : (1 + d, 8) ∈ RL := hm_75 8 (by omega)
      have c_94 : E1 (1 + d) 9 = .inl (kA 8, 6, .inr (.inr (.inr (.inr fe_75)))) := q9_75
      have m_95 : (1 + d, 9) ∈ RL := hm_75 9 (by omega)
      have c_96 : E1 (1 + d) 10 = .inl (kA 8, 6, .inr (.inr (.inr (.inr fo_75)))) := q10_75
      have m_97 : (1 + d, 10) ∈ RL := hm_75 10 (by omega)
      have c_98 : E1 (1 + d) 11 = .inl (kA 2, 5, .inl tr_75) := q11_75
      have m_99 : (1 + d, 11) ∈ RL := hm_75 11 (by omega)
      have c_100 : E1 (1 + d) 12 = .inl (kA 2, 5, .inl op_75) := q12_75
      have m_101 : (1 + d, 12) ∈ RL := hm_75 12 (by omega)
      have hg_75 : ∀ w9, w9 < k0_75 → fe_75 w9 = some (ad (1 + d) (20 + 3 * w9)) ∧ fo_75 w9 = some (ad (1 + d) (38 + 3 * w9)) ∧ GI kA (ad (1 + d)) (E1 (1 + d)) (fun o => (1 + d, o) ∈ RL) (20 + 3 * w9) (21 + 3 * w9) (22 + 3 * w9) ∧ GI kA (ad (1 + d)) (E1 (1 + d)) (fun o => (1 + d, o) ∈ RL) (38 + 3 * w9) (39 + 3 * w9) (40 + 3 * w9) := hg_75
      obtain ⟨hTT_75, tgr_75⟩ := TD_get hk0_75 hk1_75 hk2_75 hk3_75 c_76 c_78 c_80 c_82 c_84 c_86 c_88 c_90 c_92 c_98 c_100 (hTD1 d (by omega))
      obtain ⟨tfd_75, tnm_75, tsd_75, tk0_75, tf0_75, tk1_75, tf1_75, tk2_75, tk3_75⟩ := id hTT_75
      have ik0_75 : iN (g 5 d) = k0_75 := by rw [← tk0_75, iN_nI (by omega)]
      have ik1_75 : iN (g 12 d) = k1_75 := by rw [← tk1_75, iN_nI (by omega)]
      refine lv_aload_n hx hb xd_Me_settleReading_11 rfl (lv_at hl 1 rfl) ?_
      refine px_get (D := D) (ci := 6) (v := .ref (ad (20 + n) (11 + 10 * k))) (C := xR_Me) (T := xT_Me) (N := 6) hx hb hT xi_Me hown hK.1 hP ym0 c_2 rfl 2 (by decide) (hT _ k5u_0) (fun _ h9 => h9) rfl xd_Me_settleReading_12 ?_
      refine lv_iload_n hx hb xd_Me_settleReading_15 rfl (lv_at hl 0 rfl) ?_
      refine px_aald (i := i) (x := (some (ad (20 + n) (10 + 10 * k)))) hx hb hK.1 hP ym1 c_3 6 rfl (hq) (by omega) (by omega) xd_Me_settleReading_16 ?_
      refine lv_ifnull hx hb xd_Me_settleReading_17 ?_
      refine lv_aload_n hx hb xd_Me_settleReading_20 rfl (lv_at hl 1 rfl) ?_
      refine px_get (D := D) (ci := 6) (v := .ref (ad (20 + n) (14 + 10 * k))) (C := xR_Me) (T := xT_Me) (N := 6) hx hb hT xi_Me hown hK.1 hP ym0 c_2 rfl 5 (by decide) (hT _ k5u_1) (fun _ h9 => h9) rfl xd_Me_settleReading_21 ?_
      refine lv_aload_n hx hb xd_Me_settleReading_24 rfl (lv_at hl 1 rfl) ?_
      refine px_get (D := D) (ci := 6) (v := .ref (ad (20 + n) (11 + 10 * k))) (C := xR_Me) (T := xT_Me) (N := 6) hx hb hT xi_Me hown hK.1 hP ym0 c_2 rfl 2 (by decide) (hT _ k5u_0) (fun _ h9 => h9) rfl xd_Me_settleReading_25 ?_
      refine lv_iload_n hx hb xd_Me_settleReading_28 rfl (lv_at hl 0 rfl) ?_
      refine px_aald (i := i) (x := (some (ad (20 + n) (10 + 10 * k)))) hx hb hK.1 hP ym1 c_3 6 rfl (hq) (by omega) (by omega) xd_Me_settleReading_29 ?_
      have hFc := px_free hD hS hA
      refine va_callv (va_runV (As := [.ref (ad (20 + n) (10 + 10 * k))]) (rest := []) ⟨hx, hb, hml, hown, hT⟩ (xc_Re_mark l D kA H.size ad E1 RL (20 + n) (14 + 10 * k) (17 + 10 * k) gc1 n k d (lyv ad lq_69) op_69 fd_75 nm_75 sd_75 ym3 c_5 ym4 hcA7 ym0 c_2 m_71 c_74 m_77 c_76 (by first | assumption | omega) (by first | assumption | omega) (by first | assumption | omega)) (cwV 1 hT (wT_V k5u_8 k5u_9 k5u_10 k5u_6 k5u_7) rfl rfl rfl (by decide +kernel) ⟨Nat.le_of_ble_eq_true rfl, Nat.le_of_ble_eq_true rfl⟩) (px_preV hK hP hD ym3 c_5 rfl) rfl rfl hl.1 rfl (lv_room (Nat.le_of_ble_eq_true rfl)) xd_Me_settleReading_30 ⟨(Nat.le_of_ble_eq_true rfl), (Nat.le_of_ble_eq_true rfl)⟩) hS (fun q _ h => hFc q h) hFc (fun u103 t H1 locs ht hvm hp104 hB hz1 hk1 hS => ?_)
      obtain ⟨hP1, hD1⟩ := hB
      rw [ht] at hP1
      have hD1 := hD1.weaken (fun _ _ _ h => hFc _ h)
      generalize H1 = H at hP1 hS ⊢
      have hP := hP1
      have hD := hD1
      obtain ⟨E105, rfl⟩ : ∃ z, z = u103 := ⟨_, rfl⟩
      obtain ⟨w106, hp109, p_107, p_108⟩ := hp104
      have p_107 : E105 (20 + n) (17 + 10 * k) = .inl (kA 0, 6, .inl w106) := p_107
      have p_108 : (∀ b2 o2, ¬ (b2 = (20 + n) ∧ o2 = (17 + 10 * k)) → E105 b2 o2 = E1 b2 o2) := p_108
      have c_110 : E105 (20 + n) (10 + 10 * k) = .inr (6, [.ref (ad (20 + n) 0), .ref (ad (1 + d) 0), .ref (ad (20 + n) (11 + 10 * k)), .ref (ad (20 + n) (12 + 10 * k)), .ref (ad (20 + n) (13 + 10 * k)), .ref (ad (20 + n) (14 + 10 * k))]) := (p_108 (20 + n) (10 + 10 * k) (by omega)).trans c_2
      have c_111 : E105 (20 + n) (11 + 10 * k) = .inl (kA 6, rs, .inr (.inr (.inr (.inr fr)))) := (p_108 (20 + n) (11 + 10 * k) (by omega)).trans c_3
      have c_112 : E105 (20 + n) (13 + 10 * k) = .inr (10, [.ref (ad (20 + n) (16 + 10 * k))]) := (p_108 (20 + n) (13 + 10 * k) (by omega)).trans c_4
      have c_113 : E105 (20 + n) (14 + 10 * k) = .inr (10, [.ref (ad (20 + n) (17 + 10 * k))]) := (p_108 (20 + n) (14 + 10 * k) (by omega)).trans c_5
      have c_114 : E105 (20 + n) (16 + 10 * k) = .inl (kA 0, 6, .inl gb) := (p_108 (20 + n) (16 + 10 * k) (by omega)).trans c_6
      have c_115 : E105 (20 + n) 0 = .inr (5, [.int (nI n), (lyv ad lq_69), .ref (ad (20 + n) 1), .int op_69]) := (p_108 (20 + n) 0 (by omega)).trans c_74
      have c_116 : E105 (1 + d) 0 = .inr (7, [.int (nI d), .int fd_75, .int nm_75, .ref (ad (1 + d) 1), .ref (ad (1 + d) 9), .ref (ad (1 + d) 10), .ref (ad (1 + d) 2), .ref (ad (1 + d) 11), .ref (ad (1 + d) 12), .ref (ad (1 + d) 3), .ref (ad (1 + d) 4), .int sd_75]) := (p_108 (1 + d) 0 (by omega)).trans c_76
      have hP : va_P D xcl (rp ad E105 RL) H := hP
      have hD : va_D A (rp ad E105 RL) := hD
      have hRm : ∀ t, BS w106 t ↔ (BS gc1 t ∨ t = 12 * n + d) := fun t => by rw [hp109]; exact BS_mark (by omega)
      refine lv_aload_n hx hb xd_Me_settleReading_33 rfl (lv_at hl 1 rfl) ?_
      refine px_get (D := D) (ci := 6) (v := .ref (ad (20 + n) (14 + 10 * k))) (C := xR_Me) (T := xT_Me) (N := 6) hx hb hT xi_Me hown hK.1 hP ym0 c_110 rfl 5 (by decide) (hT _ k5u_1) (fun _ h9 => h9) rfl xd_Me_settleReading_34 ?_
      refine lv_aload_n hx hb xd_Me_settleReading_37 rfl (lv_at hl 1 rfl) ?_
      refine px_get (D := D) (ci := 6) (v := .ref (ad (20 + n) (11 + 10 * k))) (C := xR_Me) (T := xT_Me) (N := 6) hx hb hT xi_Me hown hK.1 hP ym0 c_110 rfl 2 (by decide) (hT _ k5u_0) (fun _ h9 => h9) rfl xd_Me_settleReading_38 ?_
      refine lv_iload_n hx hb xd_Me_settleReading_41 rfl (lv_at hl 0 rfl) ?_
      refine px_aald (i := i) (x := (some (ad (20 + n) (10 + 10 * k)))) hx hb hK.1 hP ym1 c_111 6 rfl (hq) (by omega) (by omega) xd_Me_settleReading_42 ?_
      refine px_get (D := D) (ci := 6) (v := .ref (ad (20 + n) (13 + 10 * k))) (C := xR_Me) (T := xT_Me) (N := 6) hx hb hT xi_Me hown hK.1 hP ym0 c_110 rfl 4 (by decide) (hT _ k5u_11) (fun _ h9 => h9) rfl xd_Me_settleReading_43 ?_
      have hFc := px_free hD hS hA
      refine va_callv (va_runV (As := [.ref (ad (20 + n) (13 + 10 * k))]) (rest := []) ⟨hx, hb, hml, hown, hT⟩ (xc_Re_joinX l D kA H.size ad E105 RL (20 + n) (14 + 10 * k) (17 + 10 * k) w106 (20 + n) (13 + 10 * k) (16 + 10 * k) gb ym3 c_113 ym4 p_107 ym2 c_112 ym5 c_114 (by first | assumption | omega) (by first | assumption | omega)) (cwV 1 hT (wT_V k5u_13 k5u_14 k5u_15 k5u_6 k5u_12) rfl rfl rfl (by decide +kernel) ⟨Nat.le_of_ble_eq_true rfl, Nat.le_of_ble_eq_true rfl⟩) (px_preV hK hP hD ym3 c_113 rfl) rfl rfl hl.1 rfl (lv_room (Nat.le_of_ble_eq_true rfl)) xd_Me_settleReading_46 ⟨(Nat.le_of_ble_eq_true rfl), (Nat.le_of_ble_eq_true rfl)⟩) hS (fun q _ h => hFc q h) hFc (fun u118 t H1 locs ht hvm hp119 hB hz1 hk1 hS => ?_)
      obtain ⟨hP1, hD1⟩ := hB
      rw [ht] at hP1
      have hD1 := hD1.weaken (fun _ _ _ h => hFc _ h)
      generalize H1 = H at hP1 hS ⊢
      have hP := hP1
      have hD := hD1
      obtain ⟨E120, rfl⟩ : ∃ z, z = u118 := ⟨_, rfl⟩
      obtain ⟨w121, hp124, p_122, p_123⟩ := hp119
      have p_122 : E120 (20 + n) (17 + 10 * k) = .inl (kA 0, 6, .inl w121) := p_122
      have p_123 : (∀ b2 o2, ¬ (b2 = (20 + n) ∧ o2 = (17 + 10 * k)) → E120 b2 o2 = E105 b2 o2) := p_123
      have c_125 : E120 (20 + n) (10 + 10 * k) = .inr (6, [.ref (ad (20 + n) 0), .ref (ad (1 + d) 0), .ref (ad (20 + n) (11 + 10 * k)), .ref (ad (20 + n) (12 + 10 * k)), .ref (ad (20 + n) (13 + 10 * k)), .ref (ad (20 + n) (14 + 10 * k))]) := (p_123 (20 + n) (10 + 10 * k) (by omega)).trans c_110
      have c_126 : E120 (20 + n) (11 + 10 * k) = .inl (kA 6, rs, .inr (.inr (.inr (.inr fr)))) := (p_123 (20 + n) (11 + 10 * k) (by omega)).trans c_111
      have c_127 : E120 (20 + n) (13 + 10 * k) = .inr (10, [.ref (ad (20 + n) (16 + 10 * k))]) := (p_123 (20 + n) (13 + 10 * k) (by omega)).trans c_112
      have c_128 : E120 (20 + n) (14 + 10 * k) = .inr (10, [.ref (ad (20 + n) (17 + 10 * k))]) := (p_123 (20 + n) (14 + 10 * k) (by omega)).trans c_113
      have c_129 : E120 (20 + n) (16 + 10 * k) = .inl (kA 0, 6, .inl gb) := (p_123 (20 + n) (16 + 10 * k) (by omega)).trans c_114
      have c_130 : E120 (20 + n) 0 = .inr (5, [.int (nI n), (lyv ad lq_69), .ref (ad (20 + n) 1), .int op_69]) := (p_123 (20 + n) 0 (by omega)).trans c_115
      have c_131 : E120 (1 + d) 0 = .inr (7, [.int (nI d), .int fd_75, .int nm_75, .ref (ad (1 + d) 1), .ref (ad (1 + d) 9), .ref (ad (1 + d) 10), .ref (ad (1 + d) 2), .ref (ad (1 + d) 11), .ref (ad (1 + d) 12), .ref (ad (1 + d) 3), .ref (ad (1 + d) 4), .int sd_75]) := (p_123 (1 + d) 0 (by omega)).trans c_116
      have hP : va_P D xcl (rp ad E120 RL) H := hP
      have hD : va_D A (rp ad E120 RL) := hD
      have hRj : ∀ t, t < 72 → (BS w121 t ↔ ((BS gc1 t ∨ t = 12 * n + d) ∨ tc (pst g) (12 * n + d) t)) := fun t ht => by
        rw [BS_join ht hp124, hRm t]
        have q := hCB n (by omega) k hkm t ht
        rw [hdk, show eA (E (20 + n) (16 + 10 * k)) = gb from by rw [yc5]; rfl] at q
        rw [← q]
      refine lv_iinc (k := 0) (x := (nI i)) (v := (nI (i + 1))) hx hb xd_Me_settleReading_49 hl rfl (xb_inc i 1) (Nat.le_of_ble_eq_true rfl) rfl (fun ls hl => ?_)
      have hl : lv_has ls 2 [(1, .int (nI (i + 1))), (0, .ref (ad (20 + n) (10 + 10 * k)))] := hl
      refine lv_goto (tgt := 2) hx hb xd_Me_settleReading_52 (by decide) ?_
      exact ih1 (i + 1, E120, w121) _ _ _ (show rs - (i + 1) < rs - i by omega) (lv_sub hl [0, 1] rfl) hP hD hS ⟨(show (i + 1) ≤ rs from by first | assumption | omega), (show E120 (20 + n) (17 + 10 * k) = .inl (kA 0, 6, .inl w121) from p_122), (show ∀ b2 o2, ¬ (b2 = 20 + n ∧ o2 = 17 + 10 * k) → E120 b2 o2 = E b2 o2 from fun b2 o2 h09 => by rw [p_123 b2 o2 (by omega), p_108 b2 o2 (by omega), hfr b2 o2 (by omega)]), (show ∀ t, t < 72 → (BS w121 t ↔ (BS gc t ∨ RDp g n d (i + 1) t)) from fun t ht => by rw [hRj t ht, hR9 t ht, RDp_y hlk9, or_assoc, or_assoc])⟩
    · have hM9 := MEI_RU hRU hM9
      obtain ⟨m0_132, m1_132, pv_132, op_132, mk_132, fm_132, hmk_132, hpv_132, q0_132, q1_132, hk_132⟩ := id (hLIs x9 (by omega))
      have c_133 : E1 (20 + x9) 0 = .inr (5, [.int (nI x9), pv_132, .ref (ad (20 + x9) 1), .int op_132]) := q0_132
      have m_134 : (20 + x9, 0) ∈ RL := m0_132
      have c_135 : E1 (20 + x9) 1 = .inl (kA 6, mk_132, .inr (.inr (.inr (.inr fm_132)))) := q1_132
      have m_136 : (20 + x9, 1) ∈ RL := m1_132
      obtain ⟨top_132, ⟨lq_132, hlq_132, h19_132, hpv2_132⟩, h20_132, tmd_132⟩ := TLa_get c_133 c_135 (hTL1 x9 (by omega))
      have c_137 : E1 (20 + x9) 0 = .inr (5, [.int (nI x9), (lyv ad lq_132), .ref (ad (20 + x9) 1), .int op_132]) := by rw [← hpv2_132]; exact c_133
      have i20_132 : iN (g 20 x9) = mk_132 := by rw [h20_132, iN_nI (by omega)]
      have hkk9 : k9 < mk_132 := by have q := hkm9; rw [i20_132] at q; exact q
      obtain ⟨hm_138, d_138, rs_138, fr_138, g2_138, g3_138, g4_138, hd_138, hrs_138, q0_138, q1_138, q2_138, q3_138, q4_138, q5_138, q6_138, q7_138⟩ := id hM9
      have c_139 : E1 (20 + x9) (10 + 10 * k9) = .inr (6, [.ref (ad (20 + x9) 0), .ref (ad (1 + d_138) 0), .ref (ad (20 + x9) (11 + 10 * k9)), .ref (ad (20 + x9) (12 + 10 * k9)), .ref (ad (20 + x9) (13 + 10 * k9)), .ref (ad (20 + x9) (14 + 10 * k9))]) := q0_138
      have m_140 : (20 + x9, 10 + 10 * k9) ∈ RL := hm_138 0 (by omega)
      have c_141 : E1 (20 + x9) (11 + 10 * k9) = .inl (kA 6, rs_138, .inr (.inr (.inr (.inr fr_138)))) := q1_138
      have m_142 : (20 + x9, 11 + 10 * k9) ∈ RL := hm_138 1 (by omega)
      have c_143 : E1 (20 + x9) (12 + 10 * k9) = .inr (10, [.ref (ad (20 + x9) (15 + 10 * k9))]) := q2_138
      have m_144 : (20 + x9, 12 + 10 * k9) ∈ RL := hm_138 2 (by omega)
      have c_145 : E1 (20 + x9) (13 + 10 * k9) = .inr (10, [.ref (ad (20 + x9) (16 + 10 * k9))]) := q3_138
      have m_146 : (20 + x9, 13 + 10 * k9) ∈ RL := hm_138 3 (by omega)
      have c_147 : E1 (20 + x9) (14 + 10 * k9) = .inr (10, [.ref (ad (20 + x9) (17 + 10 * k9))]) := q4_138
      have m_148 : (20 + x9, 14 + 10 * k9) ∈ RL := hm_138 4 (by omega)
      have c_149 : E1 (20 + x9) (15 + 10 * k9) = .inl (kA 0, 6, .inl g2_138) := q5_138
      have m_150 : (20 + x9, 15 + 10 * k9) ∈ RL := hm_138 5 (by omega)
      have c_151 : E1 (20 + x9) (16 + 10 * k9) = .inl (kA 0, 6, .inl g3_138) := q6_138
      have m_152 : (20 + x9, 16 + 10 * k9) ∈ RL := hm_138 6 (by omega)
      have c_153 : E1 (20 + x9) (17 + 10 * k9) = .inl (kA 0, 6, .inl g4_138) := q7_138
      have m_154 : (20 + x9, 17 + 10 * k9) ∈ RL := hm_138 7 (by omega)
      have hdm_138 : mdv g x9 k9 = d_138 := by
        obtain ⟨dz, hdz, h21z, hvz⟩ := tmd_132 k9 (by omega)
        rw [c_139] at hvz
        have ez := (rp_inj hD ((hDIs d_138 hd_138).1 0 (by omega)) ((hDIs dz hdz).1 0 (by omega)) (Value.ref.inj hvz)).1
        unfold mdv
        rw [h21z, iN_nI (by omega)]; omega
      obtain ⟨hm_155, fd_155, nm_155, sd_155, k0_155, k1_155, k2_155, k3_155, f0_155, f1_155, f2_155, f3_155, fe_155, fo_155, tr_155, op_155, hk0_155, hk1_155, hk2_155, hk3_155, q0_155, q1_155, q2_155, q3_155, q4_155, q5_155, q6_155, q7_155, q8_155, q9_155, q10_155, q11_155, q12_155, hg_155⟩ := id (hDIs d_138 (by omega))
      have c_156 : E1 (1 + d_138) 0 = .inr (7, [.int (nI d_138), .int fd_155, .int nm_155, .ref (ad (1 + d_138) 1), .ref (ad (1 + d_138) 9), .ref (ad (1 + d_138) 10), .ref (ad (1 + d_138) 2), .ref (ad (1 + d_138) 11), .ref (ad (1 + d_138) 12), .ref (ad (1 + d_138) 3), .ref (ad (1 + d_138) 4), .int sd_155]) := q0_155
      have m_157 : (1 + d_138, 0) ∈ RL := hm_155 0 (by omega)
      have c_158 : E1 (1 + d_138) 1 = .inr (8, [.ref (ad (1 + d_138) 5), .int (nI k0_155)]) := q1_155
      have m_159 : (1 + d_138, 1) ∈ RL := hm_155 1 (by omega)
      have c_160 : E1 (1 + d_138) 2 = .inr (8, [.ref (ad (1 + d_138) 6), .int (nI k1_155)]) := q2_155
      have m_161 : (1 + d_138, 2) ∈ RL := hm_155 2 (by omega)
      have c_162 : E1 (1 + d_138) 3 = .inr (8, [.ref (ad (1 + d_138) 7), .int (nI k2_155)]) := q3_155
      have m_163 : (1 + d_138, 3) ∈ RL := hm_155 3 (by omega)
      have c_164 : E1 (1 + d_138) 4 = .inr (8, [.ref (ad (1 + d_138) 8), .int (nI k3_155)]) := q4_155
      have m_165 : (1 + d_138, 4) ∈ RL := hm_155 4 (by omega)
      have c_166 : E1 (1 + d_138) 5 = .inl (kA 0, 6, .inl f0_155) := q5_155
      have m_167 : (1 + d_138, 5) ∈ RL := hm_155 5 (by omega)
      have c_168 : E1 (1 + d_138) 6 = .inl (kA 0, 5, .inl f1_155) := q6_155
      have m_169 : (1 + d_138, 6) ∈ RL := hm_155 6 (by omega)
      have c_170 : E1 (1 + d_138) 7 = .inl (kA 0, 3, .inl f2_155) := q7_155
      have m_171 : (1 + d_138, 7) ∈ RL := hm_155 7 (by omega)
      have c_172 : E1 (1 + d_138) 8 = .inl (kA 0, 3, .inl f3_155) := q8_155
      have m_173 : (1 + d_138, 8) ∈ RL := hm_155 8 (by omega)
      have c_174 : E1 (1 + d_138) 9 = .inl (kA 8, 6, .inr (.inr (.inr (.inr fe_155)))) := q9_155
      have m_175 : (1 + d_138, 9) ∈ RL := hm_155 9 (by omega)
      have c_176 : E1 (1 + d_138) 10 = .inl (kA 8, 6, .inr (.inr (.inr (.inr fo_155)))) := q10_155
      have m_177 : (1 + d_138, 10) ∈ RL := hm_155 10 (by omega)
      have c_178 : E1 (1 + d_138) 11 = .inl (kA 2, 5, .inl tr_155) := q11_155
      have m_179 : (1 + d_138, 11) ∈ RL := hm_155 11 (by omega)
      have c_180 : E1 (1 + d_138) 12 = .inl (kA 2, 5, .inl op_155) := q12_155
      have m_181 : (1 + d_138, 12) ∈ RL := hm_155 12 (by omega)
      have hg_155 : ∀ w9, w9 < k0_155 → fe_155 w9 = some (ad (1 + d_138) (20 + 3 * w9)) ∧ fo_155 w9 = some (ad (1 + d_138) (38 + 3 * w9)) ∧ GI kA (ad (1 + d_138)) (E1 (1 + d_138)) (fun o => (1 + d_138, o) ∈ RL) (20 + 3 * w9) (21 + 3 * w9) (22 + 3 * w9) ∧ GI kA (ad (1 + d_138)) (E1 (1 + d_138)) (fun o => (1 + d_138, o) ∈ RL) (38 + 3 * w9) (39 + 3 * w9) (40 + 3 * w9) := hg_155
      obtain ⟨hTT_155, tgr_155⟩ := TD_get hk0_155 hk1_155 hk2_155 hk3_155 c_156 c_158 c_160 c_162 c_164 c_166 c_168 c_170 c_172 c_178 c_180 (hTD1 d_138 (by omega))
      obtain ⟨tfd_155, tnm_155, tsd_155, tk0_155, tf0_155, tk1_155, tf1_155, tk2_155, tk3_155⟩ := id hTT_155
      have ik0_155 : iN (g 5 d_138) = k0_155 := by rw [← tk0_155, iN_nI (by omega)]
      have ik1_155 : iN (g 12 d_138) = k1_155 := by rw [← tk1_155, iN_nI (by omega)]
      have hlk9 : lkG g (n + 1) (g 13 (5 * d + i)) = some (x9, d_138) := by rw [hdm_138] at hlk8; exact hlk8
      have hoc9 : eA (E1 (20 + x9) (16 + 10 * k9)) = g3_138 := by rw [c_151]; rfl
      refine lv_aload_n hx hb xd_Me_settleReading_11 rfl (lv_at hl 1 rfl) ?_
      refine px_get (D := D) (ci := 6) (v := .ref (ad (20 + n) (11 + 10 * k))) (C := xR_Me) (T := xT_Me) (N := 6) hx hb hT xi_Me hown hK.1 hP ym0 c_2 rfl 2 (by decide) (hT _ k5u_0) (fun _ h9 => h9) rfl xd_Me_settleReading_12 ?_
      refine lv_iload_n hx hb xd_Me_settleReading_15 rfl (lv_at hl 0 rfl) ?_
      refine px_aald (i := i) (x := (some (ad (20 + x9) (10 + 10 * k9)))) hx hb hK.1 hP ym1 c_3 6 rfl (hq) (by omega) (by omega) xd_Me_settleReading_16 ?_
      refine lv_ifnull hx hb xd_Me_settleReading_17 ?_
      refine lv_aload_n hx hb xd_Me_settleReading_20 rfl (lv_at hl 1 rfl) ?_
      refine px_get (D := D) (ci := 6) (v := .ref (ad (20 + n) (14 + 10 * k))) (C := xR_Me) (T := xT_Me) (N := 6) hx hb hT xi_Me hown hK.1 hP ym0 c_2 rfl 5 (by decide) (hT _ k5u_1) (fun _ h9 => h9) rfl xd_Me_settleReading_21 ?_
      refine lv_aload_n hx hb xd_Me_settleReading_24 rfl (lv_at hl 1 rfl) ?_
      refine px_get (D := D) (ci := 6) (v := .ref (ad (20 + n) (11 + 10 * k))) (C := xR_Me) (T := xT_Me) (N := 6) hx hb hT xi_Me hown hK.1 hP ym0 c_2 rfl 2 (by decide) (hT _ k5u_0) (fun _ h9 => h9) rfl xd_Me_settleReading_25 ?_
      refine lv_iload_n hx hb xd_Me_settleReading_28 rfl (lv_at hl 0 rfl) ?_
      refine px_aald (i := i) (x := (some (ad (20 + x9) (10 + 10 * k9)))) hx hb hK.1 hP ym1 c_3 6 rfl (hq) (by omega) (by omega) xd_Me_settleReading_29 ?_
      have hFc := px_free hD hS hA
      refine va_callv (va_runV (As := [.ref (ad (20 + x9) (10 + 10 * k9))]) (rest := []) ⟨hx, hb, hml, hown, hT⟩ (xc_Re_mark l D kA H.size ad E1 RL (20 + n) (14 + 10 * k) (17 + 10 * k) gc1 x9 k9 d_138 (lyv ad lq_132) op_132 fd_155 nm_155 sd_155 ym3 c_5 ym4 hcA7 m_140 c_139 m_134 c_137 m_157 c_156 (by first | assumption | omega) (by first | assumption | omega) (by first | assumption | omega)) (cwV 1 hT (wT_V k5u_8 k5u_9 k5u_10 k5u_6 k5u_7) rfl rfl rfl (by decide +kernel) ⟨Nat.le_of_ble_eq_true rfl, Nat.le_of_ble_eq_true rfl⟩) (px_preV hK hP hD ym3 c_5 rfl) rfl rfl hl.1 rfl (lv_room (Nat.le_of_ble_eq_true rfl)) xd_Me_settleReading_30 ⟨(Nat.le_of_ble_eq_true rfl), (Nat.le_of_ble_eq_true rfl)⟩) hS (fun q _ h => hFc q h) hFc (fun u183 t H1 locs ht hvm hp184 hB hz1 hk1 hS => ?_)
      obtain ⟨hP1, hD1⟩ := hB
      rw [ht] at hP1
      have hD1 := hD1.weaken (fun _ _ _ h => hFc _ h)
      generalize H1 = H at hP1 hS ⊢
      have hP := hP1
      have hD := hD1
      obtain ⟨E185, rfl⟩ : ∃ z, z = u183 := ⟨_, rfl⟩
      obtain ⟨w186, hp189, p_187, p_188⟩ := hp184
      have p_187 : E185 (20 + n) (17 + 10 * k) = .inl (kA 0, 6, .inl w186) := p_187
      have p_188 : (∀ b2 o2, ¬ (b2 = (20 + n) ∧ o2 = (17 + 10 * k)) → E185 b2 o2 = E1 b2 o2) := p_188
      have c_190 : E185 (20 + n) (10 + 10 * k) = .inr (6, [.ref (ad (20 + n) 0), .ref (ad (1 + d) 0), .ref (ad (20 + n) (11 + 10 * k)), .ref (ad (20 + n) (12 + 10 * k)), .ref (ad (20 + n) (13 + 10 * k)), .ref (ad (20 + n) (14 + 10 * k))]) := (p_188 (20 + n) (10 + 10 * k) (by omega)).trans c_2
      have c_191 : E185 (20 + n) (11 + 10 * k) = .inl (kA 6, rs, .inr (.inr (.inr (.inr fr)))) := (p_188 (20 + n) (11 + 10 * k) (by omega)).trans c_3
      have c_192 : E185 (20 + n) (13 + 10 * k) = .inr (10, [.ref (ad (20 + n) (16 + 10 * k))]) := (p_188 (20 + n) (13 + 10 * k) (by omega)).trans c_4
      have c_193 : E185 (20 + n) (14 + 10 * k) = .inr (10, [.ref (ad (20 + n) (17 + 10 * k))]) := (p_188 (20 + n) (14 + 10 * k) (by omega)).trans c_5
      have c_194 : E185 (20 + n) (16 + 10 * k) = .inl (kA 0, 6, .inl gb) := (p_188 (20 + n) (16 + 10 * k) (by omega)).trans c_6
      have c_195 : E185 (20 + x9) 0 = .inr (5, [.int (nI x9), (lyv ad lq_132), .ref (ad (20 + x9) 1), .int op_132]) := (p_188 (20 + x9) 0 (by omega)).trans c_137
      have c_196 : E185 (20 + x9) (10 + 10 * k9) = .inr (6, [.ref (ad (20 + x9) 0), .ref (ad (1 + d_138) 0), .ref (ad (20 + x9) (11 + 10 * k9)), .ref (ad (20 + x9) (12 + 10 * k9)), .ref (ad (20 + x9) (13 + 10 * k9)), .ref (ad (20 + x9) (14 + 10 * k9))]) := (p_188 (20 + x9) (10 + 10 * k9) (by omega)).trans c_139
      have c_197 : E185 (20 + x9) (13 + 10 * k9) = .inr (10, [.ref (ad (20 + x9) (16 + 10 * k9))]) := (p_188 (20 + x9) (13 + 10 * k9) (by omega)).trans c_145
      have c_198 : E185 (20 + x9) (16 + 10 * k9) = .inl (kA 0, 6, .inl g3_138) := (p_188 (20 + x9) (16 + 10 * k9) (by omega)).trans c_151
      have c_199 : E185 (1 + d_138) 0 = .inr (7, [.int (nI d_138), .int fd_155, .int nm_155, .ref (ad (1 + d_138) 1), .ref (ad (1 + d_138) 9), .ref (ad (1 + d_138) 10), .ref (ad (1 + d_138) 2), .ref (ad (1 + d_138) 11), .ref (ad (1 + d_138) 12), .ref (ad (1 + d_138) 3), .ref (ad (1 + d_138) 4), .int sd_155]) := (p_188 (1 + d_138) 0 (by omega)).trans c_156
      have hP : va_P D xcl (rp ad E185 RL) H := hP
      have hD : va_D A (rp ad E185 RL) := hD
      have hRm : ∀ t, BS w186 t ↔ (BS gc1 t ∨ t = 12 * x9 + d_138) := fun t => by rw [hp189]; exact BS_mark (by omega)
      refine lv_aload_n hx hb xd_Me_settleReading_33 rfl (lv_at hl 1 rfl) ?_
      refine px_get (D := D) (ci := 6) (v := .ref (ad (20 + n) (14 + 10 * k))) (C := xR_Me) (T := xT_Me) (N := 6) hx hb hT xi_Me hown hK.1 hP ym0 c_190 rfl 5 (by decide) (hT _ k5u_1) (fun _ h9 => h9) rfl xd_Me_settleReading_34 ?_
      refine lv_aload_n hx hb xd_Me_settleReading_37 rfl (lv_at hl 1 rfl) ?_
      refine px_get (D := D) (ci := 6) (v := .ref (ad (20 + n) (11 + 10 * k))) (C := xR_Me) (T := xT_Me) (N := 6) hx hb hT xi_Me hown hK.1 hP ym0 c_190 rfl 2 (by decide) (hT _ k5u_0) (fun _ h9 => h9) rfl xd_Me_settleReading_38 ?_
      refine lv_iload_n hx hb xd_Me_settleReading_41 rfl (lv_at hl 0 rfl) ?_
      refine px_aald (i := i) (x := (some (ad (20 + x9) (10 + 10 * k9)))) hx hb hK.1 hP ym1 c_191 6 rfl (hq) (by omega) (by omega) xd_Me_settleReading_42 ?_
      refine px_get (D := D) (ci := 6) (v := .ref (ad (20 + x9) (13 + 10 * k9))) (C := xR_Me) (T := xT_Me) (N := 6) hx hb hT xi_Me hown hK.1 hP m_140 c_196 rfl 4 (by decide) (hT _ k5u_11) (fun _ h9 => h9) rfl xd_Me_settleReading_43 ?_
      have hFc := px_free hD hS hA
      refine va_callv (va_runV (As := [.ref (ad (20 + x9) (13 + 10 * k9))]) (rest := []) ⟨hx, hb, hml, hown, hT⟩ (xc_Re_joinX l D kA H.size ad E185 RL (20 + n) (14 + 10 * k) (17 + 10 * k) w186 (20 + x9) (13 + 10 * k9) (16 + 10 * k9) g3_138 ym3 c_193 ym4 p_187 m_146 c_197 m_152 c_198 (by first | assumption | omega) (by first | assumption | omega)) (cwV 1 hT (wT_V k5u_13 k5u_14 k5u_15 k5u_6 k5u_12) rfl rfl rfl (by decide +kernel) ⟨Nat.le_of_ble_eq_true rfl, Nat.le_of_ble_eq_true rfl⟩) (px_preV hK hP hD ym3 c_193 rfl) rfl rfl hl.1 rfl (lv_room (Nat.le_of_ble_eq_true rfl)) xd_Me_settleReading_46 ⟨(Nat.le_of_ble_eq_true rfl), (Nat.le_of_ble_eq_true rfl)⟩) hS (fun q _ h => hFc q h) hFc (fun u201 t H1 locs ht hvm hp202 hB hz1 hk1 hS => ?_)
      obtain ⟨hP1, hD1⟩ := hB
      rw [ht] at hP1
      have hD1 := hD1.weaken (fun _ _ _ h => hFc _ h)
      generalize H1 = H at hP1 hS ⊢
      have hP := hP1
      have hD := hD1
      obtain ⟨E203, rfl⟩ : ∃ z, z = u201 := ⟨_, rfl⟩
      obtain ⟨w204, hp207, p_205, p_206⟩ := hp202
      have p_205 : E203 (20 + n) (17 + 10 * k) = .inl (kA 0, 6, .inl w204) := p_205
      have p_206 : (∀ b2 o2, ¬ (b2 = (20 + n) ∧ o2 = (17 + 10 * k)) → E203 b2 o2 = E185 b2 o2) := p_206
      have c_208 : E203 (20 + n) (10 + 10 * k) = .inr (6, [.ref (ad (20 + n) 0), .ref (ad (1 + d) 0), .ref (ad (20 + n) (11 + 10 * k)), .ref (ad (20 + n) (12 + 10 * k)), .ref (ad (20 + n) (13 + 10 * k)), .ref (ad (20 + n) (14 + 10 * k))]) := (p_206 (20 + n) (10 + 10 * k) (by omega)).trans c_190
      have c_209 : E203 (20 + n) (11 + 10 * k) = .inl (kA 6, rs, .inr (.inr (.inr (.inr fr)))) := (p_206 (20 + n) (11 + 10 * k) (by omega)).trans c_191
      have c_210 : E203 (20 + n) (13 + 10 * k) = .inr (10, [.ref (ad (20 + n) (16 + 10 * k))]) := (p_206 (20 + n) (13 + 10 * k) (by omega)).trans c_192
      have c_211 : E203 (20 + n) (14 + 10 * k) = .inr (10, [.ref (ad (20 + n) (17 + 10 * k))]) := (p_206 (20 + n) (14 + 10 * k) (by omega)).trans c_193
      have c_212 : E203 (20 + n) (16 + 10 * k) = .inl (kA 0, 6, .inl gb) := (p_206 (20 + n) (16 + 10 * k) (by omega)).trans c_194
      have c_213 : E203 (20 + x9) 0 = .inr (5, [.int (nI x9), (lyv ad lq_132), .ref (ad (20 + x9) 1), .int op_132]) := (p_206 (20 + x9) 0 (by omega)).trans c_195
      have c_214 : E203 (20 + x9) (10 + 10 * k9) = .inr (6, [.ref (ad (20 + x9) 0), .ref (ad (1 + d_138) 0), .ref (ad (20 + x9) (11 + 10 * k9)), .ref (ad (20 + x9) (12 + 10 * k9)), .ref (ad (20 + x9) (13 + 10 * k9)), .ref (ad (20 + x9) (14 + 10 * k9))]) := (p_206 (20 + x9) (10 + 10 * k9) (by omega)).trans c_196
      have c_215 : E203 (20 + x9) (13 + 10 * k9) = .inr (10, [.ref (ad (20 + x9) (16 + 10 * k9))]) := (p_206 (20 + x9) (13 + 10 * k9) (by omega)).trans c_197
      have c_216 : E203 (20 + x9) (16 + 10 * k9) = .inl (kA 0, 6, .inl g3_138) := (p_206 (20 + x9) (16 + 10 * k9) (by omega)).trans c_198
      have c_217 : E203 (1 + d_138) 0 = .inr (7, [.int (nI d_138), .int fd_155, .int nm_155, .ref (ad (1 + d_138) 1), .ref (ad (1 + d_138) 9), .ref (ad (1 + d_138) 10), .ref (ad (1 + d_138) 2), .ref (ad (1 + d_138) 11), .ref (ad (1 + d_138) 12), .ref (ad (1 + d_138) 3), .ref (ad (1 + d_138) 4), .int sd_155]) := (p_206 (1 + d_138) 0 (by omega)).trans c_199
      have hP : va_P D xcl (rp ad E203 RL) H := hP
      have hD : va_D A (rp ad E203 RL) := hD
      have hRj : ∀ t, t < 72 → (BS w204 t ↔ ((BS gc1 t ∨ t = 12 * x9 + d_138) ∨ tc (pst g) (12 * x9 + d_138) t)) := fun t ht => by
        rw [BS_join ht hp207, hRm t]
        have q := hCB x9 (by omega) k9 hkm9 t ht
        rw [← hfr (20 + x9) (16 + 10 * k9) (by omega), hoc9, hdm_138] at q
        rw [← q]
      refine lv_iinc (k := 0) (x := (nI i)) (v := (nI (i + 1))) hx hb xd_Me_settleReading_49 hl rfl (xb_inc i 1) (Nat.le_of_ble_eq_true rfl) rfl (fun ls hl => ?_)
      have hl : lv_has ls 2 [(1, .int (nI (i + 1))), (0, .ref (ad (20 + n) (10 + 10 * k)))] := hl
      refine lv_goto (tgt := 2) hx hb xd_Me_settleReading_52 (by decide) ?_
      exact ih1 (i + 1, E203, w204) _ _ _ (show rs - (i + 1) < rs - i by omega) (lv_sub hl [0, 1] rfl) hP hD hS ⟨(show (i + 1) ≤ rs from by first | assumption | omega), (show E203 (20 + n) (17 + 10 * k) = .inl (kA 0, 6, .inl w204) from p_205), (show ∀ b2 o2, ¬ (b2 = 20 + n ∧ o2 = 17 + 10 * k) → E203 b2 o2 = E b2 o2 from fun b2 o2 h09 => by rw [p_206 b2 o2 (by omega), p_188 b2 o2 (by omega), hfr b2 o2 (by omega)]), (show ∀ t, t < 72 → (BS w204 t ↔ (BS gc t ∨ RDp g n d (i + 1) t)) from fun t ht => by rw [hRj t ht, hR9 t ht, RDp_y hlk9, or_assoc, or_assoc])⟩
