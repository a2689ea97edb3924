abbrev xb_Me_settleReading : ByteArray := prog_7_method_3_code
def xy_Me_settleReading : MethodName := ⟨"LayerDesk$Member", "settleReading", "()V"⟩
theorem xd_Me_settleReading_0 : decode xb_Me_settleReading 0 = .ok (.iconst 0, 1) := by decide +kernel
theorem xd_Me_settleReading_1 : decode xb_Me_settleReading 1 = .ok (.istore_n 1, 1) := by decide +kernel
theorem xd_Me_settleReading_2 : decode xb_Me_settleReading 2 = .ok (.iload_n 1, 1) := by decide +kernel
theorem xd_Me_settleReading_3 : decode xb_Me_settleReading 3 = .ok (.aload_n 0, 1) := by decide +kernel
theorem xd_Me_settleReading_4 : decode xb_Me_settleReading 4 = .ok (.getfield 44, 3) := by decide +kernel
theorem xd_Me_settleReading_7 : decode xb_Me_settleReading 7 = .ok (.arraylength, 1) := by decide +kernel
theorem xd_Me_settleReading_8 : decode xb_Me_settleReading 8 = .ok (.if_icmp .ge 47, 3) := by decide +kernel
theorem xd_Me_settleReading_11 : decode xb_Me_settleReading 11 = .ok (.aload_n 0, 1) := by decide +kernel
theorem xd_Me_settleReading_12 : decode xb_Me_settleReading 12 = .ok (.getfield 44, 3) := by decide +kernel
theorem xd_Me_settleReading_15 : decode xb_Me_settleReading 15 = .ok (.iload_n 1, 1) := by decide +kernel
theorem xd_Me_settleReading_16 : decode xb_Me_settleReading 16 = .ok (.aaload, 1) := by decide +kernel
theorem xd_Me_settleReading_17 : decode xb_Me_settleReading 17 = .ok (.ifnull 32, 3) := by decide +kernel
theorem xd_Me_settleReading_20 : decode xb_Me_settleReading 20 = .ok (.aload_n 0, 1) := by decide +kernel
theorem xd_Me_settleReading_21 : decode xb_Me_settleReading 21 = .ok (.getfield 21, 3) := by decide +kernel
theorem xd_Me_settleReading_24 : decode xb_Me_settleReading 24 = .ok (.aload_n 0, 1) := by decide +kernel
theorem xd_Me_settleReading_25 : decode xb_Me_settleReading 25 = .ok (.getfield 44, 3) := by decide +kernel
theorem xd_Me_settleReading_28 : decode xb_Me_settleReading 28 = .ok (.iload_n 1, 1) := by decide +kernel
theorem xd_Me_settleReading_29 : decode xb_Me_settleReading 29 = .ok (.aaload, 1) := by decide +kernel
theorem xd_Me_settleReading_30 : decode xb_Me_settleReading 30 = .ok (.invokevirtual 61, 3) := by decide +kernel
theorem xd_Me_settleReading_33 : decode xb_Me_settleReading 33 = .ok (.aload_n 0, 1) := by decide +kernel
theorem xd_Me_settleReading_34 : decode xb_Me_settleReading 34 = .ok (.getfield 21, 3) := by decide +kernel
theorem xd_Me_settleReading_37 : decode xb_Me_settleReading 37 = .ok (.aload_n 0, 1) := by decide +kernel
theorem xd_Me_settleReading_38 : decode xb_Me_settleReading 38 = .ok (.getfield 44, 3) := by decide +kernel
theorem xd_Me_settleReading_41 : decode xb_Me_settleReading 41 = .ok (.iload_n 1, 1) := by decide +kernel
theorem xd_Me_settleReading_42 : decode xb_Me_settleReading 42 = .ok (.aaload, 1) := by decide +kernel
theorem xd_Me_settleReading_43 : decode xb_Me_settleReading 43 = .ok (.getfield 18, 3) := by decide +kernel
theorem xd_Me_settleReading_46 : decode xb_Me_settleReading 46 = .ok (.invokevirtual 68, 3) := by decide +kernel
theorem xd_Me_settleReading_49 : decode xb_Me_settleReading 49 = .ok (.iinc 1 1, 3) := by decide +kernel
theorem xd_Me_settleReading_52 : decode xb_Me_settleReading 52 = .ok (.goto (-50), 3) := by decide +kernel
theorem xd_Me_settleReading_55 : decode xb_Me_settleReading 55 = .ok (.aload_n 0, 1) := by decide +kernel
theorem xd_Me_settleReading_56 : decode xb_Me_settleReading 56 = .ok (.getfield 21, 3) := by decide +kernel
theorem xd_Me_settleReading_59 : decode xb_Me_settleReading 59 = .ok (.aload_n 0, 1) := by decide +kernel
theorem xd_Me_settleReading_60 : decode xb_Me_settleReading 60 = .ok (.invokevirtual 72, 3) := by decide +kernel
theorem xd_Me_settleReading_63 : decode xb_Me_settleReading 63 = .ok (.return_, 1) := by decide +kernel
theorem yt1_0 : (Cond.fieldLink "LayerDesk$Member" 44 "LayerDesk$Member" "required" "[LLayerDesk$Member;") ∈ wT := wT_t (List.mem_append_right _ (List.mem_append_right _ (List.mem_append_left _ (List.mem_of_getElem? (i := 186) rfl)))) rfl
theorem yt1_1 : (Cond.fieldLink "LayerDesk$Member" 21 "LayerDesk$Member" "reading" "LLayerDesk$Reach;") ∈ wT := wT_t (List.mem_append_right _ (List.mem_append_right _ (List.mem_append_left _ (List.mem_of_getElem? (i := 191) rfl)))) rfl
theorem yt1_2 : (Cond.code xy_Re_unmark xb_Re_unmark 2 none) ∈ wT := wT_t (List.mem_append_right _ (List.mem_append_right _ (List.mem_append_left _ (List.mem_of_getElem? (i := 239) rfl)))) rfl
theorem yt1_3 : (Cond.methodLink "LayerDesk$Member" 72 xy_Re_unmark) ∈ wT := wT_t (List.mem_append_right _ (List.mem_append_right _ (List.mem_append_left _ (List.mem_of_getElem? (i := 236) rfl)))) rfl
theorem yt1_4 : (Cond.instanceMethod xy_Re_unmark) ∈ wT := wT_t (List.mem_append_right _ (List.mem_append_right _ (List.mem_append_left _ (List.mem_of_getElem? (i := 237) rfl)))) rfl
theorem yt1_5 : (Cond.selects "LayerDesk$Reach" xy_Re_unmark xy_Re_unmark) ∈ wT := wT_t (List.mem_append_right _ (List.mem_append_right _ (List.mem_append_left _ (List.mem_of_getElem? (i := 238) rfl)))) rfl
theorem yt1_6 : (Cond.initialized "LayerDesk$Reach") ∈ wT := wT_t (List.mem_append_left _ (List.mem_of_getElem? (i := 21) rfl)) rfl
theorem yt1_7 : (Cond.code xy_Re_mark xb_Re_mark 2 none) ∈ wT := wT_t (List.mem_append_right _ (List.mem_append_right _ (List.mem_append_left _ (List.mem_of_getElem? (i := 221) rfl)))) rfl
theorem yt1_8 : (Cond.methodLink "LayerDesk$Member" 61 xy_Re_mark) ∈ wT := wT_t (List.mem_append_right _ (List.mem_append_right _ (List.mem_append_left _ (List.mem_of_getElem? (i := 218) rfl)))) rfl
theorem yt1_9 : (Cond.instanceMethod xy_Re_mark) ∈ wT := wT_t (List.mem_append_right _ (List.mem_append_right _ (List.mem_append_left _ (List.mem_of_getElem? (i := 219) rfl)))) rfl
theorem yt1_10 : (Cond.selects "LayerDesk$Reach" xy_Re_mark xy_Re_mark) ∈ wT := wT_t (List.mem_append_right _ (List.mem_append_right _ (List.mem_append_left _ (List.mem_of_getElem? (i := 220) rfl)))) rfl
theorem yt1_11 : (Cond.fieldLink "LayerDesk$Member" 18 "LayerDesk$Member" "carried" "LLayerDesk$Reach;") ∈ wT := wT_t (List.mem_append_right _ (List.mem_append_right _ (List.mem_append_left _ (List.mem_of_getElem? (i := 189) rfl)))) rfl
theorem yt1_12 : (Cond.code xy_Re_join xb_Re_join 3 none) ∈ wT := wT_t (List.mem_append_right _ (List.mem_append_right _ (List.mem_append_left _ (List.mem_of_getElem? (i := 225) rfl)))) rfl
theorem yt1_13 : (Cond.methodLink "LayerDesk$Member" 68 xy_Re_join) ∈ wT := wT_t (List.mem_append_right _ (List.mem_append_right _ (List.mem_append_left _ (List.mem_of_getElem? (i := 222) rfl)))) rfl
theorem yt1_14 : (Cond.instanceMethod xy_Re_join) ∈ wT := wT_t (List.mem_append_right _ (List.mem_append_right _ (List.mem_append_left _ (List.mem_of_getElem? (i := 223) rfl)))) rfl
theorem yt1_15 : (Cond.selects "LayerDesk$Reach" xy_Re_join xy_Re_join) ∈ wT := wT_t (List.mem_append_right _ (List.mem_append_right _ (List.mem_append_left _ (List.mem_of_getElem? (i := 224) rfl)))) rfl
set_option maxHeartbeats 4000000 in
set_option maxRecDepth 100000 in
theorem xc_Me_settleReading (l : Launch) (D : va_G) (kA : Nat → ClassId) (sz : Nat) (ad : Nat → Nat → Nat) (E : Nat → Nat → va_E) (RL : List (Nat × Nat)) (nd : Nat) (nL : Nat) (n : Nat) (k : Nat) (d : Nat) (rs : Nat) (fr : Nat → Option Nat) (gc : Nat → Int32) (gb : Nat → Int32) (ym0 : (20 + n, 10 + 10 * k) ∈ RL) (yc0 : E (20 + n) (10 + 10 * k) = .inr (6, [.ref (ad (20 + n) 0), .ref (ad (1 + d) 0), .ref (ad (20 + n) (11 + 10 * k)), .ref (ad (20 + n) (12 + 10 * k)), .ref (ad (20 + n) (13 + 10 * k)), .ref (ad (20 + n) (14 + 10 * k))])) (ym1 : (20 + n, 11 + 10 * k) ∈ RL) (yc1 : E (20 + n) (11 + 10 * k) = .inl (kA 6, rs, .inr (.inr (.inr (.inr fr))))) (ym2 : (20 + n, 13 + 10 * k) ∈ RL) (yc2 : E (20 + n) (13 + 10 * k) = .inr (10, [.ref (ad (20 + n) (16 + 10 * k))])) (ym3 : (20 + n, 14 + 10 * k) ∈ RL) (yc3 : E (20 + n) (14 + 10 * k) = .inr (10, [.ref (ad (20 + n) (17 + 10 * k))])) (ym4 : (20 + n, 17 + 10 * k) ∈ RL) (yc4 : E (20 + n) (17 + 10 * k) = .inl (kA 0, 6, .inl gc)) (ym5 : (20 + n, 16 + 10 * k) ∈ RL) (yc5 : E (20 + n) (16 + 10 * k) = .inl (kA 0, 6, .inl gb)) (hDIs : DIs kA ad E RL nd) (hLIs : LIs kA ad E RL nd nL) (hnd12 : nd ≤ 12) (hnL : nL ≤ 6) (hn : n < nL) (hd : d < nd) (hrs : rs ≤ 5) (hRQ : RQ kA ad E RL nd n rs fr) : Met l xy_Me_settleReading (.code xy_Me_settleReading xb_Me_settleReading 2 none :: wT) { frames := 1, cells := 0, slots := 0, locals := 22 } (va_Pc [.ref (ad (20 + n) (10 + 10 * k))] (xPre D kA sz (rp ad E RL))) (va_Qv (fun (u : Nat → Nat → va_E) => ∃ gc2 : Nat → Int32, (True) ∧ (u (20 + n) (17 + 10 * k) = .inl (kA 0, 6, .inl gc2)) ∧ ((∀ b2 o2, ¬ (b2 = 20 + n ∧ o2 = 17 + 10 * k) → u b2 o2 = E b2 o2))) (fun (u : Nat → Nat → va_E) t => va_P D xcl (rp ad u RL) t.heap ∧ va_D (va_A (rp ad E RL) sz) (rp ad u RL)) (va_A (rp ad E RL) sz)) 0 0 (va_A (rp ad E RL) sz) := by
  refine Met.ofW (cc := xb_Me_settleReading) (maxL := 2) (ret := none) (by decide) rfl ?_
  intro p e s m args below meth c s₁ B hml hv
  obtain ⟨rfl, hsz, hP, hK, hD0⟩ := hv
  have hx := B.exec
  have hb := B.bytes
  have hr := B.returns
  have hT := x_hT B.pre
  have hown : s.vm.findClass xR_Me = some m.cls := findClass_of_methodNamed B.named
  have hlocks := B.notSynchronized
  subst hsz
  have hD := hD0.self (sz := s.heap.size)
  generalize hAe : va_A (rp ad E RL) s.heap.size = A at hD ⊢
  have hA : ∀ q : Nat, s.heap.size ≤ q → A q := fun q h => by rw [← hAe]; exact Or.inr h
  have hS : va_S A s.heap s.heap [] := va_S.rf
  have hl := lv_entry ([.ref (ad (20 + n) (10 + 10 * k))]) (n := 2) (Nat.le_of_ble_eq_true rfl)
  rw [lg_entry_eq]
  generalize (lg_sl ([.ref (ad (20 + n) (10 + 10 * k))]) ++ List.replicate (2 - (lg_sl ([.ref (ad (20 + n) (10 + 10 * k))])).length) Slot.unset).toArray = ls at hl ⊢
  have hl : lv_has ls 2 [(0, .ref (ad (20 + n) (10 + 10 * k)))] := hl
  have hP : va_P D xcl (rp ad E RL) s.heap := hP
  have hDIs0 := hDIs
  have hLIs0 := hLIs
  refine lv_iconst (v := 0) hx hb xd_Me_settleReading_0 (by decide) ?_
  refine lv_istore_n hx hb xd_Me_settleReading_1 rfl hl (Nat.le_of_ble_eq_true rfl) rfl (fun ls hl => ?_)
  have hl : lv_has ls 2 [(1, .int 0), (0, .ref (ad (20 + n) (10 + 10 * k)))] := hl
  refine xlab (σ := Nat × (Nat → Nat → va_E) × (Nat → Int32)) (ml := 2) 2 (fun (i, E1, gc1) => [(1, .int (nI i)), (0, .ref (ad (20 + n) (10 + 10 * k)))]) (fun (i, E1, gc1) => []) (fun (i, E1, gc1) => rp ad E1 RL) (fun (i, E1, gc1) => (i ≤ rs) ∧ (E1 (20 + n) (17 + 10 * k) = .inl (kA 0, 6, .inl gc1)) ∧ (∀ b2 o2, ¬ (b2 = 20 + n ∧ o2 = 17 + 10 * k) → E1 b2 o2 = E b2 o2)) (fun (i, E1, gc1) => rs - i) ?_ (0, E, gc) _ _ _ (lv_sub hl [0, 1] rfl) hP hD hS ⟨(show 0 ≤ rs from by first | assumption | omega), (show E (20 + n) (17 + 10 * k) = .inl (kA 0, 6, .inl gc) from yc4), (show ∀ b2 o2, ¬ (b2 = 20 + n ∧ o2 = 17 + 10 * k) → E b2 o2 = E b2 o2 from fun b2 o2 h09 => rfl)⟩
  intro n9 ih1 a9 ls H locs hμ hl hP hD hS hI
  subst hμ
  obtain ⟨i, E1, gc1⟩ := a9
  obtain ⟨hi, hcA7, hfr⟩ := hI
  have hi : i ≤ rs := hi
  have hcA7 : E1 (20 + n) (17 + 10 * k) = .inl (kA 0, 6, .inl gc1) := hcA7
  have hfr : ∀ b2 o2, ¬ (b2 = 20 + n ∧ o2 = 17 + 10 * k) → E1 b2 o2 = E b2 o2 := hfr
  have hl : lv_has ls 2 [(1, .int (nI i)), (0, .ref (ad (20 + n) (10 + 10 * k)))] := hl
  have hP : va_P D xcl (rp ad E1 RL) H := hP
  have hD : va_D A (rp ad E1 RL) := hD
  have hRU : RU kA E E1 := (RI.row yc4 hcA7 hfr).ru
  have hDIs := DIs_RU hRU hnd12 hDIs0
  have hLIs := LIs_RU hRU hLIs0
  have c_2 : E1 (20 + n) (10 + 10 * k) = .inr (6, [.ref (ad (20 + n) 0), .ref (ad (1 + d) 0), .ref (ad (20 + n) (11 + 10 * k)), .ref (ad (20 + n) (12 + 10 * k)), .ref (ad (20 + n) (13 + 10 * k)), .ref (ad (20 + n) (14 + 10 * k))]) := (hfr (20 + n) (10 + 10 * k) (by omega)).trans yc0
  have c_3 : E1 (20 + n) (11 + 10 * k) = .inl (kA 6, rs, .inr (.inr (.inr (.inr fr)))) := (hfr (20 + n) (11 + 10 * k) (by omega)).trans yc1
  have c_4 : E1 (20 + n) (13 + 10 * k) = .inr (10, [.ref (ad (20 + n) (16 + 10 * k))]) := (hfr (20 + n) (13 + 10 * k) (by omega)).trans yc2
  have c_5 : E1 (20 + n) (14 + 10 * k) = .inr (10, [.ref (ad (20 + n) (17 + 10 * k))]) := (hfr (20 + n) (14 + 10 * k) (by omega)).trans yc3
  have c_6 : E1 (20 + n) (16 + 10 * k) = .inl (kA 0, 6, .inl gb) := (hfr (20 + n) (16 + 10 * k) (by omega)).trans yc5
  refine lv_iload_n hx hb xd_Me_settleReading_2 rfl (lv_at hl 0 rfl) ?_
  refine lv_aload_n hx hb xd_Me_settleReading_3 rfl (lv_at hl 1 rfl) ?_
  refine px_get (D := D) (ci := 6) (v := .ref (ad (20 + n) (11 + 10 * k))) (C := xR_Me) (T := xT_Me) (N := 6) hx hb hT xi_Me hown hK.1 hP ym0 c_2 rfl 2 (by decide) (hT _ yt1_0) (fun _ h9 => h9) rfl xd_Me_settleReading_4 ?_
  refine px_alen hx hb hK.1 hP ym1 c_3 6 rfl xd_Me_settleReading_7 ?_
  refine W.eq (g2 := F0 m 8 ls [.int (nI rs), .int (nI i)]) rfl ?_
  refine xn_ge (a := i) (b := rs) (tgt := 55) hx hb xd_Me_settleReading_8 (by decide) (by omega) (by omega) (fun hc7 => ?_) (fun hc7 => ?_)
  · obtain ⟨m0_8, m1_8, pv_8, op_8, mk_8, fm_8, hmk_8, hpv_8, q0_8, q1_8, hk_8⟩ := id (hLIs n (by omega))
    have c_9 : E1 (20 + n) 0 = .inr (5, [.int (nI n), pv_8, .ref (ad (20 + n) 1), .int op_8]) := q0_8
    have m_10 : (20 + n, 0) ∈ RL := m0_8
    have c_11 : E1 (20 + n) 1 = .inl (kA 6, mk_8, .inr (.inr (.inr (.inr fm_8)))) := q1_8
    have m_12 : (20 + n, 1) ∈ RL := m1_8
    obtain ⟨hm_13, fd_13, nm_13, sd_13, k0_13, k1_13, k2_13, k3_13, f0_13, f1_13, f2_13, f3_13, fe_13, fo_13, tr_13, op_13, hk0_13, hk1_13, hk2_13, hk3_13, q0_13, q1_13, q2_13, q3_13, q4_13, q5_13, q6_13, q7_13, q8_13, q9_13, q10_13, q11_13, q12_13, hg_13⟩ := id (hDIs d (by omega))
    have c_14 : E1 (1 + d) 0 = .inr (7, [.int (nI d), .int fd_13, .int nm_13, .ref (ad (1 + d) 1), .ref (ad (1 + d) 9), .ref (ad (1 + d) 10), .ref (ad (1 + d) 2), .ref (ad (1 + d) 11), .ref (ad (1 + d) 12), .ref (ad (1 + d) 3), .ref (ad (1 + d) 4), .int sd_13]) := q0_13
    have m_15 : (1 + d, 0) ∈ RL := hm_13 0 (by omega)
    have c_16 : E1 (1 + d) 1 = .inr (8, [.ref (ad (1 + d) 5), .int (nI k0_13)]) := q1_13
    have m_17 : (1 + d, 1) ∈ RL := hm_13 1 (by omega)
    have c_18 : E1 (1 + d) 2 = .inr (8, [.ref (ad (1 + d) 6), .int (nI k1_13)]) := q2_13
    have m_19 : (1 + d, 2) ∈ RL := hm_13 2 (by omega)
    have c_20 : E1 (1 + d) 3 = .inr (8, [.ref (ad (1 + d) 7), .int (nI k2_13)]) := q3_13
    have m_21 : (1 + d, 3) ∈ RL := hm_13 3 (by omega)
    have c_22 : E1 (1 + d) 4 = .inr (8, [.ref (ad (1 + d) 8), .int (nI k3_13)]) := q4_13
    have m_23 : (1 + d, 4) ∈ RL := hm_13 4 (by omega)
    have c_24 : E1 (1 + d) 5 = .inl (kA 0, 6, .inl f0_13) := q5_13
    have m_25 : (1 + d, 5) ∈ RL := hm_13 5 (by omega)
    have c_26 : E1 (1 + d) 6 = .inl (kA 0, 5, .inl f1_13) := q6_13
    have m_27 : (1 + d, 6) ∈ RL := hm_13 6 (by omega)
    have c_28 : E1 (1 + d) 7 = .inl (kA 0, 3, .inl f2_13) := q7_13
    have m_29 : (1 + d, 7) ∈ RL := hm_13 7 (by omega)
    have c_30 : E1 (1 + d) 8 = .inl (kA 0, 3, .inl f3_13) := q8_13
    have m_31 : (1 + d, 8) ∈ RL := hm_13 8 (by omega)
    have c_32 : E1 (1 + d) 9 = .inl (kA 8, 6, .inr (.inr (.inr (.inr fe_13)))) := q9_13
    have m_33 : (1 + d, 9) ∈ RL := hm_13 9 (by omega)
    have c_34 : E1 (1 + d) 10 = .inl (kA 8, 6, .inr (.inr (.inr (.inr fo_13)))) := q10_13
    have m_35 : (1 + d, 10) ∈ RL := hm_13 10 (by omega)
    have c_36 : E1 (1 + d) 11 = .inl (kA 2, 5, .inl tr_13) := q11_13
    have m_37 : (1 + d, 11) ∈ RL := hm_13 11 (by omega)
    have c_38 : E1 (1 + d) 12 = .inl (kA 2, 5, .inl op_13) := q12_13
    have m_39 : (1 + d, 12) ∈ RL := hm_13 12 (by omega)
    have hg_13 : ∀ w9, w9 < k0_13 → fe_13 w9 = some (ad (1 + d) (20 + 3 * w9)) ∧ fo_13 w9 = some (ad (1 + d) (38 + 3 * w9)) ∧ GI kA (ad (1 + d)) (E1 (1 + d)) (fun o => (1 + d, o) ∈ RL) (20 + 3 * w9) (21 + 3 * w9) (22 + 3 * w9) ∧ GI kA (ad (1 + d)) (E1 (1 + d)) (fun o => (1 + d, o) ∈ RL) (38 + 3 * w9) (39 + 3 * w9) (40 + 3 * w9) := hg_13
    refine lv_aload_n hx hb xd_Me_settleReading_55 rfl (lv_at hl 1 rfl) ?_
    refine px_get (D := D) (ci := 6) (v := .ref (ad (20 + n) (14 + 10 * k))) (C := xR_Me) (T := xT_Me) (N := 6) hx hb hT xi_Me hown hK.1 hP ym0 c_2 rfl 5 (by decide) (hT _ yt1_1) (fun _ h9 => h9) rfl xd_Me_settleReading_56 ?_
    refine lv_aload_n hx hb xd_Me_settleReading_59 rfl (lv_at hl 1 rfl) ?_
    have hFc := px_free hD hS hA
    refine va_callv (va_runV (As := [.ref (ad (20 + n) (10 + 10 * k))]) (rest := []) ⟨hx, hb, hml, hown, hT⟩ (xc_Re_unmark l D kA H.size ad E1 RL (20 + n) (14 + 10 * k) (17 + 10 * k) gc1 n k d pv_8 op_8 fd_13 nm_13 sd_13 ym3 c_5 ym4 hcA7 ym0 c_2 m_10 c_9 m_15 c_14 (by first | assumption | omega) (by first | assumption | omega) (by first | assumption | omega)) (cwV 1 hT (wT_V yt1_3 yt1_4 yt1_5 yt1_6 yt1_2) rfl rfl rfl (by decide +kernel) ⟨Nat.le_of_ble_eq_true rfl, Nat.le_of_ble_eq_true rfl⟩) (px_preV hK hP hD ym3 c_5 rfl) rfl rfl hl.1 rfl (lv_room (Nat.le_of_ble_eq_true rfl)) xd_Me_settleReading_60 ⟨(Nat.le_of_ble_eq_true rfl), (Nat.le_of_ble_eq_true rfl)⟩) hS (fun q _ h => hFc q h) hFc (fun u41 t H1 locs ht hvm hp42 hB hz1 hk1 hS => ?_)
    obtain ⟨hP1, hD1⟩ := hB
    rw [ht] at hP1
    have hD1 := hD1.weaken (fun _ _ _ h => hFc _ h)
    generalize H1 = H at hP1 hS ⊢
    have hP := hP1
    have hD := hD1
    obtain ⟨E43, rfl⟩ : ∃ z, z = u41 := ⟨_, rfl⟩
    obtain ⟨w44, hp47, p_45, p_46⟩ := hp42
    have p_45 : E43 (20 + n) (17 + 10 * k) = .inl (kA 0, 6, .inl w44) := p_45
    have p_46 : (∀ b2 o2, ¬ (b2 = (20 + n) ∧ o2 = (17 + 10 * k)) → E43 b2 o2 = E1 b2 o2) := p_46
    have c_48 : E43 (20 + n) (10 + 10 * k) = .inr (6, [.ref (ad (20 + n) 0), .ref (ad (1 + d) 0), .ref (ad (20 + n) (11 + 10 * k)), .ref (ad (20 + n) (12 + 10 * k)), .ref (ad (20 + n) (13 + 10 * k)), .ref (ad (20 + n) (14 + 10 * k))]) := (p_46 (20 + n) (10 + 10 * k) (by omega)).trans c_2
    have c_49 : E43 (20 + n) (11 + 10 * k) = .inl (kA 6, rs, .inr (.inr (.inr (.inr fr)))) := (p_46 (20 + n) (11 + 10 * k) (by omega)).trans c_3
    have c_50 : E43 (20 + n) (13 + 10 * k) = .inr (10, [.ref (ad (20 + n) (16 + 10 * k))]) := (p_46 (20 + n) (13 + 10 * k) (by omega)).trans c_4
    have c_51 : E43 (20 + n) (14 + 10 * k) = .inr (10, [.ref (ad (20 + n) (17 + 10 * k))]) := (p_46 (20 + n) (14 + 10 * k) (by omega)).trans c_5
    have c_52 : E43 (20 + n) (16 + 10 * k) = .inl (kA 0, 6, .inl gb) := (p_46 (20 + n) (16 + 10 * k) (by omega)).trans c_6
    have c_53 : E43 (20 + n) 0 = .inr (5, [.int (nI n), pv_8, .ref (ad (20 + n) 1), .int op_8]) := (p_46 (20 + n) 0 (by omega)).trans c_9
    have c_54 : E43 (20 + n) 1 = .inl (kA 6, mk_8, .inr (.inr (.inr (.inr fm_8)))) := (p_46 (20 + n) 1 (by omega)).trans c_11
    have c_55 : E43 (1 + d) 0 = .inr (7, [.int (nI d), .int fd_13, .int nm_13, .ref (ad (1 + d) 1), .ref (ad (1 + d) 9), .ref (ad (1 + d) 10), .ref (ad (1 + d) 2), .ref (ad (1 + d) 11), .ref (ad (1 + d) 12), .ref (ad (1 + d) 3), .ref (ad (1 + d) 4), .int sd_13]) := (p_46 (1 + d) 0 (by omega)).trans c_14
    have c_56 : E43 (1 + d) 1 = .inr (8, [.ref (ad (1 + d) 5), .int (nI k0_13)]) := (p_46 (1 + d) 1 (by omega)).trans c_16
    have c_57 : E43 (1 + d) 2 = .inr (8, [.ref (ad (1 + d) 6), .int (nI k1_13)]) := (p_46 (1 + d) 2 (by omega)).trans c_18
    have c_58 : E43 (1 + d) 3 = .inr (8, [.ref (ad (1 + d) 7), .int (nI k2_13)]) := (p_46 (1 + d) 3 (by omega)).trans c_20
    have c_59 : E43 (1 + d) 4 = .inr (8, [.ref (ad (1 + d) 8), .int (nI k3_13)]) := (p_46 (1 + d) 4 (by omega)).trans c_22
    have c_60 : E43 (1 + d) 5 = .inl (kA 0, 6, .inl f0_13) := (p_46 (1 + d) 5 (by omega)).trans c_24
    have c_61 : E43 (1 + d) 6 = .inl (kA 0, 5, .inl f1_13) := (p_46 (1 + d) 6 (by omega)).trans c_26
    have c_62 : E43 (1 + d) 7 = .inl (kA 0, 3, .inl f2_13) := (p_46 (1 + d) 7 (by omega)).trans c_28
    have c_63 : E43 (1 + d) 8 = .inl (kA 0, 3, .inl f3_13) := (p_46 (1 + d) 8 (by omega)).trans c_30
    have c_64 : E43 (1 + d) 9 = .inl (kA 8, 6, .inr (.inr (.inr (.inr fe_13)))) := (p_46 (1 + d) 9 (by omega)).trans c_32
    have c_65 : E43 (1 + d) 10 = .inl (kA 8, 6, .inr (.inr (.inr (.inr fo_13)))) := (p_46 (1 + d) 10 (by omega)).trans c_34
    have c_66 : E43 (1 + d) 11 = .inl (kA 2, 5, .inl tr_13) := (p_46 (1 + d) 11 (by omega)).trans c_36
    have c_67 : E43 (1 + d) 12 = .inl (kA 2, 5, .inl op_13) := (p_46 (1 + d) 12 (by omega)).trans c_38
    have hP : va_P D xcl (rp ad E43 RL) H := hP
    have hD : va_D A (rp ad E43 RL) := hD
    exact W.vret hx hb hr (fun t ht hW => ⟨⟨E43, rfl, ⟨w44, trivial, p_45, (fun b2 o2 h09 => by show E43 b2 o2 = _; rw [p_46 b2 o2 (by omega), hfr b2 o2 (by omega)])⟩, by rw [ht]; exact hP, hD⟩, hS.F ht⟩) hS.2.2 xd_Me_settleReading_63
  · rcases (show fr i = none ∨ (∃ x9 k9, (x9 = n ∧ k9 = k) ∧ fr i = some (ad (20 + x9) (10 + 10 * k9))) ∨ ∃ x9 k9, x9 ≤ n ∧ ¬ (x9 = n ∧ k9 = k) ∧ fr i = some (ad (20 + x9) (10 + 10 * k9)) ∧ MEI kA ad E RL nd x9 k9 from by
      rcases hRQ i (by omega) with q | ⟨x9, k9, q1, q2, q3⟩
      · exact Or.inl q
      · by_cases q4 : x9 = n ∧ k9 = k
        · exact Or.inr (Or.inl ⟨x9, k9, q4, q2⟩)
        · exact Or.inr (Or.inr ⟨x9, k9, q1, q4, q2, q3⟩)) with hq | ⟨x9, k9, ⟨hxk1, hxk2⟩, hq⟩ | ⟨x9, k9, hx9, hxk, hq, hM9⟩
    · have hq := hq
      refine lv_aload_n hx hb xd_Me_settleReading_11 rfl (lv_at hl 1 rfl) ?_
      refine px_get (D := D) (ci := 6) (v := .ref (ad (20 + n) (11 + 10 * k))) (C := xR_Me) (T := xT_Me) (N := 6) hx hb hT xi_Me hown hK.1 hP ym0 c_2 rfl 2 (by decide) (hT _ yt1_0) (fun _ h9 => h9) rfl xd_Me_settleReading_12 ?_
      refine lv_iload_n hx hb xd_Me_settleReading_15 rfl (lv_at hl 0 rfl) ?_
      refine px_aald (i := i) (x := none) hx hb hK.1 hP ym1 c_3 6 rfl (hq) (by omega) (by omega) xd_Me_settleReading_16 ?_
      refine lv_ifnullN (tgt := 49) hx hb xd_Me_settleReading_17 (by decide) ?_
      refine lv_iinc (k := 0) (x := (nI i)) (v := (nI (i + 1))) hx hb xd_Me_settleReading_49 hl rfl (xb_inc i 1) (Nat.le_of_ble_eq_true rfl) rfl (fun ls hl => ?_)
      have hl : lv_has ls 2 [(1, .int (nI (i + 1))), (0, .ref (ad (20 + n) (10 + 10 * k)))] := hl
      refine lv_goto (tgt := 2) hx hb xd_Me_settleReading_52 (by decide) ?_
      exact ih1 (i + 1, E1, gc1) _ _ _ (show rs - (i + 1) < rs - i by omega) (lv_sub hl [0, 1] rfl) hP hD hS ⟨(show (i + 1) ≤ rs from by first | assumption | omega), (show E1 (20 + n) (17 + 10 * k) = .inl (kA 0, 6, .inl gc1) from hcA7), (show ∀ b2 o2, ¬ (b2 = 20 + n ∧ o2 = 17 + 10 * k) → E1 b2 o2 = E b2 o2 from fun b2 o2 h09 => by rw [hfr b2 o2 (by omega)])⟩
    · rw [hxk1, hxk2] at hq
      obtain ⟨m0_68, m1_68, pv_68, op_68, mk_68, fm_68, hmk_68, hpv_68, q0_68, q1_68, hk_68⟩ := id (hLIs n (by omega))
      have c_69 : E1 (20 + n) 0 = .inr (5, [.int (nI n), pv_68, .ref (ad (20 + n) 1), .int op_68]) := q0_68
      have m_70 : (20 + n, 0) ∈ RL := m0_68
      have c_71 : E1 (20 + n) 1 = .inl (kA 6, mk_68, .inr (.inr (.inr (.inr fm_68)))) := q1_68
      have m_72 : (20 + n, 1) ∈ RL := m1_68
      obtain ⟨hm_73, fd_73, nm_73, sd_73, k0_73, k1_73, k2_73, k3_73, f0_73, f1_73, f2_73, f3_73, fe_73, fo_73, tr_73, op_73, hk0_73, hk1_73, hk2_73, hk3_73, q0_73, q1_73, q2_73, q3_73, q4_73, q5_73, q6_73, q7_73, q8_73, q9_73, q10_73, q11_73, q12_73, hg_73⟩ := id (hDIs d (by omega))
      have c_74 : E1 (1 + d) 0 = .inr (7, [.int (nI d), .int fd_73, .int nm_73, .ref (ad (1 + d) 1), .ref (ad (1 + d) 9), .ref (ad (1 + d) 10), .ref (ad (1 + d) 2), .ref (ad (1 + d) 11), .ref (ad (1 + d) 12), .ref (ad (1 + d) 3), .ref (ad (1 + d) 4), .int sd_73]) := q0_73
      have m_75 : (1 + d, 0) ∈ RL := hm_73 0 (by omega)
      have c_76 : E1 (1 + d) 1 = .inr (8, [.ref (ad (1 + d) 5), .int (nI k0_73)]) := q1_73
      have m_77 : (1 + d, 1) ∈ RL := hm_73 1 (by omega)
      have c_78 : E1 (1 + d) 2 = .inr (8, [.ref (ad (1 + d) 6), .int (nI k1_73)]) := q2_73
      have m_79 : (1 + d, 2) ∈ RL := hm_73 2 (by omega)
      have c_80 : E1 (1 + d) 3 = .inr (8, [.ref (ad (1 + d) 7), .int (nI k2_73)]) := q3_73
      have m_81 : (1 + d, 3) ∈ RL := hm_73 3 (by omega)
      have c_82 : E1 (1 + d) 4 = .inr (8, [.ref (ad (1 + d) 8), .int (nI k3_73)]) := q4_73
      have m_83 : (1 + d, 4) ∈ RL := hm_73 4 (by omega)
      have c_84 : E1 (1 + d) 5 = .inl (kA 0, 6, .inl f0_73) := q5_73
      have m_85 : (1 + d, 5) ∈ RL := hm_73 5 (by omega)
      have c_86 : E1 (1 + d) 6 = .inl (kA 0, 5, .inl f1_73) := q6_73
      have m_87 : (1 + d, 6) ∈ RL := hm_73 6 (by omega)
      have c_88 : E1 (1 + d) 7 = .inl (kA 0, 3, .inl f2_73) := q7_73
      have m_89 : (1 + d, 7) ∈ RL := hm_73 7 (by omega)
      have c_90 : E1 (1 + d) 8 = .inl (kA 0, 3, .inl f3_73) := q8_73
      have m_91 : (1 + d, 8) ∈ RL := hm_73 8 (by omega)
      have c_92 : E1 (1 + d) 9 = .inl (kA 8, 6, .inr (.inr (.inr (.inr fe_73)))) := q9_73
      have m_93 : (1 + d, 9) ∈ RL := hm_73 9 (by omega)
      have c_94 : E1 (1 + d) 10 = .inl (kA 8, 6, .inr (.inr (.inr (.inr fo_73)))) := q10_73
      have m_95 : (1 + d, 10) ∈ RL := hm_73 10 (by omega)
      have c_96 : E1 (1 + d) 11 = .inl (kA 2, 5, .inl tr_73) := q11_73
      have m_97 : (1 + d, 11) ∈ RL := hm_73 11 (by omega)
      have c_98 : E1 (1 + d) 12 = .inl (kA 2, 5, .inl op_73) := q12_73
      have m_99 : (1 + d, 12) ∈ RL := hm_73 12 (by omega)
      have hg_73 : ∀ w9, w9 < k0_73 → fe_73 w9 = some (ad (1 + d) (20 + 3 * w9)) ∧ fo_73 w9 = some (ad (1 + d) (38 + 3 * w9)) ∧ GI kA (ad (1 + d)) (E1 (1 + d)) (fun o => (1 + d, o) ∈ RL) (20 + 3 * w9) (21 + 3 * w9) (22 + 3 * w9) ∧ GI kA (ad (1 + d)) (E1 (1 + d)) (fun o => (1 + d, o) ∈ RL) (38 + 3 * w9) (39 + 3 * w9) (40 + 3 * w9) := hg_73
      refine lv_aload_n hx hb xd_Me_settleReading_11 rfl (lv_at hl 1 rfl) ?_
      refine px_get (D := D) (ci := 6) (v := .ref (ad (20 + n) (11 + 10 * k))) (C := xR_Me) (T := xT_Me) (N := 6) hx hb hT xi_Me hown hK.1 hP ym0 c_2 rfl 2 (by decide) (hT _ yt1_0) (fun _ h9 => h9) rfl xd_Me_settleReading_12 ?_
      refine lv_iload_n hx hb xd_Me_settleReading_15 rfl (lv_at hl 0 rfl) ?_
      refine px_aald (i := i) (x := (some (ad (20 + n) (10 + 10 * k)))) hx hb hK.1 hP ym1 c_3 6 rfl (hq) (by omega) (by omega) xd_Me_settleReading_16 ?_
      refine lv_ifnull hx hb xd_Me_settleReading_17 ?_
      refine lv_aload_n hx hb xd_Me_settleReading_20 rfl (lv_at hl 1 rfl) ?_
      refine px_get (D := D) (ci := 6) (v := .ref (ad (20 + n) (14 + 10 * k))) (C := xR_Me) (T := xT_Me) (N := 6) hx hb hT xi_Me hown hK.1 hP ym0 c_2 rfl 5 (by decide) (hT _ yt1_1) (fun _ h9 => h9) rfl xd_Me_settleReading_21 ?_
      refine lv_aload_n hx hb xd_Me_settleReading_24 rfl (lv_at hl 1 rfl) ?_
      refine px_get (D := D) (ci := 6) (v := .ref (ad (20 + n) (11 + 10 * k))) (C := xR_Me) (T := xT_Me) (N := 6) hx hb hT xi_Me hown hK.1 hP ym0 c_2 rfl 2 (by decide) (hT _ yt1_0) (fun _ h9 => h9) rfl xd_Me_settleReading_25 ?_
      refine lv_iload_n hx hb xd_Me_settleReading_28 rfl (lv_at hl 0 rfl) ?_
      refine px_aald (i := i) (x := (some (ad (20 + n) (10 + 10 * k)))) hx hb hK.1 hP ym1 c_3 6 rfl (hq) (by omega) (by omega) xd_Me_settleReading_29 ?_
      have hFc := px_free hD hS hA
      refine va_callv (va_runV (As := [.ref (ad (20 + n) (10 + 10 * k))]) (rest := []) ⟨hx, hb, hml, hown, hT⟩ (xc_Re_mark l D kA H.size ad E1 RL (20 + n) (14 + 10 * k) (17 + 10 * k) gc1 n k d pv_68 op_68 fd_73 nm_73 sd_73 ym3 c_5 ym4 hcA7 ym0 c_2 m_70 c_69 m_75 c_74 (by first | assumption | omega) (by first | assumption | omega) (by first | assumption | omega)) (cwV 1 hT (wT_V yt1_8 yt1_9 yt1_10 yt1_6 yt1_7) rfl rfl rfl (by decide +kernel) ⟨Nat.le_of_ble_eq_true rfl, Nat.le_of_ble_eq_true rfl⟩) (px_preV hK hP hD ym3 c_5 rfl) rfl rfl hl.1 rfl (lv_room (Nat.le_of_ble_eq_true rfl)) xd_Me_settleReading_30 ⟨(Nat.le_of_ble_eq_true rfl), (Nat.le_of_ble_eq_true rfl)⟩) hS (fun q _ h => hFc q h) hFc (fun u101 t H1 locs ht hvm hp102 hB hz1 hk1 hS => ?_)
      obtain ⟨hP1, hD1⟩ := hB
      rw [ht] at hP1
      have hD1 := hD1.weaken (fun _ _ _ h => hFc _ h)
      generalize H1 = H at hP1 hS ⊢
      have hP := hP1
      have hD := hD1
      obtain ⟨E103, rfl⟩ : ∃ z, z = u101 := ⟨_, rfl⟩
      obtain ⟨w104, hp107, p_105, p_106⟩ := hp102
      have p_105 : E103 (20 + n) (17 + 10 * k) = .inl (kA 0, 6, .inl w104) := p_105
      have p_106 : (∀ b2 o2, ¬ (b2 = (20 + n) ∧ o2 = (17 + 10 * k)) → E103 b2 o2 = E1 b2 o2) := p_106
      have c_108 : E103 (20 + n) (10 + 10 * k) = .inr (6, [.ref (ad (20 + n) 0), .ref (ad (1 + d) 0), .ref (ad (20 + n) (11 + 10 * k)), .ref (ad (20 + n) (12 + 10 * k)), .ref (ad (20 + n) (13 + 10 * k)), .ref (ad (20 + n) (14 + 10 * k))]) := (p_106 (20 + n) (10 + 10 * k) (by omega)).trans c_2
      have c_109 : E103 (20 + n) (11 + 10 * k) = .inl (kA 6, rs, .inr (.inr (.inr (.inr fr)))) := (p_106 (20 + n) (11 + 10 * k) (by omega)).trans c_3
      have c_110 : E103 (20 + n) (13 + 10 * k) = .inr (10, [.ref (ad (20 + n) (16 + 10 * k))]) := (p_106 (20 + n) (13 + 10 * k) (by omega)).trans c_4
      have c_111 : E103 (20 + n) (14 + 10 * k) = .inr (10, [.ref (ad (20 + n) (17 + 10 * k))]) := (p_106 (20 + n) (14 + 10 * k) (by omega)).trans c_5
      have c_112 : E103 (20 + n) (16 + 10 * k) = .inl (kA 0, 6, .inl gb) := (p_106 (20 + n) (16 + 10 * k) (by omega)).trans c_6
      have c_113 : E103 (20 + n) 0 = .inr (5, [.int (nI n), pv_68, .ref (ad (20 + n) 1), .int op_68]) := (p_106 (20 + n) 0 (by omega)).trans c_69
      have c_114 : E103 (1 + d) 0 = .inr (7, [.int (nI d), .int fd_73, .int nm_73, .ref (ad (1 + d) 1), .ref (ad (1 + d) 9), .ref (ad (1 + d) 10), .ref (ad (1 + d) 2), .ref (ad (1 + d) 11), .ref (ad (1 + d) 12), .ref (ad (1 + d) 3), .ref (ad (1 + d) 4), .int sd_73]) := (p_106 (1 + d) 0 (by omega)).trans c_74
      have hP : va_P D xcl (rp ad E103 RL) H := hP
      have hD : va_D A (rp ad E103 RL) := hD
      refine lv_aload_n hx hb xd_Me_settleReading_33 rfl (lv_at hl 1 rfl) ?_
      refine px_get (D := D) (ci := 6) (v := .ref (ad (20 + n) (14 + 10 * k))) (C := xR_Me) (T := xT_Me) (N := 6) hx hb hT xi_Me hown hK.1 hP ym0 c_108 rfl 5 (by decide) (hT _ yt1_1) (fun _ h9 => h9) rfl xd_Me_settleReading_34 ?_
      refine lv_aload_n hx hb xd_Me_settleReading_37 rfl (lv_at hl 1 rfl) ?_
      refine px_get (D := D) (ci := 6) (v := .ref (ad (20 + n) (11 + 10 * k))) (C := xR_Me) (T := xT_Me) (N := 6) hx hb hT xi_Me hown hK.1 hP ym0 c_108 rfl 2 (by decide) (hT _ yt1_0) (fun _ h9 => h9) rfl xd_Me_settleReading_38 ?_
      refine lv_iload_n hx hb xd_Me_settleReading_41 rfl (lv_at hl 0 rfl) ?_
      refine px_aald (i := i) (x := (some (ad (20 + n) (10 + 10 * k)))) hx hb hK.1 hP ym1 c_109 6 rfl (hq) (by omega) (by omega) xd_Me_settleReading_42 ?_
      refine px_get (D := D) (ci := 6) (v := .ref (ad (20 + n) (13 + 10 * k))) (C := xR_Me) (T := xT_Me) (N := 6) hx hb hT xi_Me hown hK.1 hP ym0 c_108 rfl 4 (by decide) (hT _ yt1_11) (fun _ h9 => h9) rfl xd_Me_settleReading_43 ?_
      have hFc := px_free hD hS hA
      refine va_callv (va_runV (As := [.ref (ad (20 + n) (13 + 10 * k))]) (rest := []) ⟨hx, hb, hml, hown, hT⟩ (xc_Re_join l D kA H.size ad E103 RL (20 + n) (14 + 10 * k) (17 + 10 * k) w104 (20 + n) (13 + 10 * k) (16 + 10 * k) gb ym3 c_111 ym4 p_105 ym2 c_110 ym5 c_112 (by first | assumption | omega) (by first | assumption | omega)) (cwV 1 hT (wT_V yt1_13 yt1_14 yt1_15 yt1_6 yt1_12) rfl rfl rfl (by decide +kernel) ⟨Nat.le_of_ble_eq_true rfl, Nat.le_of_ble_eq_true rfl⟩) (px_preV hK hP hD ym3 c_111 rfl) rfl rfl hl.1 rfl (lv_room (Nat.le_of_ble_eq_true rfl)) xd_Me_settleReading_46 ⟨(Nat.le_of_ble_eq_true rfl), (Nat.le_of_ble_eq_true rfl)⟩) hS (fun q _ h => hFc q h) hFc (fun u116 t H1 locs ht hvm hp117 hB hz1 hk1 hS => ?_)
      obtain ⟨hP1, hD1⟩ := hB
      rw [ht] at hP1
      have hD1 := hD1.weaken (fun _ _ _ h => hFc _ h)
      generalize H1 = H at hP1 hS ⊢
      have hP := hP1
      have hD := hD1
      obtain ⟨E118, rfl⟩ : ∃ z, z = u116 := ⟨_, rfl⟩
      obtain ⟨w119, hp122, p_120, p_121⟩ := hp117
      have p_120 : E118 (20 + n) (17 + 10 * k) = .inl (kA 0, 6, .inl w119) := p_120
      have p_121 : (∀ b2 o2, ¬ (b2 = (20 + n) ∧ o2 = (17 + 10 * k)) → E118 b2 o2 = E103 b2 o2) := p_121
      have c_123 : E118 (20 + n) (10 + 10 * k) = .inr (6, [.ref (ad (20 + n) 0), .ref (ad (1 + d) 0), .ref (ad (20 + n) (11 + 10 * k)), .ref (ad (20 + n) (12 + 10 * k)), .ref (ad (20 + n) (13 + 10 * k)), .ref (ad (20 + n) (14 + 10 * k))]) := (p_121 (20 + n) (10 + 10 * k) (by omega)).trans c_108
      have c_124 : E118 (20 + n) (11 + 10 * k) = .inl (kA 6, rs, .inr (.inr (.inr (.inr fr)))) := (p_121 (20 + n) (11 + 10 * k) (by omega)).trans c_109
      have c_125 : E118 (20 + n) (13 + 10 * k) = .inr (10, [.ref (ad (20 + n) (16 + 10 * k))]) := (p_121 (20 + n) (13 + 10 * k) (by omega)).trans c_110
      have c_126 : E118 (20 + n) (14 + 10 * k) = .inr (10, [.ref (ad (20 + n) (17 + 10 * k))]) := (p_121 (20 + n) (14 + 10 * k) (by omega)).trans c_111
      have c_127 : E118 (20 + n) (16 + 10 * k) = .inl (kA 0, 6, .inl gb) := (p_121 (20 + n) (16 + 10 * k) (by omega)).trans c_112
      have c_128 : E118 (20 + n) 0 = .inr (5, [.int (nI n), pv_68, .ref (ad (20 + n) 1), .int op_68]) := (p_121 (20 + n) 0 (by omega)).trans c_113
      have c_129 : E118 (1 + d) 0 = .inr (7, [.int (nI d), .int fd_73, .int nm_73, .ref (ad (1 + d) 1), .ref (ad (1 + d) 9), .ref (ad (1 + d) 10), .ref (ad (1 + d) 2), .ref (ad (1 + d) 11), .ref (ad (1 + d) 12), .ref (ad (1 + d) 3), .ref (ad (1 + d) 4), .int sd_73]) := (p_121 (1 + d) 0 (by omega)).trans c_114
      have hP : va_P D xcl (rp ad E118 RL) H := hP
      have hD : va_D A (rp ad E118 RL) := hD
      refine lv_iinc (k := 0) (x := (nI i)) (v := (nI (i + 1))) hx hb xd_Me_settleReading_49 hl rfl (xb_inc i 1) (Nat.le_of_ble_eq_true rfl) rfl (fun ls hl => ?_)
      have hl : lv_has ls 2 [(1, .int (nI (i + 1))), (0, .ref (ad (20 + n) (10 + 10 * k)))] := hl
      refine lv_goto (tgt := 2) hx hb xd_Me_settleReading_52 (by decide) ?_
      exact ih1 (i + 1, E118, w119) _ _ _ (show rs - (i + 1) < rs - i by omega) (lv_sub hl [0, 1] rfl) hP hD hS ⟨(show (i + 1) ≤ rs from by first | assumption | omega), (show E118 (20 + n) (17 + 10 * k) = .inl (kA 0, 6, .inl w119) from p_120), (show ∀ b2 o2, ¬ (b2 = 20 + n ∧ o2 = 17 + 10 * k) → E118 b2 o2 = E b2 o2 from fun b2 o2 h09 => by rw [p_121 b2 o2 (by omega), p_106 b2 o2 (by omega), hfr b2 o2 (by omega)])⟩
    · have hM9 := MEI_RU hRU hM9
      obtain ⟨hm_130, d_130, rs_130, fr_130, g2_130, g3_130, g4_130, hd_130, hrs_130, q0_130, q1_130, q2_130, q3_130, q4_130, q5_130, q6_130, q7_130⟩ := id hM9
      have c_131 : E1 (20 + x9) (10 + 10 * k9) = .inr (6, [.ref (ad (20 + x9) 0), .ref (ad (1 + d_130) 0), .ref (ad (20 + x9) (11 + 10 * k9)), .ref (ad (20 + x9) (12 + 10 * k9)), .ref (ad (20 + x9) (13 + 10 * k9)), .ref (ad (20 + x9) (14 + 10 * k9))]) := q0_130
      have m_132 : (20 + x9, 10 + 10 * k9) ∈ RL := hm_130 0 (by omega)
      have c_133 : E1 (20 + x9) (11 + 10 * k9) = .inl (kA 6, rs_130, .inr (.inr (.inr (.inr fr_130)))) := q1_130
      have m_134 : (20 + x9, 11 + 10 * k9) ∈ RL := hm_130 1 (by omega)
      have c_135 : E1 (20 + x9) (12 + 10 * k9) = .inr (10, [.ref (ad (20 + x9) (15 + 10 * k9))]) := q2_130
      have m_136 : (20 + x9, 12 + 10 * k9) ∈ RL := hm_130 2 (by omega)
      have c_137 : E1 (20 + x9) (13 + 10 * k9) = .inr (10, [.ref (ad (20 + x9) (16 + 10 * k9))]) := q3_130
      have m_138 : (20 + x9, 13 + 10 * k9) ∈ RL := hm_130 3 (by omega)
      have c_139 : E1 (20 + x9) (14 + 10 * k9) = .inr (10, [.ref (ad (20 + x9) (17 + 10 * k9))]) := q4_130
      have m_140 : (20 + x9, 14 + 10 * k9) ∈ RL := hm_130 4 (by omega)
      have c_141 : E1 (20 + x9) (15 + 10 * k9) = .inl (kA 0, 6, .inl g2_130) := q5_130
      have m_142 : (20 + x9, 15 + 10 * k9) ∈ RL := hm_130 5 (by omega)
      have c_143 : E1 (20 + x9) (16 + 10 * k9) = .inl (kA 0, 6, .inl g3_130) := q6_130
      have m_144 : (20 + x9, 16 + 10 * k9) ∈ RL := hm_130 6 (by omega)
      have c_145 : E1 (20 + x9) (17 + 10 * k9) = .inl (kA 0, 6, .inl g4_130) := q7_130
      have m_146 : (20 + x9, 17 + 10 * k9) ∈ RL := hm_130 7 (by omega)
      obtain ⟨m0_147, m1_147, pv_147, op_147, mk_147, fm_147, hmk_147, hpv_147, q0_147, q1_147, hk_147⟩ := id (hLIs x9 (by omega))
      have c_148 : E1 (20 + x9) 0 = .inr (5, [.int (nI x9), pv_147, .ref (ad (20 + x9) 1), .int op_147]) := q0_147
      have m_149 : (20 + x9, 0) ∈ RL := m0_147
      have c_150 : E1 (20 + x9) 1 = .inl (kA 6, mk_147, .inr (.inr (.inr (.inr fm_147)))) := q1_147
      have m_151 : (20 + x9, 1) ∈ RL := m1_147
      obtain ⟨hm_152, fd_152, nm_152, sd_152, k0_152, k1_152, k2_152, k3_152, f0_152, f1_152, f2_152, f3_152, fe_152, fo_152, tr_152, op_152, hk0_152, hk1_152, hk2_152, hk3_152, q0_152, q1_152, q2_152, q3_152, q4_152, q5_152, q6_152, q7_152, q8_152, q9_152, q10_152, q11_152, q12_152, hg_152⟩ := id (hDIs d_130 (by omega))
      have c_153 : E1 (1 + d_130) 0 = .inr (7, [.int (nI d_130), .int fd_152, .int nm_152, .ref (ad (1 + d_130) 1), .ref (ad (1 + d_130) 9), .ref (ad (1 + d_130) 10), .ref (ad (1 + d_130) 2), .ref (ad (1 + d_130) 11), .ref (ad (1 + d_130) 12), .ref (ad (1 + d_130) 3), .ref (ad (1 + d_130) 4), .int sd_152]) := q0_152
      have m_154 : (1 + d_130, 0) ∈ RL := hm_152 0 (by omega)
      have c_155 : E1 (1 + d_130) 1 = .inr (8, [.ref (ad (1 + d_130) 5), .int (nI k0_152)]) := q1_152
      have m_156 : (1 + d_130, 1) ∈ RL := hm_152 1 (by omega)
      have c_157 : E1 (1 + d_130) 2 = .inr (8, [.ref (ad (1 + d_130) 6), .int (nI k1_152)]) := q2_152
      have m_158 : (1 + d_130, 2) ∈ RL := hm_152 2 (by omega)
      have c_159 : E1 (1 + d_130) 3 = .inr (8, [.ref (ad (1 + d_130) 7), .int (nI k2_152)]) := q3_152
      have m_160 : (1 + d_130, 3) ∈ RL := hm_152 3 (by omega)
      have c_161 : E1 (1 + d_130) 4 = .inr (8, [.ref (ad (1 + d_130) 8), .int (nI k3_152)]) := q4_152
      have m_162 : (1 + d_130, 4) ∈ RL := hm_152 4 (by omega)
      have c_163 : E1 (1 + d_130) 5 = .inl (kA 0, 6, .inl f0_152) := q5_152
      have m_164 : (1 + d_130, 5) ∈ RL := hm_152 5 (by omega)
      have c_165 : E1 (1 + d_130) 6 = .inl (kA 0, 5, .inl f1_152) := q6_152
      have m_166 : (1 + d_130, 6) ∈ RL := hm_152 6 (by omega)
      have c_167 : E1 (1 + d_130) 7 = .inl (kA 0, 3, .inl f2_152) := q7_152
      have m_168 : (1 + d_130, 7) ∈ RL := hm_152 7 (by omega)
      have c_169 : E1 (1 + d_130) 8 = .inl (kA 0, 3, .inl f3_152) := q8_152
      have m_170 : (1 + d_130, 8) ∈ RL := hm_152 8 (by omega)
      have c_171 : E1 (1 + d_130) 9 = .inl (kA 8, 6, .inr (.inr (.inr (.inr fe_152)))) := q9_152
      have m_172 : (1 + d_130, 9) ∈ RL := hm_152 9 (by omega)
      have c_173 : E1 (1 + d_130) 10 = .inl (kA 8, 6, .inr (.inr (.inr (.inr fo_152)))) := q10_152
      have m_174 : (1 + d_130, 10) ∈ RL := hm_152 10 (by omega)
      have c_175 : E1 (1 + d_130) 11 = .inl (kA 2, 5, .inl tr_152) := q11_152
      have m_176 : (1 + d_130, 11) ∈ RL := hm_152 11 (by omega)
      have c_177 : E1 (1 + d_130) 12 = .inl (kA 2, 5, .inl op_152) := q12_152
      have m_178 : (1 + d_130, 12) ∈ RL := hm_152 12 (by omega)
      have hg_152 : ∀ w9, w9 < k0_152 → fe_152 w9 = some (ad (1 + d_130) (20 + 3 * w9)) ∧ fo_152 w9 = some (ad (1 + d_130) (38 + 3 * w9)) ∧ GI kA (ad (1 + d_130)) (E1 (1 + d_130)) (fun o => (1 + d_130, o) ∈ RL) (20 + 3 * w9) (21 + 3 * w9) (22 + 3 * w9) ∧ GI kA (ad (1 + d_130)) (E1 (1 + d_130)) (fun o => (1 + d_130, o) ∈ RL) (38 + 3 * w9) (39 + 3 * w9) (40 + 3 * w9) := hg_152
      refine lv_aload_n hx hb xd_Me_settleReading_11 rfl (lv_at hl 1 rfl) ?_
      refine px_get (D := D) (ci := 6) (v := .ref (ad (20 + n) (11 + 10 * k))) (C := xR_Me) (T := xT_Me) (N := 6) hx hb hT xi_Me hown hK.1 hP ym0 c_2 rfl 2 (by decide) (hT _ yt1_0) (fun _ h9 => h9) rfl xd_Me_settleReading_12 ?_
      refine lv_iload_n hx hb xd_Me_settleReading_15 rfl (lv_at hl 0 rfl) ?_
      refine px_aald (i := i) (x := (some (ad (20 + x9) (10 + 10 * k9)))) hx hb hK.1 hP ym1 c_3 6 rfl (hq) (by omega) (by omega) xd_Me_settleReading_16 ?_
      refine lv_ifnull hx hb xd_Me_settleReading_17 ?_
      refine lv_aload_n hx hb xd_Me_settleReading_20 rfl (lv_at hl 1 rfl) ?_
      refine px_get (D := D) (ci := 6) (v := .ref (ad (20 + n) (14 + 10 * k))) (C := xR_Me) (T := xT_Me) (N := 6) hx hb hT xi_Me hown hK.1 hP ym0 c_2 rfl 5 (by decide) (hT _ yt1_1) (fun _ h9 => h9) rfl xd_Me_settleReading_21 ?_
      refine lv_aload_n hx hb xd_Me_settleReading_24 rfl (lv_at hl 1 rfl) ?_
      refine px_get (D := D) (ci := 6) (v := .ref (ad (20 + n) (11 + 10 * k))) (C := xR_Me) (T := xT_Me) (N := 6) hx hb hT xi_Me hown hK.1 hP ym0 c_2 rfl 2 (by decide) (hT _ yt1_0) (fun _ h9 => h9) rfl xd_Me_settleReading_25 ?_
      refine lv_iload_n hx hb xd_Me_settleReading_28 rfl (lv_at hl 0 rfl) ?_
      refine px_aald (i := i) (x := (some (ad (20 + x9) (10 + 10 * k9)))) hx hb hK.1 hP ym1 c_3 6 rfl (hq) (by omega) (by omega) xd_Me_settleReading_29 ?_
      have hFc := px_free hD hS hA
      refine va_callv (va_runV (As := [.ref (ad (20 + x9) (10 + 10 * k9))]) (rest := []) ⟨hx, hb, hml, hown, hT⟩ (xc_Re_mark l D kA H.size ad E1 RL (20 + n) (14 + 10 * k) (17 + 10 * k) gc1 x9 k9 d_130 pv_147 op_147 fd_152 nm_152 sd_152 ym3 c_5 ym4 hcA7 m_132 c_131 m_149 c_148 m_154 c_153 (by first | assumption | omega) (by first | assumption | omega) (by first | assumption | omega)) (cwV 1 hT (wT_V yt1_8 yt1_9 yt1_10 yt1_6 yt1_7) rfl rfl rfl (by decide +kernel) ⟨Nat.le_of_ble_eq_true rfl, Nat.le_of_ble_eq_true rfl⟩) (px_preV hK hP hD ym3 c_5 rfl) rfl rfl hl.1 rfl (lv_room (Nat.le_of_ble_eq_true rfl)) xd_Me_settleReading_30 ⟨(Nat.le_of_ble_eq_true rfl), (Nat.le_of_ble_eq_true rfl)⟩) hS (fun q _ h => hFc q h) hFc (fun u180 t H1 locs ht hvm hp181 hB hz1 hk1 hS => ?_)
      obtain ⟨hP1, hD1⟩ := hB
      rw [ht] at hP1
      have hD1 := hD1.weaken (fun _ _ _ h => hFc _ h)
      generalize H1 = H at hP1 hS ⊢
      have hP := hP1
      have hD := hD1
      obtain ⟨E182, rfl⟩ : ∃ z, z = u180 := ⟨_, rfl⟩
      obtain ⟨w183, hp186, p_184, p_185⟩ := hp181
      have p_184 : E182 (20 + n) (17 + 10 * k) = .inl (kA 0, 6, .inl w183) := p_184
      have p_185 : (∀ b2 o2, ¬ (b2 = (20 + n) ∧ o2 = (17 + 10 * k)) → E182 b2 o2 = E1 b2 o2) := p_185
      have c_187 : E182 (20 + n) (10 + 10 * k) = .inr (6, [.ref (ad (20 + n) 0), .ref (ad (1 + d) 0), .ref (ad (20 + n) (11 + 10 * k)), .ref (ad (20 + n) (12 + 10 * k)), .ref (ad (20 + n) (13 + 10 * k)), .ref (ad (20 + n) (14 + 10 * k))]) := (p_185 (20 + n) (10 + 10 * k) (by omega)).trans c_2
      have c_188 : E182 (20 + n) (11 + 10 * k) = .inl (kA 6, rs, .inr (.inr (.inr (.inr fr)))) := (p_185 (20 + n) (11 + 10 * k) (by omega)).trans c_3
      have c_189 : E182 (20 + n) (13 + 10 * k) = .inr (10, [.ref (ad (20 + n) (16 + 10 * k))]) := (p_185 (20 + n) (13 + 10 * k) (by omega)).trans c_4
      have c_190 : E182 (20 + n) (14 + 10 * k) = .inr (10, [.ref (ad (20 + n) (17 + 10 * k))]) := (p_185 (20 + n) (14 + 10 * k) (by omega)).trans c_5
      have c_191 : E182 (20 + n) (16 + 10 * k) = .inl (kA 0, 6, .inl gb) := (p_185 (20 + n) (16 + 10 * k) (by omega)).trans c_6
      have c_192 : E182 (20 + x9) (10 + 10 * k9) = .inr (6, [.ref (ad (20 + x9) 0), .ref (ad (1 + d_130) 0), .ref (ad (20 + x9) (11 + 10 * k9)), .ref (ad (20 + x9) (12 + 10 * k9)), .ref (ad (20 + x9) (13 + 10 * k9)), .ref (ad (20 + x9) (14 + 10 * k9))]) := (p_185 (20 + x9) (10 + 10 * k9) (by omega)).trans c_131
      have c_193 : E182 (20 + x9) (13 + 10 * k9) = .inr (10, [.ref (ad (20 + x9) (16 + 10 * k9))]) := (p_185 (20 + x9) (13 + 10 * k9) (by omega)).trans c_137
      have c_194 : E182 (20 + x9) (16 + 10 * k9) = .inl (kA 0, 6, .inl g3_130) := (p_185 (20 + x9) (16 + 10 * k9) (by omega)).trans c_143
      have c_195 : E182 (20 + x9) 0 = .inr (5, [.int (nI x9), pv_147, .ref (ad (20 + x9) 1), .int op_147]) := (p_185 (20 + x9) 0 (by omega)).trans c_148
      have c_196 : E182 (1 + d_130) 0 = .inr (7, [.int (nI d_130), .int fd_152, .int nm_152, .ref (ad (1 + d_130) 1), .ref (ad (1 + d_130) 9), .ref (ad (1 + d_130) 10), .ref (ad (1 + d_130) 2), .ref (ad (1 + d_130) 11), .ref (ad (1 + d_130) 12), .ref (ad (1 + d_130) 3), .ref (ad (1 + d_130) 4), .int sd_152]) := (p_185 (1 + d_130) 0 (by omega)).trans c_153
      have hP : va_P D xcl (rp ad E182 RL) H := hP
      have hD : va_D A (rp ad E182 RL) := hD
      refine lv_aload_n hx hb xd_Me_settleReading_33 rfl (lv_at hl 1 rfl) ?_
      refine px_get (D := D) (ci := 6) (v := .ref (ad (20 + n) (14 + 10 * k))) (C := xR_Me) (T := xT_Me) (N := 6) hx hb hT xi_Me hown hK.1 hP ym0 c_187 rfl 5 (by decide) (hT _ yt1_1) (fun _ h9 => h9) rfl xd_Me_settleReading_34 ?_
      refine lv_aload_n hx hb xd_Me_settleReading_37 rfl (lv_at hl 1 rfl) ?_
      refine px_get (D := D) (ci := 6) (v := .ref (ad (20 + n) (11 + 10 * k))) (C := xR_Me) (T := xT_Me) (N := 6) hx hb hT xi_Me hown hK.1 hP ym0 c_187 rfl 2 (by decide) (hT _ yt1_0) (fun _ h9 => h9) rfl xd_Me_settleReading_38 ?_
      refine lv_iload_n hx hb xd_Me_settleReading_41 rfl (lv_at hl 0 rfl) ?_
      refine px_aald (i := i) (x := (some (ad (20 + x9) (10 + 10 * k9)))) hx hb hK.1 hP ym1 c_188 6 rfl (hq) (by omega) (by omega) xd_Me_settleReading_42 ?_
      refine px_get (D := D) (ci := 6) (v := .ref (ad (20 + x9) (13 + 10 * k9))) (C := xR_Me) (T := xT_Me) (N := 6) hx hb hT xi_Me hown hK.1 hP m_132 c_192 rfl 4 (by decide) (hT _ yt1_11) (fun _ h9 => h9) rfl xd_Me_settleReading_43 ?_
      have hFc := px_free hD hS hA
      refine va_callv (va_runV (As := [.ref (ad (20 + x9) (13 + 10 * k9))]) (rest := []) ⟨hx, hb, hml, hown, hT⟩ (xc_Re_join l D kA H.size ad E182 RL (20 + n) (14 + 10 * k) (17 + 10 * k) w183 (20 + x9) (13 + 10 * k9) (16 + 10 * k9) g3_130 ym3 c_190 ym4 p_184 m_138 c_193 m_144 c_194 (by first | assumption | omega) (by first | assumption | omega)) (cwV 1 hT (wT_V yt1_13 yt1_14 yt1_15 yt1_6 yt1_12) rfl rfl rfl (by decide +kernel) ⟨Nat.le_of_ble_eq_true rfl, Nat.le_of_ble_eq_true rfl⟩) (px_preV hK hP hD ym3 c_190 rfl) rfl rfl hl.1 rfl (lv_room (Nat.le_of_ble_eq_true rfl)) xd_Me_settleReading_46 ⟨(Nat.le_of_ble_eq_true rfl), (Nat.le_of_ble_eq_true rfl)⟩) hS (fun q _ h => hFc q h) hFc (fun u198 t H1 locs ht hvm hp199 hB hz1 hk1 hS => ?_)
      obtain ⟨hP1, hD1⟩ := hB
      rw [ht] at hP1
      have hD1 := hD1.weaken (fun _ _ _ h => hFc _ h)
      generalize H1 = H at hP1 hS ⊢
      have hP := hP1
      have hD := hD1
      obtain ⟨E200, rfl⟩ : ∃ z, z = u198 := ⟨_, rfl⟩
      obtain ⟨w201, hp204, p_202, p_203⟩ := hp199
      have p_202 : E200 (20 + n) (17 + 10 * k) = .inl (kA 0, 6, .inl w201) := p_202
      have p_203 : (∀ b2 o2, ¬ (b2 = (20 + n) ∧ o2 = (17 + 10 * k)) → E200 b2 o2 = E182 b2 o2) := p_203
      have c_205 : E200 (20 + n) (10 + 10 * k) = .inr (6, [.ref (ad (20 + n) 0), .ref (ad (1 + d) 0), .ref (ad (20 + n) (11 + 10 * k)), .ref (ad (20 + n) (12 + 10 * k)), .ref (ad (20 + n) (13 + 10 * k)), .ref (ad (20 + n) (14 + 10 * k))]) := (p_203 (20 + n) (10 + 10 * k) (by omega)).trans c_187
      have c_206 : E200 (20 + n) (11 + 10 * k) = .inl (kA 6, rs, .inr (.inr (.inr (.inr fr)))) := (p_203 (20 + n) (11 + 10 * k) (by omega)).trans c_188
      have c_207 : E200 (20 + n) (13 + 10 * k) = .inr (10, [.ref (ad (20 + n) (16 + 10 * k))]) := (p_203 (20 + n) (13 + 10 * k) (by omega)).trans c_189
      have c_208 : E200 (20 + n) (14 + 10 * k) = .inr (10, [.ref (ad (20 + n) (17 + 10 * k))]) := (p_203 (20 + n) (14 + 10 * k) (by omega)).trans c_190
      have c_209 : E200 (20 + n) (16 + 10 * k) = .inl (kA 0, 6, .inl gb) := (p_203 (20 + n) (16 + 10 * k) (by omega)).trans c_191
      have c_210 : E200 (20 + x9) (10 + 10 * k9) = .inr (6, [.ref (ad (20 + x9) 0), .ref (ad (1 + d_130) 0), .ref (ad (20 + x9) (11 + 10 * k9)), .ref (ad (20 + x9) (12 + 10 * k9)), .ref (ad (20 + x9) (13 + 10 * k9)), .ref (ad (20 + x9) (14 + 10 * k9))]) := (p_203 (20 + x9) (10 + 10 * k9) (by omega)).trans c_192
      have c_211 : E200 (20 + x9) (13 + 10 * k9) = .inr (10, [.ref (ad (20 + x9) (16 + 10 * k9))]) := (p_203 (20 + x9) (13 + 10 * k9) (by omega)).trans c_193
      have c_212 : E200 (20 + x9) (16 + 10 * k9) = .inl (kA 0, 6, .inl g3_130) := (p_203 (20 + x9) (16 + 10 * k9) (by omega)).trans c_194
      have c_213 : E200 (20 + x9) 0 = .inr (5, [.int (nI x9), pv_147, .ref (ad (20 + x9) 1), .int op_147]) := (p_203 (20 + x9) 0 (by omega)).trans c_195
      have c_214 : E200 (1 + d_130) 0 = .inr (7, [.int (nI d_130), .int fd_152, .int nm_152, .ref (ad (1 + d_130) 1), .ref (ad (1 + d_130) 9), .ref (ad (1 + d_130) 10), .ref (ad (1 + d_130) 2), .ref (ad (1 + d_130) 11), .ref (ad (1 + d_130) 12), .ref (ad (1 + d_130) 3), .ref (ad (1 + d_130) 4), .int sd_152]) := (p_203 (1 + d_130) 0 (by omega)).trans c_196
      have hP : va_P D xcl (rp ad E200 RL) H := hP
      have hD : va_D A (rp ad E200 RL) := hD
      refine lv_iinc (k := 0) (x := (nI i)) (v := (nI (i + 1))) hx hb xd_Me_settleReading_49 hl rfl (xb_inc i 1) (Nat.le_of_ble_eq_true rfl) rfl (fun ls hl => ?_)
      have hl : lv_has ls 2 [(1, .int (nI (i + 1))), (0, .ref (ad (20 + n) (10 + 10 * k)))] := hl
      refine lv_goto (tgt := 2) hx hb xd_Me_settleReading_52 (by decide) ?_
      exact ih1 (i + 1, E200, w201) _ _ _ (show rs - (i + 1) < rs - i by omega) (lv_sub hl [0, 1] rfl) hP hD hS ⟨(show (i + 1) ≤ rs from by first | assumption | omega), (show E200 (20 + n) (17 + 10 * k) = .inl (kA 0, 6, .inl w201) from p_202), (show ∀ b2 o2, ¬ (b2 = 20 + n ∧ o2 = 17 + 10 * k) → E200 b2 o2 = E b2 o2 from fun b2 o2 h09 => by rw [p_203 b2 o2 (by omega), p_185 b2 o2 (by omega), hfr b2 o2 (by omega)])⟩
