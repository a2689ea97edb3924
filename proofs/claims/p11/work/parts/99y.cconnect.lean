theorem k5v_0 : (Cond.fieldLink "LayerDesk$Layer" 19 "LayerDesk$Layer" "members" "[LLayerDesk$Member;") ∈ wT := wT_t (List.mem_append_right _ (List.mem_append_right _ (List.mem_append_left _ (List.mem_of_getElem? (i := 147) rfl)))) rfl
theorem k5v_1 : (Cond.classLink "LayerDesk$Layer" 47 "LayerDesk$Reach") ∈ wT := wT_t (List.mem_append_right _ (List.mem_append_right _ (List.mem_append_left _ (List.mem_of_getElem? (i := 210) rfl)))) rfl
theorem k5v_2 : (Cond.code xy_Ly_follow xb_Ly_follow 4 none) ∈ wT := wT_t (List.mem_append_right _ (List.mem_append_right _ (List.mem_append_left _ (List.mem_of_getElem? (i := 229) rfl)))) rfl
theorem k5v_3 : (Cond.methodLink "LayerDesk$Layer" 59 xy_Ly_follow) ∈ wT := wT_t (List.mem_append_right _ (List.mem_append_right _ (List.mem_append_left _ (List.mem_of_getElem? (i := 226) rfl)))) rfl
theorem k5v_4 : (Cond.instanceMethod xy_Ly_follow) ∈ wT := wT_t (List.mem_append_right _ (List.mem_append_right _ (List.mem_append_left _ (List.mem_of_getElem? (i := 228) rfl)))) rfl
theorem k5v_5 : (Cond.selects "LayerDesk$Layer" xy_Ly_follow xy_Ly_follow) ∈ wT := wT_s (q := (xy_Ly_follow, 4)) (by decide +kernel) rfl
theorem k5v_6 : (Cond.initialized "LayerDesk$Layer") ∈ wT := wT_t (List.mem_append_left _ (List.mem_of_getElem? (i := 19) rfl)) rfl
theorem k5v_7 : (Cond.code xy_Me_settleReading xb_Me_settleReading 2 none) ∈ wT := wT_t (List.mem_append_right _ (List.mem_append_right _ (List.mem_append_left _ (List.mem_of_getElem? (i := 235) rfl)))) rfl
theorem k5v_8 : (Cond.methodLink "LayerDesk$Layer" 63 xy_Me_settleReading) ∈ wT := wT_t (List.mem_append_right _ (List.mem_append_right _ (List.mem_append_left _ (List.mem_of_getElem? (i := 232) rfl)))) rfl
theorem k5v_9 : (Cond.instanceMethod xy_Me_settleReading) ∈ wT := wT_t (List.mem_append_right _ (List.mem_append_right _ (List.mem_append_left _ (List.mem_of_getElem? (i := 233) rfl)))) rfl
theorem k5v_10 : (Cond.selects "LayerDesk$Member" xy_Me_settleReading xy_Me_settleReading) ∈ wT := wT_t (List.mem_append_right _ (List.mem_append_right _ (List.mem_append_left _ (List.mem_of_getElem? (i := 234) rfl)))) rfl
theorem k5v_11 : (Cond.initialized "LayerDesk$Member") ∈ wT := wT_t (List.mem_append_left _ (List.mem_of_getElem? (i := 20) rfl)) rfl
theorem k5v_12 : (Cond.code xy_Me_takeFirstSteps xb_Me_takeFirstSteps 3 none) ∈ wT := wT_t (List.mem_append_right _ (List.mem_append_right _ (List.mem_append_left _ (List.mem_of_getElem? (i := 215) rfl)))) rfl
theorem k5v_13 : (Cond.methodLink "LayerDesk$Layer" 49 xy_Me_takeFirstSteps) ∈ wT := wT_t (List.mem_append_right _ (List.mem_append_right _ (List.mem_append_left _ (List.mem_of_getElem? (i := 212) rfl)))) rfl
theorem k5v_14 : (Cond.instanceMethod xy_Me_takeFirstSteps) ∈ wT := wT_t (List.mem_append_right _ (List.mem_append_right _ (List.mem_append_left _ (List.mem_of_getElem? (i := 213) rfl)))) rfl
theorem k5v_15 : (Cond.selects "LayerDesk$Member" xy_Me_takeFirstSteps xy_Me_takeFirstSteps) ∈ wT := wT_t (List.mem_append_right _ (List.mem_append_right _ (List.mem_append_left _ (List.mem_of_getElem? (i := 214) rfl)))) rfl
theorem k5v_16 : (Cond.fieldLink "LayerDesk$Layer" 52 "LayerDesk$Member" "leading" "LLayerDesk$Reach;") ∈ wT := wT_t (List.mem_append_right _ (List.mem_append_right _ (List.mem_append_left _ (List.mem_of_getElem? (i := 188) rfl)))) rfl
theorem k5v_17 : (Cond.fieldLink "LayerDesk$Layer" 56 "LayerDesk$Member" "carried" "LLayerDesk$Reach;") ∈ wT := wT_t (List.mem_append_right _ (List.mem_append_right _ (List.mem_append_left _ (List.mem_of_getElem? (i := 190) rfl)))) rfl
set_option maxHeartbeats 4000000 in
set_option maxRecDepth 100000 in
theorem xc_Ly_connectX (l : Launch) (D : va_G) (kA : Nat → ClassId) (sz : Nat) (ad : Nat → Nat → Nat) (E : Nat → Nat → va_E) (RL : List (Nat × Nat)) (g : Nat → Nat → Int32) (nd : Nat) (nL : Nat) (n : Nat) (pv : Value) (lo : Int32) (mk : Nat) (fm : Nat → Option Nat) (ym0 : (20 + n, 0) ∈ RL) (yc0 : E (20 + n) 0 = .inr (5, [.int (nI n), pv, .ref (ad (20 + n) 1), .int lo])) (ym1 : (20 + n, 1) ∈ RL) (yc1 : E (20 + n) 1 = .inl (kA 6, mk, .inr (.inr (.inr (.inr fm))))) (hDIs : DIs kA ad E RL nd) (hLIs : LIs kA ad E RL nd nL) (hnd12 : nd ≤ 12) (hnL : nL ≤ 6) (hn : n < nL) (hmk : mk ≤ 12) (hfm : ∀ k, k < mk → fm k = some (ad (20 + n) (10 + 10 * k)) ∧ MEI kA ad E RL nd n k) (hTD : TDs g E nd) (hTL : TLas g ad E nd nL) (hCB : CBs g E n) (hinj : ∀ a b, a < mk → b < mk → mdv g n a = mdv g n b → a = b) (hC0 : ∀ j, j < mk → CN0 g E n j) (hC7 : ∀ j, j < mk → CN7 E n j) : Met l xy_Ly_connect (.code xy_Ly_connect xb_Ly_connect 4 none :: wT) { frames := 2, cells := 2, slots := 24, locals := 45 } (va_Pc [.ref (ad (20 + n) 0)] (xPre D kA sz (rp ad E RL))) (va_Qv (fun (u : (Nat → Nat → Nat) × (Nat → Nat → va_E) × List (Nat × Nat)) => ((DIs kA u.1 u.2.1 u.2.2 nd ∧ LIs kA u.1 u.2.1 u.2.2 nd nL) ∧ TLas g u.1 u.2.1 nd nL ∧ CBs g u.2.1 (n + 1) ∧ LBs g u.2.1 n ∧ RBs g u.2.1 n) ∧ ((∀ b2 o2, ¬ (b2 = 20 + n) → u.2.1 b2 o2 = E b2 o2)) ∧ ((∀ b2 o2, ¬ (b2 = 20 + n ∧ o2 = 2) → ¬ (b2 = 20 + n ∧ o2 = 3) → u.1 b2 o2 = ad b2 o2)) ∧ ((∀ x ∈ RL, x ∈ u.2.2)) ∧ ((20 + n, 2) ∈ u.2.2) ∧ ((20 + n, 3) ∈ u.2.2)) (fun (u : (Nat → Nat → Nat) × (Nat → Nat → va_E) × List (Nat × Nat)) t => va_P D xcl (rp u.1 u.2.1 u.2.2) t.heap ∧ va_D (va_A (rp ad E RL) sz) (rp u.1 u.2.1 u.2.2)) (va_A (rp ad E RL) sz)) 2 24 (va_A (rp ad E RL) sz) := by
  refine Met.ofW (cc := xb_Ly_connect) (maxL := 4) (ret := none) (by decide) rfl ?_
  intro p e s m args below meth c s₁ B hml hv
  obtain ⟨rfl, hsz, hP, hK, hD0⟩ := hv
  have hx := B.exec
  have hb := B.bytes
  have hr := B.returns
  have hT := x_hT B.pre
  have hown : s.vm.findClass xR_Ly = some m.cls := findClass_of_methodNamed B.named
  have hlocks := B.notSynchronized
  subst hsz
  have hD := hD0.self (sz := s.heap.size)
  generalize hAe : va_A (rp ad E RL) s.heap.size = A at hD ⊢
  have hA : ∀ q : Nat, s.heap.size ≤ q → A q := fun q h => by rw [← hAe]; exact Or.inr h
  have hS : va_S A s.heap s.heap [] := va_S.rf
  have hl := lv_entry ([.ref (ad (20 + n) 0)]) (n := 4) (Nat.le_of_ble_eq_true rfl)
  rw [lg_entry_eq]
  generalize (lg_sl ([.ref (ad (20 + n) 0)]) ++ List.replicate (4 - (lg_sl ([.ref (ad (20 + n) 0)])).length) Slot.unset).toArray = ls at hl ⊢
  have hl : lv_has ls 4 [(0, .ref (ad (20 + n) 0))] := hl
  have hP : va_P D xcl (rp ad E RL) s.heap := hP
  have h20 := T_20 hn hTL yc1
  have hi20 : iN (g 20 n) = mk := by rw [h20, iN_nI (by omega)]
  have hLK9 : LKH g n := LKH_L hnL hnd12 hn hLIs hTL
  have hnf72 : ∀ a, a < mk → (fun b => 12 * n + mdv g n b) a < 72 := fun a ha => by
    have q := hLK9.2 n (by omega) a (by unfold mcv; omega)
    show 12 * n + mdv g n a < 72
    omega
  refine lv_aload_n hx hb xd_Ly_connect_0 rfl (lv_at hl 0 rfl) ?_
  refine px_get (D := D) (ci := 5) (v := .ref (ad (20 + n) 1)) (C := xR_Ly) (T := xT_Ly) (N := 4) hx hb hT xi_Ly hown hK.1 hP ym0 yc0 rfl 2 (by decide) (hT _ k5v_0) (fun _ h9 => h9) rfl xd_Ly_connect_1 ?_
  refine px_alen hx hb hK.1 hP ym1 yc1 6 rfl xd_Ly_connect_4 ?_
  refine W.eq (g2 := F0 m 5 ls [.int (nI mk)]) rfl ?_
  refine W.eq (g2 := F0 m 5 ls [.int (nI mk)]) rfl ?_
  refine px_newq (C := "LayerDesk$Reach") (N' := mk) (20 + n) 2 hx hb hown (hT _ k5v_1) hK.2.1.2.2.2.2.2.2.2.1 hK.1 7 rfl hP hD hS hA (by omega) (show mk * 4 ≤ 536870912 by omega) (Nat.le_of_ble_eq_true rfl) (show 0 + mk ≤ 24 by omega) xd_Ly_connect_5 (fun ad1 E2 RL3 H hA1 hE1 hs1 hm1 hP hD hS => ?_)
  refine W.widen (k := 1) (n := 12) (by omega) (by omega) ?_
  have fE4 : ∀ b2 o2, ¬ (b2 = 20 + n ∧ o2 = 2) → E2 b2 o2 = E b2 o2 := fun b2 o2 h9 => by rw [hE1]; exact up2_ne (nr_or h9)
  have fA5 : ∀ b2 o2, ¬ (b2 = 20 + n ∧ o2 = 2) → ad1 b2 o2 = ad b2 o2 := fun b2 o2 h9 => by rw [hA1]; exact up2_ne (nr_or h9)
  have hs6 := hs1
  have c_7 : E2 (20 + n) 2 = .inl (kA 7, mk, .inr (.inr (.inr (.inr (fun _ => none))))) := by rw [hE1]; exact up2_eq
  have hl : lv_has ls 4 [(0, .ref (ad1 (20 + n) 0))] := by
    rw [fA5 (20 + n) 0 (fun q9 => absurd q9.2 (by decide))]; exact hl
  have m_9 : (20 + n, 0) ∈ RL3 := hs6 _ ym0
  have m_10 : (20 + n, 1) ∈ RL3 := hs6 _ ym1
  have c_11 : E2 (20 + n) 0 = .inr (5, [.int (nI n), pv, .ref (ad1 (20 + n) 1), .int lo]) := by rw [fE4 (20 + n) 0 (fun q9 => absurd q9.2 (by decide)), fA5 (20 + n) 1 (fun q9 => absurd q9.2 (by decide))]; exact yc0
  have c_12 : E2 (20 + n) 1 = .inl (kA 6, mk, .inr (.inr (.inr (.inr fm)))) := by rw [fE4 (20 + n) 1 (fun q9 => absurd q9.2 (by decide))]; exact yc1
  have m_8 : (20 + n, 2) ∈ RL3 := hm1
  have hP : va_P D xcl (rp ad1 E2 RL3) H := hP
  have hD : va_D A (rp ad1 E2 RL3) := hD
  refine lv_astore_n hx hb xd_Ly_connect_8 rfl hl (Nat.le_of_ble_eq_true rfl) rfl (fun ls hl => ?_)
  have hl : lv_has ls 4 [(1, .ref (ad1 (20 + n) 2)), (0, .ref (ad1 (20 + n) 0))] := hl
  refine lv_aload_n hx hb xd_Ly_connect_9 rfl (lv_at hl 1 rfl) ?_
  refine px_get (D := D) (ci := 5) (v := .ref (ad1 (20 + n) 1)) (C := xR_Ly) (T := xT_Ly) (N := 4) hx hb hT xi_Ly hown hK.1 hP m_9 c_11 rfl 2 (by decide) (hT _ k5v_0) (fun _ h9 => h9) rfl xd_Ly_connect_10 ?_
  refine px_alen hx hb hK.1 hP m_10 c_12 6 rfl xd_Ly_connect_13 ?_
  refine W.eq (g2 := F0 m 14 ls [.int (nI mk)]) rfl ?_
  refine W.eq (g2 := F0 m 14 ls [.int (nI mk)]) rfl ?_
  refine px_newq (C := "LayerDesk$Reach") (N' := mk) (20 + n) 3 hx hb hown (hT _ k5v_1) hK.2.1.2.2.2.2.2.2.2.1 hK.1 7 rfl hP hD hS hA (by omega) (show mk * 4 ≤ 536870912 by omega) (Nat.le_of_ble_eq_true rfl) (show 12 + mk ≤ 24 by omega) xd_Ly_connect_14 (fun ad13 E14 RL15 H hA1 hE1 hs1 hm1 hP hD hS => ?_)
  refine W.widen (k := 2) (n := 24) (by omega) (by omega) ?_
  have fE16 : ∀ b2 o2, ¬ (b2 = 20 + n ∧ o2 = 3) → E14 b2 o2 = E2 b2 o2 := fun b2 o2 h9 => by rw [hE1]; exact up2_ne (nr_or h9)
  have fA17 : ∀ b2 o2, ¬ (b2 = 20 + n ∧ o2 = 3) → ad13 b2 o2 = ad1 b2 o2 := fun b2 o2 h9 => by rw [hA1]; exact up2_ne (nr_or h9)
  have hs18 := hs1
  have c_19 : E14 (20 + n) 3 = .inl (kA 7, mk, .inr (.inr (.inr (.inr (fun _ => none))))) := by rw [hE1]; exact up2_eq
  have hl : lv_has ls 4 [(1, .ref (ad13 (20 + n) 2)), (0, .ref (ad13 (20 + n) 0))] := by
    rw [fA17 (20 + n) 2 (fun q9 => absurd q9.2 (by decide)), fA17 (20 + n) 0 (fun q9 => absurd q9.2 (by decide))]; exact hl
  have m_21 : (20 + n, 0) ∈ RL15 := hs18 _ m_9
  have m_22 : (20 + n, 1) ∈ RL15 := hs18 _ m_10
  have m_23 : (20 + n, 2) ∈ RL15 := hs18 _ m_8
  have c_24 : E14 (20 + n) 2 = .inl (kA 7, mk, .inr (.inr (.inr (.inr (fun _ => none))))) := by rw [fE16 (20 + n) 2 (fun q9 => absurd q9.2 (by decide))]; exact c_7
  have c_25 : E14 (20 + n) 0 = .inr (5, [.int (nI n), pv, .ref (ad13 (20 + n) 1), .int lo]) := by rw [fE16 (20 + n) 0 (fun q9 => absurd q9.2 (by decide)), fA17 (20 + n) 1 (fun q9 => absurd q9.2 (by decide))]; exact c_11
  have c_26 : E14 (20 + n) 1 = .inl (kA 6, mk, .inr (.inr (.inr (.inr fm)))) := by rw [fE16 (20 + n) 1 (fun q9 => absurd q9.2 (by decide))]; exact c_12
  have m_20 : (20 + n, 3) ∈ RL15 := hm1
  have hP : va_P D xcl (rp ad13 E14 RL15) H := hP
  have hD : va_D A (rp ad13 E14 RL15) := hD
  refine lv_astore_n hx hb xd_Ly_connect_17 rfl hl (Nat.le_of_ble_eq_true rfl) rfl (fun ls hl => ?_)
  have hl : lv_has ls 4 [(2, .ref (ad13 (20 + n) 3)), (1, .ref (ad13 (20 + n) 2)), (0, .ref (ad13 (20 + n) 0))] := hl
  have h2327 : R23 n E E14 := fun b2 o2 h9 => by show E14 b2 o2 = _; rw [fE16 b2 o2 (by omega), fE4 b2 o2 (by omega)]
  have h2328 : R23 n ad ad13 := fun b2 o2 h9 => by show ad13 b2 o2 = _; rw [fA17 b2 o2 (by omega), fA5 b2 o2 (by omega)]
  have hDIs : DIs kA ad13 E14 RL15 nd := DIs_23 h2327 h2328 (fun _ h9 => hs18 _ (hs6 _ h9)) hnd12 hDIs
  have hLIs : LIs kA ad13 E14 RL15 nd nL := LIs_23 h2327 h2328 (fun _ h9 => hs18 _ (hs6 _ h9)) hLIs
  have hfm : ∀ k, k < mk → fm k = some (ad13 (20 + n) (10 + 10 * k)) ∧ MEI kA ad13 E14 RL15 nd n k := fun k h => ⟨by rw [h2328 _ _ (by omega)]; exact (hfm k h).1, MEI_23 h2327 h2328 (fun _ h9 => hs18 _ (hs6 _ h9)) (hfm k h).2⟩
  have hTL : TLas g ad13 E14 nd nL := TLas_23 h2327 h2328 hTL hnd12
  have hC0 : ∀ j, j < mk → CN0 g E14 n j := fun j hj => CN0_23 h2327 (hC0 j hj)
  have hC7 : ∀ j, j < mk → CN7 E14 n j := fun j hj => CN7_23 h2327 (hC7 j hj)
  refine lv_iconst (v := 0) hx hb xd_Ly_connect_18 (by decide) ?_
  refine lv_istore_n hx hb xd_Ly_connect_19 rfl hl (Nat.le_of_ble_eq_true rfl) rfl (fun ls hl => ?_)
  have hl : lv_has ls 4 [(3, .int 0), (2, .ref (ad13 (20 + n) 3)), (1, .ref (ad13 (20 + n) 2)), (0, .ref (ad13 (20 + n) 0))] := hl
  refine xlab (σ := Nat × (Nat → Nat → va_E) × (Nat → Option Nat) × (Nat → Option Nat)) (ml := 4) 20 (fun (i, E1, fl1, fc1) => [(3, .int (nI i)), (2, .ref (ad13 (20 + n) 3)), (1, .ref (ad13 (20 + n) 2)), (0, .ref (ad13 (20 + n) 0))]) (fun (i, E1, fl1, fc1) => []) (fun (i, E1, fl1, fc1) => rp ad13 E1 RL15) (fun (i, E1, fl1, fc1) => (i ≤ mk) ∧ (E1 (20 + n) 0 = .inr (5, [.int (nI n), pv, .ref (ad13 (20 + n) 1), .int lo])) ∧ (E1 (20 + n) 1 = .inl (kA 6, mk, .inr (.inr (.inr (.inr fm))))) ∧ (E1 (20 + n) 2 = .inl (kA 7, mk, .inr (.inr (.inr (.inr fl1))))) ∧ (E1 (20 + n) 3 = .inl (kA 7, mk, .inr (.inr (.inr (.inr fc1))))) ∧ (∀ b2 o2, ¬ (b2 = 20 + n) → E1 b2 o2 = E b2 o2) ∧ (DIs kA ad13 E1 RL15 nd) ∧ (LIs kA ad13 E1 RL15 nd nL) ∧ (∀ k, k < mk → fm k = some (ad13 (20 + n) (10 + 10 * k)) ∧ MEI kA ad13 E1 RL15 nd n k) ∧ (∀ j, j < i → fl1 j = some (ad13 (20 + n) (12 + 10 * j)) ∧ fc1 j = some (ad13 (20 + n) (13 + 10 * j))) ∧ (TLas g ad13 E1 nd nL) ∧ (∀ j, j < i → CN1 g E1 n j ∧ CNd g kA ad13 E1 RL15 nd n j) ∧ (∀ j, i ≤ j → j < mk → CN0 g E1 n j) ∧ (∀ j, j < mk → CN7 E1 n j)) (fun (i, E1, fl1, fc1) => mk - i) ?_ (0, E14, (fun _ => none), (fun _ => none)) _ _ _ (lv_sub hl [0, 1, 2, 3] rfl) hP hD hS ⟨(show 0 ≤ mk from by first | assumption | omega), (show E14 (20 + n) 0 = .inr (5, [.int (nI n), pv, .ref (ad13 (20 + n) 1), .int lo]) from c_25), (show E14 (20 + n) 1 = .inl (kA 6, mk, .inr (.inr (.inr (.inr fm)))) from c_26), (show E14 (20 + n) 2 = .inl (kA 7, mk, .inr (.inr (.inr (.inr (fun _ => none))))) from c_24), (show E14 (20 + n) 3 = .inl (kA 7, mk, .inr (.inr (.inr (.inr (fun _ => none))))) from c_19), (show ∀ b2 o2, ¬ (b2 = 20 + n) → E14 b2 o2 = E b2 o2 from fun b2 o2 h09 => by show E14 b2 o2 = _; rw [fE16 b2 o2 (by omega), fE4 b2 o2 (by omega)]), (show DIs kA ad13 E14 RL15 nd from hDIs), (show LIs kA ad13 E14 RL15 nd nL from hLIs), (show ∀ k, k < mk → fm k = some (ad13 (20 + n) (10 + 10 * k)) ∧ MEI kA ad13 E14 RL15 nd n k from hfm), (show ∀ j, j < 0 → (fun _ => none) j = some (ad13 (20 + n) (12 + 10 * j)) ∧ (fun _ => none) j = some (ad13 (20 + n) (13 + 10 * j)) from fun j hj => absurd hj (by omega)), (show TLas g ad13 E14 nd nL from hTL), (show ∀ j, j < 0 → CN1 g E14 n j ∧ CNd g kA ad13 E14 RL15 nd n j from fun j hj => absurd hj (by omega)), (show ∀ j, 0 ≤ j → j < mk → CN0 g E14 n j from fun j _ hj => hC0 j hj), (show ∀ j, j < mk → CN7 E14 n j from hC7)⟩
  intro n9 ih29 a9 ls H locs hμ hl hP hD hS hI
  subst hμ
  obtain ⟨i, E1, fl1, fc1⟩ := a9
  obtain ⟨hi, hcA0, hcA1, hcA2, hcA3, hfr, hDIs, hLIs, hfm, hdone, hTL, hC1, hC0, hC7⟩ := hI
  have hi : i ≤ mk := hi
  have hcA0 : E1 (20 + n) 0 = .inr (5, [.int (nI n), pv, .ref (ad13 (20 + n) 1), .int lo]) := hcA0
  have hcA1 : E1 (20 + n) 1 = .inl (kA 6, mk, .inr (.inr (.inr (.inr fm)))) := hcA1
  have hcA2 : E1 (20 + n) 2 = .inl (kA 7, mk, .inr (.inr (.inr (.inr fl1)))) := hcA2
  have hcA3 : E1 (20 + n) 3 = .inl (kA 7, mk, .inr (.inr (.inr (.inr fc1)))) := hcA3
  have hfr : ∀ b2 o2, ¬ (b2 = 20 + n) → E1 b2 o2 = E b2 o2 := hfr
  have hDIs : DIs kA ad13 E1 RL15 nd := hDIs
  have hLIs : LIs kA ad13 E1 RL15 nd nL := hLIs
  have hfm : ∀ k, k < mk → fm k = some (ad13 (20 + n) (10 + 10 * k)) ∧ MEI kA ad13 E1 RL15 nd n k := hfm
  have hdone : ∀ j, j < i → fl1 j = some (ad13 (20 + n) (12 + 10 * j)) ∧ fc1 j = some (ad13 (20 + n) (13 + 10 * j)) := hdone
  have hTL : TLas g ad13 E1 nd nL := hTL
  have hC1 : ∀ j, j < i → CN1 g E1 n j ∧ CNd g kA ad13 E1 RL15 nd n j := hC1
  have hC0 : ∀ j, i ≤ j → j < mk → CN0 g E1 n j := hC0
  have hC7 : ∀ j, j < mk → CN7 E1 n j := hC7
  have hl : lv_has ls 4 [(3, .int (nI i)), (2, .ref (ad13 (20 + n) 3)), (1, .ref (ad13 (20 + n) 2)), (0, .ref (ad13 (20 + n) 0))] := hl
  have hP : va_P D xcl (rp ad13 E1 RL15) H := hP
  have hD : va_D A (rp ad13 E1 RL15) := hD
  have hTD1 : TDs g E1 nd := TDs_same (fun d9 hd9 => fun2 fun o9 => hfr (1 + d9) o9 (by omega)) hTD
  have hCB1 : CBs g E1 n := CBs_same (fun la o9 hla => hfr (20 + la) o9 (by omega)) hCB
  refine lv_iload_n hx hb xd_Ly_connect_20 rfl (lv_at hl 0 rfl) ?_
  refine lv_aload_n hx hb xd_Ly_connect_21 rfl (lv_at hl 3 rfl) ?_
  refine px_get (D := D) (ci := 5) (v := .ref (ad13 (20 + n) 1)) (C := xR_Ly) (T := xT_Ly) (N := 4) hx hb hT xi_Ly hown hK.1 hP m_21 hcA0 rfl 2 (by decide) (hT _ k5v_0) (fun _ h9 => h9) rfl xd_Ly_connect_22 ?_
  refine px_alen hx hb hK.1 hP m_22 hcA1 6 rfl xd_Ly_connect_25 ?_
  refine W.eq (g2 := F0 m 26 ls [.int (nI mk), .int (nI i)]) rfl ?_
  refine xn_ge (a := i) (b := mk) (tgt := 68) hx hb xd_Ly_connect_26 (by decide) (by omega) (by omega) (fun hc30 => ?_) (fun hc30 => ?_)
  · refine lv_aload_n hx hb xd_Ly_connect_68 rfl (lv_at hl 3 rfl) ?_
    refine lv_aload_n hx hb xd_Ly_connect_69 rfl (lv_at hl 2 rfl) ?_
    have hFc := px_free hD hS hA
    refine va_callv (va_runV (As := [.ref (ad13 (20 + n) 2)]) (rest := []) ⟨hx, hb, hml, hown, hT⟩ (xc_Ly_followLX l D kA H.size ad13 E1 RL15 g nd nL n pv lo mk fm fl1 m_21 hcA0 m_22 hcA1 m_23 hcA2 (by first | assumption | omega) (by first | assumption | omega) (by first | assumption | omega) (by first | assumption | omega) (by first | assumption | omega) (by first | assumption | omega) (by first | assumption | omega) (fun k h => (hdone k (by omega)).1) hTL) (cwV 1 hT (wT_V k5v_3 k5v_4 k5v_5 k5v_6 k5v_2) rfl rfl rfl (by decide +kernel) ⟨Nat.le_of_ble_eq_true rfl, Nat.le_of_ble_eq_true rfl⟩) (px_preV hK hP hD m_21 hcA0 rfl) rfl rfl hl.1 rfl (lv_room (Nat.le_of_ble_eq_true rfl)) xd_Ly_connect_70 ⟨(Nat.le_of_ble_eq_true rfl), (Nat.le_of_ble_eq_true rfl)⟩) hS (fun q _ h => hFc q h) hFc (fun u32 t H1 locs ht hvm hp33 hB hz1 hk1 hS => ?_)
    obtain ⟨hP1, hD1⟩ := hB
    rw [ht] at hP1
    have hD1 := hD1.weaken (fun _ _ _ h => hFc _ h)
    generalize H1 = H at hP1 hS ⊢
    have hP := hP1
    have hD := hD1
    obtain ⟨E34, rfl⟩ : ∃ z, z = u32 := ⟨_, rfl⟩
    have hP : va_P D xcl (rp ad13 E34 RL15) H := hP
    have hD : va_D A (rp ad13 E34 RL15) := hD
    obtain ⟨hRI9, hPW9, hot9⟩ := hp33
    have hRI9 : RI kA (20 + n) E1 E34 := hRI9
    have hcA0 := hRI9.obj hcA0
    have hcA1 := hRI9.arr hcA1
    have hcA2 := hRI9.arr hcA2
    have hcA3 := hRI9.arr hcA3
    have hfr : ∀ b2 o2, ¬ (b2 = 20 + n) → E34 b2 o2 = E b2 o2 := fun b2 o2 h9 => (hRI9.out h9).trans (hfr b2 o2 h9)
    have hDIs := DIs_RU hRI9.ru hnd12 hDIs
    have hLIs := LIs_RU hRI9.ru hLIs
    have hfm : ∀ k, k < mk → fm k = some (ad13 (20 + n) (10 + 10 * k)) ∧ MEI kA ad13 E34 RL15 nd n k := fun k h => ⟨(hfm k h).1, MEI_RU hRI9.ru (hfm k h).2⟩
    have hTL : TLas g ad13 E34 nd nL := TLas_ro (fun n9 o9 hn9 ho9 => by
      by_cases q : n9 = n
      · rw [q]; exact hot9 o9 (fun k9 _ e9 => by rcases ho9 with z | z | ⟨z, z2⟩ <;> omega)
      · exact hRI9.out (by omega)) hTL
    have hC7 : ∀ j, j < mk → CN7 E34 n j := fun j hj => CN7_fr (hot9 (17 + 10 * j) (fun _ _ => by omega)) (hC7 j hj)
    have hLd : ∀ k, k < mk → ∀ t, t < 72 → (BS (eA (E34 (20 + n) (15 + 10 * k))) t ↔ PW (LSr g n) (fun b => 12 * n + mdv g n b) mk k t) := fun k hk t ht => (hPW9 k hk t ht).trans (PW_congr hnf72 (fun a ha t ht => ((hC1 a (by omega)).1 t ht).1) mk (Nat.le_refl _) k hk t ht)
    have hCs : ∀ j, j < mk → ∀ t, t < 72 → (BS (eA (E34 (20 + n) (16 + 10 * j))) t ↔ CSr g n j t) := fun j hj t ht => by rw [(hot9 (16 + 10 * j) (fun _ _ => by omega))]; exact ((hC1 j (by omega)).1 t ht).2
    have hNd : ∀ j, j < mk → CNd g kA ad13 E34 RL15 nd n j := fun j hj => CNd_RU hRI9.ru (hot9 (11 + 10 * j) (fun _ _ => by omega)) (hC1 j (by omega)).2
    refine lv_aload_n hx hb xd_Ly_connect_73 rfl (lv_at hl 3 rfl) ?_
    refine lv_aload_n hx hb xd_Ly_connect_74 rfl (lv_at hl 1 rfl) ?_
    have hFc := px_free hD hS hA
    refine va_callv (va_runV (As := [.ref (ad13 (20 + n) 3)]) (rest := []) ⟨hx, hb, hml, hown, hT⟩ (xc_Ly_followCX l D kA H.size ad13 E34 RL15 g nd nL n pv lo mk fm fc1 m_21 hcA0 m_22 hcA1 m_20 hcA3 (by first | assumption | omega) (by first | assumption | omega) (by first | assumption | omega) (by first | assumption | omega) (by first | assumption | omega) (by first | assumption | omega) (by first | assumption | omega) (fun k h => (hdone k (by omega)).2) hTL) (cwV 1 hT (wT_V k5v_3 k5v_4 k5v_5 k5v_6 k5v_2) rfl rfl rfl (by decide +kernel) ⟨Nat.le_of_ble_eq_true rfl, Nat.le_of_ble_eq_true rfl⟩) (px_preV hK hP hD m_21 hcA0 rfl) rfl rfl hl.1 rfl (lv_room (Nat.le_of_ble_eq_true rfl)) xd_Ly_connect_75 ⟨(Nat.le_of_ble_eq_true rfl), (Nat.le_of_ble_eq_true rfl)⟩) hS (fun q _ h => hFc q h) hFc (fun u36 t H1 locs ht hvm hp37 hB hz1 hk1 hS => ?_)
    obtain ⟨hP1, hD1⟩ := hB
    rw [ht] at hP1
    have hD1 := hD1.weaken (fun _ _ _ h => hFc _ h)
    generalize H1 = H at hP1 hS ⊢
    have hP := hP1
    have hD := hD1
    obtain ⟨E38, rfl⟩ : ∃ z, z = u36 := ⟨_, rfl⟩
    have hP : va_P D xcl (rp ad13 E38 RL15) H := hP
    have hD : va_D A (rp ad13 E38 RL15) := hD
    obtain ⟨hRI9, hPW9, hot9⟩ := hp37
    have hRI9 : RI kA (20 + n) E34 E38 := hRI9
    have hcA0 := hRI9.obj hcA0
    have hcA1 := hRI9.arr hcA1
    have hcA2 := hRI9.arr hcA2
    have hcA3 := hRI9.arr hcA3
    have hfr : ∀ b2 o2, ¬ (b2 = 20 + n) → E38 b2 o2 = E b2 o2 := fun b2 o2 h9 => (hRI9.out h9).trans (hfr b2 o2 h9)
    have hDIs := DIs_RU hRI9.ru hnd12 hDIs
    have hLIs := LIs_RU hRI9.ru hLIs
    have hfm : ∀ k, k < mk → fm k = some (ad13 (20 + n) (10 + 10 * k)) ∧ MEI kA ad13 E38 RL15 nd n k := fun k h => ⟨(hfm k h).1, MEI_RU hRI9.ru (hfm k h).2⟩
    have hTL : TLas g ad13 E38 nd nL := TLas_ro (fun n9 o9 hn9 ho9 => by
      by_cases q : n9 = n
      · rw [q]; exact hot9 o9 (fun k9 _ e9 => by rcases ho9 with z | z | ⟨z, z2⟩ <;> omega)
      · exact hRI9.out (by omega)) hTL
    have hC7 : ∀ j, j < mk → CN7 E38 n j := fun j hj => CN7_fr (hot9 (17 + 10 * j) (fun _ _ => by omega)) (hC7 j hj)
    have hLd : ∀ k, k < mk → ∀ t, t < 72 → (BS (eA (E38 (20 + n) (15 + 10 * k))) t ↔ PW (LSr g n) (fun b => 12 * n + mdv g n b) mk k t) := fun j hj t ht => by rw [(hot9 (15 + 10 * j) (fun _ _ => by omega))]; exact hLd j hj t ht
    have hCd : ∀ k, k < mk → ∀ t, t < 72 → (BS (eA (E38 (20 + n) (16 + 10 * k))) t ↔ PW (CSr g n) (fun b => 12 * n + mdv g n b) mk k t) := fun k hk t ht => (hPW9 k hk t ht).trans (PW_congr hnf72 (fun a ha t ht => hCs a ha t ht) mk (Nat.le_refl _) k hk t ht)
    have hNd : ∀ j, j < mk → CNd g kA ad13 E38 RL15 nd n j := fun j hj => CNd_RU hRI9.ru (hot9 (11 + 10 * j) (fun _ _ => by omega)) (hNd j hj)
    have hCB5 : CBs g E38 (n + 1) := CBs_of hLK9 hi20 hinj (CBs_same (fun la o9 hla => hfr (20 + la) o9 (by omega)) hCB) hCd
    have hLB : LBs g E38 n := LBs_of hLK9 hi20 (by omega) hinj hLd
    refine lv_iconst (v := 0) hx hb xd_Ly_connect_78 (by decide) ?_
    refine lv_istore_n hx hb xd_Ly_connect_79 rfl hl (Nat.le_of_ble_eq_true rfl) rfl (fun ls hl => ?_)
    have hl : lv_has ls 4 [(3, .int 0), (2, .ref (ad13 (20 + n) 3)), (1, .ref (ad13 (20 + n) 2)), (0, .ref (ad13 (20 + n) 0))] := hl
    refine xlab (σ := Nat × (Nat → Nat → va_E)) (ml := 4) 80 (fun (i, E5) => [(3, .int (nI i)), (0, .ref (ad13 (20 + n) 0))]) (fun (i, E5) => []) (fun (i, E5) => rp ad13 E5 RL15) (fun (i, E5) => (i ≤ mk) ∧ (E5 (20 + n) 0 = .inr (5, [.int (nI n), pv, .ref (ad13 (20 + n) 1), .int lo])) ∧ (E5 (20 + n) 1 = .inl (kA 6, mk, .inr (.inr (.inr (.inr fm))))) ∧ (∀ b2 o2, ¬ (b2 = 20 + n) → E5 b2 o2 = E b2 o2) ∧ (DIs kA ad13 E5 RL15 nd) ∧ (LIs kA ad13 E5 RL15 nd nL) ∧ (∀ k, k < mk → fm k = some (ad13 (20 + n) (10 + 10 * k)) ∧ MEI kA ad13 E5 RL15 nd n k) ∧ (∀ j, j < mk → CNd g kA ad13 E5 RL15 nd n j) ∧ (TLas g ad13 E5 nd nL) ∧ (CBs g E5 (n + 1)) ∧ (LBs g E5 n) ∧ (∀ j, j < i → ∀ t, t < 72 → (BS (eA (E5 (20 + n) (17 + 10 * j))) t ↔ rdQ g n (mdv g n j) t)) ∧ (∀ j, i ≤ j → j < mk → CN7 E5 n j)) (fun (i, E5) => mk - i) ?_ (0, E38) _ _ _ (lv_sub hl [0, 3] rfl) hP hD hS ⟨(show 0 ≤ mk from by first | assumption | omega), (show E38 (20 + n) 0 = .inr (5, [.int (nI n), pv, .ref (ad13 (20 + n) 1), .int lo]) from hcA0), (show E38 (20 + n) 1 = .inl (kA 6, mk, .inr (.inr (.inr (.inr fm)))) from hcA1), (show ∀ b2 o2, ¬ (b2 = 20 + n) → E38 b2 o2 = E b2 o2 from fun b2 o2 h09 => by show E38 b2 o2 = _; rw [hfr b2 o2 (by omega)]), (show DIs kA ad13 E38 RL15 nd from hDIs), (show LIs kA ad13 E38 RL15 nd nL from hLIs), (show ∀ k, k < mk → fm k = some (ad13 (20 + n) (10 + 10 * k)) ∧ MEI kA ad13 E38 RL15 nd n k from hfm), (show ∀ j, j < mk → CNd g kA ad13 E38 RL15 nd n j from hNd), (show TLas g ad13 E38 nd nL from hTL), (show CBs g E38 (n + 1) from hCB5), (show LBs g E38 n from hLB), (show ∀ j, j < 0 → ∀ t, t < 72 → (BS (eA (E38 (20 + n) (17 + 10 * j))) t ↔ rdQ g n (mdv g n j) t) from fun j hj => absurd hj (by omega)), (show ∀ j, 0 ≤ j → j < mk → CN7 E38 n j from fun j _ hj => hC7 j hj)⟩
    intro n9 ih39 a9 ls H locs hμ hl hP hD hS hI
    subst hμ
    obtain ⟨i, E5⟩ := a9
    obtain ⟨hi, hcA0, hcA1, hfr, hDIs, hLIs, hfm, hNd, hTL, hCB5, hLB, hR5, h75⟩ := hI
    have hi : i ≤ mk := hi
    have hcA0 : E5 (20 + n) 0 = .inr (5, [.int (nI n), pv, .ref (ad13 (20 + n) 1), .int lo]) := hcA0
    have hcA1 : E5 (20 + n) 1 = .inl (kA 6, mk, .inr (.inr (.inr (.inr fm)))) := hcA1
    have hfr : ∀ b2 o2, ¬ (b2 = 20 + n) → E5 b2 o2 = E b2 o2 := hfr
    have hDIs : DIs kA ad13 E5 RL15 nd := hDIs
    have hLIs : LIs kA ad13 E5 RL15 nd nL := hLIs
    have hfm : ∀ k, k < mk → fm k = some (ad13 (20 + n) (10 + 10 * k)) ∧ MEI kA ad13 E5 RL15 nd n k := hfm
    have hNd : ∀ j, j < mk → CNd g kA ad13 E5 RL15 nd n j := hNd
    have hTL : TLas g ad13 E5 nd nL := hTL
    have hCB5 : CBs g E5 (n + 1) := hCB5
    have hLB : LBs g E5 n := hLB
    have hR5 : ∀ j, j < i → ∀ t, t < 72 → (BS (eA (E5 (20 + n) (17 + 10 * j))) t ↔ rdQ g n (mdv g n j) t) := hR5
    have h75 : ∀ j, i ≤ j → j < mk → CN7 E5 n j := h75
    have hl : lv_has ls 4 [(3, .int (nI i)), (0, .ref (ad13 (20 + n) 0))] := hl
    have hP : va_P D xcl (rp ad13 E5 RL15) H := hP
    have hD : va_D A (rp ad13 E5 RL15) := hD
    have hTD1 : TDs g E5 nd := TDs_same (fun d9 hd9 => fun2 fun o9 => hfr (1 + d9) o9 (by omega)) hTD
    have hCB1 : CBs g E5 n := CBs_same (fun la o9 hla => hfr (20 + la) o9 (by omega)) hCB
    refine lv_iload_n hx hb xd_Ly_connect_80 rfl (lv_at hl 0 rfl) ?_
    refine lv_aload_n hx hb xd_Ly_connect_81 rfl (lv_at hl 1 rfl) ?_
    refine px_get (D := D) (ci := 5) (v := .ref (ad13 (20 + n) 1)) (C := xR_Ly) (T := xT_Ly) (N := 4) hx hb hT xi_Ly hown hK.1 hP m_21 hcA0 rfl 2 (by decide) (hT _ k5v_0) (fun _ h9 => h9) rfl xd_Ly_connect_82 ?_
    refine px_alen hx hb hK.1 hP m_22 hcA1 6 rfl xd_Ly_connect_85 ?_
    refine W.eq (g2 := F0 m 86 ls [.int (nI mk), .int (nI i)]) rfl ?_
    refine xn_ge (a := i) (b := mk) (tgt := 104) hx hb xd_Ly_connect_86 (by decide) (by omega) (by omega) (fun hc40 => ?_) (fun hc40 => ?_)
    · refine W.widen (k := 2) (n := 24) (Nat.le_of_ble_eq_true rfl) (Nat.le_of_ble_eq_true rfl) ?_
      exact W.vret hx hb hr (fun t ht hW => ⟨⟨(ad13, E5, RL15), rfl, ⟨⟨⟨hDIs, hLIs⟩, hTL, hCB5, hLB, (fun k hk t ht => hR5 k (by omega) t ht)⟩, (fun b2 o2 h09 => by show E5 b2 o2 = _; rw [hfr b2 o2 (by omega)]), (fun b2 o2 h09 h19 => by show ad13 b2 o2 = _; rw [fA17 b2 o2 (by omega), fA5 b2 o2 (by omega)]), (fun x9 hx9 => hs18 _ (hs6 _ hx9)), m_23, m_20⟩, by rw [ht]; exact hP, hD⟩, hS.F ht⟩) hS.2.2 xd_Ly_connect_104
    · refine lv_aload_n hx hb xd_Ly_connect_89 rfl (lv_at hl 1 rfl) ?_
      refine px_get (D := D) (ci := 5) (v := .ref (ad13 (20 + n) 1)) (C := xR_Ly) (T := xT_Ly) (N := 4) hx hb hT xi_Ly hown hK.1 hP m_21 hcA0 rfl 2 (by decide) (hT _ k5v_0) (fun _ h9 => h9) rfl xd_Ly_connect_90 ?_
      refine lv_iload_n hx hb xd_Ly_connect_93 rfl (lv_at hl 0 rfl) ?_
      have hM41 := (hfm i (by omega)).2
      refine px_aald (i := i) (x := (some (ad13 (20 + n) (10 + 10 * i)))) hx hb hK.1 hP m_22 hcA1 6 rfl ((hfm i (by omega)).1) (by omega) (by omega) xd_Ly_connect_94 ?_
      obtain ⟨hm_42, d_42, rs_42, fr_42, g2_42, g3_42, g4_42, hd_42, hrs_42, q0_42, q1_42, q2_42, q3_42, q4_42, q5_42, q6_42, q7_42⟩ := id hM41
      have c_43 : E5 (20 + n) (10 + 10 * i) = .inr (6, [.ref (ad13 (20 + n) 0), .ref (ad13 (1 + d_42) 0), .ref (ad13 (20 + n) (11 + 10 * i)), .ref (ad13 (20 + n) (12 + 10 * i)), .ref (ad13 (20 + n) (13 + 10 * i)), .ref (ad13 (20 + n) (14 + 10 * i))]) := q0_42
      have m_44 : (20 + n, 10 + 10 * i) ∈ RL15 := hm_42 0 (by decide)
      have c_45 : E5 (20 + n) (11 + 10 * i) = .inl (kA 6, rs_42, .inr (.inr (.inr (.inr fr_42)))) := q1_42
      have m_46 : (20 + n, 11 + 10 * i) ∈ RL15 := hm_42 1 (by decide)
      have c_47 : E5 (20 + n) (12 + 10 * i) = .inr (10, [.ref (ad13 (20 + n) (15 + 10 * i))]) := q2_42
      have m_48 : (20 + n, 12 + 10 * i) ∈ RL15 := hm_42 2 (by decide)
      have c_49 : E5 (20 + n) (13 + 10 * i) = .inr (10, [.ref (ad13 (20 + n) (16 + 10 * i))]) := q3_42
      have m_50 : (20 + n, 13 + 10 * i) ∈ RL15 := hm_42 3 (by decide)
      have c_51 : E5 (20 + n) (14 + 10 * i) = .inr (10, [.ref (ad13 (20 + n) (17 + 10 * i))]) := q4_42
      have m_52 : (20 + n, 14 + 10 * i) ∈ RL15 := hm_42 4 (by decide)
      have c_53 : E5 (20 + n) (15 + 10 * i) = .inl (kA 0, 6, .inl g2_42) := q5_42
      have m_54 : (20 + n, 15 + 10 * i) ∈ RL15 := hm_42 5 (by decide)
      have c_55 : E5 (20 + n) (16 + 10 * i) = .inl (kA 0, 6, .inl g3_42) := q6_42
      have m_56 : (20 + n, 16 + 10 * i) ∈ RL15 := hm_42 6 (by decide)
      have c_57 : E5 (20 + n) (17 + 10 * i) = .inl (kA 0, 6, .inl g4_42) := q7_42
      have m_58 : (20 + n, 17 + 10 * i) ∈ RL15 := hm_42 7 (by decide)
      obtain ⟨hm_59, fd_59, nm_59, sd_59, k0_59, k1_59, k2_59, k3_59, f0_59, f1_59, f2_59, f3_59, fe_59, fo_59, tr_59, op_59, hk0_59, hk1_59, hk2_59, hk3_59, q0_59, q1_59, q2_59, q3_59, q4_59, q5_59, q6_59, q7_59, q8_59, q9_59, q10_59, q11_59, q12_59, hg_59⟩ := id (hDIs d_42 (by omega))
      have c_60 : E5 (1 + d_42) 0 = .inr (7, [.int (nI d_42), .int fd_59, .int nm_59, .ref (ad13 (1 + d_42) 1), .ref (ad13 (1 + d_42) 9), .ref (ad13 (1 + d_42) 10), .ref (ad13 (1 + d_42) 2), .ref (ad13 (1 + d_42) 11), .ref (ad13 (1 + d_42) 12), .ref (ad13 (1 + d_42) 3), .ref (ad13 (1 + d_42) 4), .int sd_59]) := q0_59
      have m_61 : (1 + d_42, 0) ∈ RL15 := hm_59 0 (by decide)
      have c_62 : E5 (1 + d_42) 1 = .inr (8, [.ref (ad13 (1 + d_42) 5), .int (nI k0_59)]) := q1_59
      have m_63 : (1 + d_42, 1) ∈ RL15 := hm_59 1 (by decide)
      have c_64 : E5 (1 + d_42) 2 = .inr (8, [.ref (ad13 (1 + d_42) 6), .int (nI k1_59)]) := q2_59
      have m_65 : (1 + d_42, 2) ∈ RL15 := hm_59 2 (by decide)
      have c_66 : E5 (1 + d_42) 3 = .inr (8, [.ref (ad13 (1 + d_42) 7), .int (nI k2_59)]) := q3_59
      have m_67 : (1 + d_42, 3) ∈ RL15 := hm_59 3 (by decide)
      have c_68 : E5 (1 + d_42) 4 = .inr (8, [.ref (ad13 (1 + d_42) 8), .int (nI k3_59)]) := q4_59
      have m_69 : (1 + d_42, 4) ∈ RL15 := hm_59 4 (by decide)
      have c_70 : E5 (1 + d_42) 5 = .inl (kA 0, 6, .inl f0_59) := q5_59
      have m_71 : (1 + d_42, 5) ∈ RL15 := hm_59 5 (by decide)
      have c_72 : E5 (1 + d_42) 6 = .inl (kA 0, 5, .inl f1_59) := q6_59
      have m_73 : (1 + d_42, 6) ∈ RL15 := hm_59 6 (by decide)
      have c_74 : E5 (1 + d_42) 7 = .inl (kA 0, 3, .inl f2_59) := q7_59
      have m_75 : (1 + d_42, 7) ∈ RL15 := hm_59 7 (by decide)
      have c_76 : E5 (1 + d_42) 8 = .inl (kA 0, 3, .inl f3_59) := q8_59
      have m_77 : (1 + d_42, 8) ∈ RL15 := hm_59 8 (by decide)
      have c_78 : E5 (1 + d_42) 9 = .inl (kA 8, 6, .inr (.inr (.inr (.inr fe_59)))) := q9_59
      have m_79 : (1 + d_42, 9) ∈ RL15 := hm_59 9 (by decide)
      have c_80 : E5 (1 + d_42) 10 = .inl (kA 8, 6, .inr (.inr (.inr (.inr fo_59)))) := q10_59
      have m_81 : (1 + d_42, 10) ∈ RL15 := hm_59 10 (by decide)
      have c_82 : E5 (1 + d_42) 11 = .inl (kA 2, 5, .inl tr_59) := q11_59
      have m_83 : (1 + d_42, 11) ∈ RL15 := hm_59 11 (by decide)
      have c_84 : E5 (1 + d_42) 12 = .inl (kA 2, 5, .inl op_59) := q12_59
      have m_85 : (1 + d_42, 12) ∈ RL15 := hm_59 12 (by decide)
      have hg_59 : ∀ w9, w9 < k0_59 → fe_59 w9 = some (ad13 (1 + d_42) (20 + 3 * w9)) ∧ fo_59 w9 = some (ad13 (1 + d_42) (38 + 3 * w9)) ∧ GI kA (ad13 (1 + d_42)) (E5 (1 + d_42)) (fun o => (1 + d_42, o) ∈ RL15) (20 + 3 * w9) (21 + 3 * w9) (22 + 3 * w9) ∧ GI kA (ad13 (1 + d_42)) (E5 (1 + d_42)) (fun o => (1 + d_42, o) ∈ RL15) (38 + 3 * w9) (39 + 3 * w9) (40 + 3 * w9) := hg_59
      obtain ⟨hTT_59, tgr_59⟩ := TD_get hk0_59 hk1_59 hk2_59 hk3_59 c_60 c_62 c_64 c_66 c_68 c_70 c_72 c_74 c_76 c_82 c_84 (hTD1 d_42 (by omega))
      obtain ⟨tfd_59, tnm_59, tsd_59, tk0_59, tf0_59, tk1_59, tf1_59, tk2_59, tk3_59⟩ := id hTT_59
      have ik0_59 : iN (g 5 d_42) = k0_59 := by rw [← tk0_59, iN_nI (by omega)]
      have ik1_59 : iN (g 12 d_42) = k1_59 := by rw [← tk1_59, iN_nI (by omega)]
      have hdmv : mdv g n i = d_42 := by
        obtain ⟨_, _, h20z, hmz⟩ := hTL n hn
        rw [show eL (E5 (20 + n) 1) = mk from by rw [hcA1]; rfl] at h20z hmz
        obtain ⟨dz, hdz, h21z, hvz⟩ := hmz i (by omega)
        rw [c_43] at hvz
        have ez := (rp_inj hD ((hDIs d_42 hd_42).1 0 (by omega)) ((hDIs dz hdz).1 0 (by omega)) (Value.ref.inj hvz)).1
        unfold mdv
        rw [h21z, iN_nI (by omega)]; omega
      obtain ⟨hRQ9, hirs⟩ := CNd_cel (hNd i (by omega)) hdmv c_45
      have hrsd9 : g 12 d_42 = nI rs_42 := by rw [hirs]; exact nI_iN_of tk1_59 (by omega)
      have hkm9 : i < iN (g 20 n) := by rw [hi20]; omega
      have hFc := px_free hD hS hA
      refine va_callv (va_runV (As := []) (rest := []) ⟨hx, hb, hml, hown, hT⟩ (xc_Me_settleReadingX l D kA H.size ad13 E5 RL15 g nd nL n i d_42 rs_42 fr_42 g4_42 g3_42 m_44 c_43 m_46 c_45 m_50 c_49 m_52 c_51 m_58 c_57 m_56 c_55 (by first | assumption | omega) (by first | assumption | omega) (by first | assumption | omega) (by first | assumption | omega) (by first | assumption | omega) (by first | assumption | omega) (by first | assumption | omega) hRQ9 hTD1 hTL hdmv hCB5 hkm9) (cwV 0 hT (wT_V k5v_8 k5v_9 k5v_10 k5v_11 k5v_7) rfl rfl rfl (by decide +kernel) ⟨Nat.le_of_ble_eq_true rfl, Nat.le_of_ble_eq_true rfl⟩) (px_preV hK hP hD m_44 c_43 rfl) rfl rfl hl.1 rfl (lv_room (Nat.le_of_ble_eq_true rfl)) xd_Ly_connect_95 ⟨(Nat.le_of_ble_eq_true rfl), (Nat.le_of_ble_eq_true rfl)⟩) hS (fun q _ h => hFc q h) hFc (fun u87 t H1 locs ht hvm hp88 hB hz1 hk1 hS => ?_)
      obtain ⟨hP1, hD1⟩ := hB
      rw [ht] at hP1
      have hD1 := hD1.weaken (fun _ _ _ h => hFc _ h)
      generalize H1 = H at hP1 hS ⊢
      have hP := hP1
      have hD := hD1
      obtain ⟨E89, rfl⟩ : ∃ z, z = u87 := ⟨_, rfl⟩
      obtain ⟨w90, hp93, p_91, p_92⟩ := hp88
      have p_91 : E89 (20 + n) (17 + 10 * i) = .inl (kA 0, 6, .inl w90) := p_91
      have p_92 : (∀ b2 o2, ¬ (b2 = 20 + n ∧ o2 = 17 + 10 * i) → E89 b2 o2 = E5 b2 o2) := p_92
      have c_94 : E89 (20 + n) 0 = .inr (5, [.int (nI n), pv, .ref (ad13 (20 + n) 1), .int lo]) := (p_92 (20 + n) 0 (fun q9 => nr_z q9.2 (by decide))).trans hcA0
      have c_95 : E89 (20 + n) 1 = .inl (kA 6, mk, .inr (.inr (.inr (.inr fm)))) := (p_92 (20 + n) 1 (fun q9 => nr_z q9.2 (by decide))).trans hcA1
      have c_96 : E89 (20 + n) (10 + 10 * i) = .inr (6, [.ref (ad13 (20 + n) 0), .ref (ad13 (1 + d_42) 0), .ref (ad13 (20 + n) (11 + 10 * i)), .ref (ad13 (20 + n) (12 + 10 * i)), .ref (ad13 (20 + n) (13 + 10 * i)), .ref (ad13 (20 + n) (14 + 10 * i))]) := (p_92 (20 + n) (10 + 10 * i) (fun q9 => nr_k q9.2 (by decide))).trans c_43
      have c_97 : E89 (20 + n) (11 + 10 * i) = .inl (kA 6, rs_42, .inr (.inr (.inr (.inr fr_42)))) := (p_92 (20 + n) (11 + 10 * i) (fun q9 => nr_k q9.2 (by decide))).trans c_45
      have c_98 : E89 (20 + n) (12 + 10 * i) = .inr (10, [.ref (ad13 (20 + n) (15 + 10 * i))]) := (p_92 (20 + n) (12 + 10 * i) (fun q9 => nr_k q9.2 (by decide))).trans c_47
      have c_99 : E89 (20 + n) (13 + 10 * i) = .inr (10, [.ref (ad13 (20 + n) (16 + 10 * i))]) := (p_92 (20 + n) (13 + 10 * i) (fun q9 => nr_k q9.2 (by decide))).trans c_49
      have c_100 : E89 (20 + n) (14 + 10 * i) = .inr (10, [.ref (ad13 (20 + n) (17 + 10 * i))]) := (p_92 (20 + n) (14 + 10 * i) (fun q9 => nr_k q9.2 (by decide))).trans c_51
      have c_101 : E89 (20 + n) (15 + 10 * i) = .inl (kA 0, 6, .inl g2_42) := (p_92 (20 + n) (15 + 10 * i) (fun q9 => nr_k q9.2 (by decide))).trans c_53
      have c_102 : E89 (20 + n) (16 + 10 * i) = .inl (kA 0, 6, .inl g3_42) := (p_92 (20 + n) (16 + 10 * i) (fun q9 => nr_k q9.2 (by decide))).trans c_55
      have c_103 : E89 (1 + d_42) 0 = .inr (7, [.int (nI d_42), .int fd_59, .int nm_59, .ref (ad13 (1 + d_42) 1), .ref (ad13 (1 + d_42) 9), .ref (ad13 (1 + d_42) 10), .ref (ad13 (1 + d_42) 2), .ref (ad13 (1 + d_42) 11), .ref (ad13 (1 + d_42) 12), .ref (ad13 (1 + d_42) 3), .ref (ad13 (1 + d_42) 4), .int sd_59]) := (p_92 (1 + d_42) 0 (fun q9 => nr_z q9.2 (by decide))).trans c_60
      have c_104 : E89 (1 + d_42) 1 = .inr (8, [.ref (ad13 (1 + d_42) 5), .int (nI k0_59)]) := (p_92 (1 + d_42) 1 (fun q9 => nr_z q9.2 (by decide))).trans c_62
      have c_105 : E89 (1 + d_42) 2 = .inr (8, [.ref (ad13 (1 + d_42) 6), .int (nI k1_59)]) := (p_92 (1 + d_42) 2 (fun q9 => nr_z q9.2 (by decide))).trans c_64
      have c_106 : E89 (1 + d_42) 3 = .inr (8, [.ref (ad13 (1 + d_42) 7), .int (nI k2_59)]) := (p_92 (1 + d_42) 3 (fun q9 => nr_z q9.2 (by decide))).trans c_66
      have c_107 : E89 (1 + d_42) 4 = .inr (8, [.ref (ad13 (1 + d_42) 8), .int (nI k3_59)]) := (p_92 (1 + d_42) 4 (fun q9 => nr_z q9.2 (by decide))).trans c_68
      have c_108 : E89 (1 + d_42) 5 = .inl (kA 0, 6, .inl f0_59) := (p_92 (1 + d_42) 5 (fun q9 => nr_z q9.2 (by decide))).trans c_70
      have c_109 : E89 (1 + d_42) 6 = .inl (kA 0, 5, .inl f1_59) := (p_92 (1 + d_42) 6 (fun q9 => nr_z q9.2 (by decide))).trans c_72
      have c_110 : E89 (1 + d_42) 7 = .inl (kA 0, 3, .inl f2_59) := (p_92 (1 + d_42) 7 (fun q9 => nr_z q9.2 (by decide))).trans c_74
      have c_111 : E89 (1 + d_42) 8 = .inl (kA 0, 3, .inl f3_59) := (p_92 (1 + d_42) 8 (fun q9 => nr_z q9.2 (by decide))).trans c_76
      have c_112 : E89 (1 + d_42) 9 = .inl (kA 8, 6, .inr (.inr (.inr (.inr fe_59)))) := (p_92 (1 + d_42) 9 (fun q9 => nr_z q9.2 (by decide))).trans c_78
      have c_113 : E89 (1 + d_42) 10 = .inl (kA 8, 6, .inr (.inr (.inr (.inr fo_59)))) := (p_92 (1 + d_42) 10 (fun q9 => nr_z q9.2 (by decide))).trans c_80
      have c_114 : E89 (1 + d_42) 11 = .inl (kA 2, 5, .inl tr_59) := (p_92 (1 + d_42) 11 (fun q9 => nr_z q9.2 (by decide))).trans c_82
      have c_115 : E89 (1 + d_42) 12 = .inl (kA 2, 5, .inl op_59) := (p_92 (1 + d_42) 12 (fun q9 => nr_z q9.2 (by decide))).trans c_84
      have hP : va_P D xcl (rp ad13 E89 RL15) H := hP
      have hD : va_D A (rp ad13 E89 RL15) := hD
      have hRI9 : RI kA (20 + n) E5 E89 := RI.row c_57 p_91 p_92
      have hDIs := DIs_RU hRI9.ru hnd12 hDIs
      have hLIs := LIs_RU hRI9.ru hLIs
      have hfm : ∀ k, k < mk → fm k = some (ad13 (20 + n) (10 + 10 * k)) ∧ MEI kA ad13 E89 RL15 nd n k := fun k h => ⟨(hfm k h).1, MEI_RU hRI9.ru (hfm k h).2⟩
      have hTL : TLas g ad13 E89 nd nL := TLas_ro (fun n9 o9 hn9 ho9 => p_92 (20 + n9) o9 (by omega)) hTL
      have hNd : ∀ j, j < mk → CNd g kA ad13 E89 RL15 nd n j := fun j hj => CNd_RU hRI9.ru (p_92 (20 + n) (11 + 10 * j) (by omega)) (hNd j hj)
      have hCB5 : CBs g E89 (n + 1) := fun la hl k hk t ht => by rw [(p_92 (20 + la) (16 + 10 * k) (by omega))]; exact hCB5 la hl k hk t ht
      have hLB : LBs g E89 n := fun k hk => by rw [(p_92 (20 + n) (15 + 10 * k) (by omega))]; exact hLB k hk
      have hR5 : ∀ j, j < i + 1 → ∀ t, t < 72 → (BS (eA (E89 (20 + n) (17 + 10 * j))) t ↔ rdQ g n (mdv g n j) t) := fun j hj t ht => by
        by_cases q : j = i
        · rw [q, show eA (E89 (20 + n) (17 + 10 * i)) = w90 from by rw [p_91]; rfl, hp93 t ht, hdmv, hirs, RDp_rd]
          have q2 := h75 i (Nat.le_refl _) (by omega) t ht
          rw [show eA (E5 (20 + n) (17 + 10 * i)) = g4_42 from by rw [c_57]; rfl] at q2
          exact ⟨fun z => ⟨z.1.elim (fun y => absurd y q2) id, z.2⟩, fun z => ⟨Or.inr z.1, z.2⟩⟩
        · rw [(p_92 (20 + n) (17 + 10 * j) (by omega))]; exact hR5 j (by omega) t ht
      have h75 : ∀ j, i + 1 ≤ j → j < mk → CN7 E89 n j := fun j hj hj2 => CN7_fr (p_92 (20 + n) (17 + 10 * j) (by omega)) (h75 j (by omega) hj2)
      refine lv_iinc (k := 0) (x := (nI i)) (v := (nI (i + 1))) hx hb xd_Ly_connect_98 hl rfl (xb_inc i 1) (Nat.le_of_ble_eq_true rfl) rfl (fun ls hl => ?_)
      have hl : lv_has ls 4 [(3, .int (nI (i + 1))), (0, .ref (ad13 (20 + n) 0))] := hl
      refine lv_goto (tgt := 80) hx hb xd_Ly_connect_101 (by decide) ?_
      exact ih39 (i + 1, E89) _ _ _ (show mk - (i + 1) < mk - i by omega) (lv_sub hl [0, 1] rfl) hP hD hS ⟨(show (i + 1) ≤ mk from by first | assumption | omega), (show E89 (20 + n) 0 = .inr (5, [.int (nI n), pv, .ref (ad13 (20 + n) 1), .int lo]) from c_94), (show E89 (20 + n) 1 = .inl (kA 6, mk, .inr (.inr (.inr (.inr fm)))) from c_95), (show ∀ b2 o2, ¬ (b2 = 20 + n) → E89 b2 o2 = E b2 o2 from fun b2 o2 h09 => by show E89 b2 o2 = _; rw [p_92 b2 o2 (by omega), hfr b2 o2 (by omega)]), (show DIs kA ad13 E89 RL15 nd from hDIs), (show LIs kA ad13 E89 RL15 nd nL from hLIs), (show ∀ k, k < mk → fm k = some (ad13 (20 + n) (10 + 10 * k)) ∧ MEI kA ad13 E89 RL15 nd n k from hfm), (show ∀ j, j < mk → CNd g kA ad13 E89 RL15 nd n j from hNd), (show TLas g ad13 E89 nd nL from hTL), (show CBs g E89 (n + 1) from hCB5), (show LBs g E89 n from hLB), (show ∀ j, j < (i + 1) → ∀ t, t < 72 → (BS (eA (E89 (20 + n) (17 + 10 * j))) t ↔ rdQ g n (mdv g n j) t) from hR5), (show ∀ j, (i + 1) ≤ j → j < mk → CN7 E89 n j from h75)⟩
  · refine lv_aload_n hx hb xd_Ly_connect_29 rfl (lv_at hl 3 rfl) ?_
    refine px_get (D := D) (ci := 5) (v := .ref (ad13 (20 + n) 1)) (C := xR_Ly) (T := xT_Ly) (N := 4) hx hb hT xi_Ly hown hK.1 hP m_21 hcA0 rfl 2 (by decide) (hT _ k5v_0) (fun _ h9 => h9) rfl xd_Ly_connect_30 ?_
    refine lv_iload_n hx hb xd_Ly_connect_33 rfl (lv_at hl 0 rfl) ?_
    have hM116 := (hfm i (by omega)).2
    refine px_aald (i := i) (x := (some (ad13 (20 + n) (10 + 10 * i)))) hx hb hK.1 hP m_22 hcA1 6 rfl ((hfm i (by omega)).1) (by omega) (by omega) xd_Ly_connect_34 ?_
    obtain ⟨hm_117, d_117, rs_117, fr_117, g2_117, g3_117, g4_117, hd_117, hrs_117, q0_117, q1_117, q2_117, q3_117, q4_117, q5_117, q6_117, q7_117⟩ := id hM116
    have c_118 : E1 (20 + n) (10 + 10 * i) = .inr (6, [.ref (ad13 (20 + n) 0), .ref (ad13 (1 + d_117) 0), .ref (ad13 (20 + n) (11 + 10 * i)), .ref (ad13 (20 + n) (12 + 10 * i)), .ref (ad13 (20 + n) (13 + 10 * i)), .ref (ad13 (20 + n) (14 + 10 * i))]) := q0_117
    have m_119 : (20 + n, 10 + 10 * i) ∈ RL15 := hm_117 0 (by decide)
    have c_120 : E1 (20 + n) (11 + 10 * i) = .inl (kA 6, rs_117, .inr (.inr (.inr (.inr fr_117)))) := q1_117
    have m_121 : (20 + n, 11 + 10 * i) ∈ RL15 := hm_117 1 (by decide)
    have c_122 : E1 (20 + n) (12 + 10 * i) = .inr (10, [.ref (ad13 (20 + n) (15 + 10 * i))]) := q2_117
    have m_123 : (20 + n, 12 + 10 * i) ∈ RL15 := hm_117 2 (by decide)
    have c_124 : E1 (20 + n) (13 + 10 * i) = .inr (10, [.ref (ad13 (20 + n) (16 + 10 * i))]) := q3_117
    have m_125 : (20 + n, 13 + 10 * i) ∈ RL15 := hm_117 3 (by decide)
    have c_126 : E1 (20 + n) (14 + 10 * i) = .inr (10, [.ref (ad13 (20 + n) (17 + 10 * i))]) := q4_117
    have m_127 : (20 + n, 14 + 10 * i) ∈ RL15 := hm_117 4 (by decide)
    have c_128 : E1 (20 + n) (15 + 10 * i) = .inl (kA 0, 6, .inl g2_117) := q5_117
    have m_129 : (20 + n, 15 + 10 * i) ∈ RL15 := hm_117 5 (by decide)
    have c_130 : E1 (20 + n) (16 + 10 * i) = .inl (kA 0, 6, .inl g3_117) := q6_117
    have m_131 : (20 + n, 16 + 10 * i) ∈ RL15 := hm_117 6 (by decide)
    have c_132 : E1 (20 + n) (17 + 10 * i) = .inl (kA 0, 6, .inl g4_117) := q7_117
    have m_133 : (20 + n, 17 + 10 * i) ∈ RL15 := hm_117 7 (by decide)
    obtain ⟨hm_134, fd_134, nm_134, sd_134, k0_134, k1_134, k2_134, k3_134, f0_134, f1_134, f2_134, f3_134, fe_134, fo_134, tr_134, op_134, hk0_134, hk1_134, hk2_134, hk3_134, q0_134, q1_134, q2_134, q3_134, q4_134, q5_134, q6_134, q7_134, q8_134, q9_134, q10_134, q11_134, q12_134, hg_134⟩ := id (hDIs d_117 (by omega))
    have c_135 : E1 (1 + d_117) 0 = .inr (7, [.int (nI d_117), .int fd_134, .int nm_134, .ref (ad13 (1 + d_117) 1), .ref (ad13 (1 + d_117) 9), .ref (ad13 (1 + d_117) 10), .ref (ad13 (1 + d_117) 2), .ref (ad13 (1 + d_117) 11), .ref (ad13 (1 + d_117) 12), .ref (ad13 (1 + d_117) 3), .ref (ad13 (1 + d_117) 4), .int sd_134]) := q0_134
    have m_136 : (1 + d_117, 0) ∈ RL15 := hm_134 0 (by decide)
    have c_137 : E1 (1 + d_117) 1 = .inr (8, [.ref (ad13 (1 + d_117) 5), .int (nI k0_134)]) := q1_134
    have m_138 : (1 + d_117, 1) ∈ RL15 := hm_134 1 (by decide)
    have c_139 : E1 (1 + d_117) 2 = .inr (8, [.ref (ad13 (1 + d_117) 6), .int (nI k1_134)]) := q2_134
    have m_140 : (1 + d_117, 2) ∈ RL15 := hm_134 2 (by decide)
    have c_141 : E1 (1 + d_117) 3 = .inr (8, [.ref (ad13 (1 + d_117) 7), .int (nI k2_134)]) := q3_134
    have m_142 : (1 + d_117, 3) ∈ RL15 := hm_134 3 (by decide)
    have c_143 : E1 (1 + d_117) 4 = .inr (8, [.ref (ad13 (1 + d_117) 8), .int (nI k3_134)]) := q4_134
    have m_144 : (1 + d_117, 4) ∈ RL15 := hm_134 4 (by decide)
    have c_145 : E1 (1 + d_117) 5 = .inl (kA 0, 6, .inl f0_134) := q5_134
    have m_146 : (1 + d_117, 5) ∈ RL15 := hm_134 5 (by decide)
    have c_147 : E1 (1 + d_117) 6 = .inl (kA 0, 5, .inl f1_134) := q6_134
    have m_148 : (1 + d_117, 6) ∈ RL15 := hm_134 6 (by decide)
    have c_149 : E1 (1 + d_117) 7 = .inl (kA 0, 3, .inl f2_134) := q7_134
    have m_150 : (1 + d_117, 7) ∈ RL15 := hm_134 7 (by decide)
    have c_151 : E1 (1 + d_117) 8 = .inl (kA 0, 3, .inl f3_134) := q8_134
    have m_152 : (1 + d_117, 8) ∈ RL15 := hm_134 8 (by decide)
    have c_153 : E1 (1 + d_117) 9 = .inl (kA 8, 6, .inr (.inr (.inr (.inr fe_134)))) := q9_134
    have m_154 : (1 + d_117, 9) ∈ RL15 := hm_134 9 (by decide)
    have c_155 : E1 (1 + d_117) 10 = .inl (kA 8, 6, .inr (.inr (.inr (.inr fo_134)))) := q10_134
    have m_156 : (1 + d_117, 10) ∈ RL15 := hm_134 10 (by decide)
    have c_157 : E1 (1 + d_117) 11 = .inl (kA 2, 5, .inl tr_134) := q11_134
    have m_158 : (1 + d_117, 11) ∈ RL15 := hm_134 11 (by decide)
    have c_159 : E1 (1 + d_117) 12 = .inl (kA 2, 5, .inl op_134) := q12_134
    have m_160 : (1 + d_117, 12) ∈ RL15 := hm_134 12 (by decide)
    have hg_134 : ∀ w9, w9 < k0_134 → fe_134 w9 = some (ad13 (1 + d_117) (20 + 3 * w9)) ∧ fo_134 w9 = some (ad13 (1 + d_117) (38 + 3 * w9)) ∧ GI kA (ad13 (1 + d_117)) (E1 (1 + d_117)) (fun o => (1 + d_117, o) ∈ RL15) (20 + 3 * w9) (21 + 3 * w9) (22 + 3 * w9) ∧ GI kA (ad13 (1 + d_117)) (E1 (1 + d_117)) (fun o => (1 + d_117, o) ∈ RL15) (38 + 3 * w9) (39 + 3 * w9) (40 + 3 * w9) := hg_134
    obtain ⟨hTT_134, tgr_134⟩ := TD_get hk0_134 hk1_134 hk2_134 hk3_134 c_135 c_137 c_139 c_141 c_143 c_145 c_147 c_149 c_151 c_157 c_159 (hTD1 d_117 (by omega))
    obtain ⟨tfd_134, tnm_134, tsd_134, tk0_134, tf0_134, tk1_134, tf1_134, tk2_134, tk3_134⟩ := id hTT_134
    have ik0_134 : iN (g 5 d_117) = k0_134 := by rw [← tk0_134, iN_nI (by omega)]
    have ik1_134 : iN (g 12 d_117) = k1_134 := by rw [← tk1_134, iN_nI (by omega)]
    have hdmv : mdv g n i = d_117 := by
      obtain ⟨_, _, h20z, hmz⟩ := hTL n hn
      rw [show eL (E1 (20 + n) 1) = mk from by rw [hcA1]; rfl] at h20z hmz
      obtain ⟨dz, hdz, h21z, hvz⟩ := hmz i (by omega)
      rw [c_118] at hvz
      have ez := (rp_inj hD ((hDIs d_117 hd_117).1 0 (by omega)) ((hDIs dz hdz).1 0 (by omega)) (Value.ref.inj hvz)).1
      unfold mdv
      rw [h21z, iN_nI (by omega)]; omega
    have hirs : rs_117 = iN (g 12 d_117) := by
      have q := (hC0 i (Nat.le_refl _) (by omega)).1
      rw [hdmv, c_120] at q; exact q
    have hrsd9 : g 12 d_117 = nI rs_117 := by rw [hirs]; exact nI_iN_of tk1_134 (by omega)
    have hkm9 : i < iN (g 20 n) := by rw [hi20]; omega
    have hFc := px_free hD hS hA
    refine va_callv (va_runV (As := []) (rest := []) ⟨hx, hb, hml, hown, hT⟩ (xc_Me_takeFirstStepsX l D kA H.size ad13 E1 RL15 g nd nL n i d_117 rs_117 fr_117 g2_117 g3_117 m_119 c_118 m_121 c_120 m_123 c_122 m_125 c_124 m_129 c_128 m_131 c_130 (by first | assumption | omega) (by first | assumption | omega) (by first | assumption | omega) (by first | assumption | omega) (by first | assumption | omega) (by first | assumption | omega) (by first | assumption | omega) hTD1 hTL hrsd9 hdmv hCB1 hkm9) (cwV 0 hT (wT_V k5v_13 k5v_14 k5v_15 k5v_11 k5v_12) rfl rfl rfl (by decide +kernel) ⟨Nat.le_of_ble_eq_true rfl, Nat.le_of_ble_eq_true rfl⟩) (px_preV hK hP hD m_119 c_118 rfl) rfl rfl hl.1 rfl (lv_room (Nat.le_of_ble_eq_true rfl)) xd_Ly_connect_35 ⟨(Nat.le_of_ble_eq_true rfl), (Nat.le_of_ble_eq_true rfl)⟩) hS (fun q _ h => hFc q h) hFc (fun u162 t H1 locs ht hvm hp163 hB hz1 hk1 hS => ?_)
    obtain ⟨hP1, hD1⟩ := hB
    rw [ht] at hP1
    have hD1 := hD1.weaken (fun _ _ _ h => hFc _ h)
    generalize H1 = H at hP1 hS ⊢
    have hP := hP1
    have hD := hD1
    obtain ⟨E164, rfl⟩ : ∃ z, z = u162 := ⟨_, rfl⟩
    obtain ⟨w165, w166, w167, hp172, p_168, p_169, p_170, p_171⟩ := hp163
    have p_168 : E164 (20 + n) (11 + 10 * i) = .inl (kA 6, rs_117, .inr (.inr (.inr (.inr w165)))) := p_168
    have p_169 : E164 (20 + n) (15 + 10 * i) = .inl (kA 0, 6, .inl w166) := p_169
    have p_170 : E164 (20 + n) (16 + 10 * i) = .inl (kA 0, 6, .inl w167) := p_170
    have p_171 : (∀ b2 o2, ¬ (b2 = 20 + n ∧ o2 = 11 + 10 * i) → ¬ (b2 = 20 + n ∧ o2 = 15 + 10 * i) → ¬ (b2 = 20 + n ∧ o2 = 16 + 10 * i) → E164 b2 o2 = E1 b2 o2) := p_171
    have c_173 : E164 (20 + n) 0 = .inr (5, [.int (nI n), pv, .ref (ad13 (20 + n) 1), .int lo]) := (p_171 (20 + n) 0 (fun q9 => nr_z q9.2 (by decide)) (fun q9 => nr_z q9.2 (by decide)) (fun q9 => nr_z q9.2 (by decide))).trans hcA0
    have c_174 : E164 (20 + n) 1 = .inl (kA 6, mk, .inr (.inr (.inr (.inr fm)))) := (p_171 (20 + n) 1 (fun q9 => nr_z q9.2 (by decide)) (fun q9 => nr_z q9.2 (by decide)) (fun q9 => nr_z q9.2 (by decide))).trans hcA1
    have c_175 : E164 (20 + n) 2 = .inl (kA 7, mk, .inr (.inr (.inr (.inr fl1)))) := (p_171 (20 + n) 2 (fun q9 => nr_z q9.2 (by decide)) (fun q9 => nr_z q9.2 (by decide)) (fun q9 => nr_z q9.2 (by decide))).trans hcA2
    have c_176 : E164 (20 + n) 3 = .inl (kA 7, mk, .inr (.inr (.inr (.inr fc1)))) := (p_171 (20 + n) 3 (fun q9 => nr_z q9.2 (by decide)) (fun q9 => nr_z q9.2 (by decide)) (fun q9 => nr_z q9.2 (by decide))).trans hcA3
    have c_177 : E164 (20 + n) (10 + 10 * i) = .inr (6, [.ref (ad13 (20 + n) 0), .ref (ad13 (1 + d_117) 0), .ref (ad13 (20 + n) (11 + 10 * i)), .ref (ad13 (20 + n) (12 + 10 * i)), .ref (ad13 (20 + n) (13 + 10 * i)), .ref (ad13 (20 + n) (14 + 10 * i))]) := (p_171 (20 + n) (10 + 10 * i) (fun q9 => nr_k q9.2 (by decide)) (fun q9 => nr_k q9.2 (by decide)) (fun q9 => nr_k q9.2 (by decide))).trans c_118
    have c_178 : E164 (20 + n) (12 + 10 * i) = .inr (10, [.ref (ad13 (20 + n) (15 + 10 * i))]) := (p_171 (20 + n) (12 + 10 * i) (fun q9 => nr_k q9.2 (by decide)) (fun q9 => nr_k q9.2 (by decide)) (fun q9 => nr_k q9.2 (by decide))).trans c_122
    have c_179 : E164 (20 + n) (13 + 10 * i) = .inr (10, [.ref (ad13 (20 + n) (16 + 10 * i))]) := (p_171 (20 + n) (13 + 10 * i) (fun q9 => nr_k q9.2 (by decide)) (fun q9 => nr_k q9.2 (by decide)) (fun q9 => nr_k q9.2 (by decide))).trans c_124
    have c_180 : E164 (20 + n) (14 + 10 * i) = .inr (10, [.ref (ad13 (20 + n) (17 + 10 * i))]) := (p_171 (20 + n) (14 + 10 * i) (fun q9 => nr_k q9.2 (by decide)) (fun q9 => nr_k q9.2 (by decide)) (fun q9 => nr_k q9.2 (by decide))).trans c_126
    have c_181 : E164 (20 + n) (17 + 10 * i) = .inl (kA 0, 6, .inl g4_117) := (p_171 (20 + n) (17 + 10 * i) (fun q9 => nr_k q9.2 (by decide)) (fun q9 => nr_k q9.2 (by decide)) (fun q9 => nr_k q9.2 (by decide))).trans c_132
    have c_182 : E164 (1 + d_117) 0 = .inr (7, [.int (nI d_117), .int fd_134, .int nm_134, .ref (ad13 (1 + d_117) 1), .ref (ad13 (1 + d_117) 9), .ref (ad13 (1 + d_117) 10), .ref (ad13 (1 + d_117) 2), .ref (ad13 (1 + d_117) 11), .ref (ad13 (1 + d_117) 12), .ref (ad13 (1 + d_117) 3), .ref (ad13 (1 + d_117) 4), .int sd_134]) := (p_171 (1 + d_117) 0 (fun q9 => nr_z q9.2 (by decide)) (fun q9 => nr_z q9.2 (by decide)) (fun q9 => nr_z q9.2 (by decide))).trans c_135
    have c_183 : E164 (1 + d_117) 1 = .inr (8, [.ref (ad13 (1 + d_117) 5), .int (nI k0_134)]) := (p_171 (1 + d_117) 1 (fun q9 => nr_z q9.2 (by decide)) (fun q9 => nr_z q9.2 (by decide)) (fun q9 => nr_z q9.2 (by decide))).trans c_137
    have c_184 : E164 (1 + d_117) 2 = .inr (8, [.ref (ad13 (1 + d_117) 6), .int (nI k1_134)]) := (p_171 (1 + d_117) 2 (fun q9 => nr_z q9.2 (by decide)) (fun q9 => nr_z q9.2 (by decide)) (fun q9 => nr_z q9.2 (by decide))).trans c_139
    have c_185 : E164 (1 + d_117) 3 = .inr (8, [.ref (ad13 (1 + d_117) 7), .int (nI k2_134)]) := (p_171 (1 + d_117) 3 (fun q9 => nr_z q9.2 (by decide)) (fun q9 => nr_z q9.2 (by decide)) (fun q9 => nr_z q9.2 (by decide))).trans c_141
    have c_186 : E164 (1 + d_117) 4 = .inr (8, [.ref (ad13 (1 + d_117) 8), .int (nI k3_134)]) := (p_171 (1 + d_117) 4 (fun q9 => nr_z q9.2 (by decide)) (fun q9 => nr_z q9.2 (by decide)) (fun q9 => nr_z q9.2 (by decide))).trans c_143
    have c_187 : E164 (1 + d_117) 5 = .inl (kA 0, 6, .inl f0_134) := (p_171 (1 + d_117) 5 (fun q9 => nr_z q9.2 (by decide)) (fun q9 => nr_z q9.2 (by decide)) (fun q9 => nr_z q9.2 (by decide))).trans c_145
    have c_188 : E164 (1 + d_117) 6 = .inl (kA 0, 5, .inl f1_134) := (p_171 (1 + d_117) 6 (fun q9 => nr_z q9.2 (by decide)) (fun q9 => nr_z q9.2 (by decide)) (fun q9 => nr_z q9.2 (by decide))).trans c_147
    have c_189 : E164 (1 + d_117) 7 = .inl (kA 0, 3, .inl f2_134) := (p_171 (1 + d_117) 7 (fun q9 => nr_z q9.2 (by decide)) (fun q9 => nr_z q9.2 (by decide)) (fun q9 => nr_z q9.2 (by decide))).trans c_149
    have c_190 : E164 (1 + d_117) 8 = .inl (kA 0, 3, .inl f3_134) := (p_171 (1 + d_117) 8 (fun q9 => nr_z q9.2 (by decide)) (fun q9 => nr_z q9.2 (by decide)) (fun q9 => nr_z q9.2 (by decide))).trans c_151
    have c_191 : E164 (1 + d_117) 9 = .inl (kA 8, 6, .inr (.inr (.inr (.inr fe_134)))) := (p_171 (1 + d_117) 9 (fun q9 => nr_z q9.2 (by decide)) (fun q9 => nr_z q9.2 (by decide)) (fun q9 => nr_z q9.2 (by decide))).trans c_153
    have c_192 : E164 (1 + d_117) 10 = .inl (kA 8, 6, .inr (.inr (.inr (.inr fo_134)))) := (p_171 (1 + d_117) 10 (fun q9 => nr_z q9.2 (by decide)) (fun q9 => nr_z q9.2 (by decide)) (fun q9 => nr_z q9.2 (by decide))).trans c_155
    have nb_193 : ¬ (1 + d_117 = 20 + n) := by omega
    have c_194 : E164 (1 + d_117) 11 = .inl (kA 2, 5, .inl tr_134) := (p_171 (1 + d_117) 11 (fun q9 => nb_193 q9.1) (fun q9 => nr_z q9.2 (by decide)) (fun q9 => nr_z q9.2 (by decide))).trans c_157
    have c_195 : E164 (1 + d_117) 12 = .inl (kA 2, 5, .inl op_134) := (p_171 (1 + d_117) 12 (fun q9 => nb_193 q9.1) (fun q9 => nr_z q9.2 (by decide)) (fun q9 => nr_z q9.2 (by decide))).trans c_159
    have hP : va_P D xcl (rp ad13 E164 RL15) H := hP
    have hD : va_D A (rp ad13 E164 RL15) := hD
    have hRU9 : RU kA E1 E164 := RU3 (b := 20 + n) (k := i) (by omega) c_120 c_128 c_130 p_168 p_169 p_170 p_171
    have hDIs := DIs_RU hRU9 hnd12 hDIs
    have hLIs := LIs_RU hRU9 hLIs
    have hfm : ∀ k, k < mk → fm k = some (ad13 (20 + n) (10 + 10 * k)) ∧ MEI kA ad13 E164 RL15 nd n k := fun k h => ⟨(hfm k h).1, MEI_RU hRU9 (hfm k h).2⟩
    have hTL : TLas g ad13 E164 nd nL := TLas_ro (fun n9 o9 hn9 ho9 => p_171 (20 + n9) o9 (by omega) (by omega) (by omega)) hTL
    have hC1 : ∀ j, j < i → CN1 g E164 n j ∧ CNd g kA ad13 E164 RL15 nd n j := fun j hj => ⟨CN1_fr (p_171 (20 + n) (15 + 10 * j) (by omega) (by omega) (by omega)) (p_171 (20 + n) (16 + 10 * j) (by omega) (by omega) (by omega)) (hC1 j hj).1, CNd_RU hRU9 (p_171 (20 + n) (11 + 10 * j) (by omega) (by omega) (by omega)) (hC1 j hj).2⟩
    have hC0i := hC0 i (Nat.le_refl _) (by omega)
    have hC0 : ∀ j, i + 1 ≤ j → j < mk → CN0 g E164 n j := fun j hj hj2 => CN0_fr (p_171 (20 + n) (11 + 10 * j) (by omega) (by omega) (by omega)) (p_171 (20 + n) (15 + 10 * j) (by omega) (by omega) (by omega)) (p_171 (20 + n) (16 + 10 * j) (by omega) (by omega) (by omega)) (hC0 j (by omega) hj2)
    have hC7 : ∀ j, j < mk → CN7 E164 n j := fun j hj => CN7_fr (p_171 (20 + n) (17 + 10 * j) (by omega) (by omega) (by omega)) (hC7 j hj)
    have hN1 : CN1 g E164 n i := fun t ht => ⟨(by
        unfold LSr
        rw [show eA (E164 (20 + n) (15 + 10 * i)) = w166 from by rw [p_169]; rfl, hp172.2.1 t ht, hdmv, ← hirs]
        have q := (hC0i.2 t ht).1
        rw [show eA (E1 (20 + n) (15 + 10 * i)) = g2_117 from by rw [c_128]; rfl] at q
        exact ⟨fun z => z.elim (fun y => absurd y q) id, Or.inr⟩), (by
        unfold CSr
        rw [show eA (E164 (20 + n) (16 + 10 * i)) = w167 from by rw [p_170]; rfl, hp172.2.2 t ht, hdmv, ← hirs]
        have q := (hC0i.2 t ht).2
        rw [show eA (E1 (20 + n) (16 + 10 * i)) = g3_117 from by rw [c_130]; rfl] at q
        exact ⟨fun z => z.elim (fun y => absurd y q) id, Or.inr⟩)⟩
    have hNdi : CNd g kA ad13 E164 RL15 nd n i := ⟨w165, by rw [p_168, hdmv, ← hirs], by rw [hdmv, ← hirs]; exact hp172.1⟩
    refine lv_aload_n hx hb xd_Ly_connect_38 rfl (lv_at hl 2 rfl) ?_
    refine lv_iload_n hx hb xd_Ly_connect_39 rfl (lv_at hl 0 rfl) ?_
    refine lv_aload_n hx hb xd_Ly_connect_40 rfl (lv_at hl 3 rfl) ?_
    refine px_get (D := D) (ci := 5) (v := .ref (ad13 (20 + n) 1)) (C := xR_Ly) (T := xT_Ly) (N := 4) hx hb hT xi_Ly hown hK.1 hP m_21 c_173 rfl 2 (by decide) (hT _ k5v_0) (fun _ h9 => h9) rfl xd_Ly_connect_41 ?_
    refine lv_iload_n hx hb xd_Ly_connect_44 rfl (lv_at hl 0 rfl) ?_
    refine px_aald (i := i) (x := (some (ad13 (20 + n) (10 + 10 * i)))) hx hb hK.1 hP m_22 c_174 6 rfl ((hfm i (by omega)).1) (by omega) (by omega) xd_Ly_connect_45 ?_
    refine px_get (D := D) (ci := 6) (v := .ref (ad13 (20 + n) (12 + 10 * i))) (C := xR_Me) (T := xT_Me) (N := 6) hx hb hT xi_Me hown hK.1 hP m_119 c_177 rfl 3 (by decide) (hT _ k5v_16) (fun _ h9 => h9) rfl xd_Ly_connect_46 ?_
    refine px_aast (i := i) (r := (xR_Re, xT_Re, 1)) hx hb hK.1 hP hD hS m_23 c_175 7 rfl m_123 c_178 rfl (by omega) (by omega) xd_Ly_connect_49 (fun H locs hP hD hS => ?_)
    have hP : va_P D xcl (rp ad13 (up2 E164 (20 + n) 2 (.inl (kA 7, mk, .inr (.inr (.inr (.inr (va_up fl1 i (some (ad13 (20 + n) (12 + 10 * i)))))))))) RL15) H := hP
    have hD : va_D A (rp ad13 (up2 E164 (20 + n) 2 (.inl (kA 7, mk, .inr (.inr (.inr (.inr (va_up fl1 i (some (ad13 (20 + n) (12 + 10 * i)))))))))) RL15) := hD
    generalize hE197 : up2 E164 (20 + n) 2 (.inl (kA 7, mk, .inr (.inr (.inr (.inr (va_up fl1 i (some (ad13 (20 + n) (12 + 10 * i))))))))) = E196 at hP hD
    have fE198 : ∀ b2 o2, ¬ (b2 = 20 + n ∧ o2 = 2) → E196 b2 o2 = E164 b2 o2 := fun b2 o2 h9 => by rw [← hE197]; exact up2_ne (nr_or h9)
    have c_199 : E196 (20 + n) 2 = .inl (kA 7, mk, .inr (.inr (.inr (.inr (va_up fl1 i (some (ad13 (20 + n) (12 + 10 * i)))))))) := by rw [← hE197]; exact up2_eq
    have c_200 : E196 (20 + n) (11 + 10 * i) = .inl (kA 6, rs_117, .inr (.inr (.inr (.inr w165)))) := (fE198 (20 + n) (11 + 10 * i) (fun q9 => nr_y q9.2 (by decide))).trans p_168
    have c_201 : E196 (20 + n) (15 + 10 * i) = .inl (kA 0, 6, .inl w166) := (fE198 (20 + n) (15 + 10 * i) (fun q9 => nr_y q9.2 (by decide))).trans p_169
    have c_202 : E196 (20 + n) (16 + 10 * i) = .inl (kA 0, 6, .inl w167) := (fE198 (20 + n) (16 + 10 * i) (fun q9 => nr_y q9.2 (by decide))).trans p_170
    have c_203 : E196 (20 + n) 0 = .inr (5, [.int (nI n), pv, .ref (ad13 (20 + n) 1), .int lo]) := (fE198 (20 + n) 0 (fun q9 => absurd q9.2 (by decide))).trans c_173
    have c_204 : E196 (20 + n) 1 = .inl (kA 6, mk, .inr (.inr (.inr (.inr fm)))) := (fE198 (20 + n) 1 (fun q9 => absurd q9.2 (by decide))).trans c_174
    have c_205 : E196 (20 + n) 3 = .inl (kA 7, mk, .inr (.inr (.inr (.inr fc1)))) := (fE198 (20 + n) 3 (fun q9 => absurd q9.2 (by decide))).trans c_176
    have c_206 : E196 (20 + n) (10 + 10 * i) = .inr (6, [.ref (ad13 (20 + n) 0), .ref (ad13 (1 + d_117) 0), .ref (ad13 (20 + n) (11 + 10 * i)), .ref (ad13 (20 + n) (12 + 10 * i)), .ref (ad13 (20 + n) (13 + 10 * i)), .ref (ad13 (20 + n) (14 + 10 * i))]) := (fE198 (20 + n) (10 + 10 * i) (fun q9 => nr_y q9.2 (by decide))).trans c_177
    have c_207 : E196 (20 + n) (12 + 10 * i) = .inr (10, [.ref (ad13 (20 + n) (15 + 10 * i))]) := (fE198 (20 + n) (12 + 10 * i) (fun q9 => nr_y q9.2 (by decide))).trans c_178
    have c_208 : E196 (20 + n) (13 + 10 * i) = .inr (10, [.ref (ad13 (20 + n) (16 + 10 * i))]) := (fE198 (20 + n) (13 + 10 * i) (fun q9 => nr_y q9.2 (by decide))).trans c_179
    have c_209 : E196 (20 + n) (14 + 10 * i) = .inr (10, [.ref (ad13 (20 + n) (17 + 10 * i))]) := (fE198 (20 + n) (14 + 10 * i) (fun q9 => nr_y q9.2 (by decide))).trans c_180
    have c_210 : E196 (20 + n) (17 + 10 * i) = .inl (kA 0, 6, .inl g4_117) := (fE198 (20 + n) (17 + 10 * i) (fun q9 => nr_y q9.2 (by decide))).trans c_181
    have c_211 : E196 (1 + d_117) 0 = .inr (7, [.int (nI d_117), .int fd_134, .int nm_134, .ref (ad13 (1 + d_117) 1), .ref (ad13 (1 + d_117) 9), .ref (ad13 (1 + d_117) 10), .ref (ad13 (1 + d_117) 2), .ref (ad13 (1 + d_117) 11), .ref (ad13 (1 + d_117) 12), .ref (ad13 (1 + d_117) 3), .ref (ad13 (1 + d_117) 4), .int sd_134]) := (fE198 (1 + d_117) 0 (fun q9 => absurd q9.2 (by decide))).trans c_182
    have c_212 : E196 (1 + d_117) 1 = .inr (8, [.ref (ad13 (1 + d_117) 5), .int (nI k0_134)]) := (fE198 (1 + d_117) 1 (fun q9 => absurd q9.2 (by decide))).trans c_183
    have c_213 : E196 (1 + d_117) 2 = .inr (8, [.ref (ad13 (1 + d_117) 6), .int (nI k1_134)]) := (fE198 (1 + d_117) 2 (fun q9 => nb_193 q9.1)).trans c_184
    have c_214 : E196 (1 + d_117) 3 = .inr (8, [.ref (ad13 (1 + d_117) 7), .int (nI k2_134)]) := (fE198 (1 + d_117) 3 (fun q9 => absurd q9.2 (by decide))).trans c_185
    have c_215 : E196 (1 + d_117) 4 = .inr (8, [.ref (ad13 (1 + d_117) 8), .int (nI k3_134)]) := (fE198 (1 + d_117) 4 (fun q9 => absurd q9.2 (by decide))).trans c_186
    have c_216 : E196 (1 + d_117) 5 = .inl (kA 0, 6, .inl f0_134) := (fE198 (1 + d_117) 5 (fun q9 => absurd q9.2 (by decide))).trans c_187
    have c_217 : E196 (1 + d_117) 6 = .inl (kA 0, 5, .inl f1_134) := (fE198 (1 + d_117) 6 (fun q9 => absurd q9.2 (by decide))).trans c_188
    have c_218 : E196 (1 + d_117) 7 = .inl (kA 0, 3, .inl f2_134) := (fE198 (1 + d_117) 7 (fun q9 => absurd q9.2 (by decide))).trans c_189
    have c_219 : E196 (1 + d_117) 8 = .inl (kA 0, 3, .inl f3_134) := (fE198 (1 + d_117) 8 (fun q9 => absurd q9.2 (by decide))).trans c_190
    have c_220 : E196 (1 + d_117) 9 = .inl (kA 8, 6, .inr (.inr (.inr (.inr fe_134)))) := (fE198 (1 + d_117) 9 (fun q9 => absurd q9.2 (by decide))).trans c_191
    have c_221 : E196 (1 + d_117) 10 = .inl (kA 8, 6, .inr (.inr (.inr (.inr fo_134)))) := (fE198 (1 + d_117) 10 (fun q9 => absurd q9.2 (by decide))).trans c_192
    have c_222 : E196 (1 + d_117) 11 = .inl (kA 2, 5, .inl tr_134) := (fE198 (1 + d_117) 11 (fun q9 => absurd q9.2 (by decide))).trans c_194
    have c_223 : E196 (1 + d_117) 12 = .inl (kA 2, 5, .inl op_134) := (fE198 (1 + d_117) 12 (fun q9 => absurd q9.2 (by decide))).trans c_195
    refine lv_aload_n hx hb xd_Ly_connect_50 rfl (lv_at hl 1 rfl) ?_
    refine lv_iload_n hx hb xd_Ly_connect_51 rfl (lv_at hl 0 rfl) ?_
    refine lv_aload_n hx hb xd_Ly_connect_52 rfl (lv_at hl 3 rfl) ?_
    refine px_get (D := D) (ci := 5) (v := .ref (ad13 (20 + n) 1)) (C := xR_Ly) (T := xT_Ly) (N := 4) hx hb hT xi_Ly hown hK.1 hP m_21 c_203 rfl 2 (by decide) (hT _ k5v_0) (fun _ h9 => h9) rfl xd_Ly_connect_53 ?_
    refine lv_iload_n hx hb xd_Ly_connect_56 rfl (lv_at hl 0 rfl) ?_
    refine px_aald (i := i) (x := (some (ad13 (20 + n) (10 + 10 * i)))) hx hb hK.1 hP m_22 c_204 6 rfl ((hfm i (by omega)).1) (by omega) (by omega) xd_Ly_connect_57 ?_
    refine px_get (D := D) (ci := 6) (v := .ref (ad13 (20 + n) (13 + 10 * i))) (C := xR_Me) (T := xT_Me) (N := 6) hx hb hT xi_Me hown hK.1 hP m_119 c_206 rfl 4 (by decide) (hT _ k5v_17) (fun _ h9 => h9) rfl xd_Ly_connect_58 ?_
    refine px_aast (i := i) (r := (xR_Re, xT_Re, 1)) hx hb hK.1 hP hD hS m_20 c_205 7 rfl m_125 c_208 rfl (by omega) (by omega) xd_Ly_connect_61 (fun H locs hP hD hS => ?_)
    have hP : va_P D xcl (rp ad13 (up2 E196 (20 + n) 3 (.inl (kA 7, mk, .inr (.inr (.inr (.inr (va_up fc1 i (some (ad13 (20 + n) (13 + 10 * i)))))))))) RL15) H := hP
    have hD : va_D A (rp ad13 (up2 E196 (20 + n) 3 (.inl (kA 7, mk, .inr (.inr (.inr (.inr (va_up fc1 i (some (ad13 (20 + n) (13 + 10 * i)))))))))) RL15) := hD
    generalize hE225 : up2 E196 (20 + n) 3 (.inl (kA 7, mk, .inr (.inr (.inr (.inr (va_up fc1 i (some (ad13 (20 + n) (13 + 10 * i))))))))) = E224 at hP hD
    have fE226 : ∀ b2 o2, ¬ (b2 = 20 + n ∧ o2 = 3) → E224 b2 o2 = E196 b2 o2 := fun b2 o2 h9 => by rw [← hE225]; exact up2_ne (nr_or h9)
    have c_227 : E224 (20 + n) 3 = .inl (kA 7, mk, .inr (.inr (.inr (.inr (va_up fc1 i (some (ad13 (20 + n) (13 + 10 * i)))))))) := by rw [← hE225]; exact up2_eq
    have c_228 : E224 (20 + n) 2 = .inl (kA 7, mk, .inr (.inr (.inr (.inr (va_up fl1 i (some (ad13 (20 + n) (12 + 10 * i)))))))) := (fE226 (20 + n) 2 (fun q9 => absurd q9.2 (by decide))).trans c_199
    have c_229 : E224 (20 + n) (11 + 10 * i) = .inl (kA 6, rs_117, .inr (.inr (.inr (.inr w165)))) := (fE226 (20 + n) (11 + 10 * i) (fun q9 => nr_y q9.2 (by decide))).trans c_200
    have c_230 : E224 (20 + n) (15 + 10 * i) = .inl (kA 0, 6, .inl w166) := (fE226 (20 + n) (15 + 10 * i) (fun q9 => nr_y q9.2 (by decide))).trans c_201
    have c_231 : E224 (20 + n) (16 + 10 * i) = .inl (kA 0, 6, .inl w167) := (fE226 (20 + n) (16 + 10 * i) (fun q9 => nr_y q9.2 (by decide))).trans c_202
    have c_232 : E224 (20 + n) 0 = .inr (5, [.int (nI n), pv, .ref (ad13 (20 + n) 1), .int lo]) := (fE226 (20 + n) 0 (fun q9 => absurd q9.2 (by decide))).trans c_203
    have c_233 : E224 (20 + n) 1 = .inl (kA 6, mk, .inr (.inr (.inr (.inr fm)))) := (fE226 (20 + n) 1 (fun q9 => absurd q9.2 (by decide))).trans c_204
    have c_234 : E224 (20 + n) (10 + 10 * i) = .inr (6, [.ref (ad13 (20 + n) 0), .ref (ad13 (1 + d_117) 0), .ref (ad13 (20 + n) (11 + 10 * i)), .ref (ad13 (20 + n) (12 + 10 * i)), .ref (ad13 (20 + n) (13 + 10 * i)), .ref (ad13 (20 + n) (14 + 10 * i))]) := (fE226 (20 + n) (10 + 10 * i) (fun q9 => nr_y q9.2 (by decide))).trans c_206
    have c_235 : E224 (20 + n) (12 + 10 * i) = .inr (10, [.ref (ad13 (20 + n) (15 + 10 * i))]) := (fE226 (20 + n) (12 + 10 * i) (fun q9 => nr_y q9.2 (by decide))).trans c_207
    have c_236 : E224 (20 + n) (13 + 10 * i) = .inr (10, [.ref (ad13 (20 + n) (16 + 10 * i))]) := (fE226 (20 + n) (13 + 10 * i) (fun q9 => nr_y q9.2 (by decide))).trans c_208
    have c_237 : E224 (20 + n) (14 + 10 * i) = .inr (10, [.ref (ad13 (20 + n) (17 + 10 * i))]) := (fE226 (20 + n) (14 + 10 * i) (fun q9 => nr_y q9.2 (by decide))).trans c_209
    have c_238 : E224 (20 + n) (17 + 10 * i) = .inl (kA 0, 6, .inl g4_117) := (fE226 (20 + n) (17 + 10 * i) (fun q9 => nr_y q9.2 (by decide))).trans c_210
    have c_239 : E224 (1 + d_117) 0 = .inr (7, [.int (nI d_117), .int fd_134, .int nm_134, .ref (ad13 (1 + d_117) 1), .ref (ad13 (1 + d_117) 9), .ref (ad13 (1 + d_117) 10), .ref (ad13 (1 + d_117) 2), .ref (ad13 (1 + d_117) 11), .ref (ad13 (1 + d_117) 12), .ref (ad13 (1 + d_117) 3), .ref (ad13 (1 + d_117) 4), .int sd_134]) := (fE226 (1 + d_117) 0 (fun q9 => absurd q9.2 (by decide))).trans c_211
    have c_240 : E224 (1 + d_117) 1 = .inr (8, [.ref (ad13 (1 + d_117) 5), .int (nI k0_134)]) := (fE226 (1 + d_117) 1 (fun q9 => absurd q9.2 (by decide))).trans c_212
    have c_241 : E224 (1 + d_117) 2 = .inr (8, [.ref (ad13 (1 + d_117) 6), .int (nI k1_134)]) := (fE226 (1 + d_117) 2 (fun q9 => absurd q9.2 (by decide))).trans c_213
    have c_242 : E224 (1 + d_117) 3 = .inr (8, [.ref (ad13 (1 + d_117) 7), .int (nI k2_134)]) := (fE226 (1 + d_117) 3 (fun q9 => nb_193 q9.1)).trans c_214
    have c_243 : E224 (1 + d_117) 4 = .inr (8, [.ref (ad13 (1 + d_117) 8), .int (nI k3_134)]) := (fE226 (1 + d_117) 4 (fun q9 => absurd q9.2 (by decide))).trans c_215
    have c_244 : E224 (1 + d_117) 5 = .inl (kA 0, 6, .inl f0_134) := (fE226 (1 + d_117) 5 (fun q9 => absurd q9.2 (by decide))).trans c_216
    have c_245 : E224 (1 + d_117) 6 = .inl (kA 0, 5, .inl f1_134) := (fE226 (1 + d_117) 6 (fun q9 => absurd q9.2 (by decide))).trans c_217
    have c_246 : E224 (1 + d_117) 7 = .inl (kA 0, 3, .inl f2_134) := (fE226 (1 + d_117) 7 (fun q9 => absurd q9.2 (by decide))).trans c_218
    have c_247 : E224 (1 + d_117) 8 = .inl (kA 0, 3, .inl f3_134) := (fE226 (1 + d_117) 8 (fun q9 => absurd q9.2 (by decide))).trans c_219
    have c_248 : E224 (1 + d_117) 9 = .inl (kA 8, 6, .inr (.inr (.inr (.inr fe_134)))) := (fE226 (1 + d_117) 9 (fun q9 => absurd q9.2 (by decide))).trans c_220
    have c_249 : E224 (1 + d_117) 10 = .inl (kA 8, 6, .inr (.inr (.inr (.inr fo_134)))) := (fE226 (1 + d_117) 10 (fun q9 => absurd q9.2 (by decide))).trans c_221
    have c_250 : E224 (1 + d_117) 11 = .inl (kA 2, 5, .inl tr_134) := (fE226 (1 + d_117) 11 (fun q9 => absurd q9.2 (by decide))).trans c_222
    have c_251 : E224 (1 + d_117) 12 = .inl (kA 2, 5, .inl op_134) := (fE226 (1 + d_117) 12 (fun q9 => absurd q9.2 (by decide))).trans c_223
    refine lv_iinc (k := 0) (x := (nI i)) (v := (nI (i + 1))) hx hb xd_Ly_connect_62 hl rfl (xb_inc i 1) (Nat.le_of_ble_eq_true rfl) rfl (fun ls hl => ?_)
    have hl : lv_has ls 4 [(3, .int (nI (i + 1))), (2, .ref (ad13 (20 + n) 3)), (1, .ref (ad13 (20 + n) 2)), (0, .ref (ad13 (20 + n) 0))] := hl
    refine lv_goto (tgt := 20) hx hb xd_Ly_connect_65 (by decide) ?_
    exact ih29 (i + 1, E224, (va_up fl1 i (some (ad13 (20 + n) (12 + 10 * i)))), (va_up fc1 i (some (ad13 (20 + n) (13 + 10 * i))))) _ _ _ (show mk - (i + 1) < mk - i by omega) (lv_sub hl [0, 1, 2, 3] rfl) hP hD hS ⟨(show (i + 1) ≤ mk from by first | assumption | omega), (show E224 (20 + n) 0 = .inr (5, [.int (nI n), pv, .ref (ad13 (20 + n) 1), .int lo]) from c_232), (show E224 (20 + n) 1 = .inl (kA 6, mk, .inr (.inr (.inr (.inr fm)))) from c_233), (show E224 (20 + n) 2 = .inl (kA 7, mk, .inr (.inr (.inr (.inr (va_up fl1 i (some (ad13 (20 + n) (12 + 10 * i)))))))) from c_228), (show E224 (20 + n) 3 = .inl (kA 7, mk, .inr (.inr (.inr (.inr (va_up fc1 i (some (ad13 (20 + n) (13 + 10 * i)))))))) from c_227), (show ∀ b2 o2, ¬ (b2 = 20 + n) → E224 b2 o2 = E b2 o2 from fun b2 o2 h09 => by show E224 b2 o2 = _; rw [fE226 b2 o2 (by omega), fE198 b2 o2 (by omega), p_171 b2 o2 (by omega) (by omega) (by omega), hfr b2 o2 (by omega)]), (show DIs kA ad13 E224 RL15 nd from DIs_23 (show R23 n E164 E224 from fun b2 o2 h9 => by rw [fE226 b2 o2 (by omega), fE198 b2 o2 (by omega)]) (fun _ _ _ => rfl) (fun _ h => h) hnd12 hDIs), (show LIs kA ad13 E224 RL15 nd nL from LIs_23 (show R23 n E164 E224 from fun b2 o2 h9 => by rw [fE226 b2 o2 (by omega), fE198 b2 o2 (by omega)]) (fun _ _ _ => rfl) (fun _ h => h) hLIs), (show ∀ k, k < mk → fm k = some (ad13 (20 + n) (10 + 10 * k)) ∧ MEI kA ad13 E224 RL15 nd n k from fun k h => ⟨(hfm k h).1, MEI_23 (show R23 n E164 E224 from fun b2 o2 h9 => by rw [fE226 b2 o2 (by omega), fE198 b2 o2 (by omega)]) (fun _ _ _ => rfl) (fun _ h => h) (hfm k h).2⟩), (show ∀ j, j < (i + 1) → (va_up fl1 i (some (ad13 (20 + n) (12 + 10 * i)))) j = some (ad13 (20 + n) (12 + 10 * j)) ∧ (va_up fc1 i (some (ad13 (20 + n) (13 + 10 * i)))) j = some (ad13 (20 + n) (13 + 10 * j)) from fun j hj => by
        by_cases q : j = i
        · subst q; exact ⟨vu_eq, vu_eq⟩
        · obtain ⟨q1, q2⟩ := hdone j (by omega); exact ⟨(vu_ne q).trans q1, (vu_ne q).trans q2⟩), (show TLas g ad13 E224 nd nL from TLas_23 (show R23 n E164 E224 from fun b2 o2 h9 => by rw [fE226 b2 o2 (by omega), fE198 b2 o2 (by omega)]) (fun _ _ _ => rfl) hTL hnd12), (show ∀ j, j < (i + 1) → CN1 g E224 n j ∧ CNd g kA ad13 E224 RL15 nd n j from fun j hj => by
        have h23 := (show R23 n E164 E224 from fun b2 o2 h9 => by rw [fE226 b2 o2 (by omega), fE198 b2 o2 (by omega)])
        by_cases q : j = i
        · rw [q]; exact ⟨CN1_23 h23 hN1, CNd_23 h23 hNdi⟩
        · exact ⟨CN1_23 h23 (hC1 j (by omega)).1, CNd_23 h23 (hC1 j (by omega)).2⟩), (show ∀ j, (i + 1) ≤ j → j < mk → CN0 g E224 n j from fun j hj hj2 => CN0_23 (show R23 n E164 E224 from fun b2 o2 h9 => by rw [fE226 b2 o2 (by omega), fE198 b2 o2 (by omega)]) (hC0 j hj hj2)), (show ∀ j, j < mk → CN7 E224 n j from fun j hj => CN7_23 (show R23 n E164 E224 from fun b2 o2 h9 => by rw [fE226 b2 o2 (by omega), fE198 b2 o2 (by omega)]) (hC7 j hj))⟩
def LKP (g : gT) (np : Nat) : Prop := (∀ x, x < np → prv g x ≤ x) ∧ ∀ la, la < np → mcv g la ≤ 12 ∧ ∀ k, k < mcv g la → mdv g la k < 12
theorem LKP_L {g : gT} {kA : Nat → ClassId} {ad : Nat → Nat → Nat} {E : Nat → Nat → va_E} {RL : List (Nat × Nat)} {nd nL : Nat} (hL : nL ≤ 6) (hnd : nd ≤ 12) (hI : LIs kA ad E RL nd nL) (h : TLas g ad E nd nL) : LKP g nL := ⟨prv_T hL h, fun la hl => ⟨by
  obtain ⟨_, _, pv, op, mk, fm, hm, _, _, c1, _⟩ := hI la hl
  obtain ⟨_, _, h3, _⟩ := h la hl
  rw [c1] at h3
  have h3 : g 20 la = nI mk := h3
  unfold mcv
  rw [h3, iN_nI (by omega)]; exact hm, fun k hk => (LKH_L hL hnd hl hI h).2 la (by omega) k hk⟩⟩
def AQ (g g2 : gT) (d : Nat) : Prop := g2 4 d = g 4 d ∧ g2 12 d = g 12 d ∧ ∀ i, i < iN (g 12 d) → g2 13 (5 * d + i) = g 13 (5 * d + i) ∧ g2 16 (5 * d + i) = g 16 (5 * d + i) ∧ g2 17 (5 * d + i) = g 17 (5 * d + i)
def VQ (g g2 : gT) (np : Nat) : Prop := ∀ la, la < np → mcv g2 la = mcv g la ∧ prv g2 la = prv g la ∧ ∀ k, k < mcv g la → mdv g2 la k = mdv g la k ∧ AQ g g2 (mdv g la k)
theorem lkG_VQ {g g2 : gT} {np lq : Nat} {n : Int32} (hk : LKP g np) (hv : VQ g g2 np) (hl : lq ≤ np) : lkG g2 lq n = lkG g lq n := lkf_same lq lq lq (Nat.le_refl _) (Nat.le_refl _) (fun x hx => hk.1 x (by omega)) (fun la hla => ⟨(hv la (by omega)).1, (hv la (by omega)).2.1, fun k hk9 => ⟨((hv la (by omega)).2.2 k hk9).1, ((hv la (by omega)).2.2 k hk9).2.1⟩⟩)
def PM (g : gT) (np a : Nat) : Prop := a / 12 < np ∧ ∃ k, k < mcv g (a / 12) ∧ mdv g (a / 12) k = a % 12
theorem PM_of {g : gT} {np la k : Nat} (hk : LKP g np) (hl : la < np) (h : k < mcv g la) : PM g np (12 * la + mdv g la k) := by
  have q := (hk.2 la hl).2 k h
  unfold PM
  rw [show (12 * la + mdv g la k) / 12 = la by omega, show (12 * la + mdv g la k) % 12 = mdv g la k by omega]
  exact ⟨hl, k, h, rfl⟩
theorem lkG_ltQ {g : gT} {np lq la b : Nat} {nm : Int32} (hk : LKP g np) (hl : lq ≤ np) (h : lkG g lq nm = some (la, b)) : la < lq ∧ b < 12 ∧ PM g np (12 * la + b) := by
  obtain ⟨q1, k, q2, q3, _⟩ := lkf_lt lq lq (fun x hx => hk.1 x (by omega)) h
  subst q3
  exact ⟨q1, (hk.2 la (by omega)).2 k q2, PM_of hk (by omega) q2⟩
theorem AQ_at {g g2 : gT} {np a : Nat} (hv : VQ g g2 np) (ha : PM g np a) : AQ g g2 (a % 12) := by
  obtain ⟨h1, k, h2, h3⟩ := ha
  have q := ((hv _ h1).2.2 k h2).2
  rw [h3] at q; exact q
theorem pst_VQ {g g2 : gT} {np a b : Nat} (hk : LKP g np) (hv : VQ g g2 np) (ha : PM g np a) : pst g2 a b ↔ pst g a b := by
  obtain ⟨_, q2, q3⟩ := AQ_at hv ha
  unfold pst
  rw [q2]
  have e : ∀ i, 5 * (a % 12) ≤ i → i < 5 * (a % 12) + iN (g 12 (a % 12)) → g2 13 i = g 13 i ∧ g2 16 i = g 16 i := fun i h1 h2 => by
    have z := q3 (i - 5 * (a % 12)) (by omega)
    rw [show 5 * (a % 12) + (i - 5 * (a % 12)) = i by omega] at z
    exact ⟨z.1, z.2.1⟩
  have hl : ∀ n, lkG g2 (a / 12 + 1) n = lkG g (a / 12 + 1) n := fun n => lkG_VQ hk hv (by have z := ha.1; omega)
  constructor
  · intro ⟨i, h1, h2, h3, la, x, h4, h5⟩
    rw [(e i h1 h2).2] at h3
    rw [(e i h1 h2).1, hl] at h4
    exact ⟨i, h1, h2, h3, la, x, h4, h5⟩
  · intro ⟨i, h1, h2, h3, la, x, h4, h5⟩
    rw [← (e i h1 h2).2] at h3
    rw [← (e i h1 h2).1, ← hl] at h4
    exact ⟨i, h1, h2, h3, la, x, h4, h5⟩
theorem pst_PM {g : gT} {np a b : Nat} (hk : LKP g np) (ha : PM g np a) (h : pst g a b) : PM g np b := by
  obtain ⟨i, _, _, _, la, x, h4, h5⟩ := h
  rw [h5]; exact (lkG_ltQ hk (by have z := ha.1; omega) h4).2.2
theorem tc_VQ {g g2 : gT} {np a b : Nat} (hk : LKP g np) (hv : VQ g g2 np) (ha : PM g np a) : tc (pst g2) a b ↔ tc (pst g) a b := by
  constructor
  · intro h
    refine (tc_min (S := fun x => tc (pst g) a x ∧ PM g np x) ?_ ?_ h).1
    · intro x hx
      have hx := (pst_VQ hk hv ha).mp hx
      exact ⟨tc_1 hx, pst_PM hk ha hx⟩
    · intro x y ⟨h1, h2⟩ hx
      have hx := (pst_VQ hk hv h2).mp hx
      exact ⟨tc_s h1 hx, pst_PM hk h2 hx⟩
  · intro h
    refine (tc_min (S := fun x => tc (pst g2) a x ∧ PM g np x) ?_ ?_ h).1
    · intro x hx
      exact ⟨tc_1 ((pst_VQ hk hv ha).mpr hx), pst_PM hk ha hx⟩
    · intro x y ⟨h1, h2⟩ hx
      exact ⟨tc_s h1 ((pst_VQ hk hv h2).mpr hx), pst_PM hk h2 hx⟩
theorem rd0_VQ {g g2 : gT} {np ly k b : Nat} (hk : LKP g np) (hv : VQ g g2 np) (hl : ly < np) (hm : k < mcv g ly) : rd0 g2 ly (mdv g ly k) (5 * mdv g ly k + iN (g 12 (mdv g ly k))) b ↔ rd0 g ly (mdv g ly k) (5 * mdv g ly k + iN (g 12 (mdv g ly k))) b := by
  obtain ⟨_, _, q3⟩ := ((hv ly hl).2.2 k hm).2
  have e : ∀ i, 5 * mdv g ly k ≤ i → i < 5 * mdv g ly k + iN (g 12 (mdv g ly k)) → g2 13 i = g 13 i := fun i h1 h2 => by
    have z := q3 (i - 5 * mdv g ly k) (by omega)
    rw [show 5 * mdv g ly k + (i - 5 * mdv g ly k) = i by omega] at z
    exact z.1
  have hlk : ∀ n, lkG g2 (ly + 1) n = lkG g (ly + 1) n := fun n => lkG_VQ hk hv (by omega)
  constructor
  · intro ⟨i, h1, h2, la, x, h4, h5⟩
    rw [e i h1 h2, hlk] at h4
    exact ⟨i, h1, h2, la, x, h4, h5⟩
  · intro ⟨i, h1, h2, la, x, h4, h5⟩
    rw [← e i h1 h2, ← hlk] at h4
    exact ⟨i, h1, h2, la, x, h4, h5⟩
theorem rdQ_VQ {g g2 : gT} {np ly k b : Nat} (hk : LKP g np) (hv : VQ g g2 np) (hl : ly < np) (hm : k < mcv g ly) : rdQ g2 ly (mdv g ly k) b ↔ rdQ g ly (mdv g ly k) b := by
  have e12 := ((hv ly hl).2.2 k hm).2.2.1
  unfold rdQ rdP
  rw [e12]
  have hP : ∀ c, rd0 g ly (mdv g ly k) (5 * mdv g ly k + iN (g 12 (mdv g ly k))) c → PM g np c := fun c ⟨i, _, _, la, x, h4, h5⟩ => by rw [h5]; exact (lkG_ltQ hk (by omega) h4).2.2
  constructor
  · rintro ⟨q | ⟨c, q1, q2⟩, q3⟩
    · exact ⟨Or.inl ((rd0_VQ hk hv hl hm).mp q), q3⟩
    · have q1 := (rd0_VQ hk hv hl hm).mp q1
      exact ⟨Or.inr ⟨c, q1, (tc_VQ hk hv (hP c q1)).mp q2⟩, q3⟩
  · rintro ⟨q | ⟨c, q1, q2⟩, q3⟩
    · exact ⟨Or.inl ((rd0_VQ hk hv hl hm).mpr q), q3⟩
    · exact ⟨Or.inr ⟨c, (rd0_VQ hk hv hl hm).mpr q1, (tc_VQ hk hv (hP c q1)).mpr q2⟩, q3⟩
theorem stp_VQ {g g2 : gT} {np ly k b : Nat} (hk : LKP g np) (hv : VQ g g2 np) (hl : ly < np) (hm : k < mcv g ly) : stp g2 ly (mdv g ly k) b ↔ stp g ly (mdv g ly k) b := by
  obtain ⟨_, q2, q3⟩ := ((hv ly hl).2.2 k hm).2
  unfold stp
  rw [q2]
  have e : ∀ i, 5 * mdv g ly k ≤ i → i < 5 * mdv g ly k + iN (g 12 (mdv g ly k)) → g2 13 i = g 13 i ∧ g2 17 i = g 17 i := fun i h1 h2 => by
    have z := q3 (i - 5 * mdv g ly k) (by omega)
    rw [show 5 * mdv g ly k + (i - 5 * mdv g ly k) = i by omega] at z
    exact ⟨z.1, z.2.2⟩
  have hlk : ∀ n, lkG g2 (ly + 1) n = lkG g (ly + 1) n := fun n => lkG_VQ hk hv (by omega)
  constructor
  · intro ⟨i, h1, h2, h3, h4⟩
    rw [(e i h1 h2).2] at h3
    rw [(e i h1 h2).1, hlk] at h4
    exact ⟨i, h1, h2, h3, h4⟩
  · intro ⟨i, h1, h2, h3, h4⟩
    rw [← (e i h1 h2).2] at h3
    rw [← (e i h1 h2).1, ← hlk] at h4
    exact ⟨i, h1, h2, h3, h4⟩
theorem stp_mem {g : gT} {np ly a b : Nat} (hk : LKP g np) (hl : ly < np) (h : stp g ly a b) : ∃ k, k < mcv g ly ∧ mdv g ly k = b := by
  obtain ⟨i, _, _, _, h4⟩ := h
  obtain ⟨_, k, q2, q3, _⟩ := lkf_lt (ly + 1) (ly + 1) (fun x hx => hk.1 x (by omega)) h4
  exact ⟨k, q2, q3⟩
theorem tcs_VQ {g g2 : gT} {np ly k b : Nat} (hk : LKP g np) (hv : VQ g g2 np) (hl : ly < np) (hm : k < mcv g ly) : tc (stp g2 ly) (mdv g ly k) b ↔ tc (stp g ly) (mdv g ly k) b := by
  constructor
  · intro h
    refine (tc_min (S := fun x => tc (stp g ly) (mdv g ly k) x ∧ ∃ j, j < mcv g ly ∧ mdv g ly j = x) ?_ ?_ h).1
    · intro x hx
      have hx := (stp_VQ hk hv hl hm).mp hx
      exact ⟨tc_1 hx, stp_mem hk hl hx⟩
    · intro x y ⟨h1, j, h2, h3⟩ hx
      subst h3
      have hx := (stp_VQ hk hv hl h2).mp hx
      exact ⟨tc_s h1 hx, stp_mem hk hl hx⟩
  · intro h
    refine (tc_min (S := fun x => tc (stp g2 ly) (mdv g ly k) x ∧ ∃ j, j < mcv g ly ∧ mdv g ly j = x) ?_ ?_ h).1
    · intro x hx
      exact ⟨tc_1 ((stp_VQ hk hv hl hm).mpr hx), stp_mem hk hl hx⟩
    · intro x y ⟨h1, j, h2, h3⟩ hx
      subst h3
      exact ⟨tc_s h1 ((stp_VQ hk hv hl h2).mpr hx), stp_mem hk hl hx⟩
theorem CBs_VQ {g g2 : gT} {E : Nat → Nat → va_E} {np : Nat} (hk : LKP g np) (hv : VQ g g2 np) (h : CBs g E np) : CBs g2 E np := fun la hl k hk9 t ht => by
  obtain ⟨e1, _, e3⟩ := hv la hl
  have hm : k < mcv g la := by rw [← e1]; exact hk9
  rw [(e3 k hm).1, tc_VQ hk hv (PM_of hk hl hm)]
  exact h la hl k hm t ht
theorem RBs_VQ {g g2 : gT} {E : Nat → Nat → va_E} {np n : Nat} (hk : LKP g np) (hv : VQ g g2 np) (hl : n < np) (h : RBs g E n) : RBs g2 E n := fun k hk9 t ht => by
  obtain ⟨e1, _, e3⟩ := hv n hl
  have hm : k < mcv g n := by rw [← e1]; exact hk9
  rw [(e3 k hm).1, rdQ_VQ hk hv hl hm]
  exact h k hm t ht
def gDr (g : gT) (ml lq : Nat) (L : List Nat) : gT := va_up (va_up (va_up (va_up g 19 (upd (g 19) ml (nI lq - 1))) 20 (upd (g 20) ml (nI L.length))) 21 (fun i => if 12 * ml ≤ i ∧ i < 12 * ml + L.length then nI (L.getD (i - 12 * ml) 0) else g 21 i)) 22 (upd (g 22) ml 1)
theorem gDr_o {g : gT} {ml lq j : Nat} {L : List Nat} (h1 : j ≠ 19) (h2 : j ≠ 20) (h3 : j ≠ 21) (h4 : j ≠ 22) : gDr g ml lq L j = g j := by unfold gDr; rw [vu_ne h4, vu_ne h3, vu_ne h2, vu_ne h1]
theorem gDr_19 {g : gT} {ml lq : Nat} {L : List Nat} : gDr g ml lq L 19 = upd (g 19) ml (nI lq - 1) := by unfold gDr; rw [vu_ne (by decide), vu_ne (by decide), vu_ne (by decide), vu_eq]
theorem gDr_20 {g : gT} {ml lq : Nat} {L : List Nat} : gDr g ml lq L 20 = upd (g 20) ml (nI L.length) := by unfold gDr; rw [vu_ne (by decide), vu_ne (by decide), vu_eq]
theorem gDr_21 {g : gT} {ml lq i : Nat} {L : List Nat} : gDr g ml lq L 21 i = if 12 * ml ≤ i ∧ i < 12 * ml + L.length then nI (L.getD (i - 12 * ml) 0) else g 21 i := by unfold gDr; rw [vu_ne (by decide), vu_eq]
theorem gDr_22 {g : gT} {ml lq : Nat} {L : List Nat} : gDr g ml lq L 22 = upd (g 22) ml 1 := by unfold gDr; rw [vu_eq]
theorem gDr_21n {g : gT} {ml lq k : Nat} {L : List Nat} (h : k < L.length) : gDr g ml lq L 21 (12 * ml + k) = nI (L.getD k 0) := by rw [gDr_21, if_pos (by omega), show 12 * ml + k - 12 * ml = k by omega]
theorem gDr_21o {g : gT} {ml lq i : Nat} {L : List Nat} (h : i < 12 * ml) : gDr g ml lq L 21 i = g 21 i := by rw [gDr_21, if_neg (by omega)]
theorem gDr_md {g : gT} {ml lq k nd : Nat} {L : List Nat} (hG : GL nd L) (hnd : nd ≤ 12) (h : k < L.length) : mdv (gDr g ml lq L) ml k = L.getD k 0 := by
  unfold mdv
  rw [gDr_21n h, iN_nI (by have q := hG.1 _ (getD_mem h); omega)]
theorem AQ_of {g g2 : gT} {d : Nat} (h : ∀ j, 3 ≤ j → j ≤ 17 → j ≠ 11 → g2 j = g j) : AQ g g2 d := ⟨congrFun (h 4 (by omega) (by omega) (by omega)) d, congrFun (h 12 (by omega) (by omega) (by omega)) d, fun i _ => ⟨congrFun (h 13 (by omega) (by omega) (by omega)) _, congrFun (h 16 (by omega) (by omega) (by omega)) _, congrFun (h 17 (by omega) (by omega) (by omega)) _⟩⟩
theorem VQ_of {g g2 : gT} {np : Nat} (hk : LKP g np) (h : ∀ j, 3 ≤ j → j ≤ 17 → j ≠ 11 → g2 j = g j) (h19 : ∀ la, la < np → g2 19 la = g 19 la) (h20 : ∀ la, la < np → g2 20 la = g 20 la) (h21 : ∀ la, la < np → ∀ k, k < iN (g 20 la) → g2 21 (12 * la + k) = g 21 (12 * la + k)) : VQ g g2 np := fun la hl => by
  refine ⟨by unfold mcv; rw [h20 la hl], by unfold prv; rw [h19 la hl], fun k hk9 => ⟨?_, AQ_of h⟩⟩
  unfold mdv
  rw [h21 la hl k hk9]
theorem VQ_gDr {g : gT} {ml lq : Nat} {L : List Nat} (hk : LKP g ml) : VQ g (gDr g ml lq L) ml := VQ_of hk (fun j h1 h2 _ => gDr_o (by omega) (by omega) (by omega) (by omega)) (fun la hl => by rw [gDr_19, pk_un (by omega)]) (fun la hl => by rw [gDr_20, pk_un (by omega)]) (fun la hl k hk9 => gDr_21o (by have q := (hk.2 la hl).1; unfold mcv at q; omega))
theorem TLas_row {g g2 : gT} {ad : Nat → Nat → Nat} {E : Nat → Nat → va_E} {nd nL : Nat} (h : ∀ n, n < nL → g2 22 n = g 22 n ∧ g2 19 n = g 19 n ∧ g2 20 n = g 20 n ∧ ∀ k, k < iN (g 20 n) → g2 21 (12 * n + k) = g 21 (12 * n + k)) (hm : ∀ n, n < nL → eL (E (20 + n) 1) ≤ 12) (ht : TLas g ad E nd nL) : TLas g2 ad E nd nL := fun n hn => by
  obtain ⟨q1, q2, q3, q4⟩ := ht n hn
  obtain ⟨e1, e2, e3, e4⟩ := h n hn
  refine ⟨by rw [e1]; exact q1, by rw [e2]; exact q2, by rw [e3]; exact q3, fun k hk => ?_⟩
  rw [e4 k (by rw [q3, iN_nI (by have z := hm n hn; omega)]; exact hk)]
  exact q4 k hk
theorem LIs_12 {kA : Nat → ClassId} {ad : Nat → Nat → Nat} {E : Nat → Nat → va_E} {RL : List (Nat × Nat)} {nd nL : Nat} (hI : LIs kA ad E RL nd nL) : ∀ n, n < nL → eL (E (20 + n) 1) ≤ 12 := fun la hla => by
  obtain ⟨_, _, pv, op, mk, fm, hm, _, _, c1, _⟩ := hI la hla
  rw [c1]; exact hm
theorem AG_of {g g2 : gT} {d : Nat} (h : ∀ j, 3 ≤ j → j ≤ 17 → g2 j = g j) : AG g g2 d := ⟨congrFun (h 3 (by omega) (by omega)) d, congrFun (h 4 (by omega) (by omega)) d, congrFun (h 5 (by omega) (by omega)) d, congrFun (h 11 (by omega) (by omega)) d, congrFun (h 12 (by omega) (by omega)) d, fun i _ => ⟨congrFun (h 6 (by omega) (by omega)) _, congrFun (h 9 (by omega) (by omega)) _, congrFun (h 10 (by omega) (by omega)) _, fun j _ => ⟨congrFun (h 7 (by omega) (by omega)) _, congrFun (h 8 (by omega) (by omega)) _⟩⟩, fun i _ => ⟨congrFun (h 13 (by omega) (by omega)) _, congrFun (h 16 (by omega) (by omega)) _, congrFun (h 17 (by omega) (by omega)) _⟩, fun i _ => ⟨congrFun (h 14 (by omega) (by omega)) _, congrFun (h 15 (by omega) (by omega)) _⟩⟩
theorem TDs_AG {g g2 : gT} {kA : Nat → ClassId} {ad : Nat → Nat → Nat} {E : Nat → Nat → va_E} {RL : List (Nat × Nat)} {nd : Nat} (hD : DIs kA ad E RL nd) (hA : ∀ d, d < nd → AG g g2 d) (h : TDs g E nd) : TDs g2 E nd := fun d hd => TD_AG (hD d hd) (hA d hd) (h d hd)
theorem TDs_gDr {g : gT} {kA : Nat → ClassId} {ad : Nat → Nat → Nat} {E : Nat → Nat → va_E} {RL : List (Nat × Nat)} {nd ml lq : Nat} {L : List Nat} (hD : DIs kA ad E RL nd) (h : TDs g E nd) : TDs (gDr g ml lq L) E nd := TDs_AG hD (fun d _ => AG_of (fun j h1 h2 => gDr_o (by omega) (by omega) (by omega) (by omega))) h
theorem TLas_gDr {g : gT} {kA : Nat → ClassId} {ad : Nat → Nat → Nat} {E : Nat → Nat → va_E} {RL : List (Nat × Nat)} {nd ml lq : Nat} {L : List Nat} (hI : LIs kA ad E RL nd ml) (h : TLas g ad E nd ml) : TLas (gDr g ml lq L) ad E nd ml := TLas_row (fun n hn => ⟨by rw [gDr_22, pk_un (by omega)], by rw [gDr_19, pk_un (by omega)], by rw [gDr_20, pk_un (by omega)], fun k hk => gDr_21o (by
  obtain ⟨_, _, q3, _⟩ := h n hn
  have q := LIs_12 hI n hn
  rw [q3, iN_nI (by omega)] at hk; omega)⟩) (LIs_12 hI) h
theorem getD_inj : ∀ {L : List Nat}, L.Nodup → ∀ {a b : Nat}, a < L.length → b < L.length → L.getD a 0 = L.getD b 0 → a = b
  | [], _, a, _, ha, _, _ => absurd ha (Nat.not_lt_zero _)
  | x :: L, h, 0, 0, _, _, _ => rfl
  | x :: L, h, 0, b + 1, _, hb, e => by
    have e : x = L.getD b 0 := e
    exact absurd (by rw [e]; exact getD_mem (by simp only [List.length_cons] at hb; omega)) (List.nodup_cons.mp h).1
  | x :: L, h, a + 1, 0, ha, _, e => by
    have e : L.getD a 0 = x := e
    exact absurd (by rw [← e]; exact getD_mem (by simp only [List.length_cons] at ha; omega)) (List.nodup_cons.mp h).1
  | x :: L, h, a + 1, b + 1, ha, hb, e => by
    have e : L.getD a 0 = L.getD b 0 := e
    have q := getD_inj (List.nodup_cons.mp h).2 (a := a) (b := b) (by simp only [List.length_cons] at ha; omega) (by simp only [List.length_cons] at hb; omega) e
    omega
def DX (g : gT) (ad : Nat → Nat → Nat) (E : Nat → Nat → va_E) (L : List Nat) (ml j : Nat) : Prop := eV (E (20 + ml) (10 + 10 * j)) 1 = .ref (ad (1 + L.getD j 0) 0) ∧ eL (E (20 + ml) (11 + 10 * j)) = iN (g 12 (L.getD j 0)) ∧ eA (E (20 + ml) (15 + 10 * j)) = (fun _ => 0) ∧ eA (E (20 + ml) (16 + 10 * j)) = (fun _ => 0) ∧ eA (E (20 + ml) (17 + 10 * j)) = (fun _ => 0)
theorem DX_at {g : gT} {ad ad' : Nat → Nat → Nat} {E E' : Nat → Nat → va_E} {L : List Nat} {ml j : Nat} (hE : ∀ j9, j9 < 8 → E' (20 + ml) (10 + j9 + 10 * j) = E (20 + ml) (10 + j9 + 10 * j)) (ha : ad' (1 + L.getD j 0) 0 = ad (1 + L.getD j 0) 0) (h : DX g ad E L ml j) : DX g ad' E' L ml j := by
  obtain ⟨q1, q2, q3, q4, q5⟩ := h
  have e0 := hE 0 (by omega)
  have e1 := hE 1 (by omega)
  have e5 := hE 5 (by omega)
  have e6 := hE 6 (by omega)
  have e7 := hE 7 (by omega)
  exact ⟨by rw [ha]; rw [show E' (20 + ml) (10 + 10 * j) = E (20 + ml) (10 + 10 * j) from e0]; exact q1, by rw [show E' (20 + ml) (11 + 10 * j) = E (20 + ml) (11 + 10 * j) from e1]; exact q2, by rw [show E' (20 + ml) (15 + 10 * j) = E (20 + ml) (15 + 10 * j) from e5]; exact q3, by rw [show E' (20 + ml) (16 + 10 * j) = E (20 + ml) (16 + 10 * j) from e6]; exact q4, by rw [show E' (20 + ml) (17 + 10 * j) = E (20 + ml) (17 + 10 * j) from e7]; exact q5⟩
theorem lyv_same {ad ad' : Nat → Nat → Nat} {lq : Nat} (h : ∀ x, x < lq → ad' (20 + x) 0 = ad (20 + x) 0) : lyv ad' lq = lyv ad lq := by
  cases lq with
  | zero => rfl
  | succ y => show Value.ref (ad' (20 + y) 0) = .ref (ad (20 + y) 0); rw [h y (by omega)]
theorem TLas_gDn {g : gT} {kA : Nat → ClassId} {ad : Nat → Nat → Nat} {E : Nat → Nat → va_E} {RL : List (Nat × Nat)} {nd ml lq : Nat} {L : List Nat} {v0 v2 : Value} {fm : Nat → Option Nat} {c : ClassId} (hI : LIs kA ad E RL nd ml) (h : TLas g ad E nd ml) (hG : GL nd L) (hlq : lq ≤ ml) (c0 : E (20 + ml) 0 = .inr (5, [v0, lyv ad lq, v2, .int 1])) (c1 : E (20 + ml) 1 = .inl (c, L.length, .inr (.inr (.inr (.inr fm))))) (hX : ∀ j, j < L.length → DX g ad E L ml j) : TLas (gDr g ml lq L) ad E nd (ml + 1) := fun n hn => by
  by_cases q : n = ml
  · subst q
    unfold TLa
    rw [c0, c1]
    refine ⟨by rw [gDr_22, pk_us]; rfl, ⟨lq, hlq, by rw [gDr_19, pk_us], rfl⟩, by rw [gDr_20, pk_us]; rfl, fun k hk => ?_⟩
    have hk : k < L.length := hk
    exact ⟨L.getD k 0, hG.1 _ (getD_mem hk), gDr_21n hk, (hX k hk).1⟩
  · exact TLas_gDr hI h n (by omega)
theorem CN0_DX {g : gT} {ad : Nat → Nat → Nat} {E : Nat → Nat → va_E} {nd ml lq j : Nat} {L : List Nat} (hG : GL nd L) (hnd : nd ≤ 12) (hj : j < L.length) (h : DX g ad E L ml j) : CN0 (gDr g ml lq L) E ml j ∧ CN7 E ml j := by
  obtain ⟨_, q2, q3, q4, q5⟩ := h
  refine ⟨⟨?_, fun t _ => ⟨?_, ?_⟩⟩, fun t _ => ?_⟩
  · rw [gDr_md hG hnd hj, gDr_o (by decide) (by decide) (by decide) (by decide)]; exact q2
  · rw [q3]; exact BS_0
  · rw [q4]; exact BS_0
  · rw [q5]; exact BS_0
theorem k5w_0 : (Cond.classLink "LayerDesk$Chooser" 39 "LayerDesk$Layer") ∈ wT := wT_t (List.mem_append_right _ (List.mem_append_right _ (List.mem_append_left _ (List.mem_of_getElem? (i := 131) rfl)))) rfl
theorem k5w_1 : (Cond.instantiable "LayerDesk$Layer" 4) ∈ wT := wT_t (List.mem_append_right _ (List.mem_append_right _ (List.mem_append_left _ (List.mem_of_getElem? (i := 132) rfl)))) rfl
theorem k5w_2 : (Cond.initialized "LayerDesk$Layer") ∈ wT := wT_t (List.mem_append_left _ (List.mem_of_getElem? (i := 19) rfl)) rfl
theorem k5w_3 : (Cond.fieldLink "LayerDesk$Chooser" 24 "LayerDesk$Chooser" "parent" "LLayerDesk$Layer;") ∈ wT := wT_t (List.mem_append_left _ (List.mem_of_getElem? (i := 85) rfl)) rfl
theorem k5w_4 : (Cond.fieldLink "LayerDesk$Chooser" 17 "LayerDesk$Chooser" "size" "I") ∈ wT := wT_t (List.mem_append_left _ (List.mem_of_getElem? (i := 83) rfl)) rfl
theorem k5w_5 : (Cond.code xy_Ly_init xb_Ly_init 4 none) ∈ wT := wT_t (List.mem_append_right _ (List.mem_append_right _ (List.mem_append_left _ (List.mem_of_getElem? (i := 135) rfl)))) rfl
theorem k5w_6 : (Cond.methodLink "LayerDesk$Chooser" 41 xy_Ly_init) ∈ wT := wT_t (List.mem_append_right _ (List.mem_append_right _ (List.mem_append_left _ (List.mem_of_getElem? (i := 133) rfl)))) rfl
theorem k5w_7 : (Cond.instanceMethod xy_Ly_init) ∈ wT := wT_t (List.mem_append_right _ (List.mem_append_right _ (List.mem_append_left _ (List.mem_of_getElem? (i := 134) rfl)))) rfl
theorem k5w_8 : (Cond.code xy_Ly_connect xb_Ly_connect 4 none) ∈ wT := wT_t (List.mem_append_right _ (List.mem_append_right _ (List.mem_append_left _ (List.mem_of_getElem? (i := 209) rfl)))) rfl
theorem k5w_9 : (Cond.methodLink "LayerDesk$Chooser" 53 xy_Ly_connect) ∈ wT := wT_t (List.mem_append_right _ (List.mem_append_right _ (List.mem_append_left _ (List.mem_of_getElem? (i := 206) rfl)))) rfl
theorem k5w_10 : (Cond.instanceMethod xy_Ly_connect) ∈ wT := wT_t (List.mem_append_right _ (List.mem_append_right _ (List.mem_append_left _ (List.mem_of_getElem? (i := 207) rfl)))) rfl
theorem k5w_11 : (Cond.selects "LayerDesk$Layer" xy_Ly_connect xy_Ly_connect) ∈ wT := wT_t (List.mem_append_right _ (List.mem_append_right _ (List.mem_append_left _ (List.mem_of_getElem? (i := 208) rfl)))) rfl
theorem k5w_12 : (Cond.fieldLink "LayerDesk$Chooser" 44 "LayerDesk$Layer" "members" "[LLayerDesk$Member;") ∈ wT := wT_t (List.mem_append_right _ (List.mem_append_right _ (List.mem_append_left _ (List.mem_of_getElem? (i := 149) rfl)))) rfl
theorem k5w_13 : (Cond.classLink "LayerDesk$Chooser" 48 "LayerDesk$Member") ∈ wT := wT_t (List.mem_append_right _ (List.mem_append_right _ (List.mem_append_left _ (List.mem_of_getElem? (i := 162) rfl)))) rfl
theorem k5w_14 : (Cond.instantiable "LayerDesk$Member" 6) ∈ wT := wT_t (List.mem_append_right _ (List.mem_append_right _ (List.mem_append_left _ (List.mem_of_getElem? (i := 163) rfl)))) rfl
theorem k5w_15 : (Cond.initialized "LayerDesk$Member") ∈ wT := wT_t (List.mem_append_left _ (List.mem_of_getElem? (i := 20) rfl)) rfl
theorem k5w_16 : (Cond.fieldLink "LayerDesk$Chooser" 11 "LayerDesk$Chooser" "chosen" "[LLayerDesk$Descriptor;") ∈ wT := wT_t (List.mem_append_left _ (List.mem_of_getElem? (i := 82) rfl)) rfl
theorem k5w_17 : (Cond.code xy_Me_init xb_Me_init 3 none) ∈ wT := wT_t (List.mem_append_right _ (List.mem_append_right _ (List.mem_append_left _ (List.mem_of_getElem? (i := 166) rfl)))) rfl
theorem k5w_18 : (Cond.methodLink "LayerDesk$Chooser" 50 xy_Me_init) ∈ wT := wT_t (List.mem_append_right _ (List.mem_append_right _ (List.mem_append_left _ (List.mem_of_getElem? (i := 164) rfl)))) rfl
theorem k5w_19 : (Cond.instanceMethod xy_Me_init) ∈ wT := wT_t (List.mem_append_right _ (List.mem_append_right _ (List.mem_append_left _ (List.mem_of_getElem? (i := 165) rfl)))) rfl
set_option maxHeartbeats 4000000 in
set_option maxRecDepth 100000 in
theorem xc_Ch_draftX (l : Launch) (D : va_G) (kA : Nat → ClassId) (sz : Nat) (ad : Nat → Nat → Nat) (E : Nat → Nat → va_E) (RL : List (Nat × Nat)) (g : Nat → Nat → Int32) (ml : Nat) (nd : Nat) (len : Nat) (wn : Nat) (fi : Int32) (lq : Nat) (L : List Nat) (hCI : CI kA ad E RL ml nd len wn L.length) (hCX : CX ad E nd fi lq L) (hTD : TDs g E nd) (hTL : TLas g ad E nd ml) (hlqm : lq ≤ ml) (hCB : CBs g E ml) : Met l xy_Ch_draft (.code xy_Ch_draft xb_Ch_draft 4 (some (.object "LayerDesk$Layer")) :: wT) { frames := 8, cells := 100, slots := 424, locals := 400 } (va_Pc [.ref (ad 0 7), .int (nI ml)] (xPre D kA sz (rp ad E RL))) (va_Qq (fun (r : Option Nat) (u : (Nat → Nat → Nat) × (Nat → Nat → va_E) × List (Nat × Nat)) => ((r = some (u.1 (20 + ml) 0) ∧ CI kA u.1 u.2.1 u.2.2 ml nd len wn L.length ∧ LI kA u.1 u.2.1 u.2.2 nd ml) ∧ TLas (gDr g ml lq L) u.1 u.2.1 nd (ml + 1) ∧ CBs (gDr g ml lq L) u.2.1 (ml + 1) ∧ LBs (gDr g ml lq L) u.2.1 ml ∧ RBs (gDr g ml lq L) u.2.1 ml) ∧ ((∀ b2 o2, ¬ (b2 = 20 + ml) → u.2.1 b2 o2 = E b2 o2)) ∧ ((∀ b2 o2, ¬ (b2 = 20 + ml) → u.1 b2 o2 = ad b2 o2)) ∧ ((∀ x ∈ RL, x ∈ u.2.2))) (fun (u : (Nat → Nat → Nat) × (Nat → Nat → va_E) × List (Nat × Nat)) t => va_P D xcl (rp u.1 u.2.1 u.2.2) t.heap ∧ va_D (va_A (rp ad E RL) sz) (rp u.1 u.2.1 u.2.2)) (va_A (rp ad E RL) sz)) 100 424 (va_A (rp ad E RL) sz) := by
  refine Met.ofW (cc := xb_Ch_draft) (maxL := 4) (ret := (some (.object "LayerDesk$Layer"))) (by decide) rfl ?_
  intro p e s m args below meth c s₁ B hml hv
  obtain ⟨rfl, hsz, hP, hK, hD0⟩ := hv
  have hx := B.exec
  have hb := B.bytes
  have hr := B.returns
  have hT := x_hT B.pre
  have hown : s.vm.findClass xR_Ch = some m.cls := findClass_of_methodNamed B.named
  have hlocks := B.notSynchronized
  subst hsz
  have hD := hD0.self (sz := s.heap.size)
  generalize hAe : va_A (rp ad E RL) s.heap.size = A at hD ⊢
  have hA : ∀ q : Nat, s.heap.size ≤ q → A q := fun q h => by rw [← hAe]; exact Or.inr h
  have hS : va_S A s.heap s.heap [] := va_S.rf
  have hl := lv_entry ([.ref (ad 0 7), .int (nI ml)]) (n := 4) (Nat.le_of_ble_eq_true rfl)
  rw [lg_entry_eq]
  generalize (lg_sl ([.ref (ad 0 7), .int (nI ml)]) ++ List.replicate (4 - (lg_sl ([.ref (ad 0 7), .int (nI ml)])).length) Slot.unset).toArray = ls at hl ⊢
  have hl : lv_has ls 4 [(0, .ref (ad 0 7)), (1, .int (nI ml))] := hl
  have hP : va_P D xcl (rp ad E RL) s.heap := hP
  obtain ⟨hmB, hDk, hLi, hSh, hCh, hLa, hDIs, hLIs⟩ := id hCI
  obtain ⟨lf_1, q_1⟩ := id (hDk)
  have c_2 : E 0 0 = .inr (0, [.ref (ad 0 1), .ref (ad 0 5), .ref (ad 0 7), .ref (ad 0 9), .int (nI ml), .int lf_1]) := q_1
  have m_3 : (0, 0) ∈ RL := hmB 0 (by decide)
  obtain ⟨tx_4, fb_4, fe_4, hl1_4, hw2_4, q1_4, q2_4, q3_4, q4_4, hws_4⟩ := id (hLi)
  have c_5 : E 0 1 = .inr (1, [.ref (ad 0 2), .ref (ad 0 3), .ref (ad 0 4), .int (nI len), .int (nI wn)]) := q1_4
  have m_6 : (0, 1) ∈ RL := hmB 1 (by decide)
  have c_7 : E 0 2 = .inl (kA 1, 40, .inl tx_4) := q2_4
  have m_8 : (0, 2) ∈ RL := hmB 2 (by decide)
  have c_9 : E 0 3 = .inl (kA 0, 20, .inl fb_4) := q3_4
  have m_10 : (0, 3) ∈ RL := hmB 3 (by decide)
  have c_11 : E 0 4 = .inl (kA 0, 20, .inl fe_4) := q4_4
  have m_12 : (0, 4) ∈ RL := hmB 4 (by decide)
  obtain ⟨fd_13, hnd_13, q5_13, q6_13, hds_13⟩ := id (hSh)
  have c_14 : E 0 5 = .inr (2, [.ref (ad 0 6), .int (nI nd)]) := q5_13
  have m_15 : (0, 5) ∈ RL := hmB 5 (by decide)
  have c_16 : E 0 6 = .inl (kA 4, 12, .inr (.inr (.inr (.inr fd_13)))) := q6_13
  have m_17 : (0, 6) ∈ RL := hmB 6 (by decide)
  obtain ⟨cf_18, pv_18, fc_18, hcs_18, hpv_18, q7_18, q8_18, hfc_18⟩ := id (hCh)
  have c_19 : E 0 7 = .inr (3, [.ref (ad 0 5), .ref (ad 0 8), .int (nI (L.length)), .int cf_18, pv_18]) := q7_18
  have m_20 : (0, 7) ∈ RL := hmB 7 (by decide)
  have c_21 : E 0 8 = .inl (kA 4, 12, .inr (.inr (.inr (.inr fc_18)))) := q8_18
  have m_22 : (0, 8) ∈ RL := hmB 8 (by decide)
  obtain ⟨fl_23, hml_23, q9_23, hla_23⟩ := id (hLa)
  have c_24 : E 0 9 = .inl (kA 5, 5, .inr (.inr (.inr (.inr fl_23)))) := q9_23
  have m_25 : (0, 9) ∈ RL := hmB 9 (by decide)
  obtain ⟨xfi_18, xpv_18, xfc_18, xGL_18⟩ := id hCX
  rw [c_19] at xfi_18 xpv_18
  rw [c_21] at xfc_18
  have xfi_18 : cf_18 = fi := xfi_18
  have xpv_18 : pv_18 = lyv ad lq := xpv_18
  have xfc_18 : ∀ k, k < L.length → fc_18 k = some (ad (1 + L.getD k 0) 0) := xfc_18
  have xln_18 := GL_len xGL_18
  have hDIs0 := hDIs
  have hLIs0 := hLIs
  have hmB0 := hmB
  have hfc0 := hfc_18
  have hws0 := hws_4
  have hds0 := hds_13
  have hla0 := hla_23
  have hnd12 : nd ≤ 12 := by omega
  have hml5 : ml ≤ 5 := by omega
  have hxfc := xfc_18
  have hxGL := xGL_18
  rcases (show (lq = 0 ∧ pv_18 = .null) ∨ ∃ xp, xp < ml ∧ lq = xp + 1 ∧ pv_18 = .ref (ad (20 + xp) 0) from by rcases Nat.eq_zero_or_pos lq with q | q; exact Or.inl ⟨q, by rw [xpv_18, lyv_0 q]⟩; exact Or.inr ⟨lq - 1, by omega, by omega, by rw [xpv_18, lyv_s (show lq = lq - 1 + 1 by omega)]⟩) with ⟨hyq, rfl⟩ | ⟨xp, hxp, hyq, rfl⟩
  · have hd0 := hDIs0
    refine px_new (ci := 5) (fs := [.int 0, .null, .null, .int 0]) (C := xR_Ly) (T := xT_Ly) (N := 4) (20 + ml) 0 hx hb hT xi_Ly xt_Ly xt_Ly_ok hown (hT _ k5w_0) (hT _ k5w_1) (hT _ k5w_2) hK.1 hP hD hS hA rfl (by decide +kernel) (Nat.le_of_ble_eq_true rfl) (Nat.le_of_ble_eq_true rfl) xd_Ch_draft_0 (fun ad26 E27 RL28 H hA1 hE1 hs1 hm1 hP hD hS => ?_)
    have fE29 : ∀ b2 o2, ¬ (b2 = 20 + ml ∧ o2 = 0) → E27 b2 o2 = E b2 o2 := fun b2 o2 h9 => by rw [hE1]; exact up2_ne (nr_or h9)
    have fA30 : ∀ b2 o2, ¬ (b2 = 20 + ml ∧ o2 = 0) → ad26 b2 o2 = ad b2 o2 := fun b2 o2 h9 => by rw [hA1]; exact up2_ne (nr_or h9)
    have hs31 := hs1
    have c_32 : E27 (20 + ml) 0 = .inr (5, [.int 0, .null, .null, .int 0]) := by rw [hE1]; exact up2_eq
    have hl : lv_has ls 4 [(0, .ref (ad26 0 7)), (1, .int (nI ml))] := by
      rw [fA30 0 7 (fun q9 => absurd q9.2 (by decide))]; exact hl
    have m_34 : (0, 0) ∈ RL28 := hs31 _ m_3
    have m_35 : (0, 1) ∈ RL28 := hs31 _ m_6
    have m_36 : (0, 2) ∈ RL28 := hs31 _ m_8
    have m_37 : (0, 3) ∈ RL28 := hs31 _ m_10
    have m_38 : (0, 4) ∈ RL28 := hs31 _ m_12
    have m_39 : (0, 5) ∈ RL28 := hs31 _ m_15
    have m_40 : (0, 6) ∈ RL28 := hs31 _ m_17
    have m_41 : (0, 7) ∈ RL28 := hs31 _ m_20
    have m_42 : (0, 8) ∈ RL28 := hs31 _ m_22
    have m_43 : (0, 9) ∈ RL28 := hs31 _ m_25
    have nb_44 : ¬ (0 = 20 + ml) := by omega
    have c_45 : E27 0 0 = .inr (0, [.ref (ad26 0 1), .ref (ad26 0 5), .ref (ad26 0 7), .ref (ad26 0 9), .int (nI ml), .int lf_1]) := by rw [fE29 0 0 (fun q9 => nb_44 q9.1), fA30 0 1 (fun q9 => absurd q9.2 (by decide)), fA30 0 5 (fun q9 => absurd q9.2 (by decide)), fA30 0 7 (fun q9 => absurd q9.2 (by decide)), fA30 0 9 (fun q9 => absurd q9.2 (by decide))]; exact c_2
    have c_46 : E27 0 1 = .inr (1, [.ref (ad26 0 2), .ref (ad26 0 3), .ref (ad26 0 4), .int (nI len), .int (nI wn)]) := by rw [fE29 0 1 (fun q9 => absurd q9.2 (by decide)), fA30 0 2 (fun q9 => absurd q9.2 (by decide)), fA30 0 3 (fun q9 => absurd q9.2 (by decide)), fA30 0 4 (fun q9 => absurd q9.2 (by decide))]; exact c_5
    have c_47 : E27 0 2 = .inl (kA 1, 40, .inl tx_4) := by rw [fE29 0 2 (fun q9 => absurd q9.2 (by decide))]; exact c_7
    have c_48 : E27 0 3 = .inl (kA 0, 20, .inl fb_4) := by rw [fE29 0 3 (fun q9 => absurd q9.2 (by decide))]; exact c_9
    have c_49 : E27 0 4 = .inl (kA 0, 20, .inl fe_4) := by rw [fE29 0 4 (fun q9 => absurd q9.2 (by decide))]; exact c_11
    have c_50 : E27 0 5 = .inr (2, [.ref (ad26 0 6), .int (nI nd)]) := by rw [fE29 0 5 (fun q9 => absurd q9.2 (by decide)), fA30 0 6 (fun q9 => absurd q9.2 (by decide))]; exact c_14
    have c_51 : E27 0 6 = .inl (kA 4, 12, .inr (.inr (.inr (.inr fd_13)))) := by rw [fE29 0 6 (fun q9 => absurd q9.2 (by decide))]; exact c_16
    have c_52 : E27 0 7 = .inr (3, [.ref (ad26 0 5), .ref (ad26 0 8), .int (nI (L.length)), .int cf_18, .null]) := by rw [fE29 0 7 (fun q9 => absurd q9.2 (by decide)), fA30 0 5 (fun q9 => absurd q9.2 (by decide)), fA30 0 8 (fun q9 => absurd q9.2 (by decide))]; exact c_19
    have c_53 : E27 0 8 = .inl (kA 4, 12, .inr (.inr (.inr (.inr fc_18)))) := by rw [fE29 0 8 (fun q9 => absurd q9.2 (by decide))]; exact c_21
    have c_54 : E27 0 9 = .inl (kA 5, 5, .inr (.inr (.inr (.inr fl_23)))) := by rw [fE29 0 9 (fun q9 => absurd q9.2 (by decide))]; exact c_24
    have m_33 : (20 + ml, 0) ∈ RL28 := hm1
    have hP : va_P D xcl (rp ad26 E27 RL28) H := hP
    have hD : va_D A (rp ad26 E27 RL28) := hD
    refine lv_dup hx hb xd_Ch_draft_3 rfl ?_
    refine lv_iload_n hx hb xd_Ch_draft_4 rfl (lv_at hl 1 rfl) ?_
    refine lv_aload_n hx hb xd_Ch_draft_5 rfl (lv_at hl 0 rfl) ?_
    refine px_get (D := D) (ci := 3) (v := .null) (C := xR_Ch) (T := xT_Ch) (N := 5) hx hb hT xi_Ch hown hK.1 hP m_41 c_52 rfl 4 (by decide) (hT _ k5w_3) (fun _ h9 => h9) rfl xd_Ch_draft_6 ?_
    refine lv_aload_n hx hb xd_Ch_draft_9 rfl (lv_at hl 0 rfl) ?_
    refine px_get (D := D) (ci := 3) (v := .int (nI (L.length))) (C := xR_Ch) (T := xT_Ch) (N := 5) hx hb hT xi_Ch hown hK.1 hP m_41 c_52 rfl 2 (by decide) (hT _ k5w_4) (fun _ h9 => h9) rfl xd_Ch_draft_10 ?_
    have hFc := px_free hD hS hA
    refine va_callv (va_runI (As := [.int (nI ml), .null, .int (nI (L.length))]) (rest := [.ref (ad26 (20 + ml) 0)]) ⟨hx, hb, hml, hown, hT⟩ (xc_Ly_initN l D kA H.size ad26 E27 RL28 ml L.length m_33 c_32 (by first | assumption | omega)) (cwI 3 hT (wT_I k5w_5) rfl rfl rfl (hT _ k5w_2) (hT _ k5w_6) (hT _ k5w_7) rfl (by decide +kernel) ⟨Nat.le_of_ble_eq_true rfl, Nat.le_of_ble_eq_true rfl⟩) (x_preS hK hP hD) rfl rfl hl.1 rfl (lv_room (Nat.le_of_ble_eq_true rfl)) xd_Ch_draft_13 ⟨(Nat.le_of_ble_eq_true rfl), (Nat.le_of_ble_eq_true rfl)⟩) hS (fun q _ h => hFc q h) hFc (fun u56 t H1 locs ht hvm hp57 hB hz1 hk1 hS => ?_)
    obtain ⟨hP1, hD1⟩ := hB
    rw [ht] at hP1
    have hD1 := hD1.weaken (fun _ _ _ h => hFc _ h)
    generalize H1 = H at hP1 hS ⊢
    have hP := hP1
    have hD := hD1
    obtain ⟨ad58, E59, RL60⟩ := u56
    obtain ⟨hp67, p_61, p_62, p_63, p_64, p_65, p_66⟩ := hp57
    have p_61 : E59 (20 + ml) 0 = .inr (5, [.int (nI ml), .null, .ref (ad58 (20 + ml) 1), .int 1]) := p_61
    have p_62 : E59 (20 + ml) 1 = .inl (kA 6, L.length, .inr (.inr (.inr (.inr (fun _ => none))))) := p_62
    have p_63 : (∀ b2 o2, ¬ (b2 = 20 + ml ∧ o2 = 0) → ¬ (b2 = 20 + ml ∧ o2 = 1) → E59 b2 o2 = E27 b2 o2) := p_63
    have p_64 : (∀ b2 o2, ¬ (b2 = 20 + ml ∧ o2 = 1) → ad58 b2 o2 = ad26 b2 o2) := p_64
    have p_65 : (∀ x ∈ RL28, x ∈ RL60) := p_65
    have p_66 : (20 + ml, 1) ∈ RL60 := p_66
    refine W.eq (g2 := F0 m 16 ls [.ref (ad58 (20 + ml) 0)]) (by rw [p_64 (20 + ml) 0 (fun q9 => absurd q9.2 (by decide))]) ?_
    have hl : lv_has ls 4 [(0, .ref (ad58 0 7)), (1, .int (nI ml))] := by
      rw [p_64 0 7 (fun q9 => absurd q9.2 (by decide))]; exact hl
    have m_68 : (0, 0) ∈ RL60 := p_65 _ m_34
    have m_69 : (0, 1) ∈ RL60 := p_65 _ m_35
    have m_70 : (0, 2) ∈ RL60 := p_65 _ m_36
    have m_71 : (0, 3) ∈ RL60 := p_65 _ m_37
    have m_72 : (0, 4) ∈ RL60 := p_65 _ m_38
    have m_73 : (0, 5) ∈ RL60 := p_65 _ m_39
    have m_74 : (0, 6) ∈ RL60 := p_65 _ m_40
    have m_75 : (0, 7) ∈ RL60 := p_65 _ m_41
    have m_76 : (0, 8) ∈ RL60 := p_65 _ m_42
    have m_77 : (0, 9) ∈ RL60 := p_65 _ m_43
    have m_78 : (20 + ml, 0) ∈ RL60 := p_65 _ m_33
    have c_79 : E59 0 0 = .inr (0, [.ref (ad58 0 1), .ref (ad58 0 5), .ref (ad58 0 7), .ref (ad58 0 9), .int (nI ml), .int lf_1]) := by rw [p_63 0 0 (fun q9 => nb_44 q9.1) (fun q9 => absurd q9.2 (by decide)), p_64 0 1 (fun q9 => nb_44 q9.1), p_64 0 5 (fun q9 => absurd q9.2 (by decide)), p_64 0 7 (fun q9 => absurd q9.2 (by decide)), p_64 0 9 (fun q9 => absurd q9.2 (by decide))]; exact c_45
    have c_80 : E59 0 1 = .inr (1, [.ref (ad58 0 2), .ref (ad58 0 3), .ref (ad58 0 4), .int (nI len), .int (nI wn)]) := by rw [p_63 0 1 (fun q9 => absurd q9.2 (by decide)) (fun q9 => nb_44 q9.1), p_64 0 2 (fun q9 => absurd q9.2 (by decide)), p_64 0 3 (fun q9 => absurd q9.2 (by decide)), p_64 0 4 (fun q9 => absurd q9.2 (by decide))]; exact c_46
    have c_81 : E59 0 2 = .inl (kA 1, 40, .inl tx_4) := by rw [p_63 0 2 (fun q9 => absurd q9.2 (by decide)) (fun q9 => absurd q9.2 (by decide))]; exact c_47
    have c_82 : E59 0 3 = .inl (kA 0, 20, .inl fb_4) := by rw [p_63 0 3 (fun q9 => absurd q9.2 (by decide)) (fun q9 => absurd q9.2 (by decide))]; exact c_48
    have c_83 : E59 0 4 = .inl (kA 0, 20, .inl fe_4) := by rw [p_63 0 4 (fun q9 => absurd q9.2 (by decide)) (fun q9 => absurd q9.2 (by decide))]; exact c_49
    have c_84 : E59 0 5 = .inr (2, [.ref (ad58 0 6), .int (nI nd)]) := by rw [p_63 0 5 (fun q9 => absurd q9.2 (by decide)) (fun q9 => absurd q9.2 (by decide)), p_64 0 6 (fun q9 => absurd q9.2 (by decide))]; exact c_50
    have c_85 : E59 0 6 = .inl (kA 4, 12, .inr (.inr (.inr (.inr fd_13)))) := by rw [p_63 0 6 (fun q9 => absurd q9.2 (by decide)) (fun q9 => absurd q9.2 (by decide))]; exact c_51
    have c_86 : E59 0 7 = .inr (3, [.ref (ad58 0 5), .ref (ad58 0 8), .int (nI (L.length)), .int cf_18, .null]) := by rw [p_63 0 7 (fun q9 => absurd q9.2 (by decide)) (fun q9 => absurd q9.2 (by decide)), p_64 0 5 (fun q9 => absurd q9.2 (by decide)), p_64 0 8 (fun q9 => absurd q9.2 (by decide))]; exact c_52
    have c_87 : E59 0 8 = .inl (kA 4, 12, .inr (.inr (.inr (.inr fc_18)))) := by rw [p_63 0 8 (fun q9 => absurd q9.2 (by decide)) (fun q9 => absurd q9.2 (by decide))]; exact c_53
    have c_88 : E59 0 9 = .inl (kA 5, 5, .inr (.inr (.inr (.inr fl_23)))) := by rw [p_63 0 9 (fun q9 => absurd q9.2 (by decide)) (fun q9 => absurd q9.2 (by decide))]; exact c_54
    have hP : va_P D xcl (rp ad58 E59 RL60) H := hP
    have hD : va_D A (rp ad58 E59 RL60) := hD
    refine lv_astore_n hx hb xd_Ch_draft_16 rfl hl (Nat.le_of_ble_eq_true rfl) rfl (fun ls hl => ?_)
    have hl : lv_has ls 4 [(2, .ref (ad58 (20 + ml) 0)), (0, .ref (ad58 0 7)), (1, .int (nI ml))] := hl
    refine lv_iconst (v := 0) hx hb xd_Ch_draft_17 (by decide) ?_
    refine lv_istore_n hx hb xd_Ch_draft_18 rfl hl (Nat.le_of_ble_eq_true rfl) rfl (fun ls hl => ?_)
    have hl : lv_has ls 4 [(3, .int 0), (2, .ref (ad58 (20 + ml) 0)), (0, .ref (ad58 0 7)), (1, .int (nI ml))] := hl
    refine xlabC (σ := Nat × (Nat → Nat → Nat) × (Nat → Nat → va_E) × (List (Nat × Nat)) × Value × (Nat → Option Nat)) (ml := 4) 19 (fun (k, ad1, E1, RL1, pv1, fm1) => [(3, .int (nI k)), (2, .ref (ad1 (20 + ml) 0)), (0, .ref (ad1 0 7))]) (fun (k, ad1, E1, RL1, pv1, fm1) => []) (fun (k, ad1, E1, RL1, pv1, fm1) => rp ad1 E1 RL1) (fun (k, ad1, E1, RL1, pv1, fm1) => 2 + 8 * k) (fun (k, ad1, E1, RL1, pv1, fm1) => 16 + 32 * k) (fun (k, ad1, E1, RL1, pv1, fm1) => (k ≤ L.length) ∧ ((∀ b2 o2, ¬ (b2 = 20 + ml) → E1 b2 o2 = E b2 o2)) ∧ ((∀ b2 o2, ¬ (b2 = 20 + ml) → ad1 b2 o2 = ad b2 o2)) ∧ (∀ x ∈ RL, x ∈ RL1) ∧ ((20 + ml, 0) ∈ RL1) ∧ ((20 + ml, 1) ∈ RL1) ∧ (pv1 = .null ∨ ∃ x, x < ml ∧ pv1 = .ref (ad1 (20 + x) 0)) ∧ (pv1 = lyv ad1 lq) ∧ (E1 (20 + ml) 0 = .inr (5, [.int (nI ml), pv1, .ref (ad1 (20 + ml) 1), .int 1])) ∧ (E1 (20 + ml) 1 = .inl (kA 6, L.length, .inr (.inr (.inr (.inr fm1))))) ∧ (∀ j, j < k → fm1 j = some (ad1 (20 + ml) (10 + 10 * j)) ∧ MEI kA ad1 E1 RL1 nd ml j) ∧ (∀ j, j < k → DX g ad1 E1 L ml j)) (fun (k, ad1, E1, RL1, pv1, fm1) => L.length - k) ?_ (0, ad58, E59, RL60, Value.null, (fun _ => none)) _ _ _ (lv_sub hl [0, 1, 2] rfl) hP hD hS ⟨(show 0 ≤ L.length from by first | assumption | omega), (show (∀ b2 o2, ¬ (b2 = 20 + ml) → E59 b2 o2 = E b2 o2) from fun b2 o2 h9 => by show E59 b2 o2 = _; rw [p_63 b2 o2 (by omega) (by omega), fE29 b2 o2 (by omega)]), (show (∀ b2 o2, ¬ (b2 = 20 + ml) → ad58 b2 o2 = ad b2 o2) from fun b2 o2 h9 => by show ad58 b2 o2 = _; rw [p_64 b2 o2 (by omega), fA30 b2 o2 (by omega)]), (show ∀ x ∈ RL, x ∈ RL60 from fun _ h9 => p_65 _ (hs31 _ h9)), (show (20 + ml, 0) ∈ RL60 from m_78), (show (20 + ml, 1) ∈ RL60 from p_66), (show Value.null = .null ∨ ∃ x, x < ml ∧ Value.null = .ref (ad58 (20 + x) 0) from Or.inl rfl), (show Value.null = lyv ad58 lq from (lyv_0 hyq).symm), (show E59 (20 + ml) 0 = .inr (5, [.int (nI ml), Value.null, .ref (ad58 (20 + ml) 1), .int 1]) from p_61), (show E59 (20 + ml) 1 = .inl (kA 6, L.length, .inr (.inr (.inr (.inr (fun _ => none))))) from p_62), (show ∀ j, j < 0 → (fun _ => none) j = some (ad58 (20 + ml) (10 + 10 * j)) ∧ MEI kA ad58 E59 RL60 nd ml j from fun j hj => absurd hj (by omega)), (show ∀ j, j < 0 → DX g ad58 E59 L ml j from fun j hj => absurd hj (by omega))⟩
    intro n9 ih89 a9 ls H locs hμ hl hP hD hS hI
    subst hμ
    obtain ⟨k, ad1, E1, RL1, pv1, fm1⟩ := a9
    obtain ⟨hk0, hfE, hfA, hfS, hmz0, hmz1, hpv1, hpx, hcA0, hcA1, hMM, hMX⟩ := hI
    have hk0 : k ≤ L.length := hk0
    have hfE : (∀ b2 o2, ¬ (b2 = 20 + ml) → E1 b2 o2 = E b2 o2) := hfE
    have hfA : (∀ b2 o2, ¬ (b2 = 20 + ml) → ad1 b2 o2 = ad b2 o2) := hfA
    have hfS : ∀ x ∈ RL, x ∈ RL1 := hfS
    have hmz0 : (20 + ml, 0) ∈ RL1 := hmz0
    have hmz1 : (20 + ml, 1) ∈ RL1 := hmz1
    have hpv1 : pv1 = .null ∨ ∃ x, x < ml ∧ pv1 = .ref (ad1 (20 + x) 0) := hpv1
    have hpx : pv1 = lyv ad1 lq := hpx
    have hcA0 : E1 (20 + ml) 0 = .inr (5, [.int (nI ml), pv1, .ref (ad1 (20 + ml) 1), .int 1]) := hcA0
    have hcA1 : E1 (20 + ml) 1 = .inl (kA 6, L.length, .inr (.inr (.inr (.inr fm1)))) := hcA1
    have hMM : ∀ j, j < k → fm1 j = some (ad1 (20 + ml) (10 + 10 * j)) ∧ MEI kA ad1 E1 RL1 nd ml j := hMM
    have hMX : ∀ j, j < k → DX g ad1 E1 L ml j := hMX
    have hl : lv_has ls 4 [(3, .int (nI k)), (2, .ref (ad1 (20 + ml) 0)), (0, .ref (ad1 0 7))] := hl
    have hP : va_P D xcl (rp ad1 E1 RL1) H := hP
    have hD : va_D A (rp ad1 E1 RL1) := hD
    have hTD1 : TDs g E1 nd := TDs_same (fun d9 hd9 => fun2 fun o9 => hfE (1 + d9) o9 (by omega)) hTD
    have hDIs : DIs kA ad1 E1 RL1 nd := (DIs_same (fun d9 hd9 => fun2 fun o9 => by show E1 (1 + d9) o9 = _; rw [hfE (1 + d9) o9 (by omega)]) (fun d9 hd9 => fun2 fun o9 => by show ad1 (1 + d9) o9 = _; rw [hfA (1 + d9) o9 (by omega)]) (fun _ h9 => hfS _ h9) hDIs0)
    have hLIs : LIs kA ad1 E1 RL1 nd ml := (LIs_same (Nat.le_refl _) (fun n9 hn9 => fun2 fun o9 => by show E1 (20 + n9) o9 = _; rw [hfE (20 + n9) o9 (by omega)]) (fun n9 hn9 => fun2 fun o9 => by show ad1 (20 + n9) o9 = _; rw [hfA (20 + n9) o9 (by omega)]) (fun d9 hd9 => by show ad1 (1 + d9) 0 = _; rw [hfA (1 + d9) 0 (by omega)]) (fun _ h9 => hfS _ h9) hLIs0)
    have hmB : ∀ o, o < 10 → (0, o) ∈ RL1 := fun o9 h9 => hfS _ (hmB0 o9 h9)
    have c_90 : E1 0 0 = .inr (0, [.ref (ad1 0 1), .ref (ad1 0 5), .ref (ad1 0 7), .ref (ad1 0 9), .int (nI ml), .int lf_1]) := by rw [hfE 0 0 (by omega), hfA 0 1 (by omega), hfA 0 5 (by omega), hfA 0 7 (by omega), hfA 0 9 (by omega)]; exact c_2
    have m_91 : (0, 0) ∈ RL1 := hmB 0 (by omega)
    have c_92 : E1 0 1 = .inr (1, [.ref (ad1 0 2), .ref (ad1 0 3), .ref (ad1 0 4), .int (nI len), .int (nI wn)]) := by rw [hfE 0 1 (by omega), hfA 0 2 (by omega), hfA 0 3 (by omega), hfA 0 4 (by omega)]; exact c_5
    have m_93 : (0, 1) ∈ RL1 := hmB 1 (by omega)
    have c_94 : E1 0 2 = .inl (kA 1, 40, .inl tx_4) := by rw [hfE 0 2 (by omega)]; exact c_7
    have m_95 : (0, 2) ∈ RL1 := hmB 2 (by omega)
    have c_96 : E1 0 3 = .inl (kA 0, 20, .inl fb_4) := by rw [hfE 0 3 (by omega)]; exact c_9
    have m_97 : (0, 3) ∈ RL1 := hmB 3 (by omega)
    have c_98 : E1 0 4 = .inl (kA 0, 20, .inl fe_4) := by rw [hfE 0 4 (by omega)]; exact c_11
    have m_99 : (0, 4) ∈ RL1 := hmB 4 (by omega)
    have c_100 : E1 0 5 = .inr (2, [.ref (ad1 0 6), .int (nI nd)]) := by rw [hfE 0 5 (by omega), hfA 0 6 (by omega)]; exact c_14
    have m_101 : (0, 5) ∈ RL1 := hmB 5 (by omega)
    have c_102 : E1 0 6 = .inl (kA 4, 12, .inr (.inr (.inr (.inr fd_13)))) := by rw [hfE 0 6 (by omega)]; exact c_16
    have m_103 : (0, 6) ∈ RL1 := hmB 6 (by omega)
    have c_104 : E1 0 7 = .inr (3, [.ref (ad1 0 5), .ref (ad1 0 8), .int (nI (L.length)), .int cf_18, .null]) := by rw [hfE 0 7 (by omega), hfA 0 5 (by omega), hfA 0 8 (by omega)]; exact c_19
    have m_105 : (0, 7) ∈ RL1 := hmB 7 (by omega)
    have c_106 : E1 0 8 = .inl (kA 4, 12, .inr (.inr (.inr (.inr fc_18)))) := by rw [hfE 0 8 (by omega)]; exact c_21
    have m_107 : (0, 8) ∈ RL1 := hmB 8 (by omega)
    have c_108 : E1 0 9 = .inl (kA 5, 5, .inr (.inr (.inr (.inr fl_23)))) := by rw [hfE 0 9 (by omega)]; exact c_24
    have m_109 : (0, 9) ∈ RL1 := hmB 9 (by omega)
    refine lv_iload_n hx hb xd_Ch_draft_19 rfl (lv_at hl 0 rfl) ?_
    refine lv_aload_n hx hb xd_Ch_draft_20 rfl (lv_at hl 2 rfl) ?_
    refine px_get (D := D) (ci := 3) (v := .int (nI (L.length))) (C := xR_Ch) (T := xT_Ch) (N := 5) hx hb hT xi_Ch hown hK.1 hP m_105 c_104 rfl 2 (by decide) (hT _ k5w_4) (fun _ h9 => h9) rfl xd_Ch_draft_21 ?_
    refine xn_ge (a := k) (b := L.length) (tgt := 53) hx hb xd_Ch_draft_24 (by decide) (by omega) (by omega) (fun hc110 => ?_) (fun hc110 => ?_)
    · have hLI : LI kA ad1 E1 RL1 nd ml := ⟨hmz0, hmz1, pv1, 1, L.length, fm1, by omega, hpv1, hcA0, hcA1, fun j hj => hMM j (by omega)⟩
      have hkL : k = L.length := by omega
      have hTL1 : TLas g ad1 E1 nd ml := TLas_same (Nat.le_refl _) (fun n9 hn9 => fun2 fun o9 => hfE (20 + n9) o9 (by omega)) (fun d9 hd9 => hfA (1 + d9) 0 (by omega)) (fun n9 hn9 => hfA (20 + n9) 0 (by omega)) hTL
      have hCB1 : CBs g E1 ml := CBs_same (fun la o9 hla => hfE (20 + la) o9 (by omega)) hCB
      have hLKP : LKP g ml := LKP_L (by omega) hnd12 hLIs hTL1
      have hTLr : TLas (gDr g ml lq L) ad1 E1 nd (ml + 1) := TLas_gDn hLIs hTL1 hxGL hlqm (by rw [← hpx]; exact hcA0) hcA1 (fun j hj => hMX j (by omega))
      have hTDr : TDs (gDr g ml lq L) E1 nd := TDs_gDr hDIs hTD1
      have hCBr : CBs (gDr g ml lq L) E1 ml := CBs_VQ hLKP (VQ_gDr hLKP) hCB1
      have hinjr : ∀ a b, a < L.length → b < L.length → mdv (gDr g ml lq L) ml a = mdv (gDr g ml lq L) ml b → a = b := fun a b ha hb e => by rw [gDr_md hxGL hnd12 ha, gDr_md hxGL hnd12 hb] at e; exact getD_inj hxGL.2 ha hb e
      have hC0r : ∀ j, j < L.length → CN0 (gDr g ml lq L) E1 ml j := fun j hj => (CN0_DX hxGL hnd12 hj (hMX j (by omega))).1
      have hC7r : ∀ j, j < L.length → CN7 E1 ml j := fun j hj => (CN0_DX (g := g) (ad := ad1) (lq := lq) hxGL hnd12 hj (hMX j (by omega))).2
      have hLIs := LIs_add hLIs hLI
      refine lv_aload_n hx hb xd_Ch_draft_53 rfl (lv_at hl 1 rfl) ?_
      have hFc := px_free hD hS hA
      refine va_callv (va_runV (As := []) (rest := []) ⟨hx, hb, hml, hown, hT⟩ (xc_Ly_connectX l D kA H.size ad1 E1 RL1 (gDr g ml lq L) nd (ml + 1) ml pv1 1 L.length fm1 hmz0 hcA0 hmz1 hcA1 (by first | assumption | omega) (by first | assumption | omega) (by first | assumption | omega) (by first | assumption | omega) (by first | assumption | omega) (by first | assumption | omega) (fun j hj => hMM j (by omega)) hTDr hTLr hCBr hinjr hC0r hC7r) (cwV 0 hT (wT_V k5w_9 k5w_10 k5w_11 k5w_2 k5w_8) rfl rfl rfl (by decide +kernel) ⟨Nat.le_of_ble_eq_true rfl, Nat.le_of_ble_eq_true rfl⟩) (px_preV hK hP hD hmz0 hcA0 rfl) rfl rfl hl.1 rfl (lv_room (Nat.le_of_ble_eq_true rfl)) xd_Ch_draft_54 ⟨(show 2 + 8 * k + 2 ≤ 100 by omega), (show 16 + 32 * k + 24 ≤ 424 by omega)⟩) hS (fun q _ h => hFc q h) hFc (fun u112 t H1 locs ht hvm hp113 hB hz1 hk1 hS => ?_)
      obtain ⟨hP1, hD1⟩ := hB
      rw [ht] at hP1
      have hD1 := hD1.weaken (fun _ _ _ h => hFc _ h)
      generalize H1 = H at hP1 hS ⊢
      have hP := hP1
      have hD := hD1
      obtain ⟨ad114, E115, RL116⟩ := u112
      obtain ⟨hp122, p_117, p_118, p_119, p_120, p_121⟩ := hp113
      have p_117 : (∀ b2 o2, ¬ (b2 = 20 + ml) → E115 b2 o2 = E1 b2 o2) := p_117
      have p_118 : (∀ b2 o2, ¬ (b2 = 20 + ml ∧ o2 = 2) → ¬ (b2 = 20 + ml ∧ o2 = 3) → ad114 b2 o2 = ad1 b2 o2) := p_118
      have p_119 : (∀ x ∈ RL1, x ∈ RL116) := p_119
      have p_120 : (20 + ml, 2) ∈ RL116 := p_120
      have p_121 : (20 + ml, 3) ∈ RL116 := p_121
      have hl : lv_has ls 4 [(3, .int (nI k)), (2, .ref (ad114 (20 + ml) 0)), (0, .ref (ad114 0 7))] := by
        rw [p_118 (20 + ml) 0 (fun q9 => absurd q9.2 (by decide)) (fun q9 => absurd q9.2 (by decide)), p_118 0 7 (fun q9 => absurd q9.2 (by decide)) (fun q9 => absurd q9.2 (by decide))]; exact hl
      have m_123 : (0, 0) ∈ RL116 := p_119 _ m_91
      have m_124 : (0, 1) ∈ RL116 := p_119 _ m_93
      have m_125 : (0, 2) ∈ RL116 := p_119 _ m_95
      have m_126 : (0, 3) ∈ RL116 := p_119 _ m_97
      have m_127 : (0, 4) ∈ RL116 := p_119 _ m_99
      have m_128 : (0, 5) ∈ RL116 := p_119 _ m_101
      have m_129 : (0, 6) ∈ RL116 := p_119 _ m_103
      have m_130 : (0, 7) ∈ RL116 := p_119 _ m_105
      have m_131 : (0, 8) ∈ RL116 := p_119 _ m_107
      have m_132 : (0, 9) ∈ RL116 := p_119 _ m_109
      have m_133 : (20 + ml, 0) ∈ RL116 := p_119 _ hmz0
      have m_134 : (20 + ml, 1) ∈ RL116 := p_119 _ hmz1
      have c_135 : E115 0 0 = .inr (0, [.ref (ad114 0 1), .ref (ad114 0 5), .ref (ad114 0 7), .ref (ad114 0 9), .int (nI ml), .int lf_1]) := by rw [p_117 0 0 nb_44, p_118 0 1 (fun q9 => absurd q9.2 (by decide)) (fun q9 => absurd q9.2 (by decide)), p_118 0 5 (fun q9 => absurd q9.2 (by decide)) (fun q9 => absurd q9.2 (by decide)), p_118 0 7 (fun q9 => absurd q9.2 (by decide)) (fun q9 => absurd q9.2 (by decide)), p_118 0 9 (fun q9 => absurd q9.2 (by decide)) (fun q9 => absurd q9.2 (by decide))]; exact c_90
      have c_136 : E115 0 1 = .inr (1, [.ref (ad114 0 2), .ref (ad114 0 3), .ref (ad114 0 4), .int (nI len), .int (nI wn)]) := by rw [p_117 0 1 nb_44, p_118 0 2 (fun q9 => nb_44 q9.1) (fun q9 => absurd q9.2 (by decide)), p_118 0 3 (fun q9 => absurd q9.2 (by decide)) (fun q9 => nb_44 q9.1), p_118 0 4 (fun q9 => absurd q9.2 (by decide)) (fun q9 => absurd q9.2 (by decide))]; exact c_92
      have c_137 : E115 0 2 = .inl (kA 1, 40, .inl tx_4) := by rw [p_117 0 2 nb_44]; exact c_94
      have c_138 : E115 0 3 = .inl (kA 0, 20, .inl fb_4) := by rw [p_117 0 3 nb_44]; exact c_96
      have c_139 : E115 0 4 = .inl (kA 0, 20, .inl fe_4) := by rw [p_117 0 4 nb_44]; exact c_98
      have c_140 : E115 0 5 = .inr (2, [.ref (ad114 0 6), .int (nI nd)]) := by rw [p_117 0 5 nb_44, p_118 0 6 (fun q9 => absurd q9.2 (by decide)) (fun q9 => absurd q9.2 (by decide))]; exact c_100
      have c_141 : E115 0 6 = .inl (kA 4, 12, .inr (.inr (.inr (.inr fd_13)))) := by rw [p_117 0 6 nb_44]; exact c_102
      have c_142 : E115 0 7 = .inr (3, [.ref (ad114 0 5), .ref (ad114 0 8), .int (nI (L.length)), .int cf_18, .null]) := by rw [p_117 0 7 nb_44, p_118 0 5 (fun q9 => absurd q9.2 (by decide)) (fun q9 => absurd q9.2 (by decide)), p_118 0 8 (fun q9 => absurd q9.2 (by decide)) (fun q9 => absurd q9.2 (by decide))]; exact c_104
      have c_143 : E115 0 8 = .inl (kA 4, 12, .inr (.inr (.inr (.inr fc_18)))) := by rw [p_117 0 8 nb_44]; exact c_106
      have c_144 : E115 0 9 = .inl (kA 5, 5, .inr (.inr (.inr (.inr fl_23)))) := by rw [p_117 0 9 nb_44]; exact c_108
      have hP : va_P D xcl (rp ad114 E115 RL116) H := hP
      have hD : va_D A (rp ad114 E115 RL116) := hD
      obtain ⟨⟨hDIs9, hLIs9⟩, hTL9, hCB9, hLB9, hRB9⟩ := hp122
      refine lv_aload_n hx hb xd_Ch_draft_57 rfl (lv_at hl 1 rfl) ?_
      refine W.widen (k := 100) (n := 424) (show 2 + 8 * k + 2 ≤ 100 by omega) (show 16 + 32 * k + 24 ≤ 424 by omega) ?_
      exact W.aret (v := .ref (ad114 (20 + ml) 0)) hx hb hr (Or.inl ⟨_, rfl⟩) (Or.inr ⟨_, rfl⟩) (fun t ht hW => ⟨⟨(some (ad114 (20 + ml) 0)), (ad114, E115, RL116), rfl, ⟨⟨⟨rfl, (show CI kA ad114 E115 RL116 ml nd len wn L.length from ⟨(fun o9 h9 => p_119 _ (hfS _ (hmB0 o9 h9))), ⟨lf_1, c_135⟩, ⟨tx_4, fb_4, fe_4, (by omega), (by omega), c_136, c_137, c_138, c_139, hws0⟩, ⟨fd_13, (by omega), c_140, c_141, (fun d9 hd9 => (hds0 d9 hd9).trans (by rw [p_118 (1 + d9) 0 (by omega) (by omega), hfA (1 + d9) 0 (by omega)]))⟩, ⟨cf_18, .null, fc_18, (by omega), (Or.inl rfl), c_142, c_143, (fun k9 hk9 => by obtain ⟨d8, q1, q2⟩ := hfc0 k9 hk9; exact ⟨d8, q1, q2.trans (by rw [p_118 (1 + d8) 0 (by omega) (by omega), hfA (1 + d8) 0 (by omega)])⟩)⟩, ⟨fl_23, (by omega), c_144, (fun n9 hn9 => (hla0 n9 hn9).trans (by rw [p_118 (20 + n9) 0 (by omega) (by omega), hfA (20 + n9) 0 (by omega)]))⟩, hDIs9, (fun n9 hn9 => hLIs9 n9 (by omega))⟩), (show LI kA ad114 E115 RL116 nd ml from hLIs9 ml (by omega))⟩, hTL9, hCB9, hLB9, hRB9⟩, (fun b2 o2 h09 => by show E115 b2 o2 = _; rw [p_117 b2 o2 (by omega), hfE b2 o2 (by omega)]), (fun b2 o2 h09 => by show ad114 b2 o2 = _; rw [p_118 b2 o2 (by omega) (by omega), hfA b2 o2 (by omega)]), (fun x9 hx9 => p_119 _ (hfS _ hx9))⟩, by rw [ht]; exact hP, hD⟩, hS.F ht⟩) hS.2.2 xd_Ch_draft_58
    · obtain ⟨d9, hd9e⟩ : ∃ z, z = L.getD k 0 := ⟨_, rfl⟩
      have hd9 : d9 < nd := by rw [hd9e]; exact hxGL.1 _ (getD_mem (by omega))
      have hf9 := hxfc k (by omega)
      rw [← hd9e] at hf9
      obtain ⟨hm_145, fd_145, nm_145, sd_145, k0_145, k1_145, k2_145, k3_145, f0_145, f1_145, f2_145, f3_145, fe_145, fo_145, tr_145, op_145, hk0_145, hk1_145, hk2_145, hk3_145, q0_145, q1_145, q2_145, q3_145, q4_145, q5_145, q6_145, q7_145, q8_145, q9_145, q10_145, q11_145, q12_145, hg_145⟩ := id (hDIs d9 (by omega))
      have c_146 : E1 (1 + d9) 0 = .inr (7, [.int (nI d9), .int fd_145, .int nm_145, .ref (ad1 (1 + d9) 1), .ref (ad1 (1 + d9) 9), .ref (ad1 (1 + d9) 10), .ref (ad1 (1 + d9) 2), .ref (ad1 (1 + d9) 11), .ref (ad1 (1 + d9) 12), .ref (ad1 (1 + d9) 3), .ref (ad1 (1 + d9) 4), .int sd_145]) := q0_145
      have m_147 : (1 + d9, 0) ∈ RL1 := hm_145 0 (by decide)
      have c_148 : E1 (1 + d9) 1 = .inr (8, [.ref (ad1 (1 + d9) 5), .int (nI k0_145)]) := q1_145
      have m_149 : (1 + d9, 1) ∈ RL1 := hm_145 1 (by decide)
      have c_150 : E1 (1 + d9) 2 = .inr (8, [.ref (ad1 (1 + d9) 6), .int (nI k1_145)]) := q2_145
      have m_151 : (1 + d9, 2) ∈ RL1 := hm_145 2 (by decide)
      have c_152 : E1 (1 + d9) 3 = .inr (8, [.ref (ad1 (1 + d9) 7), .int (nI k2_145)]) := q3_145
      have m_153 : (1 + d9, 3) ∈ RL1 := hm_145 3 (by decide)
      have c_154 : E1 (1 + d9) 4 = .inr (8, [.ref (ad1 (1 + d9) 8), .int (nI k3_145)]) := q4_145
      have m_155 : (1 + d9, 4) ∈ RL1 := hm_145 4 (by decide)
      have c_156 : E1 (1 + d9) 5 = .inl (kA 0, 6, .inl f0_145) := q5_145
      have m_157 : (1 + d9, 5) ∈ RL1 := hm_145 5 (by decide)
      have c_158 : E1 (1 + d9) 6 = .inl (kA 0, 5, .inl f1_145) := q6_145
      have m_159 : (1 + d9, 6) ∈ RL1 := hm_145 6 (by decide)
      have c_160 : E1 (1 + d9) 7 = .inl (kA 0, 3, .inl f2_145) := q7_145
      have m_161 : (1 + d9, 7) ∈ RL1 := hm_145 7 (by decide)
      have c_162 : E1 (1 + d9) 8 = .inl (kA 0, 3, .inl f3_145) := q8_145
      have m_163 : (1 + d9, 8) ∈ RL1 := hm_145 8 (by decide)
      have c_164 : E1 (1 + d9) 9 = .inl (kA 8, 6, .inr (.inr (.inr (.inr fe_145)))) := q9_145
      have m_165 : (1 + d9, 9) ∈ RL1 := hm_145 9 (by decide)
      have c_166 : E1 (1 + d9) 10 = .inl (kA 8, 6, .inr (.inr (.inr (.inr fo_145)))) := q10_145
      have m_167 : (1 + d9, 10) ∈ RL1 := hm_145 10 (by decide)
      have c_168 : E1 (1 + d9) 11 = .inl (kA 2, 5, .inl tr_145) := q11_145
      have m_169 : (1 + d9, 11) ∈ RL1 := hm_145 11 (by decide)
      have c_170 : E1 (1 + d9) 12 = .inl (kA 2, 5, .inl op_145) := q12_145
      have m_171 : (1 + d9, 12) ∈ RL1 := hm_145 12 (by decide)
      have hg_145 : ∀ w9, w9 < k0_145 → fe_145 w9 = some (ad1 (1 + d9) (20 + 3 * w9)) ∧ fo_145 w9 = some (ad1 (1 + d9) (38 + 3 * w9)) ∧ GI kA (ad1 (1 + d9)) (E1 (1 + d9)) (fun o => (1 + d9, o) ∈ RL1) (20 + 3 * w9) (21 + 3 * w9) (22 + 3 * w9) ∧ GI kA (ad1 (1 + d9)) (E1 (1 + d9)) (fun o => (1 + d9, o) ∈ RL1) (38 + 3 * w9) (39 + 3 * w9) (40 + 3 * w9) := hg_145
      obtain ⟨hTT_145, tgr_145⟩ := TD_get hk0_145 hk1_145 hk2_145 hk3_145 c_146 c_148 c_150 c_152 c_154 c_156 c_158 c_160 c_162 c_168 c_170 (hTD1 d9 (by omega))
      obtain ⟨tfd_145, tnm_145, tsd_145, tk0_145, tf0_145, tk1_145, tf1_145, tk2_145, tk3_145⟩ := id hTT_145
      have ik0_145 : iN (g 5 d9) = k0_145 := by rw [← tk0_145, iN_nI (by omega)]
      have ik1_145 : iN (g 12 d9) = k1_145 := by rw [← tk1_145, iN_nI (by omega)]
      refine lv_aload_n hx hb xd_Ch_draft_27 rfl (lv_at hl 1 rfl) ?_
      refine px_get (D := D) (ci := 5) (v := .ref (ad1 (20 + ml) 1)) (C := xR_Ly) (T := xT_Ly) (N := 4) hx hb hT xi_Ly hown hK.1 hP hmz0 hcA0 rfl 2 (by decide) (hT _ k5w_12) (fun _ h9 => h9) rfl xd_Ch_draft_28 ?_
      refine lv_iload_n hx hb xd_Ch_draft_31 rfl (lv_at hl 0 rfl) ?_
      refine px_new (ci := 6) (fs := [.null, .null, .null, .null, .null, .null]) (C := xR_Me) (T := xT_Me) (N := 6) (20 + ml) (10 + 10 * k) hx hb hT xi_Me xt_Me xt_Me_ok hown (hT _ k5w_13) (hT _ k5w_14) (hT _ k5w_15) hK.1 hP hD hS hA rfl (by decide +kernel) (show 2 + 8 * k + 1 ≤ 100 by omega) (show 16 + 32 * k + 6 ≤ 424 by omega) xd_Ch_draft_32 (fun ad172 E173 RL174 H hA1 hE1 hs1 hm1 hP hD hS => ?_)
      have fE175 : ∀ b2 o2, ¬ (b2 = 20 + ml ∧ o2 = 10 + 10 * k) → E173 b2 o2 = E1 b2 o2 := fun b2 o2 h9 => by rw [hE1]; exact up2_ne (nr_or h9)
      have fA176 : ∀ b2 o2, ¬ (b2 = 20 + ml ∧ o2 = 10 + 10 * k) → ad172 b2 o2 = ad1 b2 o2 := fun b2 o2 h9 => by rw [hA1]; exact up2_ne (nr_or h9)
      have hs177 := hs1
      refine W.eq (g2 := F0 m _ ls [.ref (ad172 (20 + ml) (10 + 10 * k)), .int (nI k), .ref (ad172 (20 + ml) 1)]) (by rw [fA176 (20 + ml) 1 (fun q9 => nr_z q9.2 (by decide))]) ?_
      have c_178 : E173 (20 + ml) (10 + 10 * k) = .inr (6, [.null, .null, .null, .null, .null, .null]) := by rw [hE1]; exact up2_eq
      have hl : lv_has ls 4 [(3, .int (nI k)), (2, .ref (ad172 (20 + ml) 0)), (0, .ref (ad172 0 7))] := by
        rw [fA176 (20 + ml) 0 (fun q9 => nr_z q9.2 (by decide)), fA176 0 7 (fun q9 => nr_z q9.2 (by decide))]; exact hl
      have m_180 : (0, 0) ∈ RL174 := hs177 _ m_91
      have m_181 : (0, 1) ∈ RL174 := hs177 _ m_93
      have m_182 : (0, 2) ∈ RL174 := hs177 _ m_95
      have m_183 : (0, 3) ∈ RL174 := hs177 _ m_97
      have m_184 : (0, 4) ∈ RL174 := hs177 _ m_99
      have m_185 : (0, 5) ∈ RL174 := hs177 _ m_101
      have m_186 : (0, 6) ∈ RL174 := hs177 _ m_103
      have m_187 : (0, 7) ∈ RL174 := hs177 _ m_105
      have m_188 : (0, 8) ∈ RL174 := hs177 _ m_107
      have m_189 : (0, 9) ∈ RL174 := hs177 _ m_109
      have m_190 : (20 + ml, 0) ∈ RL174 := hs177 _ hmz0
      have m_191 : (20 + ml, 1) ∈ RL174 := hs177 _ hmz1
      have m_192 : (1 + d9, 0) ∈ RL174 := hs177 _ m_147
      have m_193 : (1 + d9, 1) ∈ RL174 := hs177 _ m_149
      have m_194 : (1 + d9, 2) ∈ RL174 := hs177 _ m_151
      have m_195 : (1 + d9, 3) ∈ RL174 := hs177 _ m_153
      have m_196 : (1 + d9, 4) ∈ RL174 := hs177 _ m_155
      have m_197 : (1 + d9, 5) ∈ RL174 := hs177 _ m_157
      have m_198 : (1 + d9, 6) ∈ RL174 := hs177 _ m_159
      have m_199 : (1 + d9, 7) ∈ RL174 := hs177 _ m_161
      have m_200 : (1 + d9, 8) ∈ RL174 := hs177 _ m_163
      have m_201 : (1 + d9, 9) ∈ RL174 := hs177 _ m_165
      have m_202 : (1 + d9, 10) ∈ RL174 := hs177 _ m_167
      have m_203 : (1 + d9, 11) ∈ RL174 := hs177 _ m_169
      have m_204 : (1 + d9, 12) ∈ RL174 := hs177 _ m_171
      have c_205 : E173 0 0 = .inr (0, [.ref (ad172 0 1), .ref (ad172 0 5), .ref (ad172 0 7), .ref (ad172 0 9), .int (nI ml), .int lf_1]) := by rw [fE175 0 0 (fun q9 => nr_z q9.2 (by decide)), fA176 0 1 (fun q9 => nr_z q9.2 (by decide)), fA176 0 5 (fun q9 => nr_z q9.2 (by decide)), fA176 0 7 (fun q9 => nr_z q9.2 (by decide)), fA176 0 9 (fun q9 => nr_z q9.2 (by decide))]; exact c_90
      have c_206 : E173 0 1 = .inr (1, [.ref (ad172 0 2), .ref (ad172 0 3), .ref (ad172 0 4), .int (nI len), .int (nI wn)]) := by rw [fE175 0 1 (fun q9 => nr_z q9.2 (by decide)), fA176 0 2 (fun q9 => nr_z q9.2 (by decide)), fA176 0 3 (fun q9 => nr_z q9.2 (by decide)), fA176 0 4 (fun q9 => nr_z q9.2 (by decide))]; exact c_92
      have c_207 : E173 0 2 = .inl (kA 1, 40, .inl tx_4) := by rw [fE175 0 2 (fun q9 => nr_z q9.2 (by decide))]; exact c_94
      have c_208 : E173 0 3 = .inl (kA 0, 20, .inl fb_4) := by rw [fE175 0 3 (fun q9 => nr_z q9.2 (by decide))]; exact c_96
      have c_209 : E173 0 4 = .inl (kA 0, 20, .inl fe_4) := by rw [fE175 0 4 (fun q9 => nr_z q9.2 (by decide))]; exact c_98
      have c_210 : E173 0 5 = .inr (2, [.ref (ad172 0 6), .int (nI nd)]) := by rw [fE175 0 5 (fun q9 => nr_z q9.2 (by decide)), fA176 0 6 (fun q9 => nr_z q9.2 (by decide))]; exact c_100
      have c_211 : E173 0 6 = .inl (kA 4, 12, .inr (.inr (.inr (.inr fd_13)))) := by rw [fE175 0 6 (fun q9 => nr_z q9.2 (by decide))]; exact c_102
      have c_212 : E173 0 7 = .inr (3, [.ref (ad172 0 5), .ref (ad172 0 8), .int (nI (L.length)), .int cf_18, .null]) := by rw [fE175 0 7 (fun q9 => nr_z q9.2 (by decide)), fA176 0 5 (fun q9 => nr_z q9.2 (by decide)), fA176 0 8 (fun q9 => nr_z q9.2 (by decide))]; exact c_104
      have c_213 : E173 0 8 = .inl (kA 4, 12, .inr (.inr (.inr (.inr fc_18)))) := by rw [fE175 0 8 (fun q9 => nr_z q9.2 (by decide))]; exact c_106
      have c_214 : E173 0 9 = .inl (kA 5, 5, .inr (.inr (.inr (.inr fl_23)))) := by rw [fE175 0 9 (fun q9 => nr_z q9.2 (by decide))]; exact c_108
      have c_215 : E173 (20 + ml) 0 = .inr (5, [.int (nI ml), pv1, .ref (ad172 (20 + ml) 1), .int 1]) := by rw [fE175 (20 + ml) 0 (fun q9 => nr_z q9.2 (by decide)), fA176 (20 + ml) 1 (fun q9 => nr_z q9.2 (by decide))]; exact hcA0
      have c_216 : E173 (20 + ml) 1 = .inl (kA 6, L.length, .inr (.inr (.inr (.inr fm1)))) := by rw [fE175 (20 + ml) 1 (fun q9 => nr_z q9.2 (by decide))]; exact hcA1
      have nb_218 : ¬ (1 + d9 = 20 + ml) := by omega
      have c_217 : E173 (1 + d9) 0 = .inr (7, [.int (nI d9), .int fd_145, .int nm_145, .ref (ad172 (1 + d9) 1), .ref (ad172 (1 + d9) 9), .ref (ad172 (1 + d9) 10), .ref (ad172 (1 + d9) 2), .ref (ad172 (1 + d9) 11), .ref (ad172 (1 + d9) 12), .ref (ad172 (1 + d9) 3), .ref (ad172 (1 + d9) 4), .int sd_145]) := by rw [fE175 (1 + d9) 0 (fun q9 => nr_z q9.2 (by decide)), fA176 (1 + d9) 1 (fun q9 => nr_z q9.2 (by decide)), fA176 (1 + d9) 9 (fun q9 => nr_z q9.2 (by decide)), fA176 (1 + d9) 10 (fun q9 => nb_218 q9.1), fA176 (1 + d9) 2 (fun q9 => nr_z q9.2 (by decide)), fA176 (1 + d9) 11 (fun q9 => nb_218 q9.1), fA176 (1 + d9) 12 (fun q9 => nb_218 q9.1), fA176 (1 + d9) 3 (fun q9 => nr_z q9.2 (by decide)), fA176 (1 + d9) 4 (fun q9 => nr_z q9.2 (by decide))]; exact c_146
      have c_219 : E173 (1 + d9) 1 = .inr (8, [.ref (ad172 (1 + d9) 5), .int (nI k0_145)]) := by rw [fE175 (1 + d9) 1 (fun q9 => nr_z q9.2 (by decide)), fA176 (1 + d9) 5 (fun q9 => nr_z q9.2 (by decide))]; exact c_148
      have c_220 : E173 (1 + d9) 2 = .inr (8, [.ref (ad172 (1 + d9) 6), .int (nI k1_145)]) := by rw [fE175 (1 + d9) 2 (fun q9 => nr_z q9.2 (by decide)), fA176 (1 + d9) 6 (fun q9 => nr_z q9.2 (by decide))]; exact c_150
      have c_221 : E173 (1 + d9) 3 = .inr (8, [.ref (ad172 (1 + d9) 7), .int (nI k2_145)]) := by rw [fE175 (1 + d9) 3 (fun q9 => nr_z q9.2 (by decide)), fA176 (1 + d9) 7 (fun q9 => nr_z q9.2 (by decide))]; exact c_152
      have c_222 : E173 (1 + d9) 4 = .inr (8, [.ref (ad172 (1 + d9) 8), .int (nI k3_145)]) := by rw [fE175 (1 + d9) 4 (fun q9 => nr_z q9.2 (by decide)), fA176 (1 + d9) 8 (fun q9 => nr_z q9.2 (by decide))]; exact c_154
      have c_223 : E173 (1 + d9) 5 = .inl (kA 0, 6, .inl f0_145) := by rw [fE175 (1 + d9) 5 (fun q9 => nr_z q9.2 (by decide))]; exact c_156
      have c_224 : E173 (1 + d9) 6 = .inl (kA 0, 5, .inl f1_145) := by rw [fE175 (1 + d9) 6 (fun q9 => nr_z q9.2 (by decide))]; exact c_158
      have c_225 : E173 (1 + d9) 7 = .inl (kA 0, 3, .inl f2_145) := by rw [fE175 (1 + d9) 7 (fun q9 => nr_z q9.2 (by decide))]; exact c_160
      have c_226 : E173 (1 + d9) 8 = .inl (kA 0, 3, .inl f3_145) := by rw [fE175 (1 + d9) 8 (fun q9 => nr_z q9.2 (by decide))]; exact c_162
      have c_227 : E173 (1 + d9) 9 = .inl (kA 8, 6, .inr (.inr (.inr (.inr fe_145)))) := by rw [fE175 (1 + d9) 9 (fun q9 => nr_z q9.2 (by decide))]; exact c_164
      have c_228 : E173 (1 + d9) 10 = .inl (kA 8, 6, .inr (.inr (.inr (.inr fo_145)))) := by rw [fE175 (1 + d9) 10 (fun q9 => nb_218 q9.1)]; exact c_166
      have c_229 : E173 (1 + d9) 11 = .inl (kA 2, 5, .inl tr_145) := by rw [fE175 (1 + d9) 11 (fun q9 => nb_218 q9.1)]; exact c_168
      have c_230 : E173 (1 + d9) 12 = .inl (kA 2, 5, .inl op_145) := by rw [fE175 (1 + d9) 12 (fun q9 => nb_218 q9.1)]; exact c_170
      have m_179 : (20 + ml, 10 + 10 * k) ∈ RL174 := hm1
      have hP : va_P D xcl (rp ad172 E173 RL174) H := hP
      have hD : va_D A (rp ad172 E173 RL174) := hD
      refine lv_dup hx hb xd_Ch_draft_35 rfl ?_
      refine lv_aload_n hx hb xd_Ch_draft_36 rfl (lv_at hl 1 rfl) ?_
      refine lv_aload_n hx hb xd_Ch_draft_37 rfl (lv_at hl 2 rfl) ?_
      refine px_get (D := D) (ci := 3) (v := .ref (ad172 0 8)) (C := xR_Ch) (T := xT_Ch) (N := 5) hx hb hT xi_Ch hown hK.1 hP m_187 c_212 rfl 1 (by decide) (hT _ k5w_16) (fun _ h9 => h9) rfl xd_Ch_draft_38 ?_
      refine lv_iload_n hx hb xd_Ch_draft_41 rfl (lv_at hl 0 rfl) ?_
      refine px_aald (i := k) (x := (some (ad172 (1 + d9) 0))) hx hb hK.1 hP m_188 c_213 4 rfl ((hf9.trans (by rw [fA176 (1 + d9) 0 (by omega), hfA (1 + d9) 0 (by omega)]))) (by omega) (by decide) xd_Ch_draft_42 ?_
      have hFc := px_free hD hS hA
      refine va_callv (va_runI (As := [.ref (ad172 (20 + ml) 0), .ref (ad172 (1 + d9) 0)]) (rest := [.ref (ad172 (20 + ml) (10 + 10 * k)), .int (nI k), .ref (ad172 (20 + ml) 1)]) ⟨hx, hb, hml, hown, hT⟩ (xc_Me_init l D kA H.size ad172 E173 RL174 ml k d9 fd_145 nm_145 sd_145 k1_145 m_179 c_178 m_192 c_217 m_194 c_220 (by omega) (by first | assumption | omega)) (cwI 2 hT (wT_I k5w_17) rfl rfl rfl (hT _ k5w_15) (hT _ k5w_18) (hT _ k5w_19) rfl (by decide +kernel) ⟨Nat.le_of_ble_eq_true rfl, Nat.le_of_ble_eq_true rfl⟩) (x_preS hK hP hD) rfl rfl hl.1 rfl (lv_room (Nat.le_of_ble_eq_true rfl)) xd_Ch_draft_43 ⟨(show 2 + 8 * k + 1 + 7 ≤ 100 by omega), (show 16 + 32 * k + 6 + 26 ≤ 424 by omega)⟩) hS (fun q _ h => hFc q h) hFc (fun u232 t H1 locs ht hvm hp233 hB hz1 hk1 hS => ?_)
      obtain ⟨hP1, hD1⟩ := hB
      rw [ht] at hP1
      have hD1 := hD1.weaken (fun _ _ _ h => hFc _ h)
      generalize H1 = H at hP1 hS ⊢
      have hP := hP1
      have hD := hD1
      obtain ⟨ad234, E235, RL236⟩ := u232
      obtain ⟨hp255, p_237, p_238, p_239, p_240, p_241, p_242, p_243, p_244, p_245, p_246, p_247, p_248, p_249, p_250, p_251, p_252, p_253, p_254⟩ := hp233
      have p_237 : E235 (20 + ml) (10 + 10 * k) = .inr (6, [.ref (ad234 (20 + ml) 0), .ref (ad234 (1 + d9) 0), .ref (ad234 (20 + ml) (11 + 10 * k)), .ref (ad234 (20 + ml) (12 + 10 * k)), .ref (ad234 (20 + ml) (13 + 10 * k)), .ref (ad234 (20 + ml) (14 + 10 * k))]) := p_237
      have p_238 : E235 (20 + ml) (11 + 10 * k) = .inl (kA 6, k1_145, .inr (.inr (.inr (.inr (fun _ => none))))) := p_238
      have p_239 : E235 (20 + ml) (12 + 10 * k) = .inr (10, [.ref (ad234 (20 + ml) (15 + 10 * k))]) := p_239
      have p_240 : E235 (20 + ml) (13 + 10 * k) = .inr (10, [.ref (ad234 (20 + ml) (16 + 10 * k))]) := p_240
      have p_241 : E235 (20 + ml) (14 + 10 * k) = .inr (10, [.ref (ad234 (20 + ml) (17 + 10 * k))]) := p_241
      have p_242 : E235 (20 + ml) (15 + 10 * k) = .inl (kA 0, 6, .inl (fun _ => 0)) := p_242
      have p_243 : E235 (20 + ml) (16 + 10 * k) = .inl (kA 0, 6, .inl (fun _ => 0)) := p_243
      have p_244 : E235 (20 + ml) (17 + 10 * k) = .inl (kA 0, 6, .inl (fun _ => 0)) := p_244
      have p_245 : (∀ b2 o2, ¬ (b2 = 20 + ml ∧ o2 = 10 + 10 * k) → ¬ (b2 = 20 + ml ∧ o2 = 11 + 10 * k) → ¬ (b2 = 20 + ml ∧ o2 = 12 + 10 * k) → ¬ (b2 = 20 + ml ∧ o2 = 13 + 10 * k) → ¬ (b2 = 20 + ml ∧ o2 = 14 + 10 * k) → ¬ (b2 = 20 + ml ∧ o2 = 15 + 10 * k) → ¬ (b2 = 20 + ml ∧ o2 = 16 + 10 * k) → ¬ (b2 = 20 + ml ∧ o2 = 17 + 10 * k) → E235 b2 o2 = E173 b2 o2) := p_245
      have p_246 : (∀ b2 o2, ¬ (b2 = 20 + ml ∧ o2 = 11 + 10 * k) → ¬ (b2 = 20 + ml ∧ o2 = 12 + 10 * k) → ¬ (b2 = 20 + ml ∧ o2 = 13 + 10 * k) → ¬ (b2 = 20 + ml ∧ o2 = 14 + 10 * k) → ¬ (b2 = 20 + ml ∧ o2 = 15 + 10 * k) → ¬ (b2 = 20 + ml ∧ o2 = 16 + 10 * k) → ¬ (b2 = 20 + ml ∧ o2 = 17 + 10 * k) → ad234 b2 o2 = ad172 b2 o2) := p_246
      have p_247 : (∀ x ∈ RL174, x ∈ RL236) := p_247
      have p_248 : (20 + ml, 11 + 10 * k) ∈ RL236 := p_248
      have p_249 : (20 + ml, 12 + 10 * k) ∈ RL236 := p_249
      have p_250 : (20 + ml, 13 + 10 * k) ∈ RL236 := p_250
      have p_251 : (20 + ml, 14 + 10 * k) ∈ RL236 := p_251
      have p_252 : (20 + ml, 15 + 10 * k) ∈ RL236 := p_252
      have p_253 : (20 + ml, 16 + 10 * k) ∈ RL236 := p_253
      have p_254 : (20 + ml, 17 + 10 * k) ∈ RL236 := p_254
      refine W.eq (g2 := F0 m 46 ls [.ref (ad234 (20 + ml) (10 + 10 * k)), .int (nI k), .ref (ad234 (20 + ml) 1)]) (by rw [p_246 (20 + ml) (10 + 10 * k) (fun q9 => nr_k q9.2 (by decide)) (fun q9 => nr_k q9.2 (by decide)) (fun q9 => nr_k q9.2 (by decide)) (fun q9 => nr_k q9.2 (by decide)) (fun q9 => nr_k q9.2 (by decide)) (fun q9 => nr_k q9.2 (by decide)) (fun q9 => nr_k q9.2 (by decide)), p_246 (20 + ml) 1 (fun q9 => nr_z q9.2 (by decide)) (fun q9 => nr_z q9.2 (by decide)) (fun q9 => nr_z q9.2 (by decide)) (fun q9 => nr_z q9.2 (by decide)) (fun q9 => nr_z q9.2 (by decide)) (fun q9 => nr_z q9.2 (by decide)) (fun q9 => nr_z q9.2 (by decide))]) ?_
      have hl : lv_has ls 4 [(3, .int (nI k)), (2, .ref (ad234 (20 + ml) 0)), (0, .ref (ad234 0 7))] := by
        rw [p_246 (20 + ml) 0 (fun q9 => nr_z q9.2 (by decide)) (fun q9 => nr_z q9.2 (by decide)) (fun q9 => nr_z q9.2 (by decide)) (fun q9 => nr_z q9.2 (by decide)) (fun q9 => nr_z q9.2 (by decide)) (fun q9 => nr_z q9.2 (by decide)) (fun q9 => nr_z q9.2 (by decide)), p_246 0 7 (fun q9 => nr_z q9.2 (by decide)) (fun q9 => nr_z q9.2 (by decide)) (fun q9 => nr_z q9.2 (by decide)) (fun q9 => nr_z q9.2 (by decide)) (fun q9 => nr_z q9.2 (by decide)) (fun q9 => nr_z q9.2 (by decide)) (fun q9 => nr_z q9.2 (by decide))]; exact hl
      have m_256 : (0, 0) ∈ RL236 := p_247 _ m_180
      have m_257 : (0, 1) ∈ RL236 := p_247 _ m_181
      have m_258 : (0, 2) ∈ RL236 := p_247 _ m_182
      have m_259 : (0, 3) ∈ RL236 := p_247 _ m_183
      have m_260 : (0, 4) ∈ RL236 := p_247 _ m_184
      have m_261 : (0, 5) ∈ RL236 := p_247 _ m_185
      have m_262 : (0, 6) ∈ RL236 := p_247 _ m_186
      have m_263 : (0, 7) ∈ RL236 := p_247 _ m_187
      have m_264 : (0, 8) ∈ RL236 := p_247 _ m_188
      have m_265 : (0, 9) ∈ RL236 := p_247 _ m_189
      have m_266 : (20 + ml, 0) ∈ RL236 := p_247 _ m_190
      have m_267 : (20 + ml, 1) ∈ RL236 := p_247 _ m_191
      have m_268 : (1 + d9, 0) ∈ RL236 := p_247 _ m_192
      have m_269 : (1 + d9, 1) ∈ RL236 := p_247 _ m_193
      have m_270 : (1 + d9, 2) ∈ RL236 := p_247 _ m_194
      have m_271 : (1 + d9, 3) ∈ RL236 := p_247 _ m_195
      have m_272 : (1 + d9, 4) ∈ RL236 := p_247 _ m_196
      have m_273 : (1 + d9, 5) ∈ RL236 := p_247 _ m_197
      have m_274 : (1 + d9, 6) ∈ RL236 := p_247 _ m_198
      have m_275 : (1 + d9, 7) ∈ RL236 := p_247 _ m_199
      have m_276 : (1 + d9, 8) ∈ RL236 := p_247 _ m_200
      have m_277 : (1 + d9, 9) ∈ RL236 := p_247 _ m_201
      have m_278 : (1 + d9, 10) ∈ RL236 := p_247 _ m_202
      have m_279 : (1 + d9, 11) ∈ RL236 := p_247 _ m_203
      have m_280 : (1 + d9, 12) ∈ RL236 := p_247 _ m_204
      have m_281 : (20 + ml, 10 + 10 * k) ∈ RL236 := p_247 _ m_179
      have c_282 : E235 0 0 = .inr (0, [.ref (ad234 0 1), .ref (ad234 0 5), .ref (ad234 0 7), .ref (ad234 0 9), .int (nI ml), .int lf_1]) := by rw [p_245 0 0 (fun q9 => nr_z q9.2 (by decide)) (fun q9 => nr_z q9.2 (by decide)) (fun q9 => nr_z q9.2 (by decide)) (fun q9 => nr_z q9.2 (by decide)) (fun q9 => nr_z q9.2 (by decide)) (fun q9 => nr_z q9.2 (by decide)) (fun q9 => nr_z q9.2 (by decide)) (fun q9 => nr_z q9.2 (by decide)), p_246 0 1 (fun q9 => nr_z q9.2 (by decide)) (fun q9 => nr_z q9.2 (by decide)) (fun q9 => nr_z q9.2 (by decide)) (fun q9 => nr_z q9.2 (by decide)) (fun q9 => nr_z q9.2 (by decide)) (fun q9 => nr_z q9.2 (by decide)) (fun q9 => nr_z q9.2 (by decide)), p_246 0 5 (fun q9 => nr_z q9.2 (by decide)) (fun q9 => nr_z q9.2 (by decide)) (fun q9 => nr_z q9.2 (by decide)) (fun q9 => nr_z q9.2 (by decide)) (fun q9 => nr_z q9.2 (by decide)) (fun q9 => nr_z q9.2 (by decide)) (fun q9 => nr_z q9.2 (by decide)), p_246 0 7 (fun q9 => nr_z q9.2 (by decide)) (fun q9 => nr_z q9.2 (by decide)) (fun q9 => nr_z q9.2 (by decide)) (fun q9 => nr_z q9.2 (by decide)) (fun q9 => nr_z q9.2 (by decide)) (fun q9 => nr_z q9.2 (by decide)) (fun q9 => nr_z q9.2 (by decide)), p_246 0 9 (fun q9 => nr_z q9.2 (by decide)) (fun q9 => nr_z q9.2 (by decide)) (fun q9 => nr_z q9.2 (by decide)) (fun q9 => nr_z q9.2 (by decide)) (fun q9 => nr_z q9.2 (by decide)) (fun q9 => nr_z q9.2 (by decide)) (fun q9 => nr_z q9.2 (by decide))]; exact c_205
      have c_283 : E235 0 1 = .inr (1, [.ref (ad234 0 2), .ref (ad234 0 3), .ref (ad234 0 4), .int (nI len), .int (nI wn)]) := by rw [p_245 0 1 (fun q9 => nr_z q9.2 (by decide)) (fun q9 => nr_z q9.2 (by decide)) (fun q9 => nr_z q9.2 (by decide)) (fun q9 => nr_z q9.2 (by decide)) (fun q9 => nr_z q9.2 (by decide)) (fun q9 => nr_z q9.2 (by decide)) (fun q9 => nr_z q9.2 (by decide)) (fun q9 => nr_z q9.2 (by decide)), p_246 0 2 (fun q9 => nr_z q9.2 (by decide)) (fun q9 => nr_z q9.2 (by decide)) (fun q9 => nr_z q9.2 (by decide)) (fun q9 => nr_z q9.2 (by decide)) (fun q9 => nr_z q9.2 (by decide)) (fun q9 => nr_z q9.2 (by decide)) (fun q9 => nr_z q9.2 (by decide)), p_246 0 3 (fun q9 => nr_z q9.2 (by decide)) (fun q9 => nr_z q9.2 (by decide)) (fun q9 => nr_z q9.2 (by decide)) (fun q9 => nr_z q9.2 (by decide)) (fun q9 => nr_z q9.2 (by decide)) (fun q9 => nr_z q9.2 (by decide)) (fun q9 => nr_z q9.2 (by decide)), p_246 0 4 (fun q9 => nr_z q9.2 (by decide)) (fun q9 => nr_z q9.2 (by decide)) (fun q9 => nr_z q9.2 (by decide)) (fun q9 => nr_z q9.2 (by decide)) (fun q9 => nr_z q9.2 (by decide)) (fun q9 => nr_z q9.2 (by decide)) (fun q9 => nr_z q9.2 (by decide))]; exact c_206
      have c_284 : E235 0 2 = .inl (kA 1, 40, .inl tx_4) := by rw [p_245 0 2 (fun q9 => nr_z q9.2 (by decide)) (fun q9 => nr_z q9.2 (by decide)) (fun q9 => nr_z q9.2 (by decide)) (fun q9 => nr_z q9.2 (by decide)) (fun q9 => nr_z q9.2 (by decide)) (fun q9 => nr_z q9.2 (by decide)) (fun q9 => nr_z q9.2 (by decide)) (fun q9 => nr_z q9.2 (by decide))]; exact c_207
      have c_285 : E235 0 3 = .inl (kA 0, 20, .inl fb_4) := by rw [p_245 0 3 (fun q9 => nr_z q9.2 (by decide)) (fun q9 => nr_z q9.2 (by decide)) (fun q9 => nr_z q9.2 (by decide)) (fun q9 => nr_z q9.2 (by decide)) (fun q9 => nr_z q9.2 (by decide)) (fun q9 => nr_z q9.2 (by decide)) (fun q9 => nr_z q9.2 (by decide)) (fun q9 => nr_z q9.2 (by decide))]; exact c_208
      have c_286 : E235 0 4 = .inl (kA 0, 20, .inl fe_4) := by rw [p_245 0 4 (fun q9 => nr_z q9.2 (by decide)) (fun q9 => nr_z q9.2 (by decide)) (fun q9 => nr_z q9.2 (by decide)) (fun q9 => nr_z q9.2 (by decide)) (fun q9 => nr_z q9.2 (by decide)) (fun q9 => nr_z q9.2 (by decide)) (fun q9 => nr_z q9.2 (by decide)) (fun q9 => nr_z q9.2 (by decide))]; exact c_209
      have c_287 : E235 0 5 = .inr (2, [.ref (ad234 0 6), .int (nI nd)]) := by rw [p_245 0 5 (fun q9 => nr_z q9.2 (by decide)) (fun q9 => nr_z q9.2 (by decide)) (fun q9 => nr_z q9.2 (by decide)) (fun q9 => nr_z q9.2 (by decide)) (fun q9 => nr_z q9.2 (by decide)) (fun q9 => nr_z q9.2 (by decide)) (fun q9 => nr_z q9.2 (by decide)) (fun q9 => nr_z q9.2 (by decide)), p_246 0 6 (fun q9 => nr_z q9.2 (by decide)) (fun q9 => nr_z q9.2 (by decide)) (fun q9 => nr_z q9.2 (by decide)) (fun q9 => nr_z q9.2 (by decide)) (fun q9 => nr_z q9.2 (by decide)) (fun q9 => nr_z q9.2 (by decide)) (fun q9 => nr_z q9.2 (by decide))]; exact c_210
      have c_288 : E235 0 6 = .inl (kA 4, 12, .inr (.inr (.inr (.inr fd_13)))) := by rw [p_245 0 6 (fun q9 => nr_z q9.2 (by decide)) (fun q9 => nr_z q9.2 (by decide)) (fun q9 => nr_z q9.2 (by decide)) (fun q9 => nr_z q9.2 (by decide)) (fun q9 => nr_z q9.2 (by decide)) (fun q9 => nr_z q9.2 (by decide)) (fun q9 => nr_z q9.2 (by decide)) (fun q9 => nr_z q9.2 (by decide))]; exact c_211
      have c_289 : E235 0 7 = .inr (3, [.ref (ad234 0 5), .ref (ad234 0 8), .int (nI (L.length)), .int cf_18, .null]) := by rw [p_245 0 7 (fun q9 => nr_z q9.2 (by decide)) (fun q9 => nr_z q9.2 (by decide)) (fun q9 => nr_z q9.2 (by decide)) (fun q9 => nr_z q9.2 (by decide)) (fun q9 => nr_z q9.2 (by decide)) (fun q9 => nr_z q9.2 (by decide)) (fun q9 => nr_z q9.2 (by decide)) (fun q9 => nr_z q9.2 (by decide)), p_246 0 5 (fun q9 => nr_z q9.2 (by decide)) (fun q9 => nr_z q9.2 (by decide)) (fun q9 => nr_z q9.2 (by decide)) (fun q9 => nr_z q9.2 (by decide)) (fun q9 => nr_z q9.2 (by decide)) (fun q9 => nr_z q9.2 (by decide)) (fun q9 => nr_z q9.2 (by decide)), p_246 0 8 (fun q9 => nr_z q9.2 (by decide)) (fun q9 => nr_z q9.2 (by decide)) (fun q9 => nr_z q9.2 (by decide)) (fun q9 => nr_z q9.2 (by decide)) (fun q9 => nr_z q9.2 (by decide)) (fun q9 => nr_z q9.2 (by decide)) (fun q9 => nr_z q9.2 (by decide))]; exact c_212
      have c_290 : E235 0 8 = .inl (kA 4, 12, .inr (.inr (.inr (.inr fc_18)))) := by rw [p_245 0 8 (fun q9 => nr_z q9.2 (by decide)) (fun q9 => nr_z q9.2 (by decide)) (fun q9 => nr_z q9.2 (by decide)) (fun q9 => nr_z q9.2 (by decide)) (fun q9 => nr_z q9.2 (by decide)) (fun q9 => nr_z q9.2 (by decide)) (fun q9 => nr_z q9.2 (by decide)) (fun q9 => nr_z q9.2 (by decide))]; exact c_213
      have c_291 : E235 0 9 = .inl (kA 5, 5, .inr (.inr (.inr (.inr fl_23)))) := by rw [p_245 0 9 (fun q9 => nr_z q9.2 (by decide)) (fun q9 => nr_z q9.2 (by decide)) (fun q9 => nr_z q9.2 (by decide)) (fun q9 => nr_z q9.2 (by decide)) (fun q9 => nr_z q9.2 (by decide)) (fun q9 => nr_z q9.2 (by decide)) (fun q9 => nr_z q9.2 (by decide)) (fun q9 => nr_z q9.2 (by decide))]; exact c_214
      have c_292 : E235 (20 + ml) 0 = .inr (5, [.int (nI ml), pv1, .ref (ad234 (20 + ml) 1), .int 1]) := by rw [p_245 (20 + ml) 0 (fun q9 => nr_z q9.2 (by decide)) (fun q9 => nr_z q9.2 (by decide)) (fun q9 => nr_z q9.2 (by decide)) (fun q9 => nr_z q9.2 (by decide)) (fun q9 => nr_z q9.2 (by decide)) (fun q9 => nr_z q9.2 (by decide)) (fun q9 => nr_z q9.2 (by decide)) (fun q9 => nr_z q9.2 (by decide)), p_246 (20 + ml) 1 (fun q9 => nr_z q9.2 (by decide)) (fun q9 => nr_z q9.2 (by decide)) (fun q9 => nr_z q9.2 (by decide)) (fun q9 => nr_z q9.2 (by decide)) (fun q9 => nr_z q9.2 (by decide)) (fun q9 => nr_z q9.2 (by decide)) (fun q9 => nr_z q9.2 (by decide))]; exact c_215
      have c_293 : E235 (20 + ml) 1 = .inl (kA 6, L.length, .inr (.inr (.inr (.inr fm1)))) := by rw [p_245 (20 + ml) 1 (fun q9 => nr_z q9.2 (by decide)) (fun q9 => nr_z q9.2 (by decide)) (fun q9 => nr_z q9.2 (by decide)) (fun q9 => nr_z q9.2 (by decide)) (fun q9 => nr_z q9.2 (by decide)) (fun q9 => nr_z q9.2 (by decide)) (fun q9 => nr_z q9.2 (by decide)) (fun q9 => nr_z q9.2 (by decide))]; exact c_216
      have c_294 : E235 (1 + d9) 0 = .inr (7, [.int (nI d9), .int fd_145, .int nm_145, .ref (ad234 (1 + d9) 1), .ref (ad234 (1 + d9) 9), .ref (ad234 (1 + d9) 10), .ref (ad234 (1 + d9) 2), .ref (ad234 (1 + d9) 11), .ref (ad234 (1 + d9) 12), .ref (ad234 (1 + d9) 3), .ref (ad234 (1 + d9) 4), .int sd_145]) := by rw [p_245 (1 + d9) 0 (fun q9 => nr_z q9.2 (by decide)) (fun q9 => nr_z q9.2 (by decide)) (fun q9 => nr_z q9.2 (by decide)) (fun q9 => nr_z q9.2 (by decide)) (fun q9 => nr_z q9.2 (by decide)) (fun q9 => nr_z q9.2 (by decide)) (fun q9 => nr_z q9.2 (by decide)) (fun q9 => nr_z q9.2 (by decide)), p_246 (1 + d9) 1 (fun q9 => nr_z q9.2 (by decide)) (fun q9 => nr_z q9.2 (by decide)) (fun q9 => nr_z q9.2 (by decide)) (fun q9 => nr_z q9.2 (by decide)) (fun q9 => nr_z q9.2 (by decide)) (fun q9 => nr_z q9.2 (by decide)) (fun q9 => nr_z q9.2 (by decide)), p_246 (1 + d9) 9 (fun q9 => nr_z q9.2 (by decide)) (fun q9 => nr_z q9.2 (by decide)) (fun q9 => nr_z q9.2 (by decide)) (fun q9 => nr_z q9.2 (by decide)) (fun q9 => nr_z q9.2 (by decide)) (fun q9 => nr_z q9.2 (by decide)) (fun q9 => nr_z q9.2 (by decide)), p_246 (1 + d9) 10 (fun q9 => nr_z q9.2 (by decide)) (fun q9 => nr_z q9.2 (by decide)) (fun q9 => nr_z q9.2 (by decide)) (fun q9 => nr_z q9.2 (by decide)) (fun q9 => nr_z q9.2 (by decide)) (fun q9 => nr_z q9.2 (by decide)) (fun q9 => nr_z q9.2 (by decide)), p_246 (1 + d9) 2 (fun q9 => nr_z q9.2 (by decide)) (fun q9 => nr_z q9.2 (by decide)) (fun q9 => nr_z q9.2 (by decide)) (fun q9 => nr_z q9.2 (by decide)) (fun q9 => nr_z q9.2 (by decide)) (fun q9 => nr_z q9.2 (by decide)) (fun q9 => nr_z q9.2 (by decide)), p_246 (1 + d9) 11 (fun q9 => nb_218 q9.1) (fun q9 => nr_z q9.2 (by decide)) (fun q9 => nr_z q9.2 (by decide)) (fun q9 => nr_z q9.2 (by decide)) (fun q9 => nr_z q9.2 (by decide)) (fun q9 => nr_z q9.2 (by decide)) (fun q9 => nr_z q9.2 (by decide)), p_246 (1 + d9) 12 (fun q9 => nb_218 q9.1) (fun q9 => nb_218 q9.1) (fun q9 => nr_z q9.2 (by decide)) (fun q9 => nr_z q9.2 (by decide)) (fun q9 => nr_z q9.2 (by decide)) (fun q9 => nr_z q9.2 (by decide)) (fun q9 => nr_z q9.2 (by decide)), p_246 (1 + d9) 3 (fun q9 => nr_z q9.2 (by decide)) (fun q9 => nr_z q9.2 (by decide)) (fun q9 => nr_z q9.2 (by decide)) (fun q9 => nr_z q9.2 (by decide)) (fun q9 => nr_z q9.2 (by decide)) (fun q9 => nr_z q9.2 (by decide)) (fun q9 => nr_z q9.2 (by decide)), p_246 (1 + d9) 4 (fun q9 => nr_z q9.2 (by decide)) (fun q9 => nr_z q9.2 (by decide)) (fun q9 => nr_z q9.2 (by decide)) (fun q9 => nr_z q9.2 (by decide)) (fun q9 => nr_z q9.2 (by decide)) (fun q9 => nr_z q9.2 (by decide)) (fun q9 => nr_z q9.2 (by decide))]; exact c_217
      have c_295 : E235 (1 + d9) 1 = .inr (8, [.ref (ad234 (1 + d9) 5), .int (nI k0_145)]) := by rw [p_245 (1 + d9) 1 (fun q9 => nr_z q9.2 (by decide)) (fun q9 => nr_z q9.2 (by decide)) (fun q9 => nr_z q9.2 (by decide)) (fun q9 => nr_z q9.2 (by decide)) (fun q9 => nr_z q9.2 (by decide)) (fun q9 => nr_z q9.2 (by decide)) (fun q9 => nr_z q9.2 (by decide)) (fun q9 => nr_z q9.2 (by decide)), p_246 (1 + d9) 5 (fun q9 => nr_z q9.2 (by decide)) (fun q9 => nr_z q9.2 (by decide)) (fun q9 => nr_z q9.2 (by decide)) (fun q9 => nr_z q9.2 (by decide)) (fun q9 => nr_z q9.2 (by decide)) (fun q9 => nr_z q9.2 (by decide)) (fun q9 => nr_z q9.2 (by decide))]; exact c_219
      have c_296 : E235 (1 + d9) 2 = .inr (8, [.ref (ad234 (1 + d9) 6), .int (nI k1_145)]) := by rw [p_245 (1 + d9) 2 (fun q9 => nr_z q9.2 (by decide)) (fun q9 => nr_z q9.2 (by decide)) (fun q9 => nr_z q9.2 (by decide)) (fun q9 => nr_z q9.2 (by decide)) (fun q9 => nr_z q9.2 (by decide)) (fun q9 => nr_z q9.2 (by decide)) (fun q9 => nr_z q9.2 (by decide)) (fun q9 => nr_z q9.2 (by decide)), p_246 (1 + d9) 6 (fun q9 => nr_z q9.2 (by decide)) (fun q9 => nr_z q9.2 (by decide)) (fun q9 => nr_z q9.2 (by decide)) (fun q9 => nr_z q9.2 (by decide)) (fun q9 => nr_z q9.2 (by decide)) (fun q9 => nr_z q9.2 (by decide)) (fun q9 => nr_z q9.2 (by decide))]; exact c_220
      have c_297 : E235 (1 + d9) 3 = .inr (8, [.ref (ad234 (1 + d9) 7), .int (nI k2_145)]) := by rw [p_245 (1 + d9) 3 (fun q9 => nr_z q9.2 (by decide)) (fun q9 => nr_z q9.2 (by decide)) (fun q9 => nr_z q9.2 (by decide)) (fun q9 => nr_z q9.2 (by decide)) (fun q9 => nr_z q9.2 (by decide)) (fun q9 => nr_z q9.2 (by decide)) (fun q9 => nr_z q9.2 (by decide)) (fun q9 => nr_z q9.2 (by decide)), p_246 (1 + d9) 7 (fun q9 => nr_z q9.2 (by decide)) (fun q9 => nr_z q9.2 (by decide)) (fun q9 => nr_z q9.2 (by decide)) (fun q9 => nr_z q9.2 (by decide)) (fun q9 => nr_z q9.2 (by decide)) (fun q9 => nr_z q9.2 (by decide)) (fun q9 => nr_z q9.2 (by decide))]; exact c_221
      have c_298 : E235 (1 + d9) 4 = .inr (8, [.ref (ad234 (1 + d9) 8), .int (nI k3_145)]) := by rw [p_245 (1 + d9) 4 (fun q9 => nr_z q9.2 (by decide)) (fun q9 => nr_z q9.2 (by decide)) (fun q9 => nr_z q9.2 (by decide)) (fun q9 => nr_z q9.2 (by decide)) (fun q9 => nr_z q9.2 (by decide)) (fun q9 => nr_z q9.2 (by decide)) (fun q9 => nr_z q9.2 (by decide)) (fun q9 => nr_z q9.2 (by decide)), p_246 (1 + d9) 8 (fun q9 => nr_z q9.2 (by decide)) (fun q9 => nr_z q9.2 (by decide)) (fun q9 => nr_z q9.2 (by decide)) (fun q9 => nr_z q9.2 (by decide)) (fun q9 => nr_z q9.2 (by decide)) (fun q9 => nr_z q9.2 (by decide)) (fun q9 => nr_z q9.2 (by decide))]; exact c_222
      have c_299 : E235 (1 + d9) 5 = .inl (kA 0, 6, .inl f0_145) := by rw [p_245 (1 + d9) 5 (fun q9 => nr_z q9.2 (by decide)) (fun q9 => nr_z q9.2 (by decide)) (fun q9 => nr_z q9.2 (by decide)) (fun q9 => nr_z q9.2 (by decide)) (fun q9 => nr_z q9.2 (by decide)) (fun q9 => nr_z q9.2 (by decide)) (fun q9 => nr_z q9.2 (by decide)) (fun q9 => nr_z q9.2 (by decide))]; exact c_223
      have c_300 : E235 (1 + d9) 6 = .inl (kA 0, 5, .inl f1_145) := by rw [p_245 (1 + d9) 6 (fun q9 => nr_z q9.2 (by decide)) (fun q9 => nr_z q9.2 (by decide)) (fun q9 => nr_z q9.2 (by decide)) (fun q9 => nr_z q9.2 (by decide)) (fun q9 => nr_z q9.2 (by decide)) (fun q9 => nr_z q9.2 (by decide)) (fun q9 => nr_z q9.2 (by decide)) (fun q9 => nr_z q9.2 (by decide))]; exact c_224
      have c_301 : E235 (1 + d9) 7 = .inl (kA 0, 3, .inl f2_145) := by rw [p_245 (1 + d9) 7 (fun q9 => nr_z q9.2 (by decide)) (fun q9 => nr_z q9.2 (by decide)) (fun q9 => nr_z q9.2 (by decide)) (fun q9 => nr_z q9.2 (by decide)) (fun q9 => nr_z q9.2 (by decide)) (fun q9 => nr_z q9.2 (by decide)) (fun q9 => nr_z q9.2 (by decide)) (fun q9 => nr_z q9.2 (by decide))]; exact c_225
      have c_302 : E235 (1 + d9) 8 = .inl (kA 0, 3, .inl f3_145) := by rw [p_245 (1 + d9) 8 (fun q9 => nr_z q9.2 (by decide)) (fun q9 => nr_z q9.2 (by decide)) (fun q9 => nr_z q9.2 (by decide)) (fun q9 => nr_z q9.2 (by decide)) (fun q9 => nr_z q9.2 (by decide)) (fun q9 => nr_z q9.2 (by decide)) (fun q9 => nr_z q9.2 (by decide)) (fun q9 => nr_z q9.2 (by decide))]; exact c_226
      have c_303 : E235 (1 + d9) 9 = .inl (kA 8, 6, .inr (.inr (.inr (.inr fe_145)))) := by rw [p_245 (1 + d9) 9 (fun q9 => nr_z q9.2 (by decide)) (fun q9 => nr_z q9.2 (by decide)) (fun q9 => nr_z q9.2 (by decide)) (fun q9 => nr_z q9.2 (by decide)) (fun q9 => nr_z q9.2 (by decide)) (fun q9 => nr_z q9.2 (by decide)) (fun q9 => nr_z q9.2 (by decide)) (fun q9 => nr_z q9.2 (by decide))]; exact c_227
      have c_304 : E235 (1 + d9) 10 = .inl (kA 8, 6, .inr (.inr (.inr (.inr fo_145)))) := by rw [p_245 (1 + d9) 10 (fun q9 => nb_218 q9.1) (fun q9 => nr_z q9.2 (by decide)) (fun q9 => nr_z q9.2 (by decide)) (fun q9 => nr_z q9.2 (by decide)) (fun q9 => nr_z q9.2 (by decide)) (fun q9 => nr_z q9.2 (by decide)) (fun q9 => nr_z q9.2 (by decide)) (fun q9 => nr_z q9.2 (by decide))]; exact c_228
      have c_305 : E235 (1 + d9) 11 = .inl (kA 2, 5, .inl tr_145) := by rw [p_245 (1 + d9) 11 (fun q9 => nb_218 q9.1) (fun q9 => nb_218 q9.1) (fun q9 => nr_z q9.2 (by decide)) (fun q9 => nr_z q9.2 (by decide)) (fun q9 => nr_z q9.2 (by decide)) (fun q9 => nr_z q9.2 (by decide)) (fun q9 => nr_z q9.2 (by decide)) (fun q9 => nr_z q9.2 (by decide))]; exact c_229
      have c_306 : E235 (1 + d9) 12 = .inl (kA 2, 5, .inl op_145) := by rw [p_245 (1 + d9) 12 (fun q9 => nb_218 q9.1) (fun q9 => nb_218 q9.1) (fun q9 => nb_218 q9.1) (fun q9 => nr_z q9.2 (by decide)) (fun q9 => nr_z q9.2 (by decide)) (fun q9 => nr_z q9.2 (by decide)) (fun q9 => nr_z q9.2 (by decide)) (fun q9 => nr_z q9.2 (by decide))]; exact c_230
      have hP : va_P D xcl (rp ad234 E235 RL236) H := hP
      have hD : va_D A (rp ad234 E235 RL236) := hD
      refine px_aast (i := k) (r := (xR_Me, xT_Me, 6)) hx hb hK.1 hP hD hS m_267 c_293 6 rfl m_281 p_237 rfl (by omega) (by omega) xd_Ch_draft_46 (fun H locs hP hD hS => ?_)
      have hP : va_P D xcl (rp ad234 (up2 E235 (20 + ml) 1 (.inl (kA 6, L.length, .inr (.inr (.inr (.inr (va_up fm1 k (some (ad234 (20 + ml) (10 + 10 * k)))))))))) RL236) H := hP
      have hD : va_D A (rp ad234 (up2 E235 (20 + ml) 1 (.inl (kA 6, L.length, .inr (.inr (.inr (.inr (va_up fm1 k (some (ad234 (20 + ml) (10 + 10 * k)))))))))) RL236) := hD
      generalize hE308 : up2 E235 (20 + ml) 1 (.inl (kA 6, L.length, .inr (.inr (.inr (.inr (va_up fm1 k (some (ad234 (20 + ml) (10 + 10 * k))))))))) = E307 at hP hD
      have fE309 : ∀ b2 o2, ¬ (b2 = 20 + ml ∧ o2 = 1) → E307 b2 o2 = E235 b2 o2 := fun b2 o2 h9 => by rw [← hE308]; exact up2_ne (nr_or h9)
      have c_310 : E307 (20 + ml) 1 = .inl (kA 6, L.length, .inr (.inr (.inr (.inr (va_up fm1 k (some (ad234 (20 + ml) (10 + 10 * k)))))))) := by rw [← hE308]; exact up2_eq
      have c_311 : E307 (20 + ml) (10 + 10 * k) = .inr (6, [.ref (ad234 (20 + ml) 0), .ref (ad234 (1 + d9) 0), .ref (ad234 (20 + ml) (11 + 10 * k)), .ref (ad234 (20 + ml) (12 + 10 * k)), .ref (ad234 (20 + ml) (13 + 10 * k)), .ref (ad234 (20 + ml) (14 + 10 * k))]) := (fE309 (20 + ml) (10 + 10 * k) (fun q9 => nr_y q9.2 (by decide))).trans p_237
      have c_312 : E307 (20 + ml) (11 + 10 * k) = .inl (kA 6, k1_145, .inr (.inr (.inr (.inr (fun _ => none))))) := (fE309 (20 + ml) (11 + 10 * k) (fun q9 => nr_y q9.2 (by decide))).trans p_238
      have c_313 : E307 (20 + ml) (12 + 10 * k) = .inr (10, [.ref (ad234 (20 + ml) (15 + 10 * k))]) := (fE309 (20 + ml) (12 + 10 * k) (fun q9 => nr_y q9.2 (by decide))).trans p_239
      have c_314 : E307 (20 + ml) (13 + 10 * k) = .inr (10, [.ref (ad234 (20 + ml) (16 + 10 * k))]) := (fE309 (20 + ml) (13 + 10 * k) (fun q9 => nr_y q9.2 (by decide))).trans p_240
      have c_315 : E307 (20 + ml) (14 + 10 * k) = .inr (10, [.ref (ad234 (20 + ml) (17 + 10 * k))]) := (fE309 (20 + ml) (14 + 10 * k) (fun q9 => nr_y q9.2 (by decide))).trans p_241
      have c_316 : E307 (20 + ml) (15 + 10 * k) = .inl (kA 0, 6, .inl (fun _ => 0)) := (fE309 (20 + ml) (15 + 10 * k) (fun q9 => nr_y q9.2 (by decide))).trans p_242
      have c_317 : E307 (20 + ml) (16 + 10 * k) = .inl (kA 0, 6, .inl (fun _ => 0)) := (fE309 (20 + ml) (16 + 10 * k) (fun q9 => nr_y q9.2 (by decide))).trans p_243
      have c_318 : E307 (20 + ml) (17 + 10 * k) = .inl (kA 0, 6, .inl (fun _ => 0)) := (fE309 (20 + ml) (17 + 10 * k) (fun q9 => nr_y q9.2 (by decide))).trans p_244
      have c_319 : E307 0 0 = .inr (0, [.ref (ad234 0 1), .ref (ad234 0 5), .ref (ad234 0 7), .ref (ad234 0 9), .int (nI ml), .int lf_1]) := (fE309 0 0 (fun q9 => absurd q9.2 (by decide))).trans c_282
      have c_320 : E307 0 1 = .inr (1, [.ref (ad234 0 2), .ref (ad234 0 3), .ref (ad234 0 4), .int (nI len), .int (nI wn)]) := (fE309 0 1 (fun q9 => nb_44 q9.1)).trans c_283
      have c_321 : E307 0 2 = .inl (kA 1, 40, .inl tx_4) := (fE309 0 2 (fun q9 => absurd q9.2 (by decide))).trans c_284
      have c_322 : E307 0 3 = .inl (kA 0, 20, .inl fb_4) := (fE309 0 3 (fun q9 => absurd q9.2 (by decide))).trans c_285
      have c_323 : E307 0 4 = .inl (kA 0, 20, .inl fe_4) := (fE309 0 4 (fun q9 => absurd q9.2 (by decide))).trans c_286
      have c_324 : E307 0 5 = .inr (2, [.ref (ad234 0 6), .int (nI nd)]) := (fE309 0 5 (fun q9 => absurd q9.2 (by decide))).trans c_287
      have c_325 : E307 0 6 = .inl (kA 4, 12, .inr (.inr (.inr (.inr fd_13)))) := (fE309 0 6 (fun q9 => absurd q9.2 (by decide))).trans c_288
      have c_326 : E307 0 7 = .inr (3, [.ref (ad234 0 5), .ref (ad234 0 8), .int (nI (L.length)), .int cf_18, .null]) := (fE309 0 7 (fun q9 => absurd q9.2 (by decide))).trans c_289
      have c_327 : E307 0 8 = .inl (kA 4, 12, .inr (.inr (.inr (.inr fc_18)))) := (fE309 0 8 (fun q9 => absurd q9.2 (by decide))).trans c_290
      have c_328 : E307 0 9 = .inl (kA 5, 5, .inr (.inr (.inr (.inr fl_23)))) := (fE309 0 9 (fun q9 => absurd q9.2 (by decide))).trans c_291
      have c_329 : E307 (20 + ml) 0 = .inr (5, [.int (nI ml), pv1, .ref (ad234 (20 + ml) 1), .int 1]) := (fE309 (20 + ml) 0 (fun q9 => absurd q9.2 (by decide))).trans c_292
      have c_330 : E307 (1 + d9) 0 = .inr (7, [.int (nI d9), .int fd_145, .int nm_145, .ref (ad234 (1 + d9) 1), .ref (ad234 (1 + d9) 9), .ref (ad234 (1 + d9) 10), .ref (ad234 (1 + d9) 2), .ref (ad234 (1 + d9) 11), .ref (ad234 (1 + d9) 12), .ref (ad234 (1 + d9) 3), .ref (ad234 (1 + d9) 4), .int sd_145]) := (fE309 (1 + d9) 0 (fun q9 => absurd q9.2 (by decide))).trans c_294
      have c_331 : E307 (1 + d9) 1 = .inr (8, [.ref (ad234 (1 + d9) 5), .int (nI k0_145)]) := (fE309 (1 + d9) 1 (fun q9 => nb_218 q9.1)).trans c_295
      have c_332 : E307 (1 + d9) 2 = .inr (8, [.ref (ad234 (1 + d9) 6), .int (nI k1_145)]) := (fE309 (1 + d9) 2 (fun q9 => absurd q9.2 (by decide))).trans c_296
      have c_333 : E307 (1 + d9) 3 = .inr (8, [.ref (ad234 (1 + d9) 7), .int (nI k2_145)]) := (fE309 (1 + d9) 3 (fun q9 => absurd q9.2 (by decide))).trans c_297
      have c_334 : E307 (1 + d9) 4 = .inr (8, [.ref (ad234 (1 + d9) 8), .int (nI k3_145)]) := (fE309 (1 + d9) 4 (fun q9 => absurd q9.2 (by decide))).trans c_298
      have c_335 : E307 (1 + d9) 5 = .inl (kA 0, 6, .inl f0_145) := (fE309 (1 + d9) 5 (fun q9 => absurd q9.2 (by decide))).trans c_299
      have c_336 : E307 (1 + d9) 6 = .inl (kA 0, 5, .inl f1_145) := (fE309 (1 + d9) 6 (fun q9 => absurd q9.2 (by decide))).trans c_300
      have c_337 : E307 (1 + d9) 7 = .inl (kA 0, 3, .inl f2_145) := (fE309 (1 + d9) 7 (fun q9 => absurd q9.2 (by decide))).trans c_301
      have c_338 : E307 (1 + d9) 8 = .inl (kA 0, 3, .inl f3_145) := (fE309 (1 + d9) 8 (fun q9 => absurd q9.2 (by decide))).trans c_302
      have c_339 : E307 (1 + d9) 9 = .inl (kA 8, 6, .inr (.inr (.inr (.inr fe_145)))) := (fE309 (1 + d9) 9 (fun q9 => absurd q9.2 (by decide))).trans c_303
      have c_340 : E307 (1 + d9) 10 = .inl (kA 8, 6, .inr (.inr (.inr (.inr fo_145)))) := (fE309 (1 + d9) 10 (fun q9 => absurd q9.2 (by decide))).trans c_304
      have c_341 : E307 (1 + d9) 11 = .inl (kA 2, 5, .inl tr_145) := (fE309 (1 + d9) 11 (fun q9 => absurd q9.2 (by decide))).trans c_305
      have c_342 : E307 (1 + d9) 12 = .inl (kA 2, 5, .inl op_145) := (fE309 (1 + d9) 12 (fun q9 => absurd q9.2 (by decide))).trans c_306
      refine lv_iinc (k := 0) (x := (nI k)) (v := (nI (k + 1))) hx hb xd_Ch_draft_47 hl rfl (xb_inc k 1) (Nat.le_of_ble_eq_true rfl) rfl (fun ls hl => ?_)
      have hl : lv_has ls 4 [(3, .int (nI (k + 1))), (2, .ref (ad234 (20 + ml) 0)), (0, .ref (ad234 0 7))] := hl
      refine lv_goto (tgt := 19) hx hb xd_Ch_draft_50 (by decide) ?_
      exact ih89 (k + 1, ad234, E307, RL236, pv1, (va_up fm1 k (some (ad234 (20 + ml) (10 + 10 * k))))) _ _ _ (show L.length - (k + 1) < L.length - k by omega) (lv_sub hl [0, 1, 2] rfl) hP hD hS ⟨(show (k + 1) ≤ L.length from by first | assumption | omega), (show (∀ b2 o2, ¬ (b2 = 20 + ml) → E307 b2 o2 = E b2 o2) from fun b2 o2 h9 => by show E307 b2 o2 = _; rw [fE309 b2 o2 (by omega), p_245 b2 o2 (by omega) (by omega) (by omega) (by omega) (by omega) (by omega) (by omega) (by omega), fE175 b2 o2 (by omega), hfE b2 o2 (by omega)]), (show (∀ b2 o2, ¬ (b2 = 20 + ml) → ad234 b2 o2 = ad b2 o2) from fun b2 o2 h9 => by show ad234 b2 o2 = _; rw [p_246 b2 o2 (by omega) (by omega) (by omega) (by omega) (by omega) (by omega) (by omega), fA176 b2 o2 (by omega), hfA b2 o2 (by omega)]), (show ∀ x ∈ RL, x ∈ RL236 from fun _ h9 => p_247 _ (hs177 _ (hfS _ h9))), (show (20 + ml, 0) ∈ RL236 from m_266), (show (20 + ml, 1) ∈ RL236 from m_267), (show pv1 = .null ∨ ∃ x, x < ml ∧ pv1 = .ref (ad234 (20 + x) 0) from by rcases hpv1 with h | ⟨x, hx9, h⟩; exact Or.inl h; exact Or.inr ⟨x, hx9, by rw [p_246 (20 + x) 0 (by omega) (by omega) (by omega) (by omega) (by omega) (by omega) (by omega), fA176 (20 + x) 0 (by omega)]; exact h⟩), (show pv1 = lyv ad234 lq from hpx.trans (lyv_same (fun x hx9 => by rw [p_246 (20 + x) 0 (by omega) (by omega) (by omega) (by omega) (by omega) (by omega) (by omega), fA176 (20 + x) 0 (by omega)])).symm), (show E307 (20 + ml) 0 = .inr (5, [.int (nI ml), pv1, .ref (ad234 (20 + ml) 1), .int 1]) from c_329), (show E307 (20 + ml) 1 = .inl (kA 6, L.length, .inr (.inr (.inr (.inr (va_up fm1 k (some (ad234 (20 + ml) (10 + 10 * k)))))))) from c_310), (show ∀ j, j < (k + 1) → (va_up fm1 k (some (ad234 (20 + ml) (10 + 10 * k)))) j = some (ad234 (20 + ml) (10 + 10 * j)) ∧ MEI kA ad234 E307 RL236 nd ml j from fun j hj => by
          by_cases q : j = k
          · subst q; exact ⟨vu_eq, ⟨(fun j9 hj9 => by
              have hj8 : j9 = 0 ∨ j9 = 1 ∨ j9 = 2 ∨ j9 = 3 ∨ j9 = 4 ∨ j9 = 5 ∨ j9 = 6 ∨ j9 = 7 := by omega
              rcases hj8 with rfl | rfl | rfl | rfl | rfl | rfl | rfl | rfl
              · exact m_281
              · exact p_248
              · exact p_249
              · exact p_250
              · exact p_251
              · exact p_252
              · exact p_253
              · exact p_254), d9, k1_145, (fun _ => none), (fun _ => 0), (fun _ => 0), (fun _ => 0), hd9, by omega, c_311, c_312, c_313, c_314, c_315, c_316, c_317, c_318⟩⟩
          · exact ⟨(vu_ne q).trans ((hMM j (by omega)).1.trans (by rw [p_246 (20 + ml) (10 + 10 * j) (by omega) (by omega) (by omega) (by omega) (by omega) (by omega) (by omega), fA176 (20 + ml) (10 + 10 * j) (by omega)])), MEI_at (fun j9 hj9 => by rw [fE309 (20 + ml) (10 + j9 + 10 * j) (by omega), p_245 (20 + ml) (10 + j9 + 10 * j) (by omega) (by omega) (by omega) (by omega) (by omega) (by omega) (by omega) (by omega), fE175 (20 + ml) (10 + j9 + 10 * j) (by omega)]) (fun j9 hj9 => by rw [p_246 (20 + ml) (10 + j9 + 10 * j) (by omega) (by omega) (by omega) (by omega) (by omega) (by omega) (by omega), fA176 (20 + ml) (10 + j9 + 10 * j) (by omega)]) (by rw [p_246 (20 + ml) 0 (by omega) (by omega) (by omega) (by omega) (by omega) (by omega) (by omega), fA176 (20 + ml) 0 (by omega)]) (fun d8 hd8 => by rw [p_246 (1 + d8) 0 (by omega) (by omega) (by omega) (by omega) (by omega) (by omega) (by omega), fA176 (1 + d8) 0 (by omega)]) (fun _ h9 => p_247 _ (hs177 _ (h9))) (hMM j (by omega)).2⟩), (show ∀ j, j < (k + 1) → DX g ad234 E307 L ml j from fun j hj => by
        by_cases q : j = k
        · rw [q]; exact ⟨by rw [c_311, ← hd9e]; rfl, by rw [c_312, ← hd9e, ← tk1_145, iN_nI (by omega)]; rfl, by rw [c_316]; rfl, by rw [c_317]; rfl, by rw [c_318]; rfl⟩
        · exact DX_at (fun j9 hj9 => by rw [fE309 (20 + ml) (10 + j9 + 10 * j) (by omega), p_245 (20 + ml) (10 + j9 + 10 * j) (by omega) (by omega) (by omega) (by omega) (by omega) (by omega) (by omega) (by omega), fE175 (20 + ml) (10 + j9 + 10 * j) (by omega)]) (by
          have q9 := hxGL.1 _ (getD_mem (L := L) (k := j) (by omega))
          rw [p_246 (1 + L.getD j 0) 0 (by omega) (by omega) (by omega) (by omega) (by omega) (by omega) (by omega), fA176 (1 + L.getD j 0) 0 (by omega)]) (hMX j (by omega)))⟩
  · have hd0 := hDIs0
    refine px_new (ci := 5) (fs := [.int 0, .null, .null, .int 0]) (C := xR_Ly) (T := xT_Ly) (N := 4) (20 + ml) 0 hx hb hT xi_Ly xt_Ly xt_Ly_ok hown (hT _ k5w_0) (hT _ k5w_1) (hT _ k5w_2) hK.1 hP hD hS hA rfl (by decide +kernel) (Nat.le_of_ble_eq_true rfl) (Nat.le_of_ble_eq_true rfl) xd_Ch_draft_0 (fun ad343 E344 RL345 H hA1 hE1 hs1 hm1 hP hD hS => ?_)
    have fE346 : ∀ b2 o2, ¬ (b2 = 20 + ml ∧ o2 = 0) → E344 b2 o2 = E b2 o2 := fun b2 o2 h9 => by rw [hE1]; exact up2_ne (nr_or h9)
    have fA347 : ∀ b2 o2, ¬ (b2 = 20 + ml ∧ o2 = 0) → ad343 b2 o2 = ad b2 o2 := fun b2 o2 h9 => by rw [hA1]; exact up2_ne (nr_or h9)
    have hs348 := hs1
    have c_349 : E344 (20 + ml) 0 = .inr (5, [.int 0, .null, .null, .int 0]) := by rw [hE1]; exact up2_eq
    have hl : lv_has ls 4 [(0, .ref (ad343 0 7)), (1, .int (nI ml))] := by
      rw [fA347 0 7 (fun q9 => absurd q9.2 (by decide))]; exact hl
    have m_351 : (0, 0) ∈ RL345 := hs348 _ m_3
    have m_352 : (0, 1) ∈ RL345 := hs348 _ m_6
    have m_353 : (0, 2) ∈ RL345 := hs348 _ m_8
    have m_354 : (0, 3) ∈ RL345 := hs348 _ m_10
    have m_355 : (0, 4) ∈ RL345 := hs348 _ m_12
    have m_356 : (0, 5) ∈ RL345 := hs348 _ m_15
    have m_357 : (0, 6) ∈ RL345 := hs348 _ m_17
    have m_358 : (0, 7) ∈ RL345 := hs348 _ m_20
    have m_359 : (0, 8) ∈ RL345 := hs348 _ m_22
    have m_360 : (0, 9) ∈ RL345 := hs348 _ m_25
    have nb_361 : ¬ (0 = 20 + ml) := by omega
    have c_362 : E344 0 0 = .inr (0, [.ref (ad343 0 1), .ref (ad343 0 5), .ref (ad343 0 7), .ref (ad343 0 9), .int (nI ml), .int lf_1]) := by rw [fE346 0 0 (fun q9 => nb_361 q9.1), fA347 0 1 (fun q9 => absurd q9.2 (by decide)), fA347 0 5 (fun q9 => absurd q9.2 (by decide)), fA347 0 7 (fun q9 => absurd q9.2 (by decide)), fA347 0 9 (fun q9 => absurd q9.2 (by decide))]; exact c_2
    have c_363 : E344 0 1 = .inr (1, [.ref (ad343 0 2), .ref (ad343 0 3), .ref (ad343 0 4), .int (nI len), .int (nI wn)]) := by rw [fE346 0 1 (fun q9 => absurd q9.2 (by decide)), fA347 0 2 (fun q9 => absurd q9.2 (by decide)), fA347 0 3 (fun q9 => absurd q9.2 (by decide)), fA347 0 4 (fun q9 => absurd q9.2 (by decide))]; exact c_5
    have c_364 : E344 0 2 = .inl (kA 1, 40, .inl tx_4) := by rw [fE346 0 2 (fun q9 => absurd q9.2 (by decide))]; exact c_7
    have c_365 : E344 0 3 = .inl (kA 0, 20, .inl fb_4) := by rw [fE346 0 3 (fun q9 => absurd q9.2 (by decide))]; exact c_9
    have c_366 : E344 0 4 = .inl (kA 0, 20, .inl fe_4) := by rw [fE346 0 4 (fun q9 => absurd q9.2 (by decide))]; exact c_11
    have c_367 : E344 0 5 = .inr (2, [.ref (ad343 0 6), .int (nI nd)]) := by rw [fE346 0 5 (fun q9 => absurd q9.2 (by decide)), fA347 0 6 (fun q9 => absurd q9.2 (by decide))]; exact c_14
    have c_368 : E344 0 6 = .inl (kA 4, 12, .inr (.inr (.inr (.inr fd_13)))) := by rw [fE346 0 6 (fun q9 => absurd q9.2 (by decide))]; exact c_16
    have c_369 : E344 0 7 = .inr (3, [.ref (ad343 0 5), .ref (ad343 0 8), .int (nI (L.length)), .int cf_18, .ref (ad343 (20 + xp) 0)]) := by rw [fE346 0 7 (fun q9 => absurd q9.2 (by decide)), fA347 0 5 (fun q9 => absurd q9.2 (by decide)), fA347 0 8 (fun q9 => absurd q9.2 (by decide)), fA347 (20 + xp) 0 (by omega)]; exact c_19
    have c_370 : E344 0 8 = .inl (kA 4, 12, .inr (.inr (.inr (.inr fc_18)))) := by rw [fE346 0 8 (fun q9 => absurd q9.2 (by decide))]; exact c_21
    have c_371 : E344 0 9 = .inl (kA 5, 5, .inr (.inr (.inr (.inr fl_23)))) := by rw [fE346 0 9 (fun q9 => absurd q9.2 (by decide))]; exact c_24
    have m_350 : (20 + ml, 0) ∈ RL345 := hm1
    have hP : va_P D xcl (rp ad343 E344 RL345) H := hP
    have hD : va_D A (rp ad343 E344 RL345) := hD
    refine lv_dup hx hb xd_Ch_draft_3 rfl ?_
    refine lv_iload_n hx hb xd_Ch_draft_4 rfl (lv_at hl 1 rfl) ?_
    refine lv_aload_n hx hb xd_Ch_draft_5 rfl (lv_at hl 0 rfl) ?_
    refine px_get (D := D) (ci := 3) (v := .ref (ad343 (20 + xp) 0)) (C := xR_Ch) (T := xT_Ch) (N := 5) hx hb hT xi_Ch hown hK.1 hP m_358 c_369 rfl 4 (by decide) (hT _ k5w_3) (fun _ h9 => h9) rfl xd_Ch_draft_6 ?_
    refine lv_aload_n hx hb xd_Ch_draft_9 rfl (lv_at hl 0 rfl) ?_
    refine px_get (D := D) (ci := 3) (v := .int (nI (L.length))) (C := xR_Ch) (T := xT_Ch) (N := 5) hx hb hT xi_Ch hown hK.1 hP m_358 c_369 rfl 2 (by decide) (hT _ k5w_4) (fun _ h9 => h9) rfl xd_Ch_draft_10 ?_
    have hFc := px_free hD hS hA
    refine va_callv (va_runI (As := [.int (nI ml), .ref (ad343 (20 + xp) 0), .int (nI (L.length))]) (rest := [.ref (ad343 (20 + ml) 0)]) ⟨hx, hb, hml, hown, hT⟩ (xc_Ly_initR l D kA H.size ad343 E344 RL345 ml (ad343 (20 + xp) 0) L.length m_350 c_349 (by first | assumption | omega)) (cwI 3 hT (wT_I k5w_5) rfl rfl rfl (hT _ k5w_2) (hT _ k5w_6) (hT _ k5w_7) rfl (by decide +kernel) ⟨Nat.le_of_ble_eq_true rfl, Nat.le_of_ble_eq_true rfl⟩) (x_preS hK hP hD) rfl rfl hl.1 rfl (lv_room (Nat.le_of_ble_eq_true rfl)) xd_Ch_draft_13 ⟨(Nat.le_of_ble_eq_true rfl), (Nat.le_of_ble_eq_true rfl)⟩) hS (fun q _ h => hFc q h) hFc (fun u373 t H1 locs ht hvm hp374 hB hz1 hk1 hS => ?_)
    obtain ⟨hP1, hD1⟩ := hB
    rw [ht] at hP1
    have hD1 := hD1.weaken (fun _ _ _ h => hFc _ h)
    generalize H1 = H at hP1 hS ⊢
    have hP := hP1
    have hD := hD1
    obtain ⟨ad375, E376, RL377⟩ := u373
    obtain ⟨hp384, p_378, p_379, p_380, p_381, p_382, p_383⟩ := hp374
    have p_378 : E376 (20 + ml) 0 = .inr (5, [.int (nI ml), .ref (ad343 (20 + xp) 0), .ref (ad375 (20 + ml) 1), .int 1]) := p_378
    have p_379 : E376 (20 + ml) 1 = .inl (kA 6, L.length, .inr (.inr (.inr (.inr (fun _ => none))))) := p_379
    have p_380 : (∀ b2 o2, ¬ (b2 = 20 + ml ∧ o2 = 0) → ¬ (b2 = 20 + ml ∧ o2 = 1) → E376 b2 o2 = E344 b2 o2) := p_380
    have p_381 : (∀ b2 o2, ¬ (b2 = 20 + ml ∧ o2 = 1) → ad375 b2 o2 = ad343 b2 o2) := p_381
    have p_382 : (∀ x ∈ RL345, x ∈ RL377) := p_382
    have p_383 : (20 + ml, 1) ∈ RL377 := p_383
    refine W.eq (g2 := F0 m 16 ls [.ref (ad375 (20 + ml) 0)]) (by rw [p_381 (20 + ml) 0 (fun q9 => absurd q9.2 (by decide))]) ?_
    have hl : lv_has ls 4 [(0, .ref (ad375 0 7)), (1, .int (nI ml))] := by
      rw [p_381 0 7 (fun q9 => absurd q9.2 (by decide))]; exact hl
    have m_385 : (0, 0) ∈ RL377 := p_382 _ m_351
    have m_386 : (0, 1) ∈ RL377 := p_382 _ m_352
    have m_387 : (0, 2) ∈ RL377 := p_382 _ m_353
    have m_388 : (0, 3) ∈ RL377 := p_382 _ m_354
    have m_389 : (0, 4) ∈ RL377 := p_382 _ m_355
    have m_390 : (0, 5) ∈ RL377 := p_382 _ m_356
    have m_391 : (0, 6) ∈ RL377 := p_382 _ m_357
    have m_392 : (0, 7) ∈ RL377 := p_382 _ m_358
    have m_393 : (0, 8) ∈ RL377 := p_382 _ m_359
    have m_394 : (0, 9) ∈ RL377 := p_382 _ m_360
    have m_395 : (20 + ml, 0) ∈ RL377 := p_382 _ m_350
    have c_396 : E376 0 0 = .inr (0, [.ref (ad375 0 1), .ref (ad375 0 5), .ref (ad375 0 7), .ref (ad375 0 9), .int (nI ml), .int lf_1]) := by rw [p_380 0 0 (fun q9 => nb_361 q9.1) (fun q9 => absurd q9.2 (by decide)), p_381 0 1 (fun q9 => nb_361 q9.1), p_381 0 5 (fun q9 => absurd q9.2 (by decide)), p_381 0 7 (fun q9 => absurd q9.2 (by decide)), p_381 0 9 (fun q9 => absurd q9.2 (by decide))]; exact c_362
    have c_397 : E376 0 1 = .inr (1, [.ref (ad375 0 2), .ref (ad375 0 3), .ref (ad375 0 4), .int (nI len), .int (nI wn)]) := by rw [p_380 0 1 (fun q9 => absurd q9.2 (by decide)) (fun q9 => nb_361 q9.1), p_381 0 2 (fun q9 => absurd q9.2 (by decide)), p_381 0 3 (fun q9 => absurd q9.2 (by decide)), p_381 0 4 (fun q9 => absurd q9.2 (by decide))]; exact c_363
    have c_398 : E376 0 2 = .inl (kA 1, 40, .inl tx_4) := by rw [p_380 0 2 (fun q9 => absurd q9.2 (by decide)) (fun q9 => absurd q9.2 (by decide))]; exact c_364
    have c_399 : E376 0 3 = .inl (kA 0, 20, .inl fb_4) := by rw [p_380 0 3 (fun q9 => absurd q9.2 (by decide)) (fun q9 => absurd q9.2 (by decide))]; exact c_365
    have c_400 : E376 0 4 = .inl (kA 0, 20, .inl fe_4) := by rw [p_380 0 4 (fun q9 => absurd q9.2 (by decide)) (fun q9 => absurd q9.2 (by decide))]; exact c_366
    have c_401 : E376 0 5 = .inr (2, [.ref (ad375 0 6), .int (nI nd)]) := by rw [p_380 0 5 (fun q9 => absurd q9.2 (by decide)) (fun q9 => absurd q9.2 (by decide)), p_381 0 6 (fun q9 => absurd q9.2 (by decide))]; exact c_367
    have c_402 : E376 0 6 = .inl (kA 4, 12, .inr (.inr (.inr (.inr fd_13)))) := by rw [p_380 0 6 (fun q9 => absurd q9.2 (by decide)) (fun q9 => absurd q9.2 (by decide))]; exact c_368
    have c_403 : E376 0 7 = .inr (3, [.ref (ad375 0 5), .ref (ad375 0 8), .int (nI (L.length)), .int cf_18, .ref (ad375 (20 + xp) 0)]) := by rw [p_380 0 7 (fun q9 => absurd q9.2 (by decide)) (fun q9 => absurd q9.2 (by decide)), p_381 0 5 (fun q9 => absurd q9.2 (by decide)), p_381 0 8 (fun q9 => absurd q9.2 (by decide)), p_381 (20 + xp) 0 (fun q9 => absurd q9.2 (by decide))]; exact c_369
    have c_404 : E376 0 8 = .inl (kA 4, 12, .inr (.inr (.inr (.inr fc_18)))) := by rw [p_380 0 8 (fun q9 => absurd q9.2 (by decide)) (fun q9 => absurd q9.2 (by decide))]; exact c_370
    have c_405 : E376 0 9 = .inl (kA 5, 5, .inr (.inr (.inr (.inr fl_23)))) := by rw [p_380 0 9 (fun q9 => absurd q9.2 (by decide)) (fun q9 => absurd q9.2 (by decide))]; exact c_371
    have hP : va_P D xcl (rp ad375 E376 RL377) H := hP
    have hD : va_D A (rp ad375 E376 RL377) := hD
    have c_406 : E376 (20 + ml) 0 = .inr (5, [.int (nI ml), .ref (ad375 (20 + xp) 0), .ref (ad375 (20 + ml) 1), .int 1]) := by rw [p_381 (20 + xp) 0 (by omega)]; exact p_378
    refine lv_astore_n hx hb xd_Ch_draft_16 rfl hl (Nat.le_of_ble_eq_true rfl) rfl (fun ls hl => ?_)
    have hl : lv_has ls 4 [(2, .ref (ad375 (20 + ml) 0)), (0, .ref (ad375 0 7)), (1, .int (nI ml))] := hl
    refine lv_iconst (v := 0) hx hb xd_Ch_draft_17 (by decide) ?_
    refine lv_istore_n hx hb xd_Ch_draft_18 rfl hl (Nat.le_of_ble_eq_true rfl) rfl (fun ls hl => ?_)
    have hl : lv_has ls 4 [(3, .int 0), (2, .ref (ad375 (20 + ml) 0)), (0, .ref (ad375 0 7)), (1, .int (nI ml))] := hl
    refine xlabC (σ := Nat × (Nat → Nat → Nat) × (Nat → Nat → va_E) × (List (Nat × Nat)) × Value × (Nat → Option Nat)) (ml := 4) 19 (fun (k, ad1, E1, RL1, pv1, fm1) => [(3, .int (nI k)), (2, .ref (ad1 (20 + ml) 0)), (0, .ref (ad1 0 7))]) (fun (k, ad1, E1, RL1, pv1, fm1) => []) (fun (k, ad1, E1, RL1, pv1, fm1) => rp ad1 E1 RL1) (fun (k, ad1, E1, RL1, pv1, fm1) => 2 + 8 * k) (fun (k, ad1, E1, RL1, pv1, fm1) => 16 + 32 * k) (fun (k, ad1, E1, RL1, pv1, fm1) => (k ≤ L.length) ∧ ((∀ b2 o2, ¬ (b2 = 20 + ml) → E1 b2 o2 = E b2 o2)) ∧ ((∀ b2 o2, ¬ (b2 = 20 + ml) → ad1 b2 o2 = ad b2 o2)) ∧ (∀ x ∈ RL, x ∈ RL1) ∧ ((20 + ml, 0) ∈ RL1) ∧ ((20 + ml, 1) ∈ RL1) ∧ (pv1 = .null ∨ ∃ x, x < ml ∧ pv1 = .ref (ad1 (20 + x) 0)) ∧ (pv1 = lyv ad1 lq) ∧ (E1 (20 + ml) 0 = .inr (5, [.int (nI ml), pv1, .ref (ad1 (20 + ml) 1), .int 1])) ∧ (E1 (20 + ml) 1 = .inl (kA 6, L.length, .inr (.inr (.inr (.inr fm1))))) ∧ (∀ j, j < k → fm1 j = some (ad1 (20 + ml) (10 + 10 * j)) ∧ MEI kA ad1 E1 RL1 nd ml j) ∧ (∀ j, j < k → DX g ad1 E1 L ml j)) (fun (k, ad1, E1, RL1, pv1, fm1) => L.length - k) ?_ (0, ad375, E376, RL377, (Value.ref (ad375 (20 + xp) 0)), (fun _ => none)) _ _ _ (lv_sub hl [0, 1, 2] rfl) hP hD hS ⟨(show 0 ≤ L.length from by first | assumption | omega), (show (∀ b2 o2, ¬ (b2 = 20 + ml) → E376 b2 o2 = E b2 o2) from fun b2 o2 h9 => by show E376 b2 o2 = _; rw [p_380 b2 o2 (by omega) (by omega), fE346 b2 o2 (by omega)]), (show (∀ b2 o2, ¬ (b2 = 20 + ml) → ad375 b2 o2 = ad b2 o2) from fun b2 o2 h9 => by show ad375 b2 o2 = _; rw [p_381 b2 o2 (by omega), fA347 b2 o2 (by omega)]), (show ∀ x ∈ RL, x ∈ RL377 from fun _ h9 => p_382 _ (hs348 _ h9)), (show (20 + ml, 0) ∈ RL377 from m_395), (show (20 + ml, 1) ∈ RL377 from p_383), (show (Value.ref (ad375 (20 + xp) 0)) = .null ∨ ∃ x, x < ml ∧ (Value.ref (ad375 (20 + xp) 0)) = .ref (ad375 (20 + x) 0) from Or.inr ⟨_, by omega, rfl⟩), (show (Value.ref (ad375 (20 + xp) 0)) = lyv ad375 lq from (lyv_s hyq).symm), (show E376 (20 + ml) 0 = .inr (5, [.int (nI ml), (Value.ref (ad375 (20 + xp) 0)), .ref (ad375 (20 + ml) 1), .int 1]) from c_406), (show E376 (20 + ml) 1 = .inl (kA 6, L.length, .inr (.inr (.inr (.inr (fun _ => none))))) from p_379), (show ∀ j, j < 0 → (fun _ => none) j = some (ad375 (20 + ml) (10 + 10 * j)) ∧ MEI kA ad375 E376 RL377 nd ml j from fun j hj => absurd hj (by omega)), (show ∀ j, j < 0 → DX g ad375 E376 L ml j from fun j hj => absurd hj (by omega))⟩
    intro n9 ih407 a9 ls H locs hμ hl hP hD hS hI
    subst hμ
    obtain ⟨k, ad1, E1, RL1, pv1, fm1⟩ := a9
    obtain ⟨hk0, hfE, hfA, hfS, hmz0, hmz1, hpv1, hpx, hcA0, hcA1, hMM, hMX⟩ := hI
    have hk0 : k ≤ L.length := hk0
    have hfE : (∀ b2 o2, ¬ (b2 = 20 + ml) → E1 b2 o2 = E b2 o2) := hfE
    have hfA : (∀ b2 o2, ¬ (b2 = 20 + ml) → ad1 b2 o2 = ad b2 o2) := hfA
    have hfS : ∀ x ∈ RL, x ∈ RL1 := hfS
    have hmz0 : (20 + ml, 0) ∈ RL1 := hmz0
    have hmz1 : (20 + ml, 1) ∈ RL1 := hmz1
    have hpv1 : pv1 = .null ∨ ∃ x, x < ml ∧ pv1 = .ref (ad1 (20 + x) 0) := hpv1
    have hpx : pv1 = lyv ad1 lq := hpx
    have hcA0 : E1 (20 + ml) 0 = .inr (5, [.int (nI ml), pv1, .ref (ad1 (20 + ml) 1), .int 1]) := hcA0
    have hcA1 : E1 (20 + ml) 1 = .inl (kA 6, L.length, .inr (.inr (.inr (.inr fm1)))) := hcA1
    have hMM : ∀ j, j < k → fm1 j = some (ad1 (20 + ml) (10 + 10 * j)) ∧ MEI kA ad1 E1 RL1 nd ml j := hMM
    have hMX : ∀ j, j < k → DX g ad1 E1 L ml j := hMX
    have hl : lv_has ls 4 [(3, .int (nI k)), (2, .ref (ad1 (20 + ml) 0)), (0, .ref (ad1 0 7))] := hl
    have hP : va_P D xcl (rp ad1 E1 RL1) H := hP
    have hD : va_D A (rp ad1 E1 RL1) := hD
    have hTD1 : TDs g E1 nd := TDs_same (fun d9 hd9 => fun2 fun o9 => hfE (1 + d9) o9 (by omega)) hTD
    have hDIs : DIs kA ad1 E1 RL1 nd := (DIs_same (fun d9 hd9 => fun2 fun o9 => by show E1 (1 + d9) o9 = _; rw [hfE (1 + d9) o9 (by omega)]) (fun d9 hd9 => fun2 fun o9 => by show ad1 (1 + d9) o9 = _; rw [hfA (1 + d9) o9 (by omega)]) (fun _ h9 => hfS _ h9) hDIs0)
    have hLIs : LIs kA ad1 E1 RL1 nd ml := (LIs_same (Nat.le_refl _) (fun n9 hn9 => fun2 fun o9 => by show E1 (20 + n9) o9 = _; rw [hfE (20 + n9) o9 (by omega)]) (fun n9 hn9 => fun2 fun o9 => by show ad1 (20 + n9) o9 = _; rw [hfA (20 + n9) o9 (by omega)]) (fun d9 hd9 => by show ad1 (1 + d9) 0 = _; rw [hfA (1 + d9) 0 (by omega)]) (fun _ h9 => hfS _ h9) hLIs0)
    have hmB : ∀ o, o < 10 → (0, o) ∈ RL1 := fun o9 h9 => hfS _ (hmB0 o9 h9)
    have c_408 : E1 0 0 = .inr (0, [.ref (ad1 0 1), .ref (ad1 0 5), .ref (ad1 0 7), .ref (ad1 0 9), .int (nI ml), .int lf_1]) := by rw [hfE 0 0 (by omega), hfA 0 1 (by omega), hfA 0 5 (by omega), hfA 0 7 (by omega), hfA 0 9 (by omega)]; exact c_2
    have m_409 : (0, 0) ∈ RL1 := hmB 0 (by omega)
    have c_410 : E1 0 1 = .inr (1, [.ref (ad1 0 2), .ref (ad1 0 3), .ref (ad1 0 4), .int (nI len), .int (nI wn)]) := by rw [hfE 0 1 (by omega), hfA 0 2 (by omega), hfA 0 3 (by omega), hfA 0 4 (by omega)]; exact c_5
    have m_411 : (0, 1) ∈ RL1 := hmB 1 (by omega)
    have c_412 : E1 0 2 = .inl (kA 1, 40, .inl tx_4) := by rw [hfE 0 2 (by omega)]; exact c_7
    have m_413 : (0, 2) ∈ RL1 := hmB 2 (by omega)
    have c_414 : E1 0 3 = .inl (kA 0, 20, .inl fb_4) := by rw [hfE 0 3 (by omega)]; exact c_9
    have m_415 : (0, 3) ∈ RL1 := hmB 3 (by omega)
    have c_416 : E1 0 4 = .inl (kA 0, 20, .inl fe_4) := by rw [hfE 0 4 (by omega)]; exact c_11
    have m_417 : (0, 4) ∈ RL1 := hmB 4 (by omega)
    have c_418 : E1 0 5 = .inr (2, [.ref (ad1 0 6), .int (nI nd)]) := by rw [hfE 0 5 (by omega), hfA 0 6 (by omega)]; exact c_14
    have m_419 : (0, 5) ∈ RL1 := hmB 5 (by omega)
    have c_420 : E1 0 6 = .inl (kA 4, 12, .inr (.inr (.inr (.inr fd_13)))) := by rw [hfE 0 6 (by omega)]; exact c_16
    have m_421 : (0, 6) ∈ RL1 := hmB 6 (by omega)
    have c_422 : E1 0 7 = .inr (3, [.ref (ad1 0 5), .ref (ad1 0 8), .int (nI (L.length)), .int cf_18, .ref (ad1 (20 + xp) 0)]) := by rw [hfE 0 7 (by omega), hfA 0 5 (by omega), hfA 0 8 (by omega), hfA (20 + xp) 0 (by omega)]; exact c_19
    have m_423 : (0, 7) ∈ RL1 := hmB 7 (by omega)
    have c_424 : E1 0 8 = .inl (kA 4, 12, .inr (.inr (.inr (.inr fc_18)))) := by rw [hfE 0 8 (by omega)]; exact c_21
    have m_425 : (0, 8) ∈ RL1 := hmB 8 (by omega)
    have c_426 : E1 0 9 = .inl (kA 5, 5, .inr (.inr (.inr (.inr fl_23)))) := by rw [hfE 0 9 (by omega)]; exact c_24
    have m_427 : (0, 9) ∈ RL1 := hmB 9 (by omega)
    refine lv_iload_n hx hb xd_Ch_draft_19 rfl (lv_at hl 0 rfl) ?_
    refine lv_aload_n hx hb xd_Ch_draft_20 rfl (lv_at hl 2 rfl) ?_
    refine px_get (D := D) (ci := 3) (v := .int (nI (L.length))) (C := xR_Ch) (T := xT_Ch) (N := 5) hx hb hT xi_Ch hown hK.1 hP m_423 c_422 rfl 2 (by decide) (hT _ k5w_4) (fun _ h9 => h9) rfl xd_Ch_draft_21 ?_
    refine xn_ge (a := k) (b := L.length) (tgt := 53) hx hb xd_Ch_draft_24 (by decide) (by omega) (by omega) (fun hc428 => ?_) (fun hc428 => ?_)
    · have hLI : LI kA ad1 E1 RL1 nd ml := ⟨hmz0, hmz1, pv1, 1, L.length, fm1, by omega, hpv1, hcA0, hcA1, fun j hj => hMM j (by omega)⟩
      have hkL : k = L.length := by omega
      have hTL1 : TLas g ad1 E1 nd ml := TLas_same (Nat.le_refl _) (fun n9 hn9 => fun2 fun o9 => hfE (20 + n9) o9 (by omega)) (fun d9 hd9 => hfA (1 + d9) 0 (by omega)) (fun n9 hn9 => hfA (20 + n9) 0 (by omega)) hTL
      have hCB1 : CBs g E1 ml := CBs_same (fun la o9 hla => hfE (20 + la) o9 (by omega)) hCB
      have hLKP : LKP g ml := LKP_L (by omega) hnd12 hLIs hTL1
      have hTLr : TLas (gDr g ml lq L) ad1 E1 nd (ml + 1) := TLas_gDn hLIs hTL1 hxGL hlqm (by rw [← hpx]; exact hcA0) hcA1 (fun j hj => hMX j (by omega))
      have hTDr : TDs (gDr g ml lq L) E1 nd := TDs_gDr hDIs hTD1
      have hCBr : CBs (gDr g ml lq L) E1 ml := CBs_VQ hLKP (VQ_gDr hLKP) hCB1
      have hinjr : ∀ a b, a < L.length → b < L.length → mdv (gDr g ml lq L) ml a = mdv (gDr g ml lq L) ml b → a = b := fun a b ha hb e => by rw [gDr_md hxGL hnd12 ha, gDr_md hxGL hnd12 hb] at e; exact getD_inj hxGL.2 ha hb e
      have hC0r : ∀ j, j < L.length → CN0 (gDr g ml lq L) E1 ml j := fun j hj => (CN0_DX hxGL hnd12 hj (hMX j (by omega))).1
      have hC7r : ∀ j, j < L.length → CN7 E1 ml j := fun j hj => (CN0_DX (g := g) (ad := ad1) (lq := lq) hxGL hnd12 hj (hMX j (by omega))).2
      have hLIs := LIs_add hLIs hLI
      refine lv_aload_n hx hb xd_Ch_draft_53 rfl (lv_at hl 1 rfl) ?_
      have hFc := px_free hD hS hA
      refine va_callv (va_runV (As := []) (rest := []) ⟨hx, hb, hml, hown, hT⟩ (xc_Ly_connectX l D kA H.size ad1 E1 RL1 (gDr g ml lq L) nd (ml + 1) ml pv1 1 L.length fm1 hmz0 hcA0 hmz1 hcA1 (by first | assumption | omega) (by first | assumption | omega) (by first | assumption | omega) (by first | assumption | omega) (by first | assumption | omega) (by first | assumption | omega) (fun j hj => hMM j (by omega)) hTDr hTLr hCBr hinjr hC0r hC7r) (cwV 0 hT (wT_V k5w_9 k5w_10 k5w_11 k5w_2 k5w_8) rfl rfl rfl (by decide +kernel) ⟨Nat.le_of_ble_eq_true rfl, Nat.le_of_ble_eq_true rfl⟩) (px_preV hK hP hD hmz0 hcA0 rfl) rfl rfl hl.1 rfl (lv_room (Nat.le_of_ble_eq_true rfl)) xd_Ch_draft_54 ⟨(show 2 + 8 * k + 2 ≤ 100 by omega), (show 16 + 32 * k + 24 ≤ 424 by omega)⟩) hS (fun q _ h => hFc q h) hFc (fun u430 t H1 locs ht hvm hp431 hB hz1 hk1 hS => ?_)
      obtain ⟨hP1, hD1⟩ := hB
      rw [ht] at hP1
      have hD1 := hD1.weaken (fun _ _ _ h => hFc _ h)
      generalize H1 = H at hP1 hS ⊢
      have hP := hP1
      have hD := hD1
      obtain ⟨ad432, E433, RL434⟩ := u430
      obtain ⟨hp440, p_435, p_436, p_437, p_438, p_439⟩ := hp431
      have p_435 : (∀ b2 o2, ¬ (b2 = 20 + ml) → E433 b2 o2 = E1 b2 o2) := p_435
      have p_436 : (∀ b2 o2, ¬ (b2 = 20 + ml ∧ o2 = 2) → ¬ (b2 = 20 + ml ∧ o2 = 3) → ad432 b2 o2 = ad1 b2 o2) := p_436
      have p_437 : (∀ x ∈ RL1, x ∈ RL434) := p_437
      have p_438 : (20 + ml, 2) ∈ RL434 := p_438
      have p_439 : (20 + ml, 3) ∈ RL434 := p_439
      have hl : lv_has ls 4 [(3, .int (nI k)), (2, .ref (ad432 (20 + ml) 0)), (0, .ref (ad432 0 7))] := by
        rw [p_436 (20 + ml) 0 (fun q9 => absurd q9.2 (by decide)) (fun q9 => absurd q9.2 (by decide)), p_436 0 7 (fun q9 => absurd q9.2 (by decide)) (fun q9 => absurd q9.2 (by decide))]; exact hl
      have m_441 : (0, 0) ∈ RL434 := p_437 _ m_409
      have m_442 : (0, 1) ∈ RL434 := p_437 _ m_411
      have m_443 : (0, 2) ∈ RL434 := p_437 _ m_413
      have m_444 : (0, 3) ∈ RL434 := p_437 _ m_415
      have m_445 : (0, 4) ∈ RL434 := p_437 _ m_417
      have m_446 : (0, 5) ∈ RL434 := p_437 _ m_419
      have m_447 : (0, 6) ∈ RL434 := p_437 _ m_421
      have m_448 : (0, 7) ∈ RL434 := p_437 _ m_423
      have m_449 : (0, 8) ∈ RL434 := p_437 _ m_425
      have m_450 : (0, 9) ∈ RL434 := p_437 _ m_427
      have m_451 : (20 + ml, 0) ∈ RL434 := p_437 _ hmz0
      have m_452 : (20 + ml, 1) ∈ RL434 := p_437 _ hmz1
      have c_453 : E433 0 0 = .inr (0, [.ref (ad432 0 1), .ref (ad432 0 5), .ref (ad432 0 7), .ref (ad432 0 9), .int (nI ml), .int lf_1]) := by rw [p_435 0 0 nb_361, p_436 0 1 (fun q9 => absurd q9.2 (by decide)) (fun q9 => absurd q9.2 (by decide)), p_436 0 5 (fun q9 => absurd q9.2 (by decide)) (fun q9 => absurd q9.2 (by decide)), p_436 0 7 (fun q9 => absurd q9.2 (by decide)) (fun q9 => absurd q9.2 (by decide)), p_436 0 9 (fun q9 => absurd q9.2 (by decide)) (fun q9 => absurd q9.2 (by decide))]; exact c_408
      have c_454 : E433 0 1 = .inr (1, [.ref (ad432 0 2), .ref (ad432 0 3), .ref (ad432 0 4), .int (nI len), .int (nI wn)]) := by rw [p_435 0 1 nb_361, p_436 0 2 (fun q9 => nb_361 q9.1) (fun q9 => absurd q9.2 (by decide)), p_436 0 3 (fun q9 => absurd q9.2 (by decide)) (fun q9 => nb_361 q9.1), p_436 0 4 (fun q9 => absurd q9.2 (by decide)) (fun q9 => absurd q9.2 (by decide))]; exact c_410
      have c_455 : E433 0 2 = .inl (kA 1, 40, .inl tx_4) := by rw [p_435 0 2 nb_361]; exact c_412
      have c_456 : E433 0 3 = .inl (kA 0, 20, .inl fb_4) := by rw [p_435 0 3 nb_361]; exact c_414
      have c_457 : E433 0 4 = .inl (kA 0, 20, .inl fe_4) := by rw [p_435 0 4 nb_361]; exact c_416
      have c_458 : E433 0 5 = .inr (2, [.ref (ad432 0 6), .int (nI nd)]) := by rw [p_435 0 5 nb_361, p_436 0 6 (fun q9 => absurd q9.2 (by decide)) (fun q9 => absurd q9.2 (by decide))]; exact c_418
      have c_459 : E433 0 6 = .inl (kA 4, 12, .inr (.inr (.inr (.inr fd_13)))) := by rw [p_435 0 6 nb_361]; exact c_420
      have c_460 : E433 0 7 = .inr (3, [.ref (ad432 0 5), .ref (ad432 0 8), .int (nI (L.length)), .int cf_18, .ref (ad432 (20 + xp) 0)]) := by rw [p_435 0 7 nb_361, p_436 0 5 (fun q9 => absurd q9.2 (by decide)) (fun q9 => absurd q9.2 (by decide)), p_436 0 8 (fun q9 => absurd q9.2 (by decide)) (fun q9 => absurd q9.2 (by decide)), p_436 (20 + xp) 0 (fun q9 => absurd q9.2 (by decide)) (fun q9 => absurd q9.2 (by decide))]; exact c_422
      have c_461 : E433 0 8 = .inl (kA 4, 12, .inr (.inr (.inr (.inr fc_18)))) := by rw [p_435 0 8 nb_361]; exact c_424
      have c_462 : E433 0 9 = .inl (kA 5, 5, .inr (.inr (.inr (.inr fl_23)))) := by rw [p_435 0 9 nb_361]; exact c_426
      have hP : va_P D xcl (rp ad432 E433 RL434) H := hP
      have hD : va_D A (rp ad432 E433 RL434) := hD
      obtain ⟨⟨hDIs9, hLIs9⟩, hTL9, hCB9, hLB9, hRB9⟩ := hp440
      refine lv_aload_n hx hb xd_Ch_draft_57 rfl (lv_at hl 1 rfl) ?_
      refine W.widen (k := 100) (n := 424) (show 2 + 8 * k + 2 ≤ 100 by omega) (show 16 + 32 * k + 24 ≤ 424 by omega) ?_
      exact W.aret (v := .ref (ad432 (20 + ml) 0)) hx hb hr (Or.inl ⟨_, rfl⟩) (Or.inr ⟨_, rfl⟩) (fun t ht hW => ⟨⟨(some (ad432 (20 + ml) 0)), (ad432, E433, RL434), rfl, ⟨⟨⟨rfl, (show CI kA ad432 E433 RL434 ml nd len wn L.length from ⟨(fun o9 h9 => p_437 _ (hfS _ (hmB0 o9 h9))), ⟨lf_1, c_453⟩, ⟨tx_4, fb_4, fe_4, (by omega), (by omega), c_454, c_455, c_456, c_457, hws0⟩, ⟨fd_13, (by omega), c_458, c_459, (fun d9 hd9 => (hds0 d9 hd9).trans (by rw [p_436 (1 + d9) 0 (by omega) (by omega), hfA (1 + d9) 0 (by omega)]))⟩, ⟨cf_18, (.ref (ad432 (20 + xp) 0)), fc_18, (by omega), (Or.inr ⟨_, by omega, rfl⟩), c_460, c_461, (fun k9 hk9 => by obtain ⟨d8, q1, q2⟩ := hfc0 k9 hk9; exact ⟨d8, q1, q2.trans (by rw [p_436 (1 + d8) 0 (by omega) (by omega), hfA (1 + d8) 0 (by omega)])⟩)⟩, ⟨fl_23, (by omega), c_462, (fun n9 hn9 => (hla0 n9 hn9).trans (by rw [p_436 (20 + n9) 0 (by omega) (by omega), hfA (20 + n9) 0 (by omega)]))⟩, hDIs9, (fun n9 hn9 => hLIs9 n9 (by omega))⟩), (show LI kA ad432 E433 RL434 nd ml from hLIs9 ml (by omega))⟩, hTL9, hCB9, hLB9, hRB9⟩, (fun b2 o2 h09 => by show E433 b2 o2 = _; rw [p_435 b2 o2 (by omega), hfE b2 o2 (by omega)]), (fun b2 o2 h09 => by show ad432 b2 o2 = _; rw [p_436 b2 o2 (by omega) (by omega), hfA b2 o2 (by omega)]), (fun x9 hx9 => p_437 _ (hfS _ hx9))⟩, by rw [ht]; exact hP, hD⟩, hS.F ht⟩) hS.2.2 xd_Ch_draft_58
    · obtain ⟨d9, hd9e⟩ : ∃ z, z = L.getD k 0 := ⟨_, rfl⟩
      have hd9 : d9 < nd := by rw [hd9e]; exact hxGL.1 _ (getD_mem (by omega))
      have hf9 := hxfc k (by omega)
      rw [← hd9e] at hf9
      obtain ⟨hm_463, fd_463, nm_463, sd_463, k0_463, k1_463, k2_463, k3_463, f0_463, f1_463, f2_463, f3_463, fe_463, fo_463, tr_463, op_463, hk0_463, hk1_463, hk2_463, hk3_463, q0_463, q1_463, q2_463, q3_463, q4_463, q5_463, q6_463, q7_463, q8_463, q9_463, q10_463, q11_463, q12_463, hg_463⟩ := id (hDIs d9 (by omega))
      have c_464 : E1 (1 + d9) 0 = .inr (7, [.int (nI d9), .int fd_463, .int nm_463, .ref (ad1 (1 + d9) 1), .ref (ad1 (1 + d9) 9), .ref (ad1 (1 + d9) 10), .ref (ad1 (1 + d9) 2), .ref (ad1 (1 + d9) 11), .ref (ad1 (1 + d9) 12), .ref (ad1 (1 + d9) 3), .ref (ad1 (1 + d9) 4), .int sd_463]) := q0_463
      have m_465 : (1 + d9, 0) ∈ RL1 := hm_463 0 (by decide)
      have c_466 : E1 (1 + d9) 1 = .inr (8, [.ref (ad1 (1 + d9) 5), .int (nI k0_463)]) := q1_463
      have m_467 : (1 + d9, 1) ∈ RL1 := hm_463 1 (by decide)
      have c_468 : E1 (1 + d9) 2 = .inr (8, [.ref (ad1 (1 + d9) 6), .int (nI k1_463)]) := q2_463
      have m_469 : (1 + d9, 2) ∈ RL1 := hm_463 2 (by decide)
      have c_470 : E1 (1 + d9) 3 = .inr (8, [.ref (ad1 (1 + d9) 7), .int (nI k2_463)]) := q3_463
      have m_471 : (1 + d9, 3) ∈ RL1 := hm_463 3 (by decide)
      have c_472 : E1 (1 + d9) 4 = .inr (8, [.ref (ad1 (1 + d9) 8), .int (nI k3_463)]) := q4_463
      have m_473 : (1 + d9, 4) ∈ RL1 := hm_463 4 (by decide)
      have c_474 : E1 (1 + d9) 5 = .inl (kA 0, 6, .inl f0_463) := q5_463
      have m_475 : (1 + d9, 5) ∈ RL1 := hm_463 5 (by decide)
      have c_476 : E1 (1 + d9) 6 = .inl (kA 0, 5, .inl f1_463) := q6_463
      have m_477 : (1 + d9, 6) ∈ RL1 := hm_463 6 (by decide)
      have c_478 : E1 (1 + d9) 7 = .inl (kA 0, 3, .inl f2_463) := q7_463
      have m_479 : (1 + d9, 7) ∈ RL1 := hm_463 7 (by decide)
      have c_480 : E1 (1 + d9) 8 = .inl (kA 0, 3, .inl f3_463) := q8_463
      have m_481 : (1 + d9, 8) ∈ RL1 := hm_463 8 (by decide)
      have c_482 : E1 (1 + d9) 9 = .inl (kA 8, 6, .inr (.inr (.inr (.inr fe_463)))) := q9_463
      have m_483 : (1 + d9, 9) ∈ RL1 := hm_463 9 (by decide)
      have c_484 : E1 (1 + d9) 10 = .inl (kA 8, 6, .inr (.inr (.inr (.inr fo_463)))) := q10_463
      have m_485 : (1 + d9, 10) ∈ RL1 := hm_463 10 (by decide)
      have c_486 : E1 (1 + d9) 11 = .inl (kA 2, 5, .inl tr_463) := q11_463
      have m_487 : (1 + d9, 11) ∈ RL1 := hm_463 11 (by decide)
      have c_488 : E1 (1 + d9) 12 = .inl (kA 2, 5, .inl op_463) := q12_463
      have m_489 : (1 + d9, 12) ∈ RL1 := hm_463 12 (by decide)
      have hg_463 : ∀ w9, w9 < k0_463 → fe_463 w9 = some (ad1 (1 + d9) (20 + 3 * w9)) ∧ fo_463 w9 = some (ad1 (1 + d9) (38 + 3 * w9)) ∧ GI kA (ad1 (1 + d9)) (E1 (1 + d9)) (fun o => (1 + d9, o) ∈ RL1) (20 + 3 * w9) (21 + 3 * w9) (22 + 3 * w9) ∧ GI kA (ad1 (1 + d9)) (E1 (1 + d9)) (fun o => (1 + d9, o) ∈ RL1) (38 + 3 * w9) (39 + 3 * w9) (40 + 3 * w9) := hg_463
      obtain ⟨hTT_463, tgr_463⟩ := TD_get hk0_463 hk1_463 hk2_463 hk3_463 c_464 c_466 c_468 c_470 c_472 c_474 c_476 c_478 c_480 c_486 c_488 (hTD1 d9 (by omega))
      obtain ⟨tfd_463, tnm_463, tsd_463, tk0_463, tf0_463, tk1_463, tf1_463, tk2_463, tk3_463⟩ := id hTT_463
      have ik0_463 : iN (g 5 d9) = k0_463 := by rw [← tk0_463, iN_nI (by omega)]
      have ik1_463 : iN (g 12 d9) = k1_463 := by rw [← tk1_463, iN_nI (by omega)]
      refine lv_aload_n hx hb xd_Ch_draft_27 rfl (lv_at hl 1 rfl) ?_
      refine px_get (D := D) (ci := 5) (v := .ref (ad1 (20 + ml) 1)) (C := xR_Ly) (T := xT_Ly) (N := 4) hx hb hT xi_Ly hown hK.1 hP hmz0 hcA0 rfl 2 (by decide) (hT _ k5w_12) (fun _ h9 => h9) rfl xd_Ch_draft_28 ?_
      refine lv_iload_n hx hb xd_Ch_draft_31 rfl (lv_at hl 0 rfl) ?_
      refine px_new (ci := 6) (fs := [.null, .null, .null, .null, .null, .null]) (C := xR_Me) (T := xT_Me) (N := 6) (20 + ml) (10 + 10 * k) hx hb hT xi_Me xt_Me xt_Me_ok hown (hT _ k5w_13) (hT _ k5w_14) (hT _ k5w_15) hK.1 hP hD hS hA rfl (by decide +kernel) (show 2 + 8 * k + 1 ≤ 100 by omega) (show 16 + 32 * k + 6 ≤ 424 by omega) xd_Ch_draft_32 (fun ad490 E491 RL492 H hA1 hE1 hs1 hm1 hP hD hS => ?_)
      have fE493 : ∀ b2 o2, ¬ (b2 = 20 + ml ∧ o2 = 10 + 10 * k) → E491 b2 o2 = E1 b2 o2 := fun b2 o2 h9 => by rw [hE1]; exact up2_ne (nr_or h9)
      have fA494 : ∀ b2 o2, ¬ (b2 = 20 + ml ∧ o2 = 10 + 10 * k) → ad490 b2 o2 = ad1 b2 o2 := fun b2 o2 h9 => by rw [hA1]; exact up2_ne (nr_or h9)
      have hs495 := hs1
      refine W.eq (g2 := F0 m _ ls [.ref (ad490 (20 + ml) (10 + 10 * k)), .int (nI k), .ref (ad490 (20 + ml) 1)]) (by rw [fA494 (20 + ml) 1 (fun q9 => nr_z q9.2 (by decide))]) ?_
      have c_496 : E491 (20 + ml) (10 + 10 * k) = .inr (6, [.null, .null, .null, .null, .null, .null]) := by rw [hE1]; exact up2_eq
      have hl : lv_has ls 4 [(3, .int (nI k)), (2, .ref (ad490 (20 + ml) 0)), (0, .ref (ad490 0 7))] := by
        rw [fA494 (20 + ml) 0 (fun q9 => nr_z q9.2 (by decide)), fA494 0 7 (fun q9 => nr_z q9.2 (by decide))]; exact hl
      have m_498 : (0, 0) ∈ RL492 := hs495 _ m_409
      have m_499 : (0, 1) ∈ RL492 := hs495 _ m_411
      have m_500 : (0, 2) ∈ RL492 := hs495 _ m_413
      have m_501 : (0, 3) ∈ RL492 := hs495 _ m_415
      have m_502 : (0, 4) ∈ RL492 := hs495 _ m_417
      have m_503 : (0, 5) ∈ RL492 := hs495 _ m_419
      have m_504 : (0, 6) ∈ RL492 := hs495 _ m_421
      have m_505 : (0, 7) ∈ RL492 := hs495 _ m_423
      have m_506 : (0, 8) ∈ RL492 := hs495 _ m_425
      have m_507 : (0, 9) ∈ RL492 := hs495 _ m_427
      have m_508 : (20 + ml, 0) ∈ RL492 := hs495 _ hmz0
      have m_509 : (20 + ml, 1) ∈ RL492 := hs495 _ hmz1
      have m_510 : (1 + d9, 0) ∈ RL492 := hs495 _ m_465
      have m_511 : (1 + d9, 1) ∈ RL492 := hs495 _ m_467
      have m_512 : (1 + d9, 2) ∈ RL492 := hs495 _ m_469
      have m_513 : (1 + d9, 3) ∈ RL492 := hs495 _ m_471
      have m_514 : (1 + d9, 4) ∈ RL492 := hs495 _ m_473
      have m_515 : (1 + d9, 5) ∈ RL492 := hs495 _ m_475
      have m_516 : (1 + d9, 6) ∈ RL492 := hs495 _ m_477
      have m_517 : (1 + d9, 7) ∈ RL492 := hs495 _ m_479
      have m_518 : (1 + d9, 8) ∈ RL492 := hs495 _ m_481
      have m_519 : (1 + d9, 9) ∈ RL492 := hs495 _ m_483
      have m_520 : (1 + d9, 10) ∈ RL492 := hs495 _ m_485
      have m_521 : (1 + d9, 11) ∈ RL492 := hs495 _ m_487
      have m_522 : (1 + d9, 12) ∈ RL492 := hs495 _ m_489
      have c_523 : E491 0 0 = .inr (0, [.ref (ad490 0 1), .ref (ad490 0 5), .ref (ad490 0 7), .ref (ad490 0 9), .int (nI ml), .int lf_1]) := by rw [fE493 0 0 (fun q9 => nr_z q9.2 (by decide)), fA494 0 1 (fun q9 => nr_z q9.2 (by decide)), fA494 0 5 (fun q9 => nr_z q9.2 (by decide)), fA494 0 7 (fun q9 => nr_z q9.2 (by decide)), fA494 0 9 (fun q9 => nr_z q9.2 (by decide))]; exact c_408
      have c_524 : E491 0 1 = .inr (1, [.ref (ad490 0 2), .ref (ad490 0 3), .ref (ad490 0 4), .int (nI len), .int (nI wn)]) := by rw [fE493 0 1 (fun q9 => nr_z q9.2 (by decide)), fA494 0 2 (fun q9 => nr_z q9.2 (by decide)), fA494 0 3 (fun q9 => nr_z q9.2 (by decide)), fA494 0 4 (fun q9 => nr_z q9.2 (by decide))]; exact c_410
      have c_525 : E491 0 2 = .inl (kA 1, 40, .inl tx_4) := by rw [fE493 0 2 (fun q9 => nr_z q9.2 (by decide))]; exact c_412
      have c_526 : E491 0 3 = .inl (kA 0, 20, .inl fb_4) := by rw [fE493 0 3 (fun q9 => nr_z q9.2 (by decide))]; exact c_414
      have c_527 : E491 0 4 = .inl (kA 0, 20, .inl fe_4) := by rw [fE493 0 4 (fun q9 => nr_z q9.2 (by decide))]; exact c_416
      have c_528 : E491 0 5 = .inr (2, [.ref (ad490 0 6), .int (nI nd)]) := by rw [fE493 0 5 (fun q9 => nr_z q9.2 (by decide)), fA494 0 6 (fun q9 => nr_z q9.2 (by decide))]; exact c_418
      have c_529 : E491 0 6 = .inl (kA 4, 12, .inr (.inr (.inr (.inr fd_13)))) := by rw [fE493 0 6 (fun q9 => nr_z q9.2 (by decide))]; exact c_420
      have c_530 : E491 0 7 = .inr (3, [.ref (ad490 0 5), .ref (ad490 0 8), .int (nI (L.length)), .int cf_18, .ref (ad490 (20 + xp) 0)]) := by rw [fE493 0 7 (fun q9 => nr_z q9.2 (by decide)), fA494 0 5 (fun q9 => nr_z q9.2 (by decide)), fA494 0 8 (fun q9 => nr_z q9.2 (by decide)), fA494 (20 + xp) 0 (fun q9 => nr_z q9.2 (by decide))]; exact c_422
      have c_531 : E491 0 8 = .inl (kA 4, 12, .inr (.inr (.inr (.inr fc_18)))) := by rw [fE493 0 8 (fun q9 => nr_z q9.2 (by decide))]; exact c_424
      have c_532 : E491 0 9 = .inl (kA 5, 5, .inr (.inr (.inr (.inr fl_23)))) := by rw [fE493 0 9 (fun q9 => nr_z q9.2 (by decide))]; exact c_426
      have c_533 : E491 (20 + ml) 0 = .inr (5, [.int (nI ml), pv1, .ref (ad490 (20 + ml) 1), .int 1]) := by rw [fE493 (20 + ml) 0 (fun q9 => nr_z q9.2 (by decide)), fA494 (20 + ml) 1 (fun q9 => nr_z q9.2 (by decide))]; exact hcA0
      have c_534 : E491 (20 + ml) 1 = .inl (kA 6, L.length, .inr (.inr (.inr (.inr fm1)))) := by rw [fE493 (20 + ml) 1 (fun q9 => nr_z q9.2 (by decide))]; exact hcA1
      have nb_536 : ¬ (1 + d9 = 20 + ml) := by omega
      have c_535 : E491 (1 + d9) 0 = .inr (7, [.int (nI d9), .int fd_463, .int nm_463, .ref (ad490 (1 + d9) 1), .ref (ad490 (1 + d9) 9), .ref (ad490 (1 + d9) 10), .ref (ad490 (1 + d9) 2), .ref (ad490 (1 + d9) 11), .ref (ad490 (1 + d9) 12), .ref (ad490 (1 + d9) 3), .ref (ad490 (1 + d9) 4), .int sd_463]) := by rw [fE493 (1 + d9) 0 (fun q9 => nr_z q9.2 (by decide)), fA494 (1 + d9) 1 (fun q9 => nr_z q9.2 (by decide)), fA494 (1 + d9) 9 (fun q9 => nr_z q9.2 (by decide)), fA494 (1 + d9) 10 (fun q9 => nb_536 q9.1), fA494 (1 + d9) 2 (fun q9 => nr_z q9.2 (by decide)), fA494 (1 + d9) 11 (fun q9 => nb_536 q9.1), fA494 (1 + d9) 12 (fun q9 => nb_536 q9.1), fA494 (1 + d9) 3 (fun q9 => nr_z q9.2 (by decide)), fA494 (1 + d9) 4 (fun q9 => nr_z q9.2 (by decide))]; exact c_464
      have c_537 : E491 (1 + d9) 1 = .inr (8, [.ref (ad490 (1 + d9) 5), .int (nI k0_463)]) := by rw [fE493 (1 + d9) 1 (fun q9 => nr_z q9.2 (by decide)), fA494 (1 + d9) 5 (fun q9 => nr_z q9.2 (by decide))]; exact c_466
      have c_538 : E491 (1 + d9) 2 = .inr (8, [.ref (ad490 (1 + d9) 6), .int (nI k1_463)]) := by rw [fE493 (1 + d9) 2 (fun q9 => nr_z q9.2 (by decide)), fA494 (1 + d9) 6 (fun q9 => nr_z q9.2 (by decide))]; exact c_468
      have c_539 : E491 (1 + d9) 3 = .inr (8, [.ref (ad490 (1 + d9) 7), .int (nI k2_463)]) := by rw [fE493 (1 + d9) 3 (fun q9 => nr_z q9.2 (by decide)), fA494 (1 + d9) 7 (fun q9 => nr_z q9.2 (by decide))]; exact c_470
      have c_540 : E491 (1 + d9) 4 = .inr (8, [.ref (ad490 (1 + d9) 8), .int (nI k3_463)]) := by rw [fE493 (1 + d9) 4 (fun q9 => nr_z q9.2 (by decide)), fA494 (1 + d9) 8 (fun q9 => nr_z q9.2 (by decide))]; exact c_472
      have c_541 : E491 (1 + d9) 5 = .inl (kA 0, 6, .inl f0_463) := by rw [fE493 (1 + d9) 5 (fun q9 => nr_z q9.2 (by decide))]; exact c_474
      have c_542 : E491 (1 + d9) 6 = .inl (kA 0, 5, .inl f1_463) := by rw [fE493 (1 + d9) 6 (fun q9 => nr_z q9.2 (by decide))]; exact c_476
      have c_543 : E491 (1 + d9) 7 = .inl (kA 0, 3, .inl f2_463) := by rw [fE493 (1 + d9) 7 (fun q9 => nr_z q9.2 (by decide))]; exact c_478
      have c_544 : E491 (1 + d9) 8 = .inl (kA 0, 3, .inl f3_463) := by rw [fE493 (1 + d9) 8 (fun q9 => nr_z q9.2 (by decide))]; exact c_480
      have c_545 : E491 (1 + d9) 9 = .inl (kA 8, 6, .inr (.inr (.inr (.inr fe_463)))) := by rw [fE493 (1 + d9) 9 (fun q9 => nr_z q9.2 (by decide))]; exact c_482
      have c_546 : E491 (1 + d9) 10 = .inl (kA 8, 6, .inr (.inr (.inr (.inr fo_463)))) := by rw [fE493 (1 + d9) 10 (fun q9 => nb_536 q9.1)]; exact c_484
      have c_547 : E491 (1 + d9) 11 = .inl (kA 2, 5, .inl tr_463) := by rw [fE493 (1 + d9) 11 (fun q9 => nb_536 q9.1)]; exact c_486
      have c_548 : E491 (1 + d9) 12 = .inl (kA 2, 5, .inl op_463) := by rw [fE493 (1 + d9) 12 (fun q9 => nb_536 q9.1)]; exact c_488
      have m_497 : (20 + ml, 10 + 10 * k) ∈ RL492 := hm1
      have hP : va_P D xcl (rp ad490 E491 RL492) H := hP
      have hD : va_D A (rp ad490 E491 RL492) := hD
      refine lv_dup hx hb xd_Ch_draft_35 rfl ?_
      refine lv_aload_n hx hb xd_Ch_draft_36 rfl (lv_at hl 1 rfl) ?_
      refine lv_aload_n hx hb xd_Ch_draft_37 rfl (lv_at hl 2 rfl) ?_
      refine px_get (D := D) (ci := 3) (v := .ref (ad490 0 8)) (C := xR_Ch) (T := xT_Ch) (N := 5) hx hb hT xi_Ch hown hK.1 hP m_505 c_530 rfl 1 (by decide) (hT _ k5w_16) (fun _ h9 => h9) rfl xd_Ch_draft_38 ?_
      refine lv_iload_n hx hb xd_Ch_draft_41 rfl (lv_at hl 0 rfl) ?_
      refine px_aald (i := k) (x := (some (ad490 (1 + d9) 0))) hx hb hK.1 hP m_506 c_531 4 rfl ((hf9.trans (by rw [fA494 (1 + d9) 0 (by omega), hfA (1 + d9) 0 (by omega)]))) (by omega) (by decide) xd_Ch_draft_42 ?_
      have hFc := px_free hD hS hA
      refine va_callv (va_runI (As := [.ref (ad490 (20 + ml) 0), .ref (ad490 (1 + d9) 0)]) (rest := [.ref (ad490 (20 + ml) (10 + 10 * k)), .int (nI k), .ref (ad490 (20 + ml) 1)]) ⟨hx, hb, hml, hown, hT⟩ (xc_Me_init l D kA H.size ad490 E491 RL492 ml k d9 fd_463 nm_463 sd_463 k1_463 m_497 c_496 m_510 c_535 m_512 c_538 (by omega) (by first | assumption | omega)) (cwI 2 hT (wT_I k5w_17) rfl rfl rfl (hT _ k5w_15) (hT _ k5w_18) (hT _ k5w_19) rfl (by decide +kernel) ⟨Nat.le_of_ble_eq_true rfl, Nat.le_of_ble_eq_true rfl⟩) (x_preS hK hP hD) rfl rfl hl.1 rfl (lv_room (Nat.le_of_ble_eq_true rfl)) xd_Ch_draft_43 ⟨(show 2 + 8 * k + 1 + 7 ≤ 100 by omega), (show 16 + 32 * k + 6 + 26 ≤ 424 by omega)⟩) hS (fun q _ h => hFc q h) hFc (fun u550 t H1 locs ht hvm hp551 hB hz1 hk1 hS => ?_)
      obtain ⟨hP1, hD1⟩ := hB
      rw [ht] at hP1
      have hD1 := hD1.weaken (fun _ _ _ h => hFc _ h)
      generalize H1 = H at hP1 hS ⊢
      have hP := hP1
      have hD := hD1
      obtain ⟨ad552, E553, RL554⟩ := u550
      obtain ⟨hp573, p_555, p_556, p_557, p_558, p_559, p_560, p_561, p_562, p_563, p_564, p_565, p_566, p_567, p_568, p_569, p_570, p_571, p_572⟩ := hp551
      have p_555 : E553 (20 + ml) (10 + 10 * k) = .inr (6, [.ref (ad552 (20 + ml) 0), .ref (ad552 (1 + d9) 0), .ref (ad552 (20 + ml) (11 + 10 * k)), .ref (ad552 (20 + ml) (12 + 10 * k)), .ref (ad552 (20 + ml) (13 + 10 * k)), .ref (ad552 (20 + ml) (14 + 10 * k))]) := p_555
      have p_556 : E553 (20 + ml) (11 + 10 * k) = .inl (kA 6, k1_463, .inr (.inr (.inr (.inr (fun _ => none))))) := p_556
      have p_557 : E553 (20 + ml) (12 + 10 * k) = .inr (10, [.ref (ad552 (20 + ml) (15 + 10 * k))]) := p_557
      have p_558 : E553 (20 + ml) (13 + 10 * k) = .inr (10, [.ref (ad552 (20 + ml) (16 + 10 * k))]) := p_558
      have p_559 : E553 (20 + ml) (14 + 10 * k) = .inr (10, [.ref (ad552 (20 + ml) (17 + 10 * k))]) := p_559
      have p_560 : E553 (20 + ml) (15 + 10 * k) = .inl (kA 0, 6, .inl (fun _ => 0)) := p_560
      have p_561 : E553 (20 + ml) (16 + 10 * k) = .inl (kA 0, 6, .inl (fun _ => 0)) := p_561
      have p_562 : E553 (20 + ml) (17 + 10 * k) = .inl (kA 0, 6, .inl (fun _ => 0)) := p_562
      have p_563 : (∀ b2 o2, ¬ (b2 = 20 + ml ∧ o2 = 10 + 10 * k) → ¬ (b2 = 20 + ml ∧ o2 = 11 + 10 * k) → ¬ (b2 = 20 + ml ∧ o2 = 12 + 10 * k) → ¬ (b2 = 20 + ml ∧ o2 = 13 + 10 * k) → ¬ (b2 = 20 + ml ∧ o2 = 14 + 10 * k) → ¬ (b2 = 20 + ml ∧ o2 = 15 + 10 * k) → ¬ (b2 = 20 + ml ∧ o2 = 16 + 10 * k) → ¬ (b2 = 20 + ml ∧ o2 = 17 + 10 * k) → E553 b2 o2 = E491 b2 o2) := p_563
      have p_564 : (∀ b2 o2, ¬ (b2 = 20 + ml ∧ o2 = 11 + 10 * k) → ¬ (b2 = 20 + ml ∧ o2 = 12 + 10 * k) → ¬ (b2 = 20 + ml ∧ o2 = 13 + 10 * k) → ¬ (b2 = 20 + ml ∧ o2 = 14 + 10 * k) → ¬ (b2 = 20 + ml ∧ o2 = 15 + 10 * k) → ¬ (b2 = 20 + ml ∧ o2 = 16 + 10 * k) → ¬ (b2 = 20 + ml ∧ o2 = 17 + 10 * k) → ad552 b2 o2 = ad490 b2 o2) := p_564
      have p_565 : (∀ x ∈ RL492, x ∈ RL554) := p_565
      have p_566 : (20 + ml, 11 + 10 * k) ∈ RL554 := p_566
      have p_567 : (20 + ml, 12 + 10 * k) ∈ RL554 := p_567
      have p_568 : (20 + ml, 13 + 10 * k) ∈ RL554 := p_568
      have p_569 : (20 + ml, 14 + 10 * k) ∈ RL554 := p_569
      have p_570 : (20 + ml, 15 + 10 * k) ∈ RL554 := p_570
      have p_571 : (20 + ml, 16 + 10 * k) ∈ RL554 := p_571
      have p_572 : (20 + ml, 17 + 10 * k) ∈ RL554 := p_572
      refine W.eq (g2 := F0 m 46 ls [.ref (ad552 (20 + ml) (10 + 10 * k)), .int (nI k), .ref (ad552 (20 + ml) 1)]) (by rw [p_564 (20 + ml) (10 + 10 * k) (fun q9 => nr_k q9.2 (by decide)) (fun q9 => nr_k q9.2 (by decide)) (fun q9 => nr_k q9.2 (by decide)) (fun q9 => nr_k q9.2 (by decide)) (fun q9 => nr_k q9.2 (by decide)) (fun q9 => nr_k q9.2 (by decide)) (fun q9 => nr_k q9.2 (by decide)), p_564 (20 + ml) 1 (fun q9 => nr_z q9.2 (by decide)) (fun q9 => nr_z q9.2 (by decide)) (fun q9 => nr_z q9.2 (by decide)) (fun q9 => nr_z q9.2 (by decide)) (fun q9 => nr_z q9.2 (by decide)) (fun q9 => nr_z q9.2 (by decide)) (fun q9 => nr_z q9.2 (by decide))]) ?_
      have hl : lv_has ls 4 [(3, .int (nI k)), (2, .ref (ad552 (20 + ml) 0)), (0, .ref (ad552 0 7))] := by
        rw [p_564 (20 + ml) 0 (fun q9 => nr_z q9.2 (by decide)) (fun q9 => nr_z q9.2 (by decide)) (fun q9 => nr_z q9.2 (by decide)) (fun q9 => nr_z q9.2 (by decide)) (fun q9 => nr_z q9.2 (by decide)) (fun q9 => nr_z q9.2 (by decide)) (fun q9 => nr_z q9.2 (by decide)), p_564 0 7 (fun q9 => nr_z q9.2 (by decide)) (fun q9 => nr_z q9.2 (by decide)) (fun q9 => nr_z q9.2 (by decide)) (fun q9 => nr_z q9.2 (by decide)) (fun q9 => nr_z q9.2 (by decide)) (fun q9 => nr_z q9.2 (by decide)) (fun q9 => nr_z q9.2 (by decide))]; exact hl
      have m_574 : (0, 0) ∈ RL554 := p_565 _ m_498
      have m_575 : (0, 1) ∈ RL554 := p_565 _ m_499
      have m_576 : (0, 2) ∈ RL554 := p_565 _ m_500
      have m_577 : (0, 3) ∈ RL554 := p_565 _ m_501
      have m_578 : (0, 4) ∈ RL554 := p_565 _ m_502
      have m_579 : (0, 5) ∈ RL554 := p_565 _ m_503
      have m_580 : (0, 6) ∈ RL554 := p_565 _ m_504
      have m_581 : (0, 7) ∈ RL554 := p_565 _ m_505
      have m_582 : (0, 8) ∈ RL554 := p_565 _ m_506
      have m_583 : (0, 9) ∈ RL554 := p_565 _ m_507
      have m_584 : (20 + ml, 0) ∈ RL554 := p_565 _ m_508
      have m_585 : (20 + ml, 1) ∈ RL554 := p_565 _ m_509
      have m_586 : (1 + d9, 0) ∈ RL554 := p_565 _ m_510
      have m_587 : (1 + d9, 1) ∈ RL554 := p_565 _ m_511
      have m_588 : (1 + d9, 2) ∈ RL554 := p_565 _ m_512
      have m_589 : (1 + d9, 3) ∈ RL554 := p_565 _ m_513
      have m_590 : (1 + d9, 4) ∈ RL554 := p_565 _ m_514
      have m_591 : (1 + d9, 5) ∈ RL554 := p_565 _ m_515
      have m_592 : (1 + d9, 6) ∈ RL554 := p_565 _ m_516
      have m_593 : (1 + d9, 7) ∈ RL554 := p_565 _ m_517
      have m_594 : (1 + d9, 8) ∈ RL554 := p_565 _ m_518
      have m_595 : (1 + d9, 9) ∈ RL554 := p_565 _ m_519
      have m_596 : (1 + d9, 10) ∈ RL554 := p_565 _ m_520
      have m_597 : (1 + d9, 11) ∈ RL554 := p_565 _ m_521
      have m_598 : (1 + d9, 12) ∈ RL554 := p_565 _ m_522
      have m_599 : (20 + ml, 10 + 10 * k) ∈ RL554 := p_565 _ m_497
      have c_600 : E553 0 0 = .inr (0, [.ref (ad552 0 1), .ref (ad552 0 5), .ref (ad552 0 7), .ref (ad552 0 9), .int (nI ml), .int lf_1]) := by rw [p_563 0 0 (fun q9 => nr_z q9.2 (by decide)) (fun q9 => nr_z q9.2 (by decide)) (fun q9 => nr_z q9.2 (by decide)) (fun q9 => nr_z q9.2 (by decide)) (fun q9 => nr_z q9.2 (by decide)) (fun q9 => nr_z q9.2 (by decide)) (fun q9 => nr_z q9.2 (by decide)) (fun q9 => nr_z q9.2 (by decide)), p_564 0 1 (fun q9 => nr_z q9.2 (by decide)) (fun q9 => nr_z q9.2 (by decide)) (fun q9 => nr_z q9.2 (by decide)) (fun q9 => nr_z q9.2 (by decide)) (fun q9 => nr_z q9.2 (by decide)) (fun q9 => nr_z q9.2 (by decide)) (fun q9 => nr_z q9.2 (by decide)), p_564 0 5 (fun q9 => nr_z q9.2 (by decide)) (fun q9 => nr_z q9.2 (by decide)) (fun q9 => nr_z q9.2 (by decide)) (fun q9 => nr_z q9.2 (by decide)) (fun q9 => nr_z q9.2 (by decide)) (fun q9 => nr_z q9.2 (by decide)) (fun q9 => nr_z q9.2 (by decide)), p_564 0 7 (fun q9 => nr_z q9.2 (by decide)) (fun q9 => nr_z q9.2 (by decide)) (fun q9 => nr_z q9.2 (by decide)) (fun q9 => nr_z q9.2 (by decide)) (fun q9 => nr_z q9.2 (by decide)) (fun q9 => nr_z q9.2 (by decide)) (fun q9 => nr_z q9.2 (by decide)), p_564 0 9 (fun q9 => nr_z q9.2 (by decide)) (fun q9 => nr_z q9.2 (by decide)) (fun q9 => nr_z q9.2 (by decide)) (fun q9 => nr_z q9.2 (by decide)) (fun q9 => nr_z q9.2 (by decide)) (fun q9 => nr_z q9.2 (by decide)) (fun q9 => nr_z q9.2 (by decide))]; exact c_523
      have c_601 : E553 0 1 = .inr (1, [.ref (ad552 0 2), .ref (ad552 0 3), .ref (ad552 0 4), .int (nI len), .int (nI wn)]) := by rw [p_563 0 1 (fun q9 => nr_z q9.2 (by decide)) (fun q9 => nr_z q9.2 (by decide)) (fun q9 => nr_z q9.2 (by decide)) (fun q9 => nr_z q9.2 (by decide)) (fun q9 => nr_z q9.2 (by decide)) (fun q9 => nr_z q9.2 (by decide)) (fun q9 => nr_z q9.2 (by decide)) (fun q9 => nr_z q9.2 (by decide)), p_564 0 2 (fun q9 => nr_z q9.2 (by decide)) (fun q9 => nr_z q9.2 (by decide)) (fun q9 => nr_z q9.2 (by decide)) (fun q9 => nr_z q9.2 (by decide)) (fun q9 => nr_z q9.2 (by decide)) (fun q9 => nr_z q9.2 (by decide)) (fun q9 => nr_z q9.2 (by decide)), p_564 0 3 (fun q9 => nr_z q9.2 (by decide)) (fun q9 => nr_z q9.2 (by decide)) (fun q9 => nr_z q9.2 (by decide)) (fun q9 => nr_z q9.2 (by decide)) (fun q9 => nr_z q9.2 (by decide)) (fun q9 => nr_z q9.2 (by decide)) (fun q9 => nr_z q9.2 (by decide)), p_564 0 4 (fun q9 => nr_z q9.2 (by decide)) (fun q9 => nr_z q9.2 (by decide)) (fun q9 => nr_z q9.2 (by decide)) (fun q9 => nr_z q9.2 (by decide)) (fun q9 => nr_z q9.2 (by decide)) (fun q9 => nr_z q9.2 (by decide)) (fun q9 => nr_z q9.2 (by decide))]; exact c_524
      have c_602 : E553 0 2 = .inl (kA 1, 40, .inl tx_4) := by rw [p_563 0 2 (fun q9 => nr_z q9.2 (by decide)) (fun q9 => nr_z q9.2 (by decide)) (fun q9 => nr_z q9.2 (by decide)) (fun q9 => nr_z q9.2 (by decide)) (fun q9 => nr_z q9.2 (by decide)) (fun q9 => nr_z q9.2 (by decide)) (fun q9 => nr_z q9.2 (by decide)) (fun q9 => nr_z q9.2 (by decide))]; exact c_525
      have c_603 : E553 0 3 = .inl (kA 0, 20, .inl fb_4) := by rw [p_563 0 3 (fun q9 => nr_z q9.2 (by decide)) (fun q9 => nr_z q9.2 (by decide)) (fun q9 => nr_z q9.2 (by decide)) (fun q9 => nr_z q9.2 (by decide)) (fun q9 => nr_z q9.2 (by decide)) (fun q9 => nr_z q9.2 (by decide)) (fun q9 => nr_z q9.2 (by decide)) (fun q9 => nr_z q9.2 (by decide))]; exact c_526
      have c_604 : E553 0 4 = .inl (kA 0, 20, .inl fe_4) := by rw [p_563 0 4 (fun q9 => nr_z q9.2 (by decide)) (fun q9 => nr_z q9.2 (by decide)) (fun q9 => nr_z q9.2 (by decide)) (fun q9 => nr_z q9.2 (by decide)) (fun q9 => nr_z q9.2 (by decide)) (fun q9 => nr_z q9.2 (by decide)) (fun q9 => nr_z q9.2 (by decide)) (fun q9 => nr_z q9.2 (by decide))]; exact c_527
      have c_605 : E553 0 5 = .inr (2, [.ref (ad552 0 6), .int (nI nd)]) := by rw [p_563 0 5 (fun q9 => nr_z q9.2 (by decide)) (fun q9 => nr_z q9.2 (by decide)) (fun q9 => nr_z q9.2 (by decide)) (fun q9 => nr_z q9.2 (by decide)) (fun q9 => nr_z q9.2 (by decide)) (fun q9 => nr_z q9.2 (by decide)) (fun q9 => nr_z q9.2 (by decide)) (fun q9 => nr_z q9.2 (by decide)), p_564 0 6 (fun q9 => nr_z q9.2 (by decide)) (fun q9 => nr_z q9.2 (by decide)) (fun q9 => nr_z q9.2 (by decide)) (fun q9 => nr_z q9.2 (by decide)) (fun q9 => nr_z q9.2 (by decide)) (fun q9 => nr_z q9.2 (by decide)) (fun q9 => nr_z q9.2 (by decide))]; exact c_528
      have c_606 : E553 0 6 = .inl (kA 4, 12, .inr (.inr (.inr (.inr fd_13)))) := by rw [p_563 0 6 (fun q9 => nr_z q9.2 (by decide)) (fun q9 => nr_z q9.2 (by decide)) (fun q9 => nr_z q9.2 (by decide)) (fun q9 => nr_z q9.2 (by decide)) (fun q9 => nr_z q9.2 (by decide)) (fun q9 => nr_z q9.2 (by decide)) (fun q9 => nr_z q9.2 (by decide)) (fun q9 => nr_z q9.2 (by decide))]; exact c_529
      have c_607 : E553 0 7 = .inr (3, [.ref (ad552 0 5), .ref (ad552 0 8), .int (nI (L.length)), .int cf_18, .ref (ad552 (20 + xp) 0)]) := by rw [p_563 0 7 (fun q9 => nr_z q9.2 (by decide)) (fun q9 => nr_z q9.2 (by decide)) (fun q9 => nr_z q9.2 (by decide)) (fun q9 => nr_z q9.2 (by decide)) (fun q9 => nr_z q9.2 (by decide)) (fun q9 => nr_z q9.2 (by decide)) (fun q9 => nr_z q9.2 (by decide)) (fun q9 => nr_z q9.2 (by decide)), p_564 0 5 (fun q9 => nr_z q9.2 (by decide)) (fun q9 => nr_z q9.2 (by decide)) (fun q9 => nr_z q9.2 (by decide)) (fun q9 => nr_z q9.2 (by decide)) (fun q9 => nr_z q9.2 (by decide)) (fun q9 => nr_z q9.2 (by decide)) (fun q9 => nr_z q9.2 (by decide)), p_564 0 8 (fun q9 => nr_z q9.2 (by decide)) (fun q9 => nr_z q9.2 (by decide)) (fun q9 => nr_z q9.2 (by decide)) (fun q9 => nr_z q9.2 (by decide)) (fun q9 => nr_z q9.2 (by decide)) (fun q9 => nr_z q9.2 (by decide)) (fun q9 => nr_z q9.2 (by decide)), p_564 (20 + xp) 0 (fun q9 => nr_z q9.2 (by decide)) (fun q9 => nr_z q9.2 (by decide)) (fun q9 => nr_z q9.2 (by decide)) (fun q9 => nr_z q9.2 (by decide)) (fun q9 => nr_z q9.2 (by decide)) (fun q9 => nr_z q9.2 (by decide)) (fun q9 => nr_z q9.2 (by decide))]; exact c_530
      have c_608 : E553 0 8 = .inl (kA 4, 12, .inr (.inr (.inr (.inr fc_18)))) := by rw [p_563 0 8 (fun q9 => nr_z q9.2 (by decide)) (fun q9 => nr_z q9.2 (by decide)) (fun q9 => nr_z q9.2 (by decide)) (fun q9 => nr_z q9.2 (by decide)) (fun q9 => nr_z q9.2 (by decide)) (fun q9 => nr_z q9.2 (by decide)) (fun q9 => nr_z q9.2 (by decide)) (fun q9 => nr_z q9.2 (by decide))]; exact c_531
      have c_609 : E553 0 9 = .inl (kA 5, 5, .inr (.inr (.inr (.inr fl_23)))) := by rw [p_563 0 9 (fun q9 => nr_z q9.2 (by decide)) (fun q9 => nr_z q9.2 (by decide)) (fun q9 => nr_z q9.2 (by decide)) (fun q9 => nr_z q9.2 (by decide)) (fun q9 => nr_z q9.2 (by decide)) (fun q9 => nr_z q9.2 (by decide)) (fun q9 => nr_z q9.2 (by decide)) (fun q9 => nr_z q9.2 (by decide))]; exact c_532
      have c_610 : E553 (20 + ml) 0 = .inr (5, [.int (nI ml), pv1, .ref (ad552 (20 + ml) 1), .int 1]) := by rw [p_563 (20 + ml) 0 (fun q9 => nr_z q9.2 (by decide)) (fun q9 => nr_z q9.2 (by decide)) (fun q9 => nr_z q9.2 (by decide)) (fun q9 => nr_z q9.2 (by decide)) (fun q9 => nr_z q9.2 (by decide)) (fun q9 => nr_z q9.2 (by decide)) (fun q9 => nr_z q9.2 (by decide)) (fun q9 => nr_z q9.2 (by decide)), p_564 (20 + ml) 1 (fun q9 => nr_z q9.2 (by decide)) (fun q9 => nr_z q9.2 (by decide)) (fun q9 => nr_z q9.2 (by decide)) (fun q9 => nr_z q9.2 (by decide)) (fun q9 => nr_z q9.2 (by decide)) (fun q9 => nr_z q9.2 (by decide)) (fun q9 => nr_z q9.2 (by decide))]; exact c_533
      have c_611 : E553 (20 + ml) 1 = .inl (kA 6, L.length, .inr (.inr (.inr (.inr fm1)))) := by rw [p_563 (20 + ml) 1 (fun q9 => nr_z q9.2 (by decide)) (fun q9 => nr_z q9.2 (by decide)) (fun q9 => nr_z q9.2 (by decide)) (fun q9 => nr_z q9.2 (by decide)) (fun q9 => nr_z q9.2 (by decide)) (fun q9 => nr_z q9.2 (by decide)) (fun q9 => nr_z q9.2 (by decide)) (fun q9 => nr_z q9.2 (by decide))]; exact c_534
      have c_612 : E553 (1 + d9) 0 = .inr (7, [.int (nI d9), .int fd_463, .int nm_463, .ref (ad552 (1 + d9) 1), .ref (ad552 (1 + d9) 9), .ref (ad552 (1 + d9) 10), .ref (ad552 (1 + d9) 2), .ref (ad552 (1 + d9) 11), .ref (ad552 (1 + d9) 12), .ref (ad552 (1 + d9) 3), .ref (ad552 (1 + d9) 4), .int sd_463]) := by rw [p_563 (1 + d9) 0 (fun q9 => nr_z q9.2 (by decide)) (fun q9 => nr_z q9.2 (by decide)) (fun q9 => nr_z q9.2 (by decide)) (fun q9 => nr_z q9.2 (by decide)) (fun q9 => nr_z q9.2 (by decide)) (fun q9 => nr_z q9.2 (by decide)) (fun q9 => nr_z q9.2 (by decide)) (fun q9 => nr_z q9.2 (by decide)), p_564 (1 + d9) 1 (fun q9 => nr_z q9.2 (by decide)) (fun q9 => nr_z q9.2 (by decide)) (fun q9 => nr_z q9.2 (by decide)) (fun q9 => nr_z q9.2 (by decide)) (fun q9 => nr_z q9.2 (by decide)) (fun q9 => nr_z q9.2 (by decide)) (fun q9 => nr_z q9.2 (by decide)), p_564 (1 + d9) 9 (fun q9 => nr_z q9.2 (by decide)) (fun q9 => nr_z q9.2 (by decide)) (fun q9 => nr_z q9.2 (by decide)) (fun q9 => nr_z q9.2 (by decide)) (fun q9 => nr_z q9.2 (by decide)) (fun q9 => nr_z q9.2 (by decide)) (fun q9 => nr_z q9.2 (by decide)), p_564 (1 + d9) 10 (fun q9 => nr_z q9.2 (by decide)) (fun q9 => nr_z q9.2 (by decide)) (fun q9 => nr_z q9.2 (by decide)) (fun q9 => nr_z q9.2 (by decide)) (fun q9 => nr_z q9.2 (by decide)) (fun q9 => nr_z q9.2 (by decide)) (fun q9 => nr_z q9.2 (by decide)), p_564 (1 + d9) 2 (fun q9 => nr_z q9.2 (by decide)) (fun q9 => nr_z q9.2 (by decide)) (fun q9 => nr_z q9.2 (by decide)) (fun q9 => nr_z q9.2 (by decide)) (fun q9 => nr_z q9.2 (by decide)) (fun q9 => nr_z q9.2 (by decide)) (fun q9 => nr_z q9.2 (by decide)), p_564 (1 + d9) 11 (fun q9 => nb_536 q9.1) (fun q9 => nr_z q9.2 (by decide)) (fun q9 => nr_z q9.2 (by decide)) (fun q9 => nr_z q9.2 (by decide)) (fun q9 => nr_z q9.2 (by decide)) (fun q9 => nr_z q9.2 (by decide)) (fun q9 => nr_z q9.2 (by decide)), p_564 (1 + d9) 12 (fun q9 => nb_536 q9.1) (fun q9 => nb_536 q9.1) (fun q9 => nr_z q9.2 (by decide)) (fun q9 => nr_z q9.2 (by decide)) (fun q9 => nr_z q9.2 (by decide)) (fun q9 => nr_z q9.2 (by decide)) (fun q9 => nr_z q9.2 (by decide)), p_564 (1 + d9) 3 (fun q9 => nr_z q9.2 (by decide)) (fun q9 => nr_z q9.2 (by decide)) (fun q9 => nr_z q9.2 (by decide)) (fun q9 => nr_z q9.2 (by decide)) (fun q9 => nr_z q9.2 (by decide)) (fun q9 => nr_z q9.2 (by decide)) (fun q9 => nr_z q9.2 (by decide)), p_564 (1 + d9) 4 (fun q9 => nr_z q9.2 (by decide)) (fun q9 => nr_z q9.2 (by decide)) (fun q9 => nr_z q9.2 (by decide)) (fun q9 => nr_z q9.2 (by decide)) (fun q9 => nr_z q9.2 (by decide)) (fun q9 => nr_z q9.2 (by decide)) (fun q9 => nr_z q9.2 (by decide))]; exact c_535
      have c_613 : E553 (1 + d9) 1 = .inr (8, [.ref (ad552 (1 + d9) 5), .int (nI k0_463)]) := by rw [p_563 (1 + d9) 1 (fun q9 => nr_z q9.2 (by decide)) (fun q9 => nr_z q9.2 (by decide)) (fun q9 => nr_z q9.2 (by decide)) (fun q9 => nr_z q9.2 (by decide)) (fun q9 => nr_z q9.2 (by decide)) (fun q9 => nr_z q9.2 (by decide)) (fun q9 => nr_z q9.2 (by decide)) (fun q9 => nr_z q9.2 (by decide)), p_564 (1 + d9) 5 (fun q9 => nr_z q9.2 (by decide)) (fun q9 => nr_z q9.2 (by decide)) (fun q9 => nr_z q9.2 (by decide)) (fun q9 => nr_z q9.2 (by decide)) (fun q9 => nr_z q9.2 (by decide)) (fun q9 => nr_z q9.2 (by decide)) (fun q9 => nr_z q9.2 (by decide))]; exact c_537
      have c_614 : E553 (1 + d9) 2 = .inr (8, [.ref (ad552 (1 + d9) 6), .int (nI k1_463)]) := by rw [p_563 (1 + d9) 2 (fun q9 => nr_z q9.2 (by decide)) (fun q9 => nr_z q9.2 (by decide)) (fun q9 => nr_z q9.2 (by decide)) (fun q9 => nr_z q9.2 (by decide)) (fun q9 => nr_z q9.2 (by decide)) (fun q9 => nr_z q9.2 (by decide)) (fun q9 => nr_z q9.2 (by decide)) (fun q9 => nr_z q9.2 (by decide)), p_564 (1 + d9) 6 (fun q9 => nr_z q9.2 (by decide)) (fun q9 => nr_z q9.2 (by decide)) (fun q9 => nr_z q9.2 (by decide)) (fun q9 => nr_z q9.2 (by decide)) (fun q9 => nr_z q9.2 (by decide)) (fun q9 => nr_z q9.2 (by decide)) (fun q9 => nr_z q9.2 (by decide))]; exact c_538
      have c_615 : E553 (1 + d9) 3 = .inr (8, [.ref (ad552 (1 + d9) 7), .int (nI k2_463)]) := by rw [p_563 (1 + d9) 3 (fun q9 => nr_z q9.2 (by decide)) (fun q9 => nr_z q9.2 (by decide)) (fun q9 => nr_z q9.2 (by decide)) (fun q9 => nr_z q9.2 (by decide)) (fun q9 => nr_z q9.2 (by decide)) (fun q9 => nr_z q9.2 (by decide)) (fun q9 => nr_z q9.2 (by decide)) (fun q9 => nr_z q9.2 (by decide)), p_564 (1 + d9) 7 (fun q9 => nr_z q9.2 (by decide)) (fun q9 => nr_z q9.2 (by decide)) (fun q9 => nr_z q9.2 (by decide)) (fun q9 => nr_z q9.2 (by decide)) (fun q9 => nr_z q9.2 (by decide)) (fun q9 => nr_z q9.2 (by decide)) (fun q9 => nr_z q9.2 (by decide))]; exact c_539
      have c_616 : E553 (1 + d9) 4 = .inr (8, [.ref (ad552 (1 + d9) 8), .int (nI k3_463)]) := by rw [p_563 (1 + d9) 4 (fun q9 => nr_z q9.2 (by decide)) (fun q9 => nr_z q9.2 (by decide)) (fun q9 => nr_z q9.2 (by decide)) (fun q9 => nr_z q9.2 (by decide)) (fun q9 => nr_z q9.2 (by decide)) (fun q9 => nr_z q9.2 (by decide)) (fun q9 => nr_z q9.2 (by decide)) (fun q9 => nr_z q9.2 (by decide)), p_564 (1 + d9) 8 (fun q9 => nr_z q9.2 (by decide)) (fun q9 => nr_z q9.2 (by decide)) (fun q9 => nr_z q9.2 (by decide)) (fun q9 => nr_z q9.2 (by decide)) (fun q9 => nr_z q9.2 (by decide)) (fun q9 => nr_z q9.2 (by decide)) (fun q9 => nr_z q9.2 (by decide))]; exact c_540
      have c_617 : E553 (1 + d9) 5 = .inl (kA 0, 6, .inl f0_463) := by rw [p_563 (1 + d9) 5 (fun q9 => nr_z q9.2 (by decide)) (fun q9 => nr_z q9.2 (by decide)) (fun q9 => nr_z q9.2 (by decide)) (fun q9 => nr_z q9.2 (by decide)) (fun q9 => nr_z q9.2 (by decide)) (fun q9 => nr_z q9.2 (by decide)) (fun q9 => nr_z q9.2 (by decide)) (fun q9 => nr_z q9.2 (by decide))]; exact c_541
      have c_618 : E553 (1 + d9) 6 = .inl (kA 0, 5, .inl f1_463) := by rw [p_563 (1 + d9) 6 (fun q9 => nr_z q9.2 (by decide)) (fun q9 => nr_z q9.2 (by decide)) (fun q9 => nr_z q9.2 (by decide)) (fun q9 => nr_z q9.2 (by decide)) (fun q9 => nr_z q9.2 (by decide)) (fun q9 => nr_z q9.2 (by decide)) (fun q9 => nr_z q9.2 (by decide)) (fun q9 => nr_z q9.2 (by decide))]; exact c_542
      have c_619 : E553 (1 + d9) 7 = .inl (kA 0, 3, .inl f2_463) := by rw [p_563 (1 + d9) 7 (fun q9 => nr_z q9.2 (by decide)) (fun q9 => nr_z q9.2 (by decide)) (fun q9 => nr_z q9.2 (by decide)) (fun q9 => nr_z q9.2 (by decide)) (fun q9 => nr_z q9.2 (by decide)) (fun q9 => nr_z q9.2 (by decide)) (fun q9 => nr_z q9.2 (by decide)) (fun q9 => nr_z q9.2 (by decide))]; exact c_543
      have c_620 : E553 (1 + d9) 8 = .inl (kA 0, 3, .inl f3_463) := by rw [p_563 (1 + d9) 8 (fun q9 => nr_z q9.2 (by decide)) (fun q9 => nr_z q9.2 (by decide)) (fun q9 => nr_z q9.2 (by decide)) (fun q9 => nr_z q9.2 (by decide)) (fun q9 => nr_z q9.2 (by decide)) (fun q9 => nr_z q9.2 (by decide)) (fun q9 => nr_z q9.2 (by decide)) (fun q9 => nr_z q9.2 (by decide))]; exact c_544
      have c_621 : E553 (1 + d9) 9 = .inl (kA 8, 6, .inr (.inr (.inr (.inr fe_463)))) := by rw [p_563 (1 + d9) 9 (fun q9 => nr_z q9.2 (by decide)) (fun q9 => nr_z q9.2 (by decide)) (fun q9 => nr_z q9.2 (by decide)) (fun q9 => nr_z q9.2 (by decide)) (fun q9 => nr_z q9.2 (by decide)) (fun q9 => nr_z q9.2 (by decide)) (fun q9 => nr_z q9.2 (by decide)) (fun q9 => nr_z q9.2 (by decide))]; exact c_545
      have c_622 : E553 (1 + d9) 10 = .inl (kA 8, 6, .inr (.inr (.inr (.inr fo_463)))) := by rw [p_563 (1 + d9) 10 (fun q9 => nb_536 q9.1) (fun q9 => nr_z q9.2 (by decide)) (fun q9 => nr_z q9.2 (by decide)) (fun q9 => nr_z q9.2 (by decide)) (fun q9 => nr_z q9.2 (by decide)) (fun q9 => nr_z q9.2 (by decide)) (fun q9 => nr_z q9.2 (by decide)) (fun q9 => nr_z q9.2 (by decide))]; exact c_546
      have c_623 : E553 (1 + d9) 11 = .inl (kA 2, 5, .inl tr_463) := by rw [p_563 (1 + d9) 11 (fun q9 => nb_536 q9.1) (fun q9 => nb_536 q9.1) (fun q9 => nr_z q9.2 (by decide)) (fun q9 => nr_z q9.2 (by decide)) (fun q9 => nr_z q9.2 (by decide)) (fun q9 => nr_z q9.2 (by decide)) (fun q9 => nr_z q9.2 (by decide)) (fun q9 => nr_z q9.2 (by decide))]; exact c_547
      have c_624 : E553 (1 + d9) 12 = .inl (kA 2, 5, .inl op_463) := by rw [p_563 (1 + d9) 12 (fun q9 => nb_536 q9.1) (fun q9 => nb_536 q9.1) (fun q9 => nb_536 q9.1) (fun q9 => nr_z q9.2 (by decide)) (fun q9 => nr_z q9.2 (by decide)) (fun q9 => nr_z q9.2 (by decide)) (fun q9 => nr_z q9.2 (by decide)) (fun q9 => nr_z q9.2 (by decide))]; exact c_548
      have hP : va_P D xcl (rp ad552 E553 RL554) H := hP
      have hD : va_D A (rp ad552 E553 RL554) := hD
      refine px_aast (i := k) (r := (xR_Me, xT_Me, 6)) hx hb hK.1 hP hD hS m_585 c_611 6 rfl m_599 p_555 rfl (by omega) (by omega) xd_Ch_draft_46 (fun H locs hP hD hS => ?_)
      have hP : va_P D xcl (rp ad552 (up2 E553 (20 + ml) 1 (.inl (kA 6, L.length, .inr (.inr (.inr (.inr (va_up fm1 k (some (ad552 (20 + ml) (10 + 10 * k)))))))))) RL554) H := hP
      have hD : va_D A (rp ad552 (up2 E553 (20 + ml) 1 (.inl (kA 6, L.length, .inr (.inr (.inr (.inr (va_up fm1 k (some (ad552 (20 + ml) (10 + 10 * k)))))))))) RL554) := hD
      generalize hE626 : up2 E553 (20 + ml) 1 (.inl (kA 6, L.length, .inr (.inr (.inr (.inr (va_up fm1 k (some (ad552 (20 + ml) (10 + 10 * k))))))))) = E625 at hP hD
      have fE627 : ∀ b2 o2, ¬ (b2 = 20 + ml ∧ o2 = 1) → E625 b2 o2 = E553 b2 o2 := fun b2 o2 h9 => by rw [← hE626]; exact up2_ne (nr_or h9)
      have c_628 : E625 (20 + ml) 1 = .inl (kA 6, L.length, .inr (.inr (.inr (.inr (va_up fm1 k (some (ad552 (20 + ml) (10 + 10 * k)))))))) := by rw [← hE626]; exact up2_eq
      have c_629 : E625 (20 + ml) (10 + 10 * k) = .inr (6, [.ref (ad552 (20 + ml) 0), .ref (ad552 (1 + d9) 0), .ref (ad552 (20 + ml) (11 + 10 * k)), .ref (ad552 (20 + ml) (12 + 10 * k)), .ref (ad552 (20 + ml) (13 + 10 * k)), .ref (ad552 (20 + ml) (14 + 10 * k))]) := (fE627 (20 + ml) (10 + 10 * k) (fun q9 => nr_y q9.2 (by decide))).trans p_555
      have c_630 : E625 (20 + ml) (11 + 10 * k) = .inl (kA 6, k1_463, .inr (.inr (.inr (.inr (fun _ => none))))) := (fE627 (20 + ml) (11 + 10 * k) (fun q9 => nr_y q9.2 (by decide))).trans p_556
      have c_631 : E625 (20 + ml) (12 + 10 * k) = .inr (10, [.ref (ad552 (20 + ml) (15 + 10 * k))]) := (fE627 (20 + ml) (12 + 10 * k) (fun q9 => nr_y q9.2 (by decide))).trans p_557
      have c_632 : E625 (20 + ml) (13 + 10 * k) = .inr (10, [.ref (ad552 (20 + ml) (16 + 10 * k))]) := (fE627 (20 + ml) (13 + 10 * k) (fun q9 => nr_y q9.2 (by decide))).trans p_558
      have c_633 : E625 (20 + ml) (14 + 10 * k) = .inr (10, [.ref (ad552 (20 + ml) (17 + 10 * k))]) := (fE627 (20 + ml) (14 + 10 * k) (fun q9 => nr_y q9.2 (by decide))).trans p_559
      have c_634 : E625 (20 + ml) (15 + 10 * k) = .inl (kA 0, 6, .inl (fun _ => 0)) := (fE627 (20 + ml) (15 + 10 * k) (fun q9 => nr_y q9.2 (by decide))).trans p_560
      have c_635 : E625 (20 + ml) (16 + 10 * k) = .inl (kA 0, 6, .inl (fun _ => 0)) := (fE627 (20 + ml) (16 + 10 * k) (fun q9 => nr_y q9.2 (by decide))).trans p_561
      have c_636 : E625 (20 + ml) (17 + 10 * k) = .inl (kA 0, 6, .inl (fun _ => 0)) := (fE627 (20 + ml) (17 + 10 * k) (fun q9 => nr_y q9.2 (by decide))).trans p_562
      have c_637 : E625 0 0 = .inr (0, [.ref (ad552 0 1), .ref (ad552 0 5), .ref (ad552 0 7), .ref (ad552 0 9), .int (nI ml), .int lf_1]) := (fE627 0 0 (fun q9 => absurd q9.2 (by decide))).trans c_600
      have c_638 : E625 0 1 = .inr (1, [.ref (ad552 0 2), .ref (ad552 0 3), .ref (ad552 0 4), .int (nI len), .int (nI wn)]) := (fE627 0 1 (fun q9 => nb_361 q9.1)).trans c_601
      have c_639 : E625 0 2 = .inl (kA 1, 40, .inl tx_4) := (fE627 0 2 (fun q9 => absurd q9.2 (by decide))).trans c_602
      have c_640 : E625 0 3 = .inl (kA 0, 20, .inl fb_4) := (fE627 0 3 (fun q9 => absurd q9.2 (by decide))).trans c_603
      have c_641 : E625 0 4 = .inl (kA 0, 20, .inl fe_4) := (fE627 0 4 (fun q9 => absurd q9.2 (by decide))).trans c_604
      have c_642 : E625 0 5 = .inr (2, [.ref (ad552 0 6), .int (nI nd)]) := (fE627 0 5 (fun q9 => absurd q9.2 (by decide))).trans c_605
      have c_643 : E625 0 6 = .inl (kA 4, 12, .inr (.inr (.inr (.inr fd_13)))) := (fE627 0 6 (fun q9 => absurd q9.2 (by decide))).trans c_606
      have c_644 : E625 0 7 = .inr (3, [.ref (ad552 0 5), .ref (ad552 0 8), .int (nI (L.length)), .int cf_18, .ref (ad552 (20 + xp) 0)]) := (fE627 0 7 (fun q9 => absurd q9.2 (by decide))).trans c_607
      have c_645 : E625 0 8 = .inl (kA 4, 12, .inr (.inr (.inr (.inr fc_18)))) := (fE627 0 8 (fun q9 => absurd q9.2 (by decide))).trans c_608
      have c_646 : E625 0 9 = .inl (kA 5, 5, .inr (.inr (.inr (.inr fl_23)))) := (fE627 0 9 (fun q9 => absurd q9.2 (by decide))).trans c_609
      have c_647 : E625 (20 + ml) 0 = .inr (5, [.int (nI ml), pv1, .ref (ad552 (20 + ml) 1), .int 1]) := (fE627 (20 + ml) 0 (fun q9 => absurd q9.2 (by decide))).trans c_610
      have c_648 : E625 (1 + d9) 0 = .inr (7, [.int (nI d9), .int fd_463, .int nm_463, .ref (ad552 (1 + d9) 1), .ref (ad552 (1 + d9) 9), .ref (ad552 (1 + d9) 10), .ref (ad552 (1 + d9) 2), .ref (ad552 (1 + d9) 11), .ref (ad552 (1 + d9) 12), .ref (ad552 (1 + d9) 3), .ref (ad552 (1 + d9) 4), .int sd_463]) := (fE627 (1 + d9) 0 (fun q9 => absurd q9.2 (by decide))).trans c_612
      have c_649 : E625 (1 + d9) 1 = .inr (8, [.ref (ad552 (1 + d9) 5), .int (nI k0_463)]) := (fE627 (1 + d9) 1 (fun q9 => nb_536 q9.1)).trans c_613
      have c_650 : E625 (1 + d9) 2 = .inr (8, [.ref (ad552 (1 + d9) 6), .int (nI k1_463)]) := (fE627 (1 + d9) 2 (fun q9 => absurd q9.2 (by decide))).trans c_614
      have c_651 : E625 (1 + d9) 3 = .inr (8, [.ref (ad552 (1 + d9) 7), .int (nI k2_463)]) := (fE627 (1 + d9) 3 (fun q9 => absurd q9.2 (by decide))).trans c_615
      have c_652 : E625 (1 + d9) 4 = .inr (8, [.ref (ad552 (1 + d9) 8), .int (nI k3_463)]) := (fE627 (1 + d9) 4 (fun q9 => absurd q9.2 (by decide))).trans c_616
      have c_653 : E625 (1 + d9) 5 = .inl (kA 0, 6, .inl f0_463) := (fE627 (1 + d9) 5 (fun q9 => absurd q9.2 (by decide))).trans c_617
      have c_654 : E625 (1 + d9) 6 = .inl (kA 0, 5, .inl f1_463) := (fE627 (1 + d9) 6 (fun q9 => absurd q9.2 (by decide))).trans c_618
      have c_655 : E625 (1 + d9) 7 = .inl (kA 0, 3, .inl f2_463) := (fE627 (1 + d9) 7 (fun q9 => absurd q9.2 (by decide))).trans c_619
      have c_656 : E625 (1 + d9) 8 = .inl (kA 0, 3, .inl f3_463) := (fE627 (1 + d9) 8 (fun q9 => absurd q9.2 (by decide))).trans c_620
      have c_657 : E625 (1 + d9) 9 = .inl (kA 8, 6, .inr (.inr (.inr (.inr fe_463)))) := (fE627 (1 + d9) 9 (fun q9 => absurd q9.2 (by decide))).trans c_621
      have c_658 : E625 (1 + d9) 10 = .inl (kA 8, 6, .inr (.inr (.inr (.inr fo_463)))) := (fE627 (1 + d9) 10 (fun q9 => absurd q9.2 (by decide))).trans c_622
      have c_659 : E625 (1 + d9) 11 = .inl (kA 2, 5, .inl tr_463) := (fE627 (1 + d9) 11 (fun q9 => absurd q9.2 (by decide))).trans c_623
      have c_660 : E625 (1 + d9) 12 = .inl (kA 2, 5, .inl op_463) := (fE627 (1 + d9) 12 (fun q9 => absurd q9.2 (by decide))).trans c_624
      refine lv_iinc (k := 0) (x := (nI k)) (v := (nI (k + 1))) hx hb xd_Ch_draft_47 hl rfl (xb_inc k 1) (Nat.le_of_ble_eq_true rfl) rfl (fun ls hl => ?_)
      have hl : lv_has ls 4 [(3, .int (nI (k + 1))), (2, .ref (ad552 (20 + ml) 0)), (0, .ref (ad552 0 7))] := hl
      refine lv_goto (tgt := 19) hx hb xd_Ch_draft_50 (by decide) ?_
      exact ih407 (k + 1, ad552, E625, RL554, pv1, (va_up fm1 k (some (ad552 (20 + ml) (10 + 10 * k))))) _ _ _ (show L.length - (k + 1) < L.length - k by omega) (lv_sub hl [0, 1, 2] rfl) hP hD hS ⟨(show (k + 1) ≤ L.length from by first | assumption | omega), (show (∀ b2 o2, ¬ (b2 = 20 + ml) → E625 b2 o2 = E b2 o2) from fun b2 o2 h9 => by show E625 b2 o2 = _; rw [fE627 b2 o2 (by omega), p_563 b2 o2 (by omega) (by omega) (by omega) (by omega) (by omega) (by omega) (by omega) (by omega), fE493 b2 o2 (by omega), hfE b2 o2 (by omega)]), (show (∀ b2 o2, ¬ (b2 = 20 + ml) → ad552 b2 o2 = ad b2 o2) from fun b2 o2 h9 => by show ad552 b2 o2 = _; rw [p_564 b2 o2 (by omega) (by omega) (by omega) (by omega) (by omega) (by omega) (by omega), fA494 b2 o2 (by omega), hfA b2 o2 (by omega)]), (show ∀ x ∈ RL, x ∈ RL554 from fun _ h9 => p_565 _ (hs495 _ (hfS _ h9))), (show (20 + ml, 0) ∈ RL554 from m_584), (show (20 + ml, 1) ∈ RL554 from m_585), (show pv1 = .null ∨ ∃ x, x < ml ∧ pv1 = .ref (ad552 (20 + x) 0) from by rcases hpv1 with h | ⟨x, hx9, h⟩; exact Or.inl h; exact Or.inr ⟨x, hx9, by rw [p_564 (20 + x) 0 (by omega) (by omega) (by omega) (by omega) (by omega) (by omega) (by omega), fA494 (20 + x) 0 (by omega)]; exact h⟩), (show pv1 = lyv ad552 lq from hpx.trans (lyv_same (fun x hx9 => by rw [p_564 (20 + x) 0 (by omega) (by omega) (by omega) (by omega) (by omega) (by omega) (by omega), fA494 (20 + x) 0 (by omega)])).symm), (show E625 (20 + ml) 0 = .inr (5, [.int (nI ml), pv1, .ref (ad552 (20 + ml) 1), .int 1]) from c_647), (show E625 (20 + ml) 1 = .inl (kA 6, L.length, .inr (.inr (.inr (.inr (va_up fm1 k (some (ad552 (20 + ml) (10 + 10 * k)))))))) from c_628), (show ∀ j, j < (k + 1) → (va_up fm1 k (some (ad552 (20 + ml) (10 + 10 * k)))) j = some (ad552 (20 + ml) (10 + 10 * j)) ∧ MEI kA ad552 E625 RL554 nd ml j from fun j hj => by
          by_cases q : j = k
          · subst q; exact ⟨vu_eq, ⟨(fun j9 hj9 => by
              have hj8 : j9 = 0 ∨ j9 = 1 ∨ j9 = 2 ∨ j9 = 3 ∨ j9 = 4 ∨ j9 = 5 ∨ j9 = 6 ∨ j9 = 7 := by omega
              rcases hj8 with rfl | rfl | rfl | rfl | rfl | rfl | rfl | rfl
              · exact m_599
              · exact p_566
              · exact p_567
              · exact p_568
              · exact p_569
              · exact p_570
              · exact p_571
              · exact p_572), d9, k1_463, (fun _ => none), (fun _ => 0), (fun _ => 0), (fun _ => 0), hd9, by omega, c_629, c_630, c_631, c_632, c_633, c_634, c_635, c_636⟩⟩
          · exact ⟨(vu_ne q).trans ((hMM j (by omega)).1.trans (by rw [p_564 (20 + ml) (10 + 10 * j) (by omega) (by omega) (by omega) (by omega) (by omega) (by omega) (by omega), fA494 (20 + ml) (10 + 10 * j) (by omega)])), MEI_at (fun j9 hj9 => by rw [fE627 (20 + ml) (10 + j9 + 10 * j) (by omega), p_563 (20 + ml) (10 + j9 + 10 * j) (by omega) (by omega) (by omega) (by omega) (by omega) (by omega) (by omega) (by omega), fE493 (20 + ml) (10 + j9 + 10 * j) (by omega)]) (fun j9 hj9 => by rw [p_564 (20 + ml) (10 + j9 + 10 * j) (by omega) (by omega) (by omega) (by omega) (by omega) (by omega) (by omega), fA494 (20 + ml) (10 + j9 + 10 * j) (by omega)]) (by rw [p_564 (20 + ml) 0 (by omega) (by omega) (by omega) (by omega) (by omega) (by omega) (by omega), fA494 (20 + ml) 0 (by omega)]) (fun d8 hd8 => by rw [p_564 (1 + d8) 0 (by omega) (by omega) (by omega) (by omega) (by omega) (by omega) (by omega), fA494 (1 + d8) 0 (by omega)]) (fun _ h9 => p_565 _ (hs495 _ (h9))) (hMM j (by omega)).2⟩), (show ∀ j, j < (k + 1) → DX g ad552 E625 L ml j from fun j hj => by
        by_cases q : j = k
        · rw [q]; exact ⟨by rw [c_629, ← hd9e]; rfl, by rw [c_630, ← hd9e, ← tk1_463, iN_nI (by omega)]; rfl, by rw [c_634]; rfl, by rw [c_635]; rfl, by rw [c_636]; rfl⟩
        · exact DX_at (fun j9 hj9 => by rw [fE627 (20 + ml) (10 + j9 + 10 * j) (by omega), p_563 (20 + ml) (10 + j9 + 10 * j) (by omega) (by omega) (by omega) (by omega) (by omega) (by omega) (by omega) (by omega), fE493 (20 + ml) (10 + j9 + 10 * j) (by omega)]) (by
          have q9 := hxGL.1 _ (getD_mem (L := L) (k := j) (by omega))
          rw [p_564 (1 + L.getD j 0) 0 (by omega) (by omega) (by omega) (by omega) (by omega) (by omega) (by omega), fA494 (1 + L.getD j 0) 0 (by omega)]) (hMX j (by omega)))⟩
noncomputable def srf (T : Nat → Nat → Prop) (mc pr : Nat → Nat) : Nat → Nat → Option (Nat × Nat)
  | 0, _ => none
  | _ + 1, 0 => none
  | f + 1, la + 1 => match ff (T la) (mc la) with
    | some k => some (la, k)
    | none => srf T mc pr f (pr la)
theorem srf_0 {T : Nat → Nat → Prop} {mc pr : Nat → Nat} : ∀ f, srf T mc pr f 0 = none
  | 0 => rfl
  | _ + 1 => rfl
theorem srf_f {T : Nat → Nat → Prop} {mc pr : Nat → Nat} : ∀ (f f2 lq : Nat), lq ≤ f → lq ≤ f2 → (∀ la, la < lq → pr la ≤ la) → srf T mc pr f2 lq = srf T mc pr f lq
  | f, f2, 0, _, _, _ => by rw [srf_0, srf_0]
  | 0, _, la + 1, h, _, _ => absurd h (by omega)
  | _ + 1, 0, la + 1, _, h, _ => absurd h (by omega)
  | f + 1, f2 + 1, la + 1, h1, h2, hp => by
    have hpl := hp la (by omega)
    have ih := srf_f (T := T) (mc := mc) (pr := pr) f f2 (pr la) (by omega) (by omega) (fun x hx => hp x (by omega))
    unfold srf
    cases hq : ff (T la) (mc la) with
    | none => simp only; exact ih
    | some k => rfl
noncomputable def srU (T : Nat → Nat → Prop) (mc pr : Nat → Nat) (lq : Nat) : Option (Nat × Nat) := srf T mc pr lq lq
theorem srU_hit {T : Nat → Nat → Prop} {mc pr : Nat → Nat} {la k : Nat} (hk : k < mc la) (h : T la k) (hn : ∀ j, j < k → ¬ T la j) : srU T mc pr (la + 1) = some (la, k) := by
  unfold srU srf
  rw [ff_some hk h hn]
theorem srU_miss {T : Nat → Nat → Prop} {mc pr : Nat → Nat} {la : Nat} (hp : ∀ x, x < la + 1 → pr x ≤ x) (hn : ∀ j, j < mc la → ¬ T la j) : srU T mc pr (la + 1) = srU T mc pr (pr la) := by
  have h1 := hp la (by omega)
  show srf T mc pr (la + 1) (la + 1) = srf T mc pr (pr la) (pr la)
  conv => lhs; unfold srf
  rw [ff_none hn]
  exact srf_f _ _ _ (Nat.le_refl _) (by omega) (fun x hx => hp x (by omega))
def chF (pr : Nat → Nat) : Nat → Nat → Nat → Prop
  | 0, _, _ => False
  | f + 1, lq, la => 0 < lq ∧ (la = lq - 1 ∨ chF pr f (pr (lq - 1)) la)
def Ch (pr : Nat → Nat) (lq la : Nat) : Prop := ∃ f, chF pr f lq la
theorem Ch_0 {pr : Nat → Nat} {la : Nat} : ¬ Ch pr 0 la := fun ⟨f, h⟩ => by
  cases f with
  | zero => exact h
  | succ f => exact absurd h.1 (Nat.lt_irrefl _)
theorem Ch_s {pr : Nat → Nat} {y la : Nat} : Ch pr (y + 1) la ↔ (la = y ∨ Ch pr (pr y) la) := by
  constructor
  · intro ⟨f, h⟩
    cases f with
    | zero => exact h.elim
    | succ f =>
      rcases h.2 with q | q
      · exact Or.inl q
      · exact Or.inr ⟨f, q⟩
  · rintro (q | ⟨f, q⟩)
    · exact ⟨1, by omega, Or.inl q⟩
    · exact ⟨f + 1, by omega, Or.inr q⟩
theorem chF_lt {pr : Nat → Nat} : ∀ (f lq la : Nat), (∀ x, x < lq → pr x ≤ x) → chF pr f lq la → la < lq
  | 0, _, _, _, h => h.elim
  | f + 1, lq, la, hp, h => by
    rcases h.2 with q | q
    · have := h.1; omega
    · have h0 := h.1
      have h1 := hp (lq - 1) (by omega)
      have h2 := chF_lt f _ la (fun x hx => hp x (by omega)) q
      omega
theorem Ch_lt {pr : Nat → Nat} {lq la : Nat} (hp : ∀ x, x < lq → pr x ≤ x) (h : Ch pr lq la) : la < lq := by
  obtain ⟨f, hf⟩ := h
  exact chF_lt f lq la hp hf
theorem chF_tr {pr : Nat → Nat} : ∀ (f lq la la2 : Nat), chF pr f lq la → Ch pr (la + 1) la2 → Ch pr lq la2
  | 0, _, _, _, h, _ => h.elim
  | f + 1, lq, la, la2, h, h2 => by
    have h0 := h.1
    rcases h.2 with q | q
    · rw [show lq = la + 1 by omega]; exact h2
    · rw [show lq = (lq - 1) + 1 by omega]
      exact Ch_s.mpr (Or.inr (chF_tr f _ la la2 q h2))
theorem Ch_tr {pr : Nat → Nat} {lq la la2 : Nat} (h : Ch pr lq la) (h2 : Ch pr (la + 1) la2) : Ch pr lq la2 := by
  obtain ⟨f, hf⟩ := h
  exact chF_tr f lq la la2 hf h2
theorem srf_none {T : Nat → Nat → Prop} {mc pr : Nat → Nat} : ∀ (f lq : Nat), lq ≤ f → (∀ x, x < lq → pr x ≤ x) → srf T mc pr f lq = none → ∀ la, Ch pr lq la → ∀ k, k < mc la → ¬ T la k
  | f, 0, _, _, _ => fun la hc => absurd hc Ch_0
  | 0, la + 1, h, _, _ => absurd h (by omega)
  | f + 1, y + 1, h, hp, he => fun la hc k hk => by
    have h1 := hp y (by omega)
    unfold srf at he
    cases hq : ff (T y) (mc y) with
    | some j => rw [hq] at he; simp only at he; cases he
    | none =>
      rw [hq] at he
      simp only at he
      rcases Ch_s.mp hc with q | q
      · rw [q] at hk ⊢; exact ff_no hq k hk
      · exact srf_none f (pr y) (by omega) (fun x hx => hp x (by omega)) he la q k hk
theorem srf_some {T : Nat → Nat → Prop} {mc pr : Nat → Nat} : ∀ (f lq : Nat) {la k : Nat}, srf T mc pr f lq = some (la, k) → Ch pr lq la ∧ k < mc la ∧ T la k
  | 0, _, _, _, h => by cases h
  | _ + 1, 0, _, _, h => by cases h
  | f + 1, y + 1, la, k, h => by
    unfold srf at h
    cases hq : ff (T y) (mc y) with
    | some j =>
      rw [hq] at h
      simp only at h
      have q1 := congrArg Prod.fst (Option.some.inj h)
      have q2 := congrArg Prod.snd (Option.some.inj h)
      simp only at q1 q2
      subst q1
      subst q2
      exact ⟨Ch_s.mpr (Or.inl rfl), (ff_is hq).1, (ff_is hq).2.1⟩
    | none =>
      rw [hq] at h
      simp only at h
      obtain ⟨z1, z2⟩ := srf_some f (pr y) h
      exact ⟨Ch_s.mpr (Or.inr z1), z2⟩
theorem lkf_ch {nm : Nat → Int32} {mc : Nat → Nat} {md : Nat → Nat → Nat} {pr : Nat → Nat} {n : Int32} : ∀ (f lq : Nat) {la b : Nat}, lkf nm mc md pr f lq n = some (la, b) → Ch pr lq la ∧ ∃ k, k < mc la ∧ md la k = b
  | 0, _, _, _, h => by cases h
  | _ + 1, 0, _, _, h => by cases h
  | f + 1, y + 1, la, b, h => by
    unfold lkf at h
    cases hq : ff (fun k => nm (md y k) = n) (mc y) with
    | some j =>
      rw [hq] at h
      simp only at h
      have q1 := congrArg Prod.fst (Option.some.inj h)
      have q2 := congrArg Prod.snd (Option.some.inj h)
      simp only at q1 q2
      subst q1
      exact ⟨Ch_s.mpr (Or.inl rfl), j, (ff_is hq).1, q2⟩
    | none =>
      rw [hq] at h
      simp only at h
      obtain ⟨z1, z2⟩ := lkf_ch f (pr y) h
      exact ⟨Ch_s.mpr (Or.inr z1), z2⟩
def SRT (g : gT) (R : Nat → Prop) (pn rd : Int32) (la j : Nat) : Prop := R (12 * la + mdv g la j) ∧ ∃ i, pI g (mdv g la j) pn = some i ∧ exP g (6 * mdv g la j + i) rd
noncomputable def srG (g : gT) (R : Nat → Prop) (pn rd : Int32) (lq : Nat) : Option (Nat × Nat) := srU (SRT g R pn rd) (mcv g) (prv g) lq
def SBi (g : gT) (R : Nat → Prop) (n d n2 k2 i : Nat) : Prop := (∃ q, pI g (mdv g n2 k2) (g 6 (6 * mdv g n2 k2 + i)) = some q ∧ exP g (6 * mdv g n2 k2 + q) (g 4 d)) ∧ ((∃ q, pI g d (g 6 (6 * mdv g n2 k2 + i)) = some q) ∨ ¬ srG g R (g 6 (6 * mdv g n2 k2 + i)) (g 4 d) (n + 1) = some (n2, k2))
def SB (g : gT) (R : Nat → Prop) (n d n2 k2 : Nat) : Prop := R (12 * n2 + mdv g n2 k2) ∧ ∃ i, i < iN (g 5 (mdv g n2 k2)) ∧ SBi g R n d n2 k2 i
def RWb (E : Nat → Nat → va_E) (n k : Nat) : Nat → Prop := fun t => BS (eA (E (20 + n) (17 + 10 * k))) t
def NDq (g : gT) (np : Nat) : Prop := ∀ la, la < np → ∀ a b, a < mcv g la → b < mcv g la → mdv g la a = mdv g la b → a = b
def UQ1 (g : gT) (d : Nat) : Prop := ∀ i j, i < iN (g 5 d) → j < iN (g 5 d) → g 6 (6 * d + i) = g 6 (6 * d + j) → i = j
theorem pI_is {g : gT} {d i : Nat} {n : Int32} (h : pI g d n = some i) : i < iN (g 5 d) ∧ g 6 (6 * d + i) = n := by
  have q := ff_is h
  exact ⟨q.1, q.2.1⟩
theorem pI_u {g : gT} {d i : Nat} (hu : UQ1 g d) (hi : i < iN (g 5 d)) : pI g d (g 6 (6 * d + i)) = some i := ff_some hi rfl (fun j hj e => by have q := hu j i (by omega) hi e; omega)
theorem pI_ex {g : gT} {d k0 : Nat} {f0 : Nat → Int32} {n : Int32} (b0 : k0 ≤ 6) (h4 : nI k0 = g 5 d) (h5 : ∀ i, i < k0 → f0 i = g 6 (6 * d + i)) (h : ∃ k, k < k0 ∧ f0 k = n) : ∃ q, pI g d n = some q := by
  rcases ff_or (P := fun i => g 6 (6 * d + i) = n) (iN (g 5 d)) with ⟨k, _, _, _, q⟩ | ⟨q, _⟩
  · exact ⟨k, q⟩
  · obtain ⟨k, h1, h2⟩ := h
    exact absurd ((h5 k h1).symm.trans h2) (q k (by rw [← h4, iN_nI (by omega)]; exact h1))
theorem rd_ch {g : gT} {n d m : Nat} (hk : LKP g (n + 1)) (h : rdP g n d m) : ∃ la, Ch (prv g) (n + 1) la ∧ ∃ k, k < mcv g la ∧ m = 12 * la + mdv g la k := by
  refine rdP_min (S := fun m => ∃ la, Ch (prv g) (n + 1) la ∧ ∃ k, k < mcv g la ∧ m = 12 * la + mdv g la k) ?_ ?_ h
  · intro b ⟨i, _, _, la, e, h2, h3⟩
    obtain ⟨q1, k, q2, q3⟩ := lkf_ch _ _ h2
    exact ⟨la, q1, k, q2, by rw [h3]; exact congrArg (fun x => 12 * la + x) q3.symm⟩
  · intro b c ⟨la, h1, k, h2, h3⟩ ⟨i, _, _, _, la2, e2, h5, h6⟩
    obtain ⟨q1, k2, q2, q3⟩ := lkf_ch _ _ h5
    have hm := (hk.2 la (Ch_lt hk.1 h1)).2 k h2
    rw [show b / 12 = la by omega] at q1
    exact ⟨la2, Ch_tr h1 q1, k2, q2, by rw [h6]; exact congrArg (fun x => 12 * la2 + x) q3.symm⟩
theorem SPL_iff {g : gT} {R : Nat → Nat → Prop} {n : Nat} (hn : n < 6) (hk : LKP g (n + 1)) (hN : NDq g (n + 1)) (hU : ∀ la, la < n + 1 → ∀ k, k < mcv g la → UQ1 g (mdv g la k)) (h21 : ∀ k, k < mcv g n → g 21 (12 * n + k) = nI (mdv g n k)) (hR : ∀ k, k < mcv g n → ∀ t, t < 72 → (R k t ↔ rdQ g n (mdv g n k) t)) : (∃ k, k < mcv g n ∧ ∃ la, Ch (prv g) (n + 1) la ∧ ∃ k3, k3 < mcv g la ∧ SB g (R k) n (mdv g n k) la k3) ↔ SPL g n (mcv g n) := by
  constructor
  · intro ⟨k, hk1, la, hc, k3, hk3, hRm, i, hi, ⟨j, hj, hex⟩, hor⟩
    have hla := Ch_lt hk.1 hc
    have hd12 := (hk.2 la hla).2 k3 hk3
    have hb12 := (hk.2 n (by omega)).2 k hk1
    have hji : j = i := by
      have q := pI_is hj
      exact hU la hla k3 hk3 j i q.1 hi q.2
    subst hji
    refine ⟨mdv g n k, ⟨hb12, 12 * n + k, by omega, by omega, h21 k hk1⟩, 12 * la + mdv g la k3, by omega, (hR k hk1 _ (by omega)).mp hRm, ?_⟩
    rw [show (12 * la + mdv g la k3) % 12 = mdv g la k3 by omega]
    refine ⟨6 * mdv g la k3 + j, by omega, by omega, hex, ?_⟩
    rcases hor with q | q
    · exact Or.inl q
    · right
      have hT : SRT g (R k) (g 6 (6 * mdv g la k3 + j)) (g 4 (mdv g n k)) la k3 := ⟨hRm, j, hj, hex⟩
      cases hs : srG g (R k) (g 6 (6 * mdv g la k3 + j)) (g 4 (mdv g n k)) (n + 1) with
      | none => exact absurd hT (srf_none (n + 1) (n + 1) (Nat.le_refl _) hk.1 hs la hc k3 hk3)
      | some x =>
        obtain ⟨x1, x2⟩ := x
        obtain ⟨z1, z2, ⟨z3, i2, z4, z5⟩⟩ := srf_some (n + 1) (n + 1) hs
        have hx1 := Ch_lt hk.1 z1
        have hx12 := (hk.2 x1 hx1).2 x2 z2
        refine ⟨12 * x1 + mdv g x1 x2, by omega, fun e => ?_, (hR k hk1 _ (by omega)).mp z3, i2, ?_⟩
        · have e1 : x1 = la := by omega
          subst e1
          have e2 := hN x1 hx1 x2 k3 z2 hk3 (by omega)
          subst e2
          exact q hs
        · rw [show (12 * x1 + mdv g x1 x2) % 12 = mdv g x1 x2 by omega]
          exact ⟨z4, z5⟩
  · intro ⟨b, ⟨hb12, j, hj1, hj2, hj3⟩, m, hm, hQ, p, hp1, hp2, hex, hor⟩
    have hkb : mdv g n (j - 12 * n) = b := by
      unfold mdv
      rw [show 12 * n + (j - 12 * n) = j by omega, hj3, iN_nI (by omega)]
    have hk1 : j - 12 * n < mcv g n := by omega
    generalize hkk : j - 12 * n = k at hkb hk1
    subst hkb
    obtain ⟨la, hc, k3, hk3, hmm⟩ := rd_ch hk hQ.1
    have hla := Ch_lt hk.1 hc
    have hd12 := (hk.2 la hla).2 k3 hk3
    subst hmm
    rw [show (12 * la + mdv g la k3) % 12 = mdv g la k3 by omega] at hp1 hp2
    obtain ⟨i, hpi⟩ : ∃ i, p = 6 * mdv g la k3 + i := ⟨p - 6 * mdv g la k3, by omega⟩
    subst hpi
    have hi : i < iN (g 5 (mdv g la k3)) := by omega
    have hpI := pI_u (hU la hla k3 hk3) hi
    have hRm := (hR k hk1 _ hm).mpr hQ
    rcases hor with q | ⟨m2, hm2, hne, hQ2, i2, hi2, hex2⟩
    · exact ⟨k, hk1, la, hc, k3, hk3, hRm, i, hi, ⟨i, hpI, hex⟩, Or.inl q⟩
    · by_cases hs : srG g (R k) (g 6 (6 * mdv g la k3 + i)) (g 4 (mdv g n k)) (n + 1) = some (la, k3)
      · obtain ⟨la2, hc2, k4, hk4, hmm2⟩ := rd_ch hk hQ2.1
        have hla2 := Ch_lt hk.1 hc2
        have hd2 := (hk.2 la2 hla2).2 k4 hk4
        subst hmm2
        rw [show (12 * la2 + mdv g la2 k4) % 12 = mdv g la2 k4 by omega] at hi2 hex2
        obtain ⟨q1, q2⟩ := pI_is hi2
        refine ⟨k, hk1, la2, hc2, k4, hk4, (hR k hk1 _ hm2).mpr hQ2, i2, q1, ?_⟩
        unfold SBi
        rw [q2]
        refine ⟨⟨i2, hi2, hex2⟩, Or.inr (fun e => ?_)⟩
        rw [hs] at e
        have e1 := congrArg Prod.fst (Option.some.inj e)
        have e2 := congrArg Prod.snd (Option.some.inj e)
        simp only at e1 e2
        subst e1
        subst e2
        exact hne rfl
      · exact ⟨k, hk1, la, hc, k3, hk3, hRm, i, hi, ⟨i, hpI, hex⟩, Or.inr hs⟩
theorem CYC_iff {g : gT} {R : Nat → Nat → Prop} {n : Nat} (hk : LKP g (n + 1)) (h21 : ∀ k, k < mcv g n → g 21 (12 * n + k) = nI (mdv g n k)) (hR : ∀ k, k < mcv g n → (R k (12 * n + mdv g n k) ↔ tc (stp g n) (mdv g n k) (mdv g n k))) : (∃ k, k < mcv g n ∧ R k (12 * n + mdv g n k)) ↔ CYC g n (mcv g n) := by
  constructor
  · intro ⟨k, h1, h2⟩
    exact ⟨mdv g n k, ⟨(hk.2 n (by omega)).2 k h1, 12 * n + k, by omega, by omega, h21 k h1⟩, (hR k h1).mp h2⟩
  · intro ⟨b, ⟨hb12, j, hj1, hj2, hj3⟩, h⟩
    have hkb : mdv g n (j - 12 * n) = b := by
      unfold mdv
      rw [show 12 * n + (j - 12 * n) = j by omega, hj3, iN_nI (by omega)]
    have hk1 : j - 12 * n < mcv g n := by omega
    exact ⟨j - 12 * n, hk1, (hR _ hk1).mpr (by rw [hkb]; exact h)⟩
