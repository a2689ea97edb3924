theorem k5v_0 : (Cond.fieldLink "LayerDesk$Layer" 19 "LayerDesk$Layer" "members" "[LLayerDesk$Member;") ∈ wT := wT_t (List.mem_append_right _ (List.mem_append_right _ (List.mem_append_left _ (List.mem_of_getElem? (i := 147) rfl)))) rfl
theorem k5v_1 : (Cond.classLink "LayerDesk$Layer" 47 "LayerDesk$Reach") ∈ wT := wT_t (List.mem_append_right _ (List.mem_append_right _ (List.mem_append_left _ (List.mem_of_getElem? (i := 210) rfl)))) rfl
theorem k5v_2 : (Cond.code xy_Ly_follow xb_Ly_follow 4 none) ∈ wT := wT_t (List.mem_append_right _ (List.mem_append_right _ (List.mem_append_left _ (List.mem_of_getElem? (i := 229) rfl)))) rfl
theorem k5v_3 : (Cond.methodLink "LayerDesk$Layer" 59 xy_Ly_follow) ∈ wT := wT_t (List.mem_append_right _ (List.mem_append_right _ (List.mem_append_left _ (List.mem_of_getElem? (i := 226) rfl)))) rfl
theorem k5v_4 : (Cond.instanceMethod xy_Ly_follow) ∈ wT := wT_t (List.mem_append_right _ (List.mem_append_right _ (List.mem_append_left _ (List.mem_of_getElem? (i := 228) rfl)))) rfl
theorem k5v_5 : (Cond.selects "LayerDesk$Layer" xy_Ly_follow xy_Ly_follow) ∈ wT := wT_s (q := (xy_Ly_follow, 4)) (by decide +kernel) rfl
theorem k5v_6 : (Cond.initialized "LayerDesk$Layer") ∈ wT := wT_t (List.mem_append_left _ (List.mem_of_getElem? (i := 19) rfl)) rfl
theorem k5v_7 : (Cond.code xy_Me_settleReading xb_Me_settleReading 2 none) ∈ wT := wT_t (List.mem_append_right _ (List.mem_append_right _ (List.mem_append_left _ (List.mem_of_getElem? (i := 235) rfl)))) rfl
theorem k5v_8 : (Cond.methodLink "LayerDesk$Layer" 63 xy_Me_settleReading) ∈ wT := wT_t (List.mem_append_right _ (List.mem_append_right _ (List.mem_append_left _ (List.mem_of_getElem? (i := 232) rfl)))) rfl
theorem k5v_9 : (Cond.instanceMethod xy_Me_settleReading) ∈ wT := wT_t (List.mem_append_right _ (List.mem_append_right _ (List.mem_append_left _ (List.mem_of_getElem? (i := 233) rfl)))) rfl
theorem k5v_10 : (Cond.selects "LayerDesk$Member" xy_Me_settleReading xy_Me_settleReading) ∈ wT := wT_t (List.mem_append_right _ (List.mem_append_right _ (List.mem_append_left _ (List.mem_of_getElem? (i := 234) rfl)))) rfl
theorem k5v_11 : (Cond.initialized "LayerDesk$Member") ∈ wT := wT_t (List.mem_append_left _ (List.mem_of_getElem? (i := 20) rfl)) rfl
theorem k5v_12 : (Cond.code xy_Me_takeFirstSteps xb_Me_takeFirstSteps 3 none) ∈ wT := wT_t (List.mem_append_right _ (List.mem_append_right _ (List.mem_append_left _ (List.mem_of_getElem? (i := 215) rfl)))) rfl
theorem k5v_13 : (Cond.methodLink "LayerDesk$Layer" 49 xy_Me_takeFirstSteps) ∈ wT := wT_t (List.mem_append_right _ (List.mem_append_right _ (List.mem_append_left _ (List.mem_of_getElem? (i := 212) rfl)))) rfl
theorem k5v_14 : (Cond.instanceMethod xy_Me_takeFirstSteps) ∈ wT := wT_t (List.mem_append_right _ (List.mem_append_right _ (List.mem_append_left _ (List.mem_of_getElem? (i := 213) rfl)))) rfl
theorem k5v_15 : (Cond.selects "LayerDesk$Member" xy_Me_takeFirstSteps xy_Me_takeFirstSteps) ∈ wT := wT_t (List.mem_append_right _ (List.mem_append_right _ (List.mem_append_left _ (List.mem_of_getElem? (i := 214) rfl)))) rfl
theorem k5v_16 : (Cond.fieldLink "LayerDesk$Layer" 52 "LayerDesk$Member" "leading" "LLayerDesk$Reach;") ∈ wT := wT_t (List.mem_append_right _ (List.mem_append_right _ (List.mem_append_left _ (List.mem_of_getElem? (i := 188) rfl)))) rfl
theorem k5v_17 : (Cond.fieldLink "LayerDesk$Layer" 56 "LayerDesk$Member" "carried" "LLayerDesk$Reach;") ∈ wT := wT_t (List.mem_append_right _ (List.mem_append_right _ (List.mem_append_left _ (List.mem_of_getElem? (i := 190) rfl)))) rfl
set_option maxHeartbeats 4000000 in
set_option maxRecDepth 100000 in
theorem xc_Ly_connectX (l : Launch) (D : va_G) (kA : Nat → ClassId) (sz : Nat) (ad : Nat → Nat → Nat) (E : Nat → Nat → va_E) (RL : List (Nat × Nat)) (g : Nat → Nat → Int32) (nd : Nat) (nL : Nat) (n : Nat) (pv : Value) (lo : Int32) (mk : Nat) (fm : Nat → Option Nat) (ym0 : (20 + n, 0) ∈ RL) (yc0 : E (20 + n) 0 = .inr (5, [.int (nI n), pv, .ref (ad (20 + n) 1), .int lo])) (ym1 : (20 + n, 1) ∈ RL) (yc1 : E (20 + n) 1 = .inl (kA 6, mk, .inr (.inr (.inr (.inr fm))))) (hDIs : DIs kA ad E RL nd) (hLIs : LIs kA ad E RL nd nL) (hnd12 : nd ≤ 12) (hnL : nL ≤ 6) (hn : n < nL) (hmk : mk ≤ 12) (hfm : ∀ k, k < mk → fm k = some (ad (20 + n) (10 + 10 * k)) ∧ MEI kA ad E RL nd n k) (hTD : TDs g E nd) (hTL : TLas g ad E nd nL) (hCB : CBs g E n) (hinj : ∀ a b, a < mk → b < mk → mdv g n a = mdv g n b → a = b) (hC0 : ∀ j, j < mk → CN0 g E n j) (hC7 : ∀ j, j < mk → CN7 E n j) : Met l xy_Ly_connect (.code xy_Ly_connect xb_Ly_connect 4 none :: wT) { frames := 2, cells := 2, slots := 24, locals := 45 } (va_Pc [.ref (ad (20 + n) 0)] (xPre D kA sz (rp ad E RL))) (va_Qv (fun (u : (Nat → Nat → Nat) × (Nat → Nat → va_E) × List (Nat × Nat)) => ((DIs kA u.1 u.2.1 u.2.2 nd ∧ LIs kA u.1 u.2.1 u.2.2 nd nL) ∧ TLas g u.1 u.2.1 nd nL ∧ CBs g u.2.1 (n + 1) ∧ LBs g u.2.1 n ∧ RBs g u.2.1 n) ∧ ((∀ b2 o2, ¬ (b2 = 20 + n) → u.2.1 b2 o2 = E b2 o2)) ∧ ((∀ b2 o2, ¬ (b2 = 20 + n ∧ o2 = 2) → ¬ (b2 = 20 + n ∧ o2 = 3) → u.1 b2 o2 = ad b2 o2)) ∧ ((∀ x ∈ RL, x ∈ u.2.2)) ∧ ((20 + n, 2) ∈ u.2.2) ∧ ((20 + n, 3) ∈ u.2.2)) (fun (u : (Nat → Nat → Nat) × (Nat → Nat → va_E) × List (Nat × Nat)) t => va_P D xcl (rp u.1 u.2.1 u.2.2) t.heap ∧ va_D (va_A (rp ad E RL) sz) (rp u.1 u.2.1 u.2.2)) (va_A (rp ad E RL) sz)) 2 24 (va_A (rp ad E RL) sz) := by
  refine Met.ofW (cc := xb_Ly_connect) (maxL := 4) (ret := none) (by decide) rfl ?_
  intro p e s m args below meth c s₁ B hml hv
  obtain ⟨rfl, hsz, hP, hK, hD0⟩ := hv
  have hx := B.exec
  have hb := B.bytes
  have hr := B.returns
  have hT := x_hT B.pre
  have hown : s.vm.findClass xR_Ly = some m.cls := findClass_of_methodNamed B.named
  have hlocks := B.notSynchronized
  subst hsz
  have hD := hD0.self (sz := s.heap.size)
  generalize hAe : va_A (rp ad E RL) s.heap.size = A at hD ⊢
  have hA : ∀ q : Nat, s.heap.size ≤ q → A q := fun q h => by rw [← hAe]; exact Or.inr h
  have hS : va_S A s.heap s.heap [] := va_S.rf
  have hl := lv_entry ([.ref (ad (20 + n) 0)]) (n := 4) (Nat.le_of_ble_eq_true rfl)
  rw [lg_entry_eq]
  generalize (lg_sl ([.ref (ad (20 + n) 0)]) ++ List.replicate (4 - (lg_sl ([.ref (ad (20 + n) 0)])).length) Slot.unset).toArray = ls at hl ⊢
  have hl : lv_has ls 4 [(0, .ref (ad (20 + n) 0))] := hl
  have hP : va_P D xcl (rp ad E RL) s.heap := hP
  have h20 := T_20 hn hTL yc1
  have hi20 : iN (g 20 n) = mk := by rw [h20, iN_nI (by omega)]
  have hLK9 : LKH g n := LKH_L hnL hnd12 hn hLIs hTL
  have hnf72 : ∀ a, a < mk → (fun b => 12 * n + mdv g n b) a < 72 := fun a ha => by
    have q := hLK9.2 n (by omega) a (by unfold mcv; omega)
    show 12 * n + mdv g n a < 72
    omega
  refine lv_aload_n hx hb xd_Ly_connect_0 rfl (lv_at hl 0 rfl) ?_
  refine px_get (D := D) (ci := 5) (v := .ref (ad (20 + n) 1)) (C := xR_Ly) (T := xT_Ly) (N := 4) hx hb hT xi_Ly hown hK.1 hP ym0 yc0 rfl 2 (by decide) (hT _ k5v_0) (fun _ h9 => h9) rfl xd_Ly_connect_1 ?_
  refine px_alen hx hb hK.1 hP ym1 yc1 6 rfl xd_Ly_connect_4 ?_
  refine W.eq (g2 := F0 m 5 ls [.int (nI mk)]) rfl ?_
  refine W.eq (g2 := F0 m 5 ls [.int (nI mk)]) rfl ?_
  refine px_newq (C := "LayerDesk$Reach") (N' := mk) (20 + n) 2 hx hb hown (hT _ k5v_1) hK.2.1.2.2.2.2.2.2.2.1 hK.1 7 rfl hP hD hS hA (by omega) (show mk * 4 ≤ 536870912 by omega) (Nat.le_of_ble_eq_true rfl) (show 0 + mk ≤ 24 by omega) xd_Ly_connect_5 (fun ad1 E2 RL3 H hA1 hE1 hs1 hm1 hP hD hS => ?_)
  refine W.widen (k := 1) (n := 12) (by omega) (by omega) ?_
  have fE4 : ∀ b2 o2, ¬ (b2 = 20 + n ∧ o2 = 2) → E2 b2 o2 = E b2 o2 := fun b2 o2 h9 => by rw [hE1]; exact up2_ne (by omega)
  have fA5 : ∀ b2 o2, ¬ (b2 = 20 + n ∧ o2 = 2) → ad1 b2 o2 = ad b2 o2 := fun b2 o2 h9 => by rw [hA1]; exact up2_ne (by omega)
  have hs6 := hs1
  have c_7 : E2 (20 + n) 2 = .inl (kA 7, mk, .inr (.inr (.inr (.inr (fun _ => none))))) := by rw [hE1]; exact up2_eq
  have hl : lv_has ls 4 [(0, .ref (ad1 (20 + n) 0))] := by
    rw [fA5 (20 + n) 0 (by omega)]; exact hl
  have m_9 : (20 + n, 0) ∈ RL3 := hs6 _ ym0
  have m_10 : (20 + n, 1) ∈ RL3 := hs6 _ ym1
  have c_11 : E2 (20 + n) 0 = .inr (5, [.int (nI n), pv, .ref (ad1 (20 + n) 1), .int lo]) := by rw [fE4 (20 + n) 0 (by omega), fA5 (20 + n) 1 (by omega)]; exact yc0
  have c_12 : E2 (20 + n) 1 = .inl (kA 6, mk, .inr (.inr (.inr (.inr fm)))) := by rw [fE4 (20 + n) 1 (by omega)]; exact yc1
  have m_8 : (20 + n, 2) ∈ RL3 := hm1
  have hP : va_P D xcl (rp ad1 E2 RL3) H := hP
  have hD : va_D A (rp ad1 E2 RL3) := hD
  refine lv_astore_n hx hb xd_Ly_connect_8 rfl hl (Nat.le_of_ble_eq_true rfl) rfl (fun ls hl => ?_)
  have hl : lv_has ls 4 [(1, .ref (ad1 (20 + n) 2)), (0, .ref (ad1 (20 + n) 0))] := hl
  refine lv_aload_n hx hb xd_Ly_connect_9 rfl (lv_at hl 1 rfl) ?_
  refine px_get (D := D) (ci := 5) (v := .ref (ad1 (20 + n) 1)) (C := xR_Ly) (T := xT_Ly) (N := 4) hx hb hT xi_Ly hown hK.1 hP m_9 c_11 rfl 2 (by decide) (hT _ k5v_0) (fun _ h9 => h9) rfl xd_Ly_connect_10 ?_
  refine px_alen hx hb hK.1 hP m_10 c_12 6 rfl xd_Ly_connect_13 ?_
  refine W.eq (g2 := F0 m 14 ls [.int (nI mk)]) rfl ?_
  refine W.eq (g2 := F0 m 14 ls [.int (nI mk)]) rfl ?_
  refine px_newq (C := "LayerDesk$Reach") (N' := mk) (20 + n) 3 hx hb hown (hT _ k5v_1) hK.2.1.2.2.2.2.2.2.2.1 hK.1 7 rfl hP hD hS hA (by omega) (show mk * 4 ≤ 536870912 by omega) (Nat.le_of_ble_eq_true rfl) (show 12 + mk ≤ 24 by omega) xd_Ly_connect_14 (fun ad13 E14 RL15 H hA1 hE1 hs1 hm1 hP hD hS => ?_)
  refine W.widen (k := 2) (n := 24) (by omega) (by omega) ?_
  have fE16 : ∀ b2 o2, ¬ (b2 = 20 + n ∧ o2 = 3) → E14 b2 o2 = E2 b2 o2 := fun b2 o2 h9 => by rw [hE1]; exact up2_ne (by omega)
  have fA17 : ∀ b2 o2, ¬ (b2 = 20 + n ∧ o2 = 3) → ad13 b2 o2 = ad1 b2 o2 := fun b2 o2 h9 => by rw [hA1]; exact up2_ne (by omega)
  have hs18 := hs1
  have c_19 : E14 (20 + n) 3 = .inl (kA 7, mk, .inr (.inr (.inr (.inr (fun _ => none))))) := by rw [hE1]; exact up2_eq
  have hl : lv_has ls 4 [(1, .ref (ad13 (20 + n) 2)), (0, .ref (ad13 (20 + n) 0))] := by
    rw [fA17 (20 + n) 2 (by omega), fA17 (20 + n) 0 (by omega)]; exact hl
  have m_21 : (20 + n, 0) ∈ RL15 := hs18 _ m_9
  have m_22 : (20 + n, 1) ∈ RL15 := hs18 _ m_10
  have m_23 : (20 + n, 2) ∈ RL15 := hs18 _ m_8
  have c_24 : E14 (20 + n) 2 = .inl (kA 7, mk, .inr (.inr (.inr (.inr (fun _ => none))))) := by rw [fE16 (20 + n) 2 (by omega)]; exact c_7
  have c_25 : E14 (20 + n) 0 = .inr (5, [.int (nI n), pv, .ref (ad13 (20 + n) 1), .int lo]) := by rw [fE16 (20 + n) 0 (by omega), fA17 (20 + n) 1 (by omega)]; exact c_11
  have c_26 : E14 (20 + n) 1 = .inl (kA 6, mk, .inr (.inr (.inr (.inr fm)))) := by rw [fE16 (20 + n) 1 (by omega)]; exact c_12
  have m_20 : (20 + n, 3) ∈ RL15 := hm1
  have hP : va_P D xcl (rp ad13 E14 RL15) H := hP
  have hD : va_D A (rp ad13 E14 RL15) := hD
  refine lv_astore_n hx hb xd_Ly_connect_17 rfl hl (Nat.le_of_ble_eq_true rfl) rfl (fun ls hl => ?_)
  have hl : lv_has ls 4 [(2, .ref (ad13 (20 + n) 3)), (1, .ref (ad13 (20 + n) 2)), (0, .ref (ad13 (20 + n) 0))] := hl
  have h2327 : R23 n E E14 := fun b2 o2 h9 => by show E14 b2 o2 = _; rw [fE16 b2 o2 (by omega), fE4 b2 o2 (by omega)]
  have h2328 : R23 n ad ad13 := fun b2 o2 h9 => by show ad13 b2 o2 = _; rw [fA17 b2 o2 (by omega), fA5 b2 o2 (by omega)]
  have hDIs : DIs kA ad13 E14 RL15 nd := DIs_23 h2327 h2328 (fun _ h9 => hs18 _ (hs6 _ h9)) hnd12 hDIs
  have hLIs : LIs kA ad13 E14 RL15 nd nL := LIs_23 h2327 h2328 (fun _ h9 => hs18 _ (hs6 _ h9)) hLIs
  have hfm : ∀ k, k < mk → fm k = some (ad13 (20 + n) (10 + 10 * k)) ∧ MEI kA ad13 E14 RL15 nd n k := fun k h => ⟨by rw [h2328 _ _ (by omega)]; exact (hfm k h).1, MEI_23 h2327 h2328 (fun _ h9 => hs18 _ (hs6 _ h9)) (hfm k h).2⟩
  have hTL : TLas g ad13 E14 nd nL := TLas_23 h2327 h2328 hTL hnd12
  have hC0 : ∀ j, j < mk → CN0 g E14 n j := fun j hj => CN0_23 h2327 (hC0 j hj)
  have hC7 : ∀ j, j < mk → CN7 E14 n j := fun j hj => CN7_23 h2327 (hC7 j hj)
  refine lv_iconst (v := 0) hx hb xd_Ly_connect_18 (by decide) ?_
  refine lv_istore_n hx hb xd_Ly_connect_19 rfl hl (Nat.le_of_ble_eq_true rfl) rfl (fun ls hl => ?_)
  have hl : lv_has ls 4 [(3, .int 0), (2, .ref (ad13 (20 + n) 3)), (1, .ref (ad13 (20 + n) 2)), (0, .ref (ad13 (20 + n) 0))] := hl
  refine xlab (σ := Nat × (Nat → Nat → va_E) × (Nat → Option Nat) × (Nat → Option Nat)) (ml := 4) 20 (fun (i, E1, fl1, fc1) => [(3, .int (nI i)), (2, .ref (ad13 (20 + n) 3)), (1, .ref (ad13 (20 + n) 2)), (0, .ref (ad13 (20 + n) 0))]) (fun (i, E1, fl1, fc1) => []) (fun (i, E1, fl1, fc1) => rp ad13 E1 RL15) (fun (i, E1, fl1, fc1) => (i ≤ mk) ∧ (E1 (20 + n) 0 = .inr (5, [.int (nI n), pv, .ref (ad13 (20 + n) 1), .int lo])) ∧ (E1 (20 + n) 1 = .inl (kA 6, mk, .inr (.inr (.inr (.inr fm))))) ∧ (E1 (20 + n) 2 = .inl (kA 7, mk, .inr (.inr (.inr (.inr fl1))))) ∧ (E1 (20 + n) 3 = .inl (kA 7, mk, .inr (.inr (.inr (.inr fc1))))) ∧ (∀ b2 o2, ¬ (b2 = 20 + n) → E1 b2 o2 = E b2 o2) ∧ (DIs kA ad13 E1 RL15 nd) ∧ (LIs kA ad13 E1 RL15 nd nL) ∧ (∀ k, k < mk → fm k = some (ad13 (20 + n) (10 + 10 * k)) ∧ MEI kA ad13 E1 RL15 nd n k) ∧ (∀ j, j < i → fl1 j = some (ad13 (20 + n) (12 + 10 * j)) ∧ fc1 j = some (ad13 (20 + n) (13 + 10 * j))) ∧ (TLas g ad13 E1 nd nL) ∧ (∀ j, j < i → CN1 g E1 n j ∧ CNd g kA ad13 E1 RL15 nd n j) ∧ (∀ j, i ≤ j → j < mk → CN0 g E1 n j) ∧ (∀ j, j < mk → CN7 E1 n j)) (fun (i, E1, fl1, fc1) => mk - i) ?_ (0, E14, (fun _ => none), (fun _ => none)) _ _ _ (lv_sub hl [0, 1, 2, 3] rfl) hP hD hS ⟨(show 0 ≤ mk from by first | assumption | omega), (show E14 (20 + n) 0 = .inr (5, [.int (nI n), pv, .ref (ad13 (20 + n) 1), .int lo]) from c_25), (show E14 (20 + n) 1 = .inl (kA 6, mk, .inr (.inr (.inr (.inr fm)))) from c_26), (show E14 (20 + n) 2 = .inl (kA 7, mk, .inr (.inr (.inr (.inr (fun _ => none))))) from c_24), (show E14 (20 + n) 3 = .inl (kA 7, mk, .inr (.inr (.inr (.inr (fun _ => none))))) from c_19), (show ∀ b2 o2, ¬ (b2 = 20 + n) → E14 b2 o2 = E b2 o2 from fun b2 o2 h09 => by show E14 b2 o2 = _; rw [fE16 b2 o2 (by omega), fE4 b2 o2 (by omega)]), (show DIs kA ad13 E14 RL15 nd from hDIs), (show LIs kA ad13 E14 RL15 nd nL from hLIs), (show ∀ k, k < mk → fm k = some (ad13 (20 + n) (10 + 10 * k)) ∧ MEI kA ad13 E14 RL15 nd n k from hfm), (show ∀ j, j < 0 → (fun _ => none) j = some (ad13 (20 + n) (12 + 10 * j)) ∧ (fun _ => none) j = some (ad13 (20 + n) (13 + 10 * j)) from fun j hj => absurd hj (by omega)), (show TLas g ad13 E14 nd nL from hTL), (show ∀ j, j < 0 → CN1 g E14 n j ∧ CNd g kA ad13 E14 RL15 nd n j from fun j hj => absurd hj (by omega)), (show ∀ j, 0 ≤ j → j < mk → CN0 g E14 n j from fun j _ hj => hC0 j hj), (show ∀ j, j < mk → CN7 E14 n j from hC7)⟩
  intro n9 ih29 a9 ls H locs hμ hl hP hD hS hI
  subst hμ
  obtain ⟨i, E1, fl1, fc1⟩ := a9
  obtain ⟨hi, hcA0, hcA1, hcA2, hcA3, hfr, hDIs, hLIs, hfm, hdone, hTL, hC1, hC0, hC7⟩ := hI
  have hi : i ≤ mk := hi
  have hcA0 : E1 (20 + n) 0 = .inr (5, [.int (nI n), pv, .ref (ad13 (20 + n) 1), .int lo]) := hcA0
  have hcA1 : E1 (20 + n) 1 = .inl (kA 6, mk, .inr (.inr (.inr (.inr fm)))) := hcA1
  have hcA2 : E1 (20 + n) 2 = .inl (kA 7, mk, .inr (.inr (.inr (.inr fl1)))) := hcA2
  have hcA3 : E1 (20 + n) 3 = .inl (kA 7, mk, .inr (.inr (.inr (.inr fc1)))) := hcA3
  have hfr : ∀ b2 o2, ¬ (b2 = 20 + n) → E1 b2 o2 = E b2 o2 := hfr
  have hDIs : DIs kA ad13 E1 RL15 nd := hDIs
  have hLIs : LIs kA ad13 E1 RL15 nd nL := hLIs
  have hfm : ∀ k, k < mk → fm k = some (ad13 (20 + n) (10 + 10 * k)) ∧ MEI kA ad13 E1 RL15 nd n k := hfm
  have hdone : ∀ j, j < i → fl1 j = some (ad13 (20 + n) (12 + 10 * j)) ∧ fc1 j = some (ad13 (20 + n) (13 + 10 * j)) := hdone
  have hTL : TLas g ad13 E1 nd nL := hTL
  have hC1 : ∀ j, j < i → CN1 g E1 n j ∧ CNd g kA ad13 E1 RL15 nd n j := hC1
  have hC0 : ∀ j, i ≤ j → j < mk → CN0 g E1 n j := hC0
  have hC7 : ∀ j, j < mk → CN7 E1 n j := hC7
  have hl : lv_has ls 4 [(3, .int (nI i)), (2, .ref (ad13 (20 + n) 3)), (1, .ref (ad13 (20 + n) 2)), (0, .ref (ad13 (20 + n) 0))] := hl
  have hP : va_P D xcl (rp ad13 E1 RL15) H := hP
  have hD : va_D A (rp ad13 E1 RL15) := hD
  have hTD1 : TDs g E1 nd := TDs_same (fun d9 hd9 => fun2 fun o9 => hfr (1 + d9) o9 (by omega)) hTD
  have hCB1 : CBs g E1 n := CBs_same (fun la o9 hla => hfr (20 + la) o9 (by omega)) hCB
  refine lv_iload_n hx hb xd_Ly_connect_20 rfl (lv_at hl 0 rfl) ?_
  refine lv_aload_n hx hb xd_Ly_connect_21 rfl (lv_at hl 3 rfl) ?_
  refine px_get (D := D) (ci := 5) (v := .ref (ad13 (20 + n) 1)) (C := xR_Ly) (T := xT_Ly) (N := 4) hx hb hT xi_Ly hown hK.1 hP m_21 hcA0 rfl 2 (by decide) (hT _ k5v_0) (fun _ h9 => h9) rfl xd_Ly_connect_22 ?_
  refine px_alen hx hb hK.1 hP m_22 hcA1 6 rfl xd_Ly_connect_25 ?_
  refine W.eq (g2 := F0 m 26 ls [.int (nI mk), .int (nI i)]) rfl ?_
  refine xn_ge (a := i) (b := mk) (tgt := 68) hx hb xd_Ly_connect_26 (by decide) (by omega) (by omega) (fun hc30 => ?_) (fun hc30 => ?_)
  · refine lv_aload_n hx hb xd_Ly_connect_68 rfl (lv_at hl 3 rfl) ?_
    refine lv_aload_n hx hb xd_Ly_connect_69 rfl (lv_at hl 2 rfl) ?_
    have hFc := px_free hD hS hA
    refine va_callv (va_runV (As := [.ref (ad13 (20 + n) 2)]) (rest := []) ⟨hx, hb, hml, hown, hT⟩ (xc_Ly_followLX l D kA H.size ad13 E1 RL15 g nd nL n pv lo mk fm fl1 m_21 hcA0 m_22 hcA1 m_23 hcA2 (by first | assumption | omega) (by first | assumption | omega) (by first | assumption | omega) (by first | assumption | omega) (by first | assumption | omega) (by first | assumption | omega) (by first | assumption | omega) (fun k h => (hdone k (by omega)).1) hTL) (cwV 1 hT (wT_V k5v_3 k5v_4 k5v_5 k5v_6 k5v_2) rfl rfl rfl (by decide +kernel) ⟨Nat.le_of_ble_eq_true rfl, Nat.le_of_ble_eq_true rfl⟩) (px_preV hK hP hD m_21 hcA0 rfl) rfl rfl hl.1 rfl (lv_room (Nat.le_of_ble_eq_true rfl)) xd_Ly_connect_70 ⟨(Nat.le_of_ble_eq_true rfl), (Nat.le_of_ble_eq_true rfl)⟩) hS (fun q _ h => hFc q h) hFc (fun u32 t H1 locs ht hvm hp33 hB hz1 hk1 hS => ?_)
    obtain ⟨hP1, hD1⟩ := hB
    rw [ht] at hP1
    have hD1 := hD1.weaken (fun _ _ _ h => hFc _ h)
    generalize H1 = H at hP1 hS ⊢
    have hP := hP1
    have hD := hD1
    obtain ⟨E34, rfl⟩ : ∃ z, z = u32 := ⟨_, rfl⟩
    have hP : va_P D xcl (rp ad13 E34 RL15) H := hP
    have hD : va_D A (rp ad13 E34 RL15) := hD
    obtain ⟨hRI9, hPW9, hot9⟩ := hp33
    have hRI9 : RI kA (20 + n) E1 E34 := hRI9
    have hcA0 := hRI9.obj hcA0
    have hcA1 := hRI9.arr hcA1
    have hcA2 := hRI9.arr hcA2
    have hcA3 := hRI9.arr hcA3
    have hfr : ∀ b2 o2, ¬ (b2 = 20 + n) → E34 b2 o2 = E b2 o2 := fun b2 o2 h9 => (hRI9.out h9).trans (hfr b2 o2 h9)
    have hDIs := DIs_RU hRI9.ru hnd12 hDIs
    have hLIs := LIs_RU hRI9.ru hLIs
    have hfm : ∀ k, k < mk → fm k = some (ad13 (20 + n) (10 + 10 * k)) ∧ MEI kA ad13 E34 RL15 nd n k := fun k h => ⟨(hfm k h).1, MEI_RU hRI9.ru (hfm k h).2⟩
    have hTL : TLas g ad13 E34 nd nL := TLas_ro (fun n9 o9 hn9 ho9 => by
      by_cases q : n9 = n
      · rw [q]; exact hot9 o9 (fun k9 _ e9 => by rcases ho9 with z | z | ⟨z, z2⟩ <;> omega)
      · exact hRI9.out (by omega)) hTL
    have hC7 : ∀ j, j < mk → CN7 E34 n j := fun j hj => CN7_fr (hot9 (17 + 10 * j) (fun _ _ => by omega)) (hC7 j hj)
    have hLd : ∀ k, k < mk → ∀ t, t < 72 → (BS (eA (E34 (20 + n) (15 + 10 * k))) t ↔ PW (LSr g n) (fun b => 12 * n + mdv g n b) mk k t) := fun k hk t ht => (hPW9 k hk t ht).trans (PW_congr hnf72 (fun a ha t ht => ((hC1 a (by omega)).1 t ht).1) mk (Nat.le_refl _) k hk t ht)
    have hCs : ∀ j, j < mk → ∀ t, t < 72 → (BS (eA (E34 (20 + n) (16 + 10 * j))) t ↔ CSr g n j t) := fun j hj t ht => by rw [(hot9 (16 + 10 * j) (fun _ _ => by omega))]; exact ((hC1 j (by omega)).1 t ht).2
    have hNd : ∀ j, j < mk → CNd g kA ad13 E34 RL15 nd n j := fun j hj => CNd_RU hRI9.ru (hot9 (11 + 10 * j) (fun _ _ => by omega)) (hC1 j (by omega)).2
    refine lv_aload_n hx hb xd_Ly_connect_73 rfl (lv_at hl 3 rfl) ?_
    refine lv_aload_n hx hb xd_Ly_connect_74 rfl (lv_at hl 1 rfl) ?_
    have hFc := px_free hD hS hA
    refine va_callv (va_runV (As := [.ref (ad13 (20 + n) 3)]) (rest := []) ⟨hx, hb, hml, hown, hT⟩ (xc_Ly_followCX l D kA H.size ad13 E34 RL15 g nd nL n pv lo mk fm fc1 m_21 hcA0 m_22 hcA1 m_20 hcA3 (by first | assumption | omega) (by first | assumption | omega) (by first | assumption | omega) (by first | assumption | omega) (by first | assumption | omega) (by first | assumption | omega) (by first | assumption | omega) (fun k h => (hdone k (by omega)).2) hTL) (cwV 1 hT (wT_V k5v_3 k5v_4 k5v_5 k5v_6 k5v_2) rfl rfl rfl (by decide +kernel) ⟨Nat.le_of_ble_eq_true rfl, Nat.le_of_ble_eq_true rfl⟩) (px_preV hK hP hD m_21 hcA0 rfl) rfl rfl hl.1 rfl (lv_room (Nat.le_of_ble_eq_true rfl)) xd_Ly_connect_75 ⟨(Nat.le_of_ble_eq_true rfl), (Nat.le_of_ble_eq_true rfl)⟩) hS (fun q _ h => hFc q h) hFc (fun u36 t H1 locs ht hvm hp37 hB hz1 hk1 hS => ?_)
    obtain ⟨hP1, hD1⟩ := hB
    rw [ht] at hP1
    have hD1 := hD1.weaken (fun _ _ _ h => hFc _ h)
    generalize H1 = H at hP1 hS ⊢
    have hP := hP1
    have hD := hD1
    obtain ⟨E38, rfl⟩ : ∃ z, z = u36 := ⟨_, rfl⟩
    have hP : va_P D xcl (rp ad13 E38 RL15) H := hP
    have hD : va_D A (rp ad13 E38 RL15) := hD
    obtain ⟨hRI9, hPW9, hot9⟩ := hp37
    have hRI9 : RI kA (20 + n) E34 E38 := hRI9
    have hcA0 := hRI9.obj hcA0
    have hcA1 := hRI9.arr hcA1
    have hcA2 := hRI9.arr hcA2
    have hcA3 := hRI9.arr hcA3
    have hfr : ∀ b2 o2, ¬ (b2 = 20 + n) → E38 b2 o2 = E b2 o2 := fun b2 o2 h9 => (hRI9.out h9).trans (hfr b2 o2 h9)
    have hDIs := DIs_RU hRI9.ru hnd12 hDIs
    have hLIs := LIs_RU hRI9.ru hLIs
    have hfm : ∀ k, k < mk → fm k = some (ad13 (20 + n) (10 + 10 * k)) ∧ MEI kA ad13 E38 RL15 nd n k := fun k h => ⟨(hfm k h).1, MEI_RU hRI9.ru (hfm k h).2⟩
    have hTL : TLas g ad13 E38 nd nL := TLas_ro (fun n9 o9 hn9 ho9 => by
      by_cases q : n9 = n
      · rw [q]; exact hot9 o9 (fun k9 _ e9 => by rcases ho9 with z | z | ⟨z, z2⟩ <;> omega)
      · exact hRI9.out (by omega)) hTL
    have hC7 : ∀ j, j < mk → CN7 E38 n j := fun j hj => CN7_fr (hot9 (17 + 10 * j) (fun _ _ => by omega)) (hC7 j hj)
    have hLd : ∀ k, k < mk → ∀ t, t < 72 → (BS (eA (E38 (20 + n) (15 + 10 * k))) t ↔ PW (LSr g n) (fun b => 12 * n + mdv g n b) mk k t) := fun j hj t ht => by rw [(hot9 (15 + 10 * j) (fun _ _ => by omega))]; exact hLd j hj t ht
    have hCd : ∀ k, k < mk → ∀ t, t < 72 → (BS (eA (E38 (20 + n) (16 + 10 * k))) t ↔ PW (CSr g n) (fun b => 12 * n + mdv g n b) mk k t) := fun k hk t ht => (hPW9 k hk t ht).trans (PW_congr hnf72 (fun a ha t ht => hCs a ha t ht) mk (Nat.le_refl _) k hk t ht)
    have hNd : ∀ j, j < mk → CNd g kA ad13 E38 RL15 nd n j := fun j hj => CNd_RU hRI9.ru (hot9 (11 + 10 * j) (fun _ _ => by omega)) (hNd j hj)
    have hCB5 : CBs g E38 (n + 1) := CBs_of hLK9 hi20 hinj (CBs_same (fun la o9 hla => hfr (20 + la) o9 (by omega)) hCB) hCd
    have hLB : LBs g E38 n := LBs_of hLK9 hi20 (by omega) hinj hLd
    refine lv_iconst (v := 0) hx hb xd_Ly_connect_78 (by decide) ?_
    refine lv_istore_n hx hb xd_Ly_connect_79 rfl hl (Nat.le_of_ble_eq_true rfl) rfl (fun ls hl => ?_)
    have hl : lv_has ls 4 [(3, .int 0), (2, .ref (ad13 (20 + n) 3)), (1, .ref (ad13 (20 + n) 2)), (0, .ref (ad13 (20 + n) 0))] := hl
    refine xlab (σ := Nat × (Nat → Nat → va_E)) (ml := 4) 80 (fun (i, E5) => [(3, .int (nI i)), (0, .ref (ad13 (20 + n) 0))]) (fun (i, E5) => []) (fun (i, E5) => rp ad13 E5 RL15) (fun (i, E5) => (i ≤ mk) ∧ (E5 (20 + n) 0 = .inr (5, [.int (nI n), pv, .ref (ad13 (20 + n) 1), .int lo])) ∧ (E5 (20 + n) 1 = .inl (kA 6, mk, .inr (.inr (.inr (.inr fm))))) ∧ (∀ b2 o2, ¬ (b2 = 20 + n) → E5 b2 o2 = E b2 o2) ∧ (DIs kA ad13 E5 RL15 nd) ∧ (LIs kA ad13 E5 RL15 nd nL) ∧ (∀ k, k < mk → fm k = some (ad13 (20 + n) (10 + 10 * k)) ∧ MEI kA ad13 E5 RL15 nd n k) ∧ (∀ j, j < mk → CNd g kA ad13 E5 RL15 nd n j) ∧ (TLas g ad13 E5 nd nL) ∧ (CBs g E5 (n + 1)) ∧ (LBs g E5 n) ∧ (∀ j, j < i → ∀ t, t < 72 → (BS (eA (E5 (20 + n) (17 + 10 * j))) t ↔ rdQ g n (mdv g n j) t)) ∧ (∀ j, i ≤ j → j < mk → CN7 E5 n j)) (fun (i, E5) => mk - i) ?_ (0, E38) _ _ _ (lv_sub hl [0, 3] rfl) hP hD hS ⟨(show 0 ≤ mk from by first | assumption | omega), (show E38 (20 + n) 0 = .inr (5, [.int (nI n), pv, .ref (ad13 (20 + n) 1), .int lo]) from hcA0), (show E38 (20 + n) 1 = .inl (kA 6, mk, .inr (.inr (.inr (.inr fm)))) from hcA1), (show ∀ b2 o2, ¬ (b2 = 20 + n) → E38 b2 o2 = E b2 o2 from fun b2 o2 h09 => by show E38 b2 o2 = _; rw [hfr b2 o2 (by omega)]), (show DIs kA ad13 E38 RL15 nd from hDIs), (show LIs kA ad13 E38 RL15 nd nL from hLIs), (show ∀ k, k < mk → fm k = some (ad13 (20 + n) (10 + 10 * k)) ∧ MEI kA ad13 E38 RL15 nd n k from hfm), (show ∀ j, j < mk → CNd g kA ad13 E38 RL15 nd n j from hNd), (show TLas g ad13 E38 nd nL from hTL), (show CBs g E38 (n + 1) from hCB5), (show LBs g E38 n from hLB), (show ∀ j, j < 0 → ∀ t, t < 72 → (BS (eA (E38 (20 + n) (17 + 10 * j))) t ↔ rdQ g n (mdv g n j) t) from fun j hj => absurd hj (by omega)), (show ∀ j, 0 ≤ j → j < mk → CN7 E38 n j from fun j _ hj => hC7 j hj)⟩
    intro n9 ih39 a9 ls H locs hμ hl hP hD hS hI
    subst hμ
    obtain ⟨i, E5⟩ := a9
    obtain ⟨hi, hcA0, hcA1, hfr, hDIs, hLIs, hfm, hNd, hTL, hCB5, hLB, hR5, h75⟩ := hI
    have hi : i ≤ mk := hi
    have hcA0 : E5 (20 + n) 0 = .inr (5, [.int (nI n), pv, .ref (ad13 (20 + n) 1), .int lo]) := hcA0
    have hcA1 : E5 (20 + n) 1 = .inl (kA 6, mk, .inr (.inr (.inr (.inr fm)))) := hcA1
    have hfr : ∀ b2 o2, ¬ (b2 = 20 + n) → E5 b2 o2 = E b2 o2 := hfr
    have hDIs : DIs kA ad13 E5 RL15 nd := hDIs
    have hLIs : LIs kA ad13 E5 RL15 nd nL := hLIs
    have hfm : ∀ k, k < mk → fm k = some (ad13 (20 + n) (10 + 10 * k)) ∧ MEI kA ad13 E5 RL15 nd n k := hfm
    have hNd : ∀ j, j < mk → CNd g kA ad13 E5 RL15 nd n j := hNd
    have hTL : TLas g ad13 E5 nd nL := hTL
    have hCB5 : CBs g E5 (n + 1) := hCB5
    have hLB : LBs g E5 n := hLB
    have hR5 : ∀ j, j < i → ∀ t, t < 72 → (BS (eA (E5 (20 + n) (17 + 10 * j))) t ↔ rdQ g n (mdv g n j) t) := hR5
    have h75 : ∀ j, i ≤ j → j < mk → CN7 E5 n j := h75
    have hl : lv_has ls 4 [(3, .int (nI i)), (0, .ref (ad13 (20 + n) 0))] := hl
    have hP : va_P D xcl (rp ad13 E5 RL15) H := hP
    have hD : va_D A (rp ad13 E5 RL15) := hD
    have hTD1 : TDs g E5 nd := TDs_same (fun d9 hd9 => fun2 fun o9 => hfr (1 + d9) o9 (by omega)) hTD
    have hCB1 : CBs g E5 n := CBs_same (fun la o9 hla => hfr (20 + la) o9 (by omega)) hCB
    refine lv_iload_n hx hb xd_Ly_connect_80 rfl (lv_at hl 0 rfl) ?_
    refine lv_aload_n hx hb xd_Ly_connect_81 rfl (lv_at hl 1 rfl) ?_
    refine px_get (D := D) (ci := 5) (v := .ref (ad13 (20 + n) 1)) (C := xR_Ly) (T := xT_Ly) (N := 4) hx hb hT xi_Ly hown hK.1 hP m_21 hcA0 rfl 2 (by decide) (hT _ k5v_0) (fun _ h9 => h9) rfl xd_Ly_connect_82 ?_
    refine px_alen hx hb hK.1 hP m_22 hcA1 6 rfl xd_Ly_connect_85 ?_
    refine W.eq (g2 := F0 m 86 ls [.int (nI mk), .int (nI i)]) rfl ?_
    refine xn_ge (a := i) (b := mk) (tgt := 104) hx hb xd_Ly_connect_86 (by decide) (by omega) (by omega) (fun hc40 => ?_) (fun hc40 => ?_)
    · refine W.widen (k := 2) (n := 24) (Nat.le_of_ble_eq_true rfl) (Nat.le_of_ble_eq_true rfl) ?_
      exact W.vret hx hb hr (fun t ht hW => ⟨⟨(ad13, E5, RL15), rfl, ⟨⟨⟨hDIs, hLIs⟩, hTL, hCB5, hLB, (fun k hk t ht => hR5 k (by omega) t ht)⟩, (fun b2 o2 h09 => by show E5 b2 o2 = _; rw [hfr b2 o2 (by omega)]), (fun b2 o2 h09 h19 => by show ad13 b2 o2 = _; rw [fA17 b2 o2 (by omega), fA5 b2 o2 (by omega)]), (fun x9 hx9 => hs18 _ (hs6 _ hx9)), m_23, m_20⟩, by rw [ht]; exact hP, hD⟩, hS.F ht⟩) hS.2.2 xd_Ly_connect_104
    · refine lv_aload_n hx hb xd_Ly_connect_89 rfl (lv_at hl 1 rfl) ?_
      refine px_get (D := D) (ci := 5) (v := .ref (ad13 (20 + n) 1)) (C := xR_Ly) (T := xT_Ly) (N := 4) hx hb hT xi_Ly hown hK.1 hP m_21 hcA0 rfl 2 (by decide) (hT _ k5v_0) (fun _ h9 => h9) rfl xd_Ly_connect_90 ?_
      refine lv_iload_n hx hb xd_Ly_connect_93 rfl (lv_at hl 0 rfl) ?_
      have hM41 := (hfm i (by omega)).2
      refine px_aald (i := i) (x := (some (ad13 (20 + n) (10 + 10 * i)))) hx hb hK.1 hP m_22 hcA1 6 rfl ((hfm i (by omega)).1) (by omega) (by omega) xd_Ly_connect_94 ?_
      obtain ⟨hm_42, d_42, rs_42, fr_42, g2_42, g3_42, g4_42, hd_42, hrs_42, q0_42, q1_42, q2_42, q3_42, q4_42, q5_42, q6_42, q7_42⟩ := id hM41
      have c_43 : E5 (20 + n) (10 + 10 * i) = .inr (6, [.ref (ad13 (20 + n) 0), .ref (ad13 (1 + d_42) 0), .ref (ad13 (20 + n) (11 + 10 * i)), .ref (ad13 (20 + n) (12 + 10 * i)), .ref (ad13 (20 + n) (13 + 10 * i)), .ref (ad13 (20 + n) (14 + 10 * i))]) := q0_42
      have m_44 : (20 + n, 10 + 10 * i) ∈ RL15 := hm_42 0 (by omega)
      have c_45 : E5 (20 + n) (11 + 10 * i) = .inl (kA 6, rs_42, .inr (.inr (.inr (.inr fr_42)))) := q1_42
      have m_46 : (20 + n, 11 + 10 * i) ∈ RL15 := hm_42 1 (by omega)
      have c_47 : E5 (20 + n) (12 + 10 * i) = .inr (10, [.ref (ad13 (20 + n) (15 + 10 * i))]) := q2_42
      have m_48 : (20 + n, 12 + 10 * i) ∈ RL15 := hm_42 2 (by omega)
      have c_49 : E5 (20 + n) (13 + 10 * i) = .inr (10, [.ref (ad13 (20 + n) (16 + 10 * i))]) := q3_42
      have m_50 : (20 + n, 13 + 10 * i) ∈ RL15 := hm_42 3 (by omega)
      have c_51 : E5 (20 + n) (14 + 10 * i) = .inr (10, [.ref (ad13 (20 + n) (17 + 10 * i))]) := q4_42
      have m_52 : (20 + n, 14 + 10 * i) ∈ RL15 := hm_42 4 (by omega)
      have c_53 : E5 (20 + n) (15 + 10 * i) = .inl (kA 0, 6, .inl g2_42) := q5_42
      have m_54 : (20 + n, 15 + 10 * i) ∈ RL15 := hm_42 5 (by omega)
      have c_55 : E5 (20 + n) (16 + 10 * i) = .inl (kA 0, 6, .inl g3_42) := q6_42
      have m_56 : (20 + n, 16 + 10 * i) ∈ RL15 := hm_42 6 (by omega)
      have c_57 : E5 (20 + n) (17 + 10 * i) = .inl (kA 0, 6, .inl g4_42) := q7_42
      have m_58 : (20 + n, 17 + 10 * i) ∈ RL15 := hm_42 7 (by omega)
      obtain ⟨hm_59, fd_59, nm_59, sd_59, k0_59, k1_59, k2_59, k3_59, f0_59, f1_59, f2_59, f3_59, fe_59, fo_59, tr_59, op_59, hk0_59, hk1_59, hk2_59, hk3_59, q0_59, q1_59, q2_59, q3_59, q4_59, q5_59, q6_59, q7_59, q8_59, q9_59, q10_59, q11_59, q12_59, hg_59⟩ := id (hDIs d_42 (by omega))
      have c_60 : E5 (1 + d_42) 0 = .inr (7, [.int (nI d_42), .int fd_59, .int nm_59, .ref (ad13 (1 + d_42) 1), .ref (ad13 (1 + d_42) 9), .ref (ad13 (1 + d_42) 10), .ref (ad13 (1 + d_42) 2), .ref (ad13 (1 + d_42) 11), .ref (ad13 (1 + d_42) 12), .ref (ad13 (1 + d_42) 3), .ref (ad13 (1 + d_42) 4), .int sd_59]) := q0_59
      have m_61 : (1 + d_42, 0) ∈ RL15 := hm_59 0 (by omega)
      have c_62 : E5 (1 + d_42) 1 = .inr (8, [.ref (ad13 (1 + d_42) 5), .int (nI k0_59)]) := q1_59
      have m_63 : (1 + d_42, 1) ∈ RL15 := hm_59 1 (by omega)
      have c_64 : E5 (1 + d_42) 2 = .inr (8, [.ref (ad13 (1 + d_42) 6), .int (nI k1_59)]) := q2_59
      have m_65 : (1 + d_42, 2) ∈ RL15 := hm_59 2 (by omega)
      have c_66 : E5 (1 + d_42) 3 = .inr (8, [.ref (ad13 (1 + d_42) 7), .int (nI k2_59)]) := q3_59
      have m_67 : (1 + d_42, 3) ∈ RL15 := hm_59 3 (by omega)
      have c_68 : E5 (1 + d_42) 4 = .inr (8, [.ref (ad13 (1 + d_42) 8), .int (nI k3_59)]) := q4_59
      have m_69 : (1 + d_42, 4) ∈ RL15 := hm_59 4 (by omega)
      have c_70 : E5 (1 + d_42) 5 = .inl (kA 0, 6, .inl f0_59) := q5_59
      have m_71 : (1 + d_42, 5) ∈ RL15 := hm_59 5 (by omega)
      have c_72 : E5 (1 + d_42) 6 = .inl (kA 0, 5, .inl f1_59) := q6_59
      have m_73 : (1 + d_42, 6) ∈ RL15 := hm_59 6 (by omega)
      have c_74 : E5 (1 + d_42) 7 = .inl (kA 0, 3, .inl f2_59) := q7_59
      have m_75 : (1 + d_42, 7) ∈ RL15 := hm_59 7 (by omega)
      have c_76 : E5 (1 + d_42) 8 = .inl (kA 0, 3, .inl f3_59) := q8_59
      have m_77 : (1 + d_42, 8) ∈ RL15 := hm_59 8 (by omega)
      have c_78 : E5 (1 + d_42) 9 = .inl (kA 8, 6, .inr (.inr (.inr (.inr fe_59)))) := q9_59
      have m_79 : (1 + d_42, 9) ∈ RL15 := hm_59 9 (by omega)
      have c_80 : E5 (1 + d_42) 10 = .inl (kA 8, 6, .inr (.inr (.inr (.inr fo_59)))) := q10_59
      have m_81 : (1 + d_42, 10) ∈ RL15 := hm_59 10 (by omega)
      have c_82 : E5 (1 + d_42) 11 = .inl (kA 2, 5, .inl tr_59) := q11_59
      have m_83 : (1 + d_42, 11) ∈ RL15 := hm_59 11 (by omega)
      have c_84 : E5 (1 + d_42) 12 = .inl (kA 2, 5, .inl op_59) := q12_59
      have m_85 : (1 + d_42, 12) ∈ RL15 := hm_59 12 (by omega)
      have hg_59 : ∀ w9, w9 < k0_59 → fe_59 w9 = some (ad13 (1 + d_42) (20 + 3 * w9)) ∧ fo_59 w9 = some (ad13 (1 + d_42) (38 + 3 * w9)) ∧ GI kA (ad13 (1 + d_42)) (E5 (1 + d_42)) (fun o => (1 + d_42, o) ∈ RL15) (20 + 3 * w9) (21 + 3 * w9) (22 + 3 * w9) ∧ GI kA (ad13 (1 + d_42)) (E5 (1 + d_42)) (fun o => (1 + d_42, o) ∈ RL15) (38 + 3 * w9) (39 + 3 * w9) (40 + 3 * w9) := hg_59
      obtain ⟨hTT_59, tgr_59⟩ := TD_get hk0_59 hk1_59 hk2_59 hk3_59 c_60 c_62 c_64 c_66 c_68 c_70 c_72 c_74 c_76 c_82 c_84 (hTD1 d_42 (by omega))
      obtain ⟨tfd_59, tnm_59, tsd_59, tk0_59, tf0_59, tk1_59, tf1_59, tk2_59, tk3_59⟩ := id hTT_59
      have ik0_59 : iN (g 5 d_42) = k0_59 := by rw [← tk0_59, iN_nI (by omega)]
      have ik1_59 : iN (g 12 d_42) = k1_59 := by rw [← tk1_59, iN_nI (by omega)]
      have hdmv : mdv g n i = d_42 := by
        obtain ⟨_, _, h20z, hmz⟩ := hTL n hn
        rw [show eL (E5 (20 + n) 1) = mk from by rw [hcA1]; rfl] at h20z hmz
        obtain ⟨dz, hdz, h21z, hvz⟩ := hmz i (by omega)
        rw [c_43] at hvz
        have ez := (rp_inj hD ((hDIs d_42 hd_42).1 0 (by omega)) ((hDIs dz hdz).1 0 (by omega)) (Value.ref.inj hvz)).1
        unfold mdv
        rw [h21z, iN_nI (by omega)]; omega
      obtain ⟨hRQ9, hirs⟩ := CNd_cel (hNd i (by omega)) hdmv c_45
      have hrsd9 : g 12 d_42 = nI rs_42 := by rw [hirs]; exact nI_iN_of tk1_59 (by omega)
      have hkm9 : i < iN (g 20 n) := by rw [hi20]; omega
      have hFc := px_free hD hS hA
      refine va_callv (va_runV (As := []) (rest := []) ⟨hx, hb, hml, hown, hT⟩ (xc_Me_settleReadingX l D kA H.size ad13 E5 RL15 g nd nL n i d_42 rs_42 fr_42 g4_42 g3_42 m_44 c_43 m_46 c_45 m_50 c_49 m_52 c_51 m_58 c_57 m_56 c_55 (by first | assumption | omega) (by first | assumption | omega) (by first | assumption | omega) (by first | assumption | omega) (by first | assumption | omega) (by first | assumption | omega) (by first | assumption | omega) hRQ9 hTD1 hTL hdmv hCB5 hkm9) (cwV 0 hT (wT_V k5v_8 k5v_9 k5v_10 k5v_11 k5v_7) rfl rfl rfl (by decide +kernel) ⟨Nat.le_of_ble_eq_true rfl, Nat.le_of_ble_eq_true rfl⟩) (px_preV hK hP hD m_44 c_43 rfl) rfl rfl hl.1 rfl (lv_room (Nat.le_of_ble_eq_true rfl)) xd_Ly_connect_95 ⟨(Nat.le_of_ble_eq_true rfl), (Nat.le_of_ble_eq_true rfl)⟩) hS (fun q _ h => hFc q h) hFc (fun u87 t H1 locs ht hvm hp88 hB hz1 hk1 hS => ?_)
      obtain ⟨hP1, hD1⟩ := hB
      rw [ht] at hP1
      have hD1 := hD1.weaken (fun _ _ _ h => hFc _ h)
      generalize H1 = H at hP1 hS ⊢
      have hP := hP1
      have hD := hD1
      obtain ⟨E89, rfl⟩ : ∃ z, z = u87 := ⟨_, rfl⟩
      obtain ⟨w90, hp93, p_91, p_92⟩ := hp88
      have p_91 : E89 (20 + n) (17 + 10 * i) = .inl (kA 0, 6, .inl w90) := p_91
      have p_92 : (∀ b2 o2, ¬ (b2 = 20 + n ∧ o2 = 17 + 10 * i) → E89 b2 o2 = E5 b2 o2) := p_92
      have c_94 : E89 (20 + n) 0 = .inr (5, [.int (nI n), pv, .ref (ad13 (20 + n) 1), .int lo]) := (p_92 (20 + n) 0 (by omega)).trans hcA0
      have c_95 : E89 (20 + n) 1 = .inl (kA 6, mk, .inr (.inr (.inr (.inr fm)))) := (p_92 (20 + n) 1 (by omega)).trans hcA1
      have c_96 : E89 (20 + n) (10 + 10 * i) = .inr (6, [.ref (ad13 (20 + n) 0), .ref (ad13 (1 + d_42) 0), .ref (ad13 (20 + n) (11 + 10 * i)), .ref (ad13 (20 + n) (12 + 10 * i)), .ref (ad13 (20 + n) (13 + 10 * i)), .ref (ad13 (20 + n) (14 + 10 * i))]) := (p_92 (20 + n) (10 + 10 * i) (by omega)).trans c_43
      have c_97 : E89 (20 + n) (11 + 10 * i) = .inl (kA 6, rs_42, .inr (.inr (.inr (.inr fr_42)))) := (p_92 (20 + n) (11 + 10 * i) (by omega)).trans c_45
      have c_98 : E89 (20 + n) (12 + 10 * i) = .inr (10, [.ref (ad13 (20 + n) (15 + 10 * i))]) := (p_92 (20 + n) (12 + 10 * i) (by omega)).trans c_47
      have c_99 : E89 (20 + n) (13 + 10 * i) = .inr (10, [.ref (ad13 (20 + n) (16 + 10 * i))]) := (p_92 (20 + n) (13 + 10 * i) (by omega)).trans c_49
      have c_100 : E89 (20 + n) (14 + 10 * i) = .inr (10, [.ref (ad13 (20 + n) (17 + 10 * i))]) := (p_92 (20 + n) (14 + 10 * i) (by omega)).trans c_51
      have c_101 : E89 (20 + n) (15 + 10 * i) = .inl (kA 0, 6, .inl g2_42) := (p_92 (20 + n) (15 + 10 * i) (by omega)).trans c_53
      have c_102 : E89 (20 + n) (16 + 10 * i) = .inl (kA 0, 6, .inl g3_42) := (p_92 (20 + n) (16 + 10 * i) (by omega)).trans c_55
      have c_103 : E89 (1 + d_42) 0 = .inr (7, [.int (nI d_42), .int fd_59, .int nm_59, .ref (ad13 (1 + d_42) 1), .ref (ad13 (1 + d_42) 9), .ref (ad13 (1 + d_42) 10), .ref (ad13 (1 + d_42) 2), .ref (ad13 (1 + d_42) 11), .ref (ad13 (1 + d_42) 12), .ref (ad13 (1 + d_42) 3), .ref (ad13 (1 + d_42) 4), .int sd_59]) := (p_92 (1 + d_42) 0 (by omega)).trans c_60
      have c_104 : E89 (1 + d_42) 1 = .inr (8, [.ref (ad13 (1 + d_42) 5), .int (nI k0_59)]) := (p_92 (1 + d_42) 1 (by omega)).trans c_62
      have c_105 : E89 (1 + d_42) 2 = .inr (8, [.ref (ad13 (1 + d_42) 6), .int (nI k1_59)]) := (p_92 (1 + d_42) 2 (by omega)).trans c_64
      have c_106 : E89 (1 + d_42) 3 = .inr (8, [.ref (ad13 (1 + d_42) 7), .int (nI k2_59)]) := (p_92 (1 + d_42) 3 (by omega)).trans c_66
      have c_107 : E89 (1 + d_42) 4 = .inr (8, [.ref (ad13 (1 + d_42) 8), .int (nI k3_59)]) := (p_92 (1 + d_42) 4 (by omega)).trans c_68
      have c_108 : E89 (1 + d_42) 5 = .inl (kA 0, 6, .inl f0_59) := (p_92 (1 + d_42) 5 (by omega)).trans c_70
      have c_109 : E89 (1 + d_42) 6 = .inl (kA 0, 5, .inl f1_59) := (p_92 (1 + d_42) 6 (by omega)).trans c_72
      have c_110 : E89 (1 + d_42) 7 = .inl (kA 0, 3, .inl f2_59) := (p_92 (1 + d_42) 7 (by omega)).trans c_74
      have c_111 : E89 (1 + d_42) 8 = .inl (kA 0, 3, .inl f3_59) := (p_92 (1 + d_42) 8 (by omega)).trans c_76
      have c_112 : E89 (1 + d_42) 9 = .inl (kA 8, 6, .inr (.inr (.inr (.inr fe_59)))) := (p_92 (1 + d_42) 9 (by omega)).trans c_78
      have c_113 : E89 (1 + d_42) 10 = .inl (kA 8, 6, .inr (.inr (.inr (.inr fo_59)))) := (p_92 (1 + d_42) 10 (by omega)).trans c_80
      have c_114 : E89 (1 + d_42) 11 = .inl (kA 2, 5, .inl tr_59) := (p_92 (1 + d_42) 11 (by omega)).trans c_82
      have c_115 : E89 (1 + d_42) 12 = .inl (kA 2, 5, .inl op_59) := (p_92 (1 + d_42) 12 (by omega)).trans c_84
      have hP : va_P D xcl (rp ad13 E89 RL15) H := hP
      have hD : va_D A (rp ad13 E89 RL15) := hD
      have hRI9 : RI kA (20 + n) E5 E89 := RI.row c_57 p_91 p_92
      have hDIs := DIs_RU hRI9.ru hnd12 hDIs
      have hLIs := LIs_RU hRI9.ru hLIs
      have hfm : ∀ k, k < mk → fm k = some (ad13 (20 + n) (10 + 10 * k)) ∧ MEI kA ad13 E89 RL15 nd n k := fun k h => ⟨(hfm k h).1, MEI_RU hRI9.ru (hfm k h).2⟩
      have hTL : TLas g ad13 E89 nd nL := TLas_ro (fun n9 o9 hn9 ho9 => p_92 (20 + n9) o9 (by omega)) hTL
      have hNd : ∀ j, j < mk → CNd g kA ad13 E89 RL15 nd n j := fun j hj => CNd_RU hRI9.ru (p_92 (20 + n) (11 + 10 * j) (by omega)) (hNd j hj)
      have hCB5 : CBs g E89 (n + 1) := fun la hl k hk t ht => by rw [(p_92 (20 + la) (16 + 10 * k) (by omega))]; exact hCB5 la hl k hk t ht
      have hLB : LBs g E89 n := fun k hk => by rw [(p_92 (20 + n) (15 + 10 * k) (by omega))]; exact hLB k hk
      have hR5 : ∀ j, j < i + 1 → ∀ t, t < 72 → (BS (eA (E89 (20 + n) (17 + 10 * j))) t ↔ rdQ g n (mdv g n j) t) := fun j hj t ht => by
        by_cases q : j = i
        · rw [q, show eA (E89 (20 + n) (17 + 10 * i)) = w90 from by rw [p_91]; rfl, hp93 t ht, hdmv, hirs, RDp_rd]
          have q2 := h75 i (Nat.le_refl _) (by omega) t ht
          rw [show eA (E5 (20 + n) (17 + 10 * i)) = g4_42 from by rw [c_57]; rfl] at q2
          exact ⟨fun z => ⟨z.1.elim (fun y => absurd y q2) id, z.2⟩, fun z => ⟨Or.inr z.1, z.2⟩⟩
        · rw [(p_92 (20 + n) (17 + 10 * j) (by omega))]; exact hR5 j (by omega) t ht
      have h75 : ∀ j, i + 1 ≤ j → j < mk → CN7 E89 n j := fun j hj hj2 => CN7_fr (p_92 (20 + n) (17 + 10 * j) (by omega)) (h75 j (by omega) hj2)
      refine lv_iinc (k := 0) (x := (nI i)) (v := (nI (i + 1))) hx hb xd_Ly_connect_98 hl rfl (xb_inc i 1) (Nat.le_of_ble_eq_true rfl) rfl (fun ls hl => ?_)
      have hl : lv_has ls 4 [(3, .int (nI (i + 1))), (0, .ref (ad13 (20 + n) 0))] := hl
      refine lv_goto (tgt := 80) hx hb xd_Ly_connect_101 (by decide) ?_
      exact ih39 (i + 1, E89) _ _ _ (show mk - (i + 1) < mk - i by omega) (lv_sub hl [0, 1] rfl) hP hD hS ⟨(show (i + 1) ≤ mk from by first | assumption | omega), (show E89 (20 + n) 0 = .inr (5, [.int (nI n), pv, .ref (ad13 (20 + n) 1), .int lo]) from c_94), (show E89 (20 + n) 1 = .inl (kA 6, mk, .inr (.inr (.inr (.inr fm)))) from c_95), (show ∀ b2 o2, ¬ (b2 = 20 + n) → E89 b2 o2 = E b2 o2 from fun b2 o2 h09 => by show E89 b2 o2 = _; rw [p_92 b2 o2 (by omega), hfr b2 o2 (by omega)]), (show DIs kA ad13 E89 RL15 nd from hDIs), (show LIs kA ad13 E89 RL15 nd nL from hLIs), (show ∀ k, k < mk → fm k = some (ad13 (20 + n) (10 + 10 * k)) ∧ MEI kA ad13 E89 RL15 nd n k from hfm), (show ∀ j, j < mk → CNd g kA ad13 E89 RL15 nd n j from hNd), (show TLas g ad13 E89 nd nL from hTL), (show CBs g E89 (n + 1) from hCB5), (show LBs g E89 n from hLB), (show ∀ j, j < (i + 1) → ∀ t, t < 72 → (BS (eA (E89 (20 + n) (17 + 10 * j))) t ↔ rdQ g n (mdv g n j) t) from hR5), (show ∀ j, (i + 1) ≤ j → j < mk → CN7 E89 n j from h75)⟩
  · refine lv_aload_n hx hb xd_Ly_connect_29 rfl (lv_at hl 3 rfl) ?_
    refine px_get (D := D) (ci := 5) (v := .ref (ad13 (20 + n) 1)) (C := xR_Ly) (T := xT_Ly) (N := 4) hx hb hT xi_Ly hown hK.1 hP m_21 hcA0 rfl 2 (by decide) (hT _ k5v_0) (fun _ h9 => h9) rfl xd_Ly_connect_30 ?_
    refine lv_iload_n hx hb xd_Ly_connect_33 rfl (lv_at hl 0 rfl) ?_
    have hM116 := (hfm i (by omega)).2
    refine px_aald (i := i) (x := (some (ad13 (20 + n) (10 + 10 * i)))) hx hb hK.1 hP m_22 hcA1 6 rfl ((hfm i (by omega)).1) (by omega) (by omega) xd_Ly_connect_34 ?_
    obtain ⟨hm_117, d_117, rs_117, fr_117, g2_117, g3_117, g4_117, hd_117, hrs_117, q0_117, q1_117, q2_117, q3_117, q4_117, q5_117, q6_117, q7_117⟩ := id hM116
    have c_118 : E1 (20 + n) (10 + 10 * i) = .inr (6, [.ref (ad13 (20 + n) 0), .ref (ad13 (1 + d_117) 0), .ref (ad13 (20 + n) (11 + 10 * i)), .ref (ad13 (20 + n) (12 + 10 * i)), .ref (ad13 (20 + n) (13 + 10 * i)), .ref (ad13 (20 + n) (14 + 10 * i))]) := q0_117
    have m_119 : (20 + n, 10 + 10 * i) ∈ RL15 := hm_117 0 (by omega)
    have c_120 : E1 (20 + n) (11 + 10 * i) = .inl (kA 6, rs_117, .inr (.inr (.inr (.inr fr_117)))) := q1_117
    have m_121 : (20 + n, 11 + 10 * i) ∈ RL15 := hm_117 1 (by omega)
    have c_122 : E1 (20 + n) (12 + 10 * i) = .inr (10, [.ref (ad13 (20 + n) (15 + 10 * i))]) := q2_117
    have m_123 : (20 + n, 12 + 10 * i) ∈ RL15 := hm_117 2 (by omega)
    have c_124 : E1 (20 + n) (13 + 10 * i) = .inr (10, [.ref (ad13 (20 + n) (16 + 10 * i))]) := q3_117
    have m_125 : (20 + n, 13 + 10 * i) ∈ RL15 := hm_117 3 (by omega)
    have c_126 : E1 (20 + n) (14 + 10 * i) = .inr (10, [.ref (ad13 (20 + n) (17 + 10 * i))]) := q4_117
    have m_127 : (20 + n, 14 + 10 * i) ∈ RL15 := hm_117 4 (by omega)
    have c_128 : E1 (20 + n) (15 + 10 * i) = .inl (kA 0, 6, .inl g2_117) := q5_117
    have m_129 : (20 + n, 15 + 10 * i) ∈ RL15 := hm_117 5 (by omega)
    have c_130 : E1 (20 + n) (16 + 10 * i) = .inl (kA 0, 6, .inl g3_117) := q6_117
    have m_131 : (20 + n, 16 + 10 * i) ∈ RL15 := hm_117 6 (by omega)
    have c_132 : E1 (20 + n) (17 + 10 * i) = .inl (kA 0, 6, .inl g4_117) := q7_117
    have m_133 : (20 + n, 17 + 10 * i) ∈ RL15 := hm_117 7 (by omega)
    obtain ⟨hm_134, fd_134, nm_134, sd_134, k0_134, k1_134, k2_134, k3_134, f0_134, f1_134, f2_134, f3_134, fe_134, fo_134, tr_134, op_134, hk0_134, hk1_134, hk2_134, hk3_134, q0_134, q1_134, q2_134, q3_134, q4_134, q5_134, q6_134, q7_134, q8_134, q9_134, q10_134, q11_134, q12_134, hg_134⟩ := id (hDIs d_117 (by omega))
    have c_135 : E1 (1 + d_117) 0 = .inr (7, [.int (nI d_117), .int fd_134, .int nm_134, .ref (ad13 (1 + d_117) 1), .ref (ad13 (1 + d_117) 9), .ref (ad13 (1 + d_117) 10), .ref (ad13 (1 + d_117) 2), .ref (ad13 (1 + d_117) 11), .ref (ad13 (1 + d_117) 12), .ref (ad13 (1 + d_117) 3), .ref (ad13 (1 + d_117) 4), .int sd_134]) := q0_134
    have m_136 : (1 + d_117, 0) ∈ RL15 := hm_134 0 (by omega)
    have c_137 : E1 (1 + d_117) 1 = .inr (8, [.ref (ad13 (1 + d_117) 5), .int (nI k0_134)]) := q1_134
    have m_138 : (1 + d_117, 1) ∈ RL15 := hm_134 1 (by omega)
    have c_139 : E1 (1 + d_117) 2 = .inr (8, [.ref (ad13 (1 + d_117) 6), .int (nI k1_134)]) := q2_134
    have m_140 : (1 + d_117, 2) ∈ RL15 := hm_134 2 (by omega)
    have c_141 : E1 (1 + d_117) 3 = .inr (8, [.ref (ad13 (1 + d_117) 7), .int (nI k2_134)]) := q3_134
    have m_142 : (1 + d_117, 3) ∈ RL15 := hm_134 3 (by omega)
    have c_143 : E1 (1 + d_117) 4 = .inr (8, [.ref (ad13 (1 + d_117) 8), .int (nI k3_134)]) := q4_134
    have m_144 : (1 + d_117, 4) ∈ RL15 := hm_134 4 (by omega)
    have c_145 : E1 (1 + d_117) 5 = .inl (kA 0, 6, .inl f0_134) := q5_134
    have m_146 : (1 + d_117, 5) ∈ RL15 := hm_134 5 (by omega)
    have c_147 : E1 (1 + d_117) 6 = .inl (kA 0, 5, .inl f1_134) := q6_134
    have m_148 : (1 + d_117, 6) ∈ RL15 := hm_134 6 (by omega)
    have c_149 : E1 (1 + d_117) 7 = .inl (kA 0, 3, .inl f2_134) := q7_134
    have m_150 : (1 + d_117, 7) ∈ RL15 := hm_134 7 (by omega)
    have c_151 : E1 (1 + d_117) 8 = .inl (kA 0, 3, .inl f3_134) := q8_134
    have m_152 : (1 + d_117, 8) ∈ RL15 := hm_134 8 (by omega)
    have c_153 : E1 (1 + d_117) 9 = .inl (kA 8, 6, .inr (.inr (.inr (.inr fe_134)))) := q9_134
    have m_154 : (1 + d_117, 9) ∈ RL15 := hm_134 9 (by omega)
    have c_155 : E1 (1 + d_117) 10 = .inl (kA 8, 6, .inr (.inr (.inr (.inr fo_134)))) := q10_134
    have m_156 : (1 + d_117, 10) ∈ RL15 := hm_134 10 (by omega)
    have c_157 : E1 (1 + d_117) 11 = .inl (kA 2, 5, .inl tr_134) := q11_134
    have m_158 : (1 + d_117, 11) ∈ RL15 := hm_134 11 (by omega)
    have c_159 : E1 (1 + d_117) 12 = .inl (kA 2, 5, .inl op_134) := q12_134
    have m_160 : (1 + d_117, 12) ∈ RL15 := hm_134 12 (by omega)
    have hg_134 : ∀ w9, w9 < k0_134 → fe_134 w9 = some (ad13 (1 + d_117) (20 + 3 * w9)) ∧ fo_134 w9 = some (ad13 (1 + d_117) (38 + 3 * w9)) ∧ GI kA (ad13 (1 + d_117)) (E1 (1 + d_117)) (fun o => (1 + d_117, o) ∈ RL15) (20 + 3 * w9) (21 + 3 * w9) (22 + 3 * w9) ∧ GI kA (ad13 (1 + d_117)) (E1 (1 + d_117)) (fun o => (1 + d_117, o) ∈ RL15) (38 + 3 * w9) (39 + 3 * w9) (40 + 3 * w9) := hg_134
    obtain ⟨hTT_134, tgr_134⟩ := TD_get hk0_134 hk1_134 hk2_134 hk3_134 c_135 c_137 c_139 c_141 c_143 c_145 c_147 c_149 c_151 c_157 c_159 (hTD1 d_117 (by omega))
    obtain ⟨tfd_134, tnm_134, tsd_134, tk0_134, tf0_134, tk1_134, tf1_134, tk2_134, tk3_134⟩ := id hTT_134
    have ik0_134 : iN (g 5 d_117) = k0_134 := by rw [← tk0_134, iN_nI (by omega)]
    have ik1_134 : iN (g 12 d_117) = k1_134 := by rw [← tk1_134, iN_nI (by omega)]
    have hdmv : mdv g n i = d_117 := by
      obtain ⟨_, _, h20z, hmz⟩ := hTL n hn
      rw [show eL (E1 (20 + n) 1) = mk from by rw [hcA1]; rfl] at h20z hmz
      obtain ⟨dz, hdz, h21z, hvz⟩ := hmz i (by omega)
      rw [c_118] at hvz
      have ez := (rp_inj hD ((hDIs d_117 hd_117).1 0 (by omega)) ((hDIs dz hdz).1 0 (by omega)) (Value.ref.inj hvz)).1
      unfold mdv
      rw [h21z, iN_nI (by omega)]; omega
    have hirs : rs_117 = iN (g 12 d_117) := by
      have q := (hC0 i (Nat.le_refl _) (by omega)).1
      rw [hdmv, c_120] at q; exact q
    have hrsd9 : g 12 d_117 = nI rs_117 := by rw [hirs]; exact nI_iN_of tk1_134 (by omega)
    have hkm9 : i < iN (g 20 n) := by rw [hi20]; omega
    have hFc := px_free hD hS hA
    refine va_callv (va_runV (As := []) (rest := []) ⟨hx, hb, hml, hown, hT⟩ (xc_Me_takeFirstStepsX l D kA H.size ad13 E1 RL15 g nd nL n i d_117 rs_117 fr_117 g2_117 g3_117 m_119 c_118 m_121 c_120 m_123 c_122 m_125 c_124 m_129 c_128 m_131 c_130 (by first | assumption | omega) (by first | assumption | omega) (by first | assumption | omega) (by first | assumption | omega) (by first | assumption | omega) (by first | assumption | omega) (by first | assumption | omega) hTD1 hTL hrsd9 hdmv hCB1 hkm9) (cwV 0 hT (wT_V k5v_13 k5v_14 k5v_15 k5v_11 k5v_12) rfl rfl rfl (by decide +kernel) ⟨Nat.le_of_ble_eq_true rfl, Nat.le_of_ble_eq_true rfl⟩) (px_preV hK hP hD m_119 c_118 rfl) rfl rfl hl.1 rfl (lv_room (Nat.le_of_ble_eq_true rfl)) xd_Ly_connect_35 ⟨(Nat.le_of_ble_eq_true rfl), (Nat.le_of_ble_eq_true rfl)⟩) hS (fun q _ h => hFc q h) hFc (fun u162 t H1 locs ht hvm hp163 hB hz1 hk1 hS => ?_)
    obtain ⟨hP1, hD1⟩ := hB
    rw [ht] at hP1
    have hD1 := hD1.weaken (fun _ _ _ h => hFc _ h)
    generalize H1 = H at hP1 hS ⊢
    have hP := hP1
    have hD := hD1
    obtain ⟨E164, rfl⟩ : ∃ z, z = u162 := ⟨_, rfl⟩
    obtain ⟨w165, w166, w167, hp172, p_168, p_169, p_170, p_171⟩ := hp163
    have p_168 : E164 (20 + n) (11 + 10 * i) = .inl (kA 6, rs_117, .inr (.inr (.inr (.inr w165)))) := p_168
    have p_169 : E164 (20 + n) (15 + 10 * i) = .inl (kA 0, 6, .inl w166) := p_169
    have p_170 : E164 (20 + n) (16 + 10 * i) = .inl (kA 0, 6, .inl w167) := p_170
    have p_171 : (∀ b2 o2, ¬ (b2 = 20 + n ∧ o2 = 11 + 10 * i) → ¬ (b2 = 20 + n ∧ o2 = 15 + 10 * i) → ¬ (b2 = 20 + n ∧ o2 = 16 + 10 * i) → E164 b2 o2 = E1 b2 o2) := p_171
    have c_173 : E164 (20 + n) 0 = .inr (5, [.int (nI n), pv, .ref (ad13 (20 + n) 1), .int lo]) := (p_171 (20 + n) 0 (by omega) (by omega) (by omega)).trans hcA0
    have c_174 : E164 (20 + n) 1 = .inl (kA 6, mk, .inr (.inr (.inr (.inr fm)))) := (p_171 (20 + n) 1 (by omega) (by omega) (by omega)).trans hcA1
    have c_175 : E164 (20 + n) 2 = .inl (kA 7, mk, .inr (.inr (.inr (.inr fl1)))) := (p_171 (20 + n) 2 (by omega) (by omega) (by omega)).trans hcA2
    have c_176 : E164 (20 + n) 3 = .inl (kA 7, mk, .inr (.inr (.inr (.inr fc1)))) := (p_171 (20 + n) 3 (by omega) (by omega) (by omega)).trans hcA3
    have c_177 : E164 (20 + n) (10 + 10 * i) = .inr (6, [.ref (ad13 (20 + n) 0), .ref (ad13 (1 + d_117) 0), .ref (ad13 (20 + n) (11 + 10 * i)), .ref (ad13 (20 + n) (12 + 10 * i)), .ref (ad13 (20 + n) (13 + 10 * i)), .ref (ad13 (20 + n) (14 + 10 * i))]) := (p_171 (20 + n) (10 + 10 * i) (by omega) (by omega) (by omega)).trans c_118
    have c_178 : E164 (20 + n) (12 + 10 * i) = .inr (10, [.ref (ad13 (20 + n) (15 + 10 * i))]) := (p_171 (20 + n) (12 + 10 * i) (by omega) (by omega) (by omega)).trans c_122
    have c_179 : E164 (20 + n) (13 + 10 * i) = .inr (10, [.ref (ad13 (20 + n) (16 + 10 * i))]) := (p_171 (20 + n) (13 + 10 * i) (by omega) (by omega) (by omega)).trans c_124
    have c_180 : E164 (20 + n) (14 + 10 * i) = .inr (10, [.ref (ad13 (20 + n) (17 + 10 * i))]) := (p_171 (20 + n) (14 + 10 * i) (by omega) (by omega) (by omega)).trans c_126
    have c_181 : E164 (20 + n) (17 + 10 * i) = .inl (kA 0, 6, .inl g4_117) := (p_171 (20 + n) (17 + 10 * i) (by omega) (by omega) (by omega)).trans c_132
    have c_182 : E164 (1 + d_117) 0 = .inr (7, [.int (nI d_117), .int fd_134, .int nm_134, .ref (ad13 (1 + d_117) 1), .ref (ad13 (1 + d_117) 9), .ref (ad13 (1 + d_117) 10), .ref (ad13 (1 + d_117) 2), .ref (ad13 (1 + d_117) 11), .ref (ad13 (1 + d_117) 12), .ref (ad13 (1 + d_117) 3), .ref (ad13 (1 + d_117) 4), .int sd_134]) := (p_171 (1 + d_117) 0 (by omega) (by omega) (by omega)).trans c_135
    have c_183 : E164 (1 + d_117) 1 = .inr (8, [.ref (ad13 (1 + d_117) 5), .int (nI k0_134)]) := (p_171 (1 + d_117) 1 (by omega) (by omega) (by omega)).trans c_137
    have c_184 : E164 (1 + d_117) 2 = .inr (8, [.ref (ad13 (1 + d_117) 6), .int (nI k1_134)]) := (p_171 (1 + d_117) 2 (by omega) (by omega) (by omega)).trans c_139
    have c_185 : E164 (1 + d_117) 3 = .inr (8, [.ref (ad13 (1 + d_117) 7), .int (nI k2_134)]) := (p_171 (1 + d_117) 3 (by omega) (by omega) (by omega)).trans c_141
    have c_186 : E164 (1 + d_117) 4 = .inr (8, [.ref (ad13 (1 + d_117) 8), .int (nI k3_134)]) := (p_171 (1 + d_117) 4 (by omega) (by omega) (by omega)).trans c_143
    have c_187 : E164 (1 + d_117) 5 = .inl (kA 0, 6, .inl f0_134) := (p_171 (1 + d_117) 5 (by omega) (by omega) (by omega)).trans c_145
    have c_188 : E164 (1 + d_117) 6 = .inl (kA 0, 5, .inl f1_134) := (p_171 (1 + d_117) 6 (by omega) (by omega) (by omega)).trans c_147
    have c_189 : E164 (1 + d_117) 7 = .inl (kA 0, 3, .inl f2_134) := (p_171 (1 + d_117) 7 (by omega) (by omega) (by omega)).trans c_149
    have c_190 : E164 (1 + d_117) 8 = .inl (kA 0, 3, .inl f3_134) := (p_171 (1 + d_117) 8 (by omega) (by omega) (by omega)).trans c_151
    have c_191 : E164 (1 + d_117) 9 = .inl (kA 8, 6, .inr (.inr (.inr (.inr fe_134)))) := (p_171 (1 + d_117) 9 (by omega) (by omega) (by omega)).trans c_153
    have c_192 : E164 (1 + d_117) 10 = .inl (kA 8, 6, .inr (.inr (.inr (.inr fo_134)))) := (p_171 (1 + d_117) 10 (by omega) (by omega) (by omega)).trans c_155
    have c_193 : E164 (1 + d_117) 11 = .inl (kA 2, 5, .inl tr_134) := (p_171 (1 + d_117) 11 (by omega) (by omega) (by omega)).trans c_157
    have c_194 : E164 (1 + d_117) 12 = .inl (kA 2, 5, .inl op_134) := (p_171 (1 + d_117) 12 (by omega) (by omega) (by omega)).trans c_159
    have hP : va_P D xcl (rp ad13 E164 RL15) H := hP
    have hD : va_D A (rp ad13 E164 RL15) := hD
    have hRU9 : RU kA E1 E164 := RU3 (b := 20 + n) (k := i) (by omega) c_120 c_128 c_130 p_168 p_169 p_170 p_171
    have hDIs := DIs_RU hRU9 hnd12 hDIs
    have hLIs := LIs_RU hRU9 hLIs
    have hfm : ∀ k, k < mk → fm k = some (ad13 (20 + n) (10 + 10 * k)) ∧ MEI kA ad13 E164 RL15 nd n k := fun k h => ⟨(hfm k h).1, MEI_RU hRU9 (hfm k h).2⟩
    have hTL : TLas g ad13 E164 nd nL := TLas_ro (fun n9 o9 hn9 ho9 => p_171 (20 + n9) o9 (by omega) (by omega) (by omega)) hTL
    have hC1 : ∀ j, j < i → CN1 g E164 n j ∧ CNd g kA ad13 E164 RL15 nd n j := fun j hj => ⟨CN1_fr (p_171 (20 + n) (15 + 10 * j) (by omega) (by omega) (by omega)) (p_171 (20 + n) (16 + 10 * j) (by omega) (by omega) (by omega)) (hC1 j hj).1, CNd_RU hRU9 (p_171 (20 + n) (11 + 10 * j) (by omega) (by omega) (by omega)) (hC1 j hj).2⟩
    have hC0i := hC0 i (Nat.le_refl _) (by omega)
    have hC0 : ∀ j, i + 1 ≤ j → j < mk → CN0 g E164 n j := fun j hj hj2 => CN0_fr (p_171 (20 + n) (11 + 10 * j) (by omega) (by omega) (by omega)) (p_171 (20 + n) (15 + 10 * j) (by omega) (by omega) (by omega)) (p_171 (20 + n) (16 + 10 * j) (by omega) (by omega) (by omega)) (hC0 j (by omega) hj2)
    have hC7 : ∀ j, j < mk → CN7 E164 n j := fun j hj => CN7_fr (p_171 (20 + n) (17 + 10 * j) (by omega) (by omega) (by omega)) (hC7 j hj)
    have hN1 : CN1 g E164 n i := fun t ht => ⟨(by
        unfold LSr
        rw [show eA (E164 (20 + n) (15 + 10 * i)) = w166 from by rw [p_169]; rfl, hp172.2.1 t ht, hdmv, ← hirs]
        have q := (hC0i.2 t ht).1
        rw [show eA (E1 (20 + n) (15 + 10 * i)) = g2_117 from by rw [c_128]; rfl] at q
        exact ⟨fun z => z.elim (fun y => absurd y q) id, Or.inr⟩), (by
        unfold CSr
        rw [show eA (E164 (20 + n) (16 + 10 * i)) = w167 from by rw [p_170]; rfl, hp172.2.2 t ht, hdmv, ← hirs]
        have q := (hC0i.2 t ht).2
        rw [show eA (E1 (20 + n) (16 + 10 * i)) = g3_117 from by rw [c_130]; rfl] at q
        exact ⟨fun z => z.elim (fun y => absurd y q) id, Or.inr⟩)⟩
    have hNdi : CNd g kA ad13 E164 RL15 nd n i := ⟨w165, by rw [p_168, hdmv, ← hirs], by rw [hdmv, ← hirs]; exact hp172.1⟩
    refine lv_aload_n hx hb xd_Ly_connect_38 rfl (lv_at hl 2 rfl) ?_
    refine lv_iload_n hx hb xd_Ly_connect_39 rfl (lv_at hl 0 rfl) ?_
    refine lv_aload_n hx hb xd_Ly_connect_40 rfl (lv_at hl 3 rfl) ?_
    refine px_get (D := D) (ci := 5) (v := .ref (ad13 (20 + n) 1)) (C := xR_Ly) (T := xT_Ly) (N := 4) hx hb hT xi_Ly hown hK.1 hP m_21 c_173 rfl 2 (by decide) (hT _ k5v_0) (fun _ h9 => h9) rfl xd_Ly_connect_41 ?_
    refine lv_iload_n hx hb xd_Ly_connect_44 rfl (lv_at hl 0 rfl) ?_
    refine px_aald (i := i) (x := (some (ad13 (20 + n) (10 + 10 * i)))) hx hb hK.1 hP m_22 c_174 6 rfl ((hfm i (by omega)).1) (by omega) (by omega) xd_Ly_connect_45 ?_
    refine px_get (D := D) (ci := 6) (v := .ref (ad13 (20 + n) (12 + 10 * i))) (C := xR_Me) (T := xT_Me) (N := 6) hx hb hT xi_Me hown hK.1 hP m_119 c_177 rfl 3 (by decide) (hT _ k5v_16) (fun _ h9 => h9) rfl xd_Ly_connect_46 ?_
    refine px_aast (i := i) (r := (xR_Re, xT_Re, 1)) hx hb hK.1 hP hD hS m_23 c_175 7 rfl m_123 c_178 rfl (by omega) (by omega) xd_Ly_connect_49 (fun H locs hP hD hS => ?_)
    have hP : va_P D xcl (rp ad13 (up2 E164 (20 + n) 2 (.inl (kA 7, mk, .inr (.inr (.inr (.inr (va_up fl1 i (some (ad13 (20 + n) (12 + 10 * i)))))))))) RL15) H := hP
    have hD : va_D A (rp ad13 (up2 E164 (20 + n) 2 (.inl (kA 7, mk, .inr (.inr (.inr (.inr (va_up fl1 i (some (ad13 (20 + n) (12 + 10 * i)))))))))) RL15) := hD
    generalize hE196 : up2 E164 (20 + n) 2 (.inl (kA 7, mk, .inr (.inr (.inr (.inr (va_up fl1 i (some (ad13 (20 + n) (12 + 10 * i))))))))) = E195 at hP hD
    have fE197 : ∀ b2 o2, ¬ (b2 = 20 + n ∧ o2 = 2) → E195 b2 o2 = E164 b2 o2 := fun b2 o2 h9 => by rw [← hE196]; exact up2_ne (by omega)
    have c_198 : E195 (20 + n) 2 = .inl (kA 7, mk, .inr (.inr (.inr (.inr (va_up fl1 i (some (ad13 (20 + n) (12 + 10 * i)))))))) := by rw [← hE196]; exact up2_eq
    have c_199 : E195 (20 + n) (11 + 10 * i) = .inl (kA 6, rs_117, .inr (.inr (.inr (.inr w165)))) := (fE197 (20 + n) (11 + 10 * i) (by omega)).trans p_168
    have c_200 : E195 (20 + n) (15 + 10 * i) = .inl (kA 0, 6, .inl w166) := (fE197 (20 + n) (15 + 10 * i) (by omega)).trans p_169
    have c_201 : E195 (20 + n) (16 + 10 * i) = .inl (kA 0, 6, .inl w167) := (fE197 (20 + n) (16 + 10 * i) (by omega)).trans p_170
    have c_202 : E195 (20 + n) 0 = .inr (5, [.int (nI n), pv, .ref (ad13 (20 + n) 1), .int lo]) := (fE197 (20 + n) 0 (by omega)).trans c_173
    have c_203 : E195 (20 + n) 1 = .inl (kA 6, mk, .inr (.inr (.inr (.inr fm)))) := (fE197 (20 + n) 1 (by omega)).trans c_174
    have c_204 : E195 (20 + n) 3 = .inl (kA 7, mk, .inr (.inr (.inr (.inr fc1)))) := (fE197 (20 + n) 3 (by omega)).trans c_176
    have c_205 : E195 (20 + n) (10 + 10 * i) = .inr (6, [.ref (ad13 (20 + n) 0), .ref (ad13 (1 + d_117) 0), .ref (ad13 (20 + n) (11 + 10 * i)), .ref (ad13 (20 + n) (12 + 10 * i)), .ref (ad13 (20 + n) (13 + 10 * i)), .ref (ad13 (20 + n) (14 + 10 * i))]) := (fE197 (20 + n) (10 + 10 * i) (by omega)).trans c_177
    have c_206 : E195 (20 + n) (12 + 10 * i) = .inr (10, [.ref (ad13 (20 + n) (15 + 10 * i))]) := (fE197 (20 + n) (12 + 10 * i) (by omega)).trans c_178
    have c_207 : E195 (20 + n) (13 + 10 * i) = .inr (10, [.ref (ad13 (20 + n) (16 + 10 * i))]) := (fE197 (20 + n) (13 + 10 * i) (by omega)).trans c_179
    have c_208 : E195 (20 + n) (14 + 10 * i) = .inr (10, [.ref (ad13 (20 + n) (17 + 10 * i))]) := (fE197 (20 + n) (14 + 10 * i) (by omega)).trans c_180
    have c_209 : E195 (20 + n) (17 + 10 * i) = .inl (kA 0, 6, .inl g4_117) := (fE197 (20 + n) (17 + 10 * i) (by omega)).trans c_181
    have c_210 : E195 (1 + d_117) 0 = .inr (7, [.int (nI d_117), .int fd_134, .int nm_134, .ref (ad13 (1 + d_117) 1), .ref (ad13 (1 + d_117) 9), .ref (ad13 (1 + d_117) 10), .ref (ad13 (1 + d_117) 2), .ref (ad13 (1 + d_117) 11), .ref (ad13 (1 + d_117) 12), .ref (ad13 (1 + d_117) 3), .ref (ad13 (1 + d_117) 4), .int sd_134]) := (fE197 (1 + d_117) 0 (by omega)).trans c_182
    have c_211 : E195 (1 + d_117) 1 = .inr (8, [.ref (ad13 (1 + d_117) 5), .int (nI k0_134)]) := (fE197 (1 + d_117) 1 (by omega)).trans c_183
    have c_212 : E195 (1 + d_117) 2 = .inr (8, [.ref (ad13 (1 + d_117) 6), .int (nI k1_134)]) := (fE197 (1 + d_117) 2 (by omega)).trans c_184
    have c_213 : E195 (1 + d_117) 3 = .inr (8, [.ref (ad13 (1 + d_117) 7), .int (nI k2_134)]) := (fE197 (1 + d_117) 3 (by omega)).trans c_185
    have c_214 : E195 (1 + d_117) 4 = .inr (8, [.ref (ad13 (1 + d_117) 8), .int (nI k3_134)]) := (fE197 (1 + d_117) 4 (by omega)).trans c_186
    have c_215 : E195 (1 + d_117) 5 = .inl (kA 0, 6, .inl f0_134) := (fE197 (1 + d_117) 5 (by omega)).trans c_187
    have c_216 : E195 (1 + d_117) 6 = .inl (kA 0, 5, .inl f1_134) := (fE197 (1 + d_117) 6 (by omega)).trans c_188
    have c_217 : E195 (1 + d_117) 7 = .inl (kA 0, 3, .inl f2_134) := (fE197 (1 + d_117) 7 (by omega)).trans c_189
    have c_218 : E195 (1 + d_117) 8 = .inl (kA 0, 3, .inl f3_134) := (fE197 (1 + d_117) 8 (by omega)).trans c_190
    have c_219 : E195 (1 + d_117) 9 = .inl (kA 8, 6, .inr (.inr (.inr (.inr fe_134)))) := (fE197 (1 + d_117) 9 (by omega)).trans c_191
    have c_220 : E195 (1 + d_117) 10 = .inl (kA 8, 6, .inr (.inr (.inr (.inr fo_134)))) := (fE197 (1 + d_117) 10 (by omega)).trans c_192
    have c_221 : E195 (1 + d_117) 11 = .inl (kA 2, 5, .inl tr_134) := (fE197 (1 + d_117) 11 (by omega)).trans c_193
    have c_222 : E195 (1 + d_117) 12 = .inl (kA 2, 5, .inl op_134) := (fE197 (1 + d_117) 12 (by omega)).trans c_194
    refine lv_aload_n hx hb xd_Ly_connect_50 rfl (lv_at hl 1 rfl) ?_
    refine lv_iload_n hx hb xd_Ly_connect_51 rfl (lv_at hl 0 rfl) ?_
    refine lv_aload_n hx hb xd_Ly_connect_52 rfl (lv_at hl 3 rfl) ?_
    refine px_get (D := D) (ci := 5) (v := .ref (ad13 (20 + n) 1)) (C := xR_Ly) (T := xT_Ly) (N := 4) hx hb hT xi_Ly hown hK.1 hP m_21 c_202 rfl 2 (by decide) (hT _ k5v_0) (fun _ h9 => h9) rfl xd_Ly_connect_53 ?_
    refine lv_iload_n hx hb xd_Ly_connect_56 rfl (lv_at hl 0 rfl) ?_
    refine px_aald (i := i) (x := (some (ad13 (20 + n) (10 + 10 * i)))) hx hb hK.1 hP m_22 c_203 6 rfl ((hfm i (by omega)).1) (by omega) (by omega) xd_Ly_connect_57 ?_
    refine px_get (D := D) (ci := 6) (v := .ref (ad13 (20 + n) (13 + 10 * i))) (C := xR_Me) (T := xT_Me) (N := 6) hx hb hT xi_Me hown hK.1 hP m_119 c_205 rfl 4 (by decide) (hT _ k5v_17) (fun _ h9 => h9) rfl xd_Ly_connect_58 ?_
    refine px_aast (i := i) (r := (xR_Re, xT_Re, 1)) hx hb hK.1 hP hD hS m_20 c_204 7 rfl m_125 c_207 rfl (by omega) (by omega) xd_Ly_connect_61 (fun H locs hP hD hS => ?_)
    have hP : va_P D xcl (rp ad13 (up2 E195 (20 + n) 3 (.inl (kA 7, mk, .inr (.inr (.inr (.inr (va_up fc1 i (some (ad13 (20 + n) (13 + 10 * i)))))))))) RL15) H := hP
    have hD : va_D A (rp ad13 (up2 E195 (20 + n) 3 (.inl (kA 7, mk, .inr (.inr (.inr (.inr (va_up fc1 i (some (ad13 (20 + n) (13 + 10 * i)))))))))) RL15) := hD
    generalize hE224 : up2 E195 (20 + n) 3 (.inl (kA 7, mk, .inr (.inr (.inr (.inr (va_up fc1 i (some (ad13 (20 + n) (13 + 10 * i))))))))) = E223 at hP hD
    have fE225 : ∀ b2 o2, ¬ (b2 = 20 + n ∧ o2 = 3) → E223 b2 o2 = E195 b2 o2 := fun b2 o2 h9 => by rw [← hE224]; exact up2_ne (by omega)
    have c_226 : E223 (20 + n) 3 = .inl (kA 7, mk, .inr (.inr (.inr (.inr (va_up fc1 i (some (ad13 (20 + n) (13 + 10 * i)))))))) := by rw [← hE224]; exact up2_eq
    have c_227 : E223 (20 + n) 2 = .inl (kA 7, mk, .inr (.inr (.inr (.inr (va_up fl1 i (some (ad13 (20 + n) (12 + 10 * i)))))))) := (fE225 (20 + n) 2 (by omega)).trans c_198
    have c_228 : E223 (20 + n) (11 + 10 * i) = .inl (kA 6, rs_117, .inr (.inr (.inr (.inr w165)))) := (fE225 (20 + n) (11 + 10 * i) (by omega)).trans c_199
    have c_229 : E223 (20 + n) (15 + 10 * i) = .inl (kA 0, 6, .inl w166) := (fE225 (20 + n) (15 + 10 * i) (by omega)).trans c_200
    have c_230 : E223 (20 + n) (16 + 10 * i) = .inl (kA 0, 6, .inl w167) := (fE225 (20 + n) (16 + 10 * i) (by omega)).trans c_201
    have c_231 : E223 (20 + n) 0 = .inr (5, [.int (nI n), pv, .ref (ad13 (20 + n) 1), .int lo]) := (fE225 (20 + n) 0 (by omega)).trans c_202
    have c_232 : E223 (20 + n) 1 = .inl (kA 6, mk, .inr (.inr (.inr (.inr fm)))) := (fE225 (20 + n) 1 (by omega)).trans c_203
    have c_233 : E223 (20 + n) (10 + 10 * i) = .inr (6, [.ref (ad13 (20 + n) 0), .ref (ad13 (1 + d_117) 0), .ref (ad13 (20 + n) (11 + 10 * i)), .ref (ad13 (20 + n) (12 + 10 * i)), .ref (ad13 (20 + n) (13 + 10 * i)), .ref (ad13 (20 + n) (14 + 10 * i))]) := (fE225 (20 + n) (10 + 10 * i) (by omega)).trans c_205
    have c_234 : E223 (20 + n) (12 + 10 * i) = .inr (10, [.ref (ad13 (20 + n) (15 + 10 * i))]) := (fE225 (20 + n) (12 + 10 * i) (by omega)).trans c_206
    have c_235 : E223 (20 + n) (13 + 10 * i) = .inr (10, [.ref (ad13 (20 + n) (16 + 10 * i))]) := (fE225 (20 + n) (13 + 10 * i) (by omega)).trans c_207
    have c_236 : E223 (20 + n) (14 + 10 * i) = .inr (10, [.ref (ad13 (20 + n) (17 + 10 * i))]) := (fE225 (20 + n) (14 + 10 * i) (by omega)).trans c_208
    have c_237 : E223 (20 + n) (17 + 10 * i) = .inl (kA 0, 6, .inl g4_117) := (fE225 (20 + n) (17 + 10 * i) (by omega)).trans c_209
    have c_238 : E223 (1 + d_117) 0 = .inr (7, [.int (nI d_117), .int fd_134, .int nm_134, .ref (ad13 (1 + d_117) 1), .ref (ad13 (1 + d_117) 9), .ref (ad13 (1 + d_117) 10), .ref (ad13 (1 + d_117) 2), .ref (ad13 (1 + d_117) 11), .ref (ad13 (1 + d_117) 12), .ref (ad13 (1 + d_117) 3), .ref (ad13 (1 + d_117) 4), .int sd_134]) := (fE225 (1 + d_117) 0 (by omega)).trans c_210
    have c_239 : E223 (1 + d_117) 1 = .inr (8, [.ref (ad13 (1 + d_117) 5), .int (nI k0_134)]) := (fE225 (1 + d_117) 1 (by omega)).trans c_211
    have c_240 : E223 (1 + d_117) 2 = .inr (8, [.ref (ad13 (1 + d_117) 6), .int (nI k1_134)]) := (fE225 (1 + d_117) 2 (by omega)).trans c_212
    have c_241 : E223 (1 + d_117) 3 = .inr (8, [.ref (ad13 (1 + d_117) 7), .int (nI k2_134)]) := (fE225 (1 + d_117) 3 (by omega)).trans c_213
    have c_242 : E223 (1 + d_117) 4 = .inr (8, [.ref (ad13 (1 + d_117) 8), .int (nI k3_134)]) := (fE225 (1 + d_117) 4 (by omega)).trans c_214
    have c_243 : E223 (1 + d_117) 5 = .inl (kA 0, 6, .inl f0_134) := (fE225 (1 + d_117) 5 (by omega)).trans c_215
    have c_244 : E223 (1 + d_117) 6 = .inl (kA 0, 5, .inl f1_134) := (fE225 (1 + d_117) 6 (by omega)).trans c_216
    have c_245 : E223 (1 + d_117) 7 = .inl (kA 0, 3, .inl f2_134) := (fE225 (1 + d_117) 7 (by omega)).trans c_217
    have c_246 : E223 (1 + d_117) 8 = .inl (kA 0, 3, .inl f3_134) := (fE225 (1 + d_117) 8 (by omega)).trans c_218
    have c_247 : E223 (1 + d_117) 9 = .inl (kA 8, 6, .inr (.inr (.inr (.inr fe_134)))) := (fE225 (1 + d_117) 9 (by omega)).trans c_219
    have c_248 : E223 (1 + d_117) 10 = .inl (kA 8, 6, .inr (.inr (.inr (.inr fo_134)))) := (fE225 (1 + d_117) 10 (by omega)).trans c_220
    have c_249 : E223 (1 + d_117) 11 = .inl (kA 2, 5, .inl tr_134) := (fE225 (1 + d_117) 11 (by omega)).trans c_221
    have c_250 : E223 (1 + d_117) 12 = .inl (kA 2, 5, .inl op_134) := (fE225 (1 + d_117) 12 (by omega)).trans c_222
    refine lv_iinc (k := 0) (x := (nI i)) (v := (nI (i + 1))) hx hb xd_Ly_connect_62 hl rfl (xb_inc i 1) (Nat.le_of_ble_eq_true rfl) rfl (fun ls hl => ?_)
    have hl : lv_has ls 4 [(3, .int (nI (i + 1))), (2, .ref (ad13 (20 + n) 3)), (1, .ref (ad13 (20 + n) 2)), (0, .ref (ad13 (20 + n) 0))] := hl
    refine lv_goto (tgt := 20) hx hb xd_Ly_connect_65 (by decide) ?_
    exact ih29 (i + 1, E223, (va_up fl1 i (some (ad13 (20 + n) (12 + 10 * i)))), (va_up fc1 i (some (ad13 (20 + n) (13 + 10 * i))))) _ _ _ (show mk - (i + 1) < mk - i by omega) (lv_sub hl [0, 1, 2, 3] rfl) hP hD hS ⟨(show (i + 1) ≤ mk from by first | assumption | omega), (show E223 (20 + n) 0 = .inr (5, [.int (nI n), pv, .ref (ad13 (20 + n) 1), .int lo]) from c_231), (show E223 (20 + n) 1 = .inl (kA 6, mk, .inr (.inr (.inr (.inr fm)))) from c_232), (show E223 (20 + n) 2 = .inl (kA 7, mk, .inr (.inr (.inr (.inr (va_up fl1 i (some (ad13 (20 + n) (12 + 10 * i)))))))) from c_227), (show E223 (20 + n) 3 = .inl (kA 7, mk, .inr (.inr (.inr (.inr (va_up fc1 i (some (ad13 (20 + n) (13 + 10 * i)))))))) from c_226), (show ∀ b2 o2, ¬ (b2 = 20 + n) → E223 b2 o2 = E b2 o2 from fun b2 o2 h09 => by show E223 b2 o2 = _; rw [fE225 b2 o2 (by omega), fE197 b2 o2 (by omega), p_171 b2 o2 (by omega) (by omega) (by omega), hfr b2 o2 (by omega)]), (show DIs kA ad13 E223 RL15 nd from DIs_23 (show R23 n E164 E223 from fun b2 o2 h9 => by rw [fE225 b2 o2 (by omega), fE197 b2 o2 (by omega)]) (fun _ _ _ => rfl) (fun _ h => h) hnd12 hDIs), (show LIs kA ad13 E223 RL15 nd nL from LIs_23 (show R23 n E164 E223 from fun b2 o2 h9 => by rw [fE225 b2 o2 (by omega), fE197 b2 o2 (by omega)]) (fun _ _ _ => rfl) (fun _ h => h) hLIs), (show ∀ k, k < mk → fm k = some (ad13 (20 + n) (10 + 10 * k)) ∧ MEI kA ad13 E223 RL15 nd n k from fun k h => ⟨(hfm k h).1, MEI_23 (show R23 n E164 E223 from fun b2 o2 h9 => by rw [fE225 b2 o2 (by omega), fE197 b2 o2 (by omega)]) (fun _ _ _ => rfl) (fun _ h => h) (hfm k h).2⟩), (show ∀ j, j < (i + 1) → (va_up fl1 i (some (ad13 (20 + n) (12 + 10 * i)))) j = some (ad13 (20 + n) (12 + 10 * j)) ∧ (va_up fc1 i (some (ad13 (20 + n) (13 + 10 * i)))) j = some (ad13 (20 + n) (13 + 10 * j)) from fun j hj => by
        by_cases q : j = i
        · subst q; exact ⟨vu_eq, vu_eq⟩
        · obtain ⟨q1, q2⟩ := hdone j (by omega); exact ⟨(vu_ne q).trans q1, (vu_ne q).trans q2⟩), (show TLas g ad13 E223 nd nL from TLas_23 (show R23 n E164 E223 from fun b2 o2 h9 => by rw [fE225 b2 o2 (by omega), fE197 b2 o2 (by omega)]) (fun _ _ _ => rfl) hTL hnd12), (show ∀ j, j < (i + 1) → CN1 g E223 n j ∧ CNd g kA ad13 E223 RL15 nd n j from fun j hj => by
        have h23 := (show R23 n E164 E223 from fun b2 o2 h9 => by rw [fE225 b2 o2 (by omega), fE197 b2 o2 (by omega)])
        by_cases q : j = i
        · rw [q]; exact ⟨CN1_23 h23 hN1, CNd_23 h23 hNdi⟩
        · exact ⟨CN1_23 h23 (hC1 j (by omega)).1, CNd_23 h23 (hC1 j (by omega)).2⟩), (show ∀ j, (i + 1) ≤ j → j < mk → CN0 g E223 n j from fun j hj hj2 => CN0_23 (show R23 n E164 E223 from fun b2 o2 h9 => by rw [fE225 b2 o2 (by omega), fE197 b2 o2 (by omega)]) (hC0 j hj hj2)), (show ∀ j, j < mk → CN7 E223 n j from fun j hj => CN7_23 (show R23 n E164 E223 from fun b2 o2 h9 => by rw [fE225 b2 o2 (by omega), fE197 b2 o2 (by omega)]) (hC7 j hj))⟩
