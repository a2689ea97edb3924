theorem k5q_0 : (Cond.fieldLink "LayerDesk" 10 "LayerDesk" "written" "LLayerDesk$Line;") ∈ wT := wT_t (List.mem_append_left _ (List.mem_of_getElem? (i := 99) rfl)) rfl
theorem k5q_1 : (Cond.fieldLink "LayerDesk" 198 "LayerDesk$Line" "words" "I") ∈ wT := wT_t (List.mem_append_left _ (List.mem_of_getElem? (i := 42) rfl)) rfl
theorem k5q_2 : (Cond.code xy_Li_nameAt xb_Li_nameAt 4 (some .int)) ∈ wT := wT_t (List.mem_append_right _ (List.mem_append_left _ (List.mem_of_getElem? (i := 17) rfl))) rfl
theorem k5q_3 : (Cond.methodLink "LayerDesk" 201 xy_Li_nameAt) ∈ wT := wT_t (List.mem_append_right _ (List.mem_append_right _ (List.mem_append_left _ (List.mem_of_getElem? (i := 60) rfl)))) rfl
theorem k5q_4 : (Cond.instanceMethod xy_Li_nameAt) ∈ wT := wT_t (List.mem_append_right _ (List.mem_append_left _ (List.mem_of_getElem? (i := 15) rfl))) rfl
theorem k5q_5 : (Cond.selects "LayerDesk$Line" xy_Li_nameAt xy_Li_nameAt) ∈ wT := wT_t (List.mem_append_right _ (List.mem_append_left _ (List.mem_of_getElem? (i := 16) rfl))) rfl
theorem k5q_6 : (Cond.initialized "LayerDesk$Line") ∈ wT := wT_t (List.mem_append_left _ (List.mem_of_getElem? (i := 2) rfl)) rfl
theorem k5q_7 : (Cond.fieldLink "LayerDesk" 28 "LayerDesk" "chooser" "LLayerDesk$Chooser;") ∈ wT := wT_t (List.mem_append_left _ (List.mem_of_getElem? (i := 101) rfl)) rfl
theorem k5q_8 : (Cond.code xy_Ch_addRoot xb_Ch_addRoot 2 (some .boolean)) ∈ wT := wT_t (List.mem_append_right _ (List.mem_append_right _ (List.mem_append_left _ (List.mem_of_getElem? (i := 76) rfl)))) rfl
theorem k5q_9 : (Cond.methodLink "LayerDesk" 205 xy_Ch_addRoot) ∈ wT := wT_t (List.mem_append_right _ (List.mem_append_right _ (List.mem_append_left _ (List.mem_of_getElem? (i := 73) rfl)))) rfl
theorem k5q_10 : (Cond.instanceMethod xy_Ch_addRoot) ∈ wT := wT_t (List.mem_append_right _ (List.mem_append_right _ (List.mem_append_left _ (List.mem_of_getElem? (i := 74) rfl)))) rfl
theorem k5q_11 : (Cond.selects "LayerDesk$Chooser" xy_Ch_addRoot xy_Ch_addRoot) ∈ wT := wT_t (List.mem_append_right _ (List.mem_append_right _ (List.mem_append_left _ (List.mem_of_getElem? (i := 75) rfl)))) rfl
theorem k5q_12 : (Cond.initialized "LayerDesk$Chooser") ∈ wT := wT_t (List.mem_append_left _ (List.mem_of_getElem? (i := 4) rfl)) rfl
set_option maxHeartbeats 4000000 in
set_option maxRecDepth 100000 in
theorem xc_De_rootsAreNamesX (l : Launch) (D : va_G) (kA : Nat → ClassId) (sz : Nat) (ad : Nat → Nat → Nat) (E : Nat → Nat → va_E) (RL : List (Nat × Nat)) (g : Nat → Nat → Int32) (ml : Nat) (nd : Nat) (len : Nat) (lt : Nat) (wl : List (Nat × Nat)) (cs : Nat) (hCI : CI kA ad E RL ml nd len wl.length cs) (hLW : LW g E lt wl) : Met l xy_De_rootsAreNames (.code xy_De_rootsAreNames xb_De_rootsAreNames 2 (some .boolean) :: wT) { frames := 1, cells := 0, slots := 0, locals := 23 } (va_Pc [.ref (ad 0 0)] (xPre D kA sz (rp ad E RL))) (va_Qi (fun (r : Int32) (u : Unit) => (r = 1 ∧ ((1 ≤ wl.length ∧ wl.length ≤ 3) ∧ ∀ w, w < wl.length → ¬ wN (g 0) wl w = 0)) ∨ (r = 0 ∧ ¬ ((1 ≤ wl.length ∧ wl.length ≤ 3) ∧ ∀ w, w < wl.length → ¬ wN (g 0) wl w = 0))) (fun (u : Unit) t => va_P D xcl (rp ad E RL) t.heap ∧ va_D (va_A (rp ad E RL) sz) (rp ad E RL)) (va_A (rp ad E RL) sz)) 0 0 (va_A (rp ad E RL) sz) := by
  refine Met.ofW (cc := xb_De_rootsAreNames) (maxL := 2) (ret := (some .boolean)) (by decide) rfl ?_
  intro p e s m args below meth c s₁ B hml hv
  obtain ⟨rfl, hsz, hP, hK, hD0⟩ := hv
  have hx := B.exec
  have hb := B.bytes
  have hr := B.returns
  have hT := x_hT B.pre
  have hown : s.vm.findClass xR_De = some m.cls := findClass_of_methodNamed B.named
  have hlocks := B.notSynchronized
  subst hsz
  have hD := hD0.self (sz := s.heap.size)
  generalize hAe : va_A (rp ad E RL) s.heap.size = A at hD ⊢
  have hA : ∀ q : Nat, s.heap.size ≤ q → A q := fun q h => by rw [← hAe]; exact Or.inr h
  have hS : va_S A s.heap s.heap [] := va_S.rf
  have hl := lv_entry ([.ref (ad 0 0)]) (n := 2) (Nat.le_of_ble_eq_true rfl)
  rw [lg_entry_eq]
  generalize (lg_sl ([.ref (ad 0 0)]) ++ List.replicate (2 - (lg_sl ([.ref (ad 0 0)])).length) Slot.unset).toArray = ls at hl ⊢
  have hl : lv_has ls 2 [(0, .ref (ad 0 0))] := hl
  have hP : va_P D xcl (rp ad E RL) s.heap := hP
  obtain ⟨hmB, hDk, hLi, hSh, hCh, hLa, hDIs, hLIs⟩ := id hCI
  obtain ⟨hWL, hlt40, hLwd, hLtx⟩ := id hLW
  obtain ⟨lf_1, q_1⟩ := id (hDk)
  have c_2 : E 0 0 = .inr (0, [.ref (ad 0 1), .ref (ad 0 5), .ref (ad 0 7), .ref (ad 0 9), .int (nI ml), .int lf_1]) := q_1
  have m_3 : (0, 0) ∈ RL := hmB 0 (by omega)
  obtain ⟨tx_4, fb_4, fe_4, hl1_4, hw2_4, q1_4, q2_4, q3_4, q4_4, hws_4⟩ := id (hLi)
  have c_5 : E 0 1 = .inr (1, [.ref (ad 0 2), .ref (ad 0 3), .ref (ad 0 4), .int (nI len), .int (nI (wl.length))]) := q1_4
  have m_6 : (0, 1) ∈ RL := hmB 1 (by omega)
  have c_7 : E 0 2 = .inl (kA 1, 40, .inl tx_4) := q2_4
  have m_8 : (0, 2) ∈ RL := hmB 2 (by omega)
  have c_9 : E 0 3 = .inl (kA 0, 20, .inl fb_4) := q3_4
  have m_10 : (0, 3) ∈ RL := hmB 3 (by omega)
  have c_11 : E 0 4 = .inl (kA 0, 20, .inl fe_4) := q4_4
  have m_12 : (0, 4) ∈ RL := hmB 4 (by omega)
  refine lv_aload_n hx hb xd_De_rootsAreNames_0 rfl (lv_at hl 0 rfl) ?_
  refine px_get (D := D) (ci := 0) (v := .ref (ad 0 1)) (C := xR_De) (T := xT_De) (N := 6) hx hb hT xi_De hown hK.1 hP m_3 c_2 rfl 0 (by decide) (hT _ k5q_0) (fun _ h9 => h9) rfl xd_De_rootsAreNames_1 ?_
  refine px_get (D := D) (ci := 1) (v := .int (nI (wl.length))) (C := xR_Li) (T := xT_Li) (N := 5) hx hb hT xi_Li hown hK.1 hP m_6 c_5 rfl 4 (by decide) (hT _ k5q_1) (fun _ h9 => h9) rfl xd_De_rootsAreNames_4 ?_
  refine lv_iconst (v := 1) hx hb xd_De_rootsAreNames_7 (by decide) ?_
  refine xn_lt (a := wl.length) (b := 1) (tgt := 22) hx hb xd_De_rootsAreNames_8 (by decide) (by omega) (by omega) (fun hc13 => ?_) (fun hc13 => ?_)
  · refine lv_iconst (v := 0) hx hb xd_De_rootsAreNames_22 (by decide) ?_
    exact W.zret (v := 0) hx hb hr rfl (fun t ht hW => ⟨⟨0, (), rfl, Or.inr ⟨rfl, fun q => absurd q.1 (by omega)⟩, by rw [ht]; exact hP, hD⟩, hS.F ht⟩) hS.2.2 xd_De_rootsAreNames_23
  · refine lv_aload_n hx hb xd_De_rootsAreNames_11 rfl (lv_at hl 0 rfl) ?_
    refine px_get (D := D) (ci := 0) (v := .ref (ad 0 1)) (C := xR_De) (T := xT_De) (N := 6) hx hb hT xi_De hown hK.1 hP m_3 c_2 rfl 0 (by decide) (hT _ k5q_0) (fun _ h9 => h9) rfl xd_De_rootsAreNames_12 ?_
    refine px_get (D := D) (ci := 1) (v := .int (nI (wl.length))) (C := xR_Li) (T := xT_Li) (N := 5) hx hb hT xi_Li hown hK.1 hP m_6 c_5 rfl 4 (by decide) (hT _ k5q_1) (fun _ h9 => h9) rfl xd_De_rootsAreNames_15 ?_
    refine lv_iconst (v := 3) hx hb xd_De_rootsAreNames_18 (by decide) ?_
    refine xn_le (a := wl.length) (b := 3) (tgt := 24) hx hb xd_De_rootsAreNames_19 (by decide) (by omega) (by omega) (fun hc14 => ?_) (fun hc14 => ?_)
    · refine lv_iconst (v := 0) hx hb xd_De_rootsAreNames_24 (by decide) ?_
      refine lv_istore_n hx hb xd_De_rootsAreNames_25 rfl hl (Nat.le_of_ble_eq_true rfl) rfl (fun ls hl => ?_)
      have hl : lv_has ls 2 [(1, .int 0), (0, .ref (ad 0 0))] := hl
      refine xlab (σ := Nat) (ml := 2) 26 (fun (i : Nat) => [(1, .int (nI i)), (0, .ref (ad 0 0))]) (fun (i : Nat) => []) (fun (i : Nat) => rp ad E RL) (fun (i : Nat) => (i ≤ wl.length) ∧ (∀ w, w < i → ¬ wN (g 0) wl w = 0)) (fun (i : Nat) => wl.length - i) ?_ 0 _ _ _ (lv_sub hl [0, 1] rfl) hP hD hS ⟨(show 0 ≤ wl.length from by first | assumption | omega), (show ∀ w, w < 0 → ¬ wN (g 0) wl w = 0 from fun w hw => absurd hw (by omega))⟩
      intro n9 ih15 a9 ls H locs hμ hl hP hD hS hI
      subst hμ
      obtain ⟨i, rfl⟩ : ∃ z, z = a9 := ⟨_, rfl⟩
      obtain ⟨hi, hnz⟩ := hI
      have hi : i ≤ wl.length := hi
      have hnz : ∀ w, w < i → ¬ wN (g 0) wl w = 0 := hnz
      have hl : lv_has ls 2 [(1, .int (nI i)), (0, .ref (ad 0 0))] := hl
      have hP : va_P D xcl (rp ad E RL) H := hP
      have hD : va_D A (rp ad E RL) := hD
      refine lv_iload_n hx hb xd_De_rootsAreNames_26 rfl (lv_at hl 0 rfl) ?_
      refine lv_aload_n hx hb xd_De_rootsAreNames_27 rfl (lv_at hl 1 rfl) ?_
      refine px_get (D := D) (ci := 0) (v := .ref (ad 0 1)) (C := xR_De) (T := xT_De) (N := 6) hx hb hT xi_De hown hK.1 hP m_3 c_2 rfl 0 (by decide) (hT _ k5q_0) (fun _ h9 => h9) rfl xd_De_rootsAreNames_28 ?_
      refine px_get (D := D) (ci := 1) (v := .int (nI (wl.length))) (C := xR_Li) (T := xT_Li) (N := 5) hx hb hT xi_Li hown hK.1 hP m_6 c_5 rfl 4 (by decide) (hT _ k5q_1) (fun _ h9 => h9) rfl xd_De_rootsAreNames_31 ?_
      refine xn_ge (a := i) (b := wl.length) (tgt := 56) hx hb xd_De_rootsAreNames_34 (by decide) (by omega) (by omega) (fun hc16 => ?_) (fun hc16 => ?_)
      · refine lv_iconst (v := 1) hx hb xd_De_rootsAreNames_56 (by decide) ?_
        exact W.zret (v := 1) hx hb hr rfl (fun t ht hW => ⟨⟨1, (), rfl, Or.inl ⟨rfl, ⟨by omega, by omega⟩, fun w hw => hnz w (by omega)⟩, by rw [ht]; exact hP, hD⟩, hS.F ht⟩) hS.2.2 xd_De_rootsAreNames_57
      · refine lv_aload_n hx hb xd_De_rootsAreNames_37 rfl (lv_at hl 1 rfl) ?_
        refine px_get (D := D) (ci := 0) (v := .ref (ad 0 1)) (C := xR_De) (T := xT_De) (N := 6) hx hb hT xi_De hown hK.1 hP m_3 c_2 rfl 0 (by decide) (hT _ k5q_0) (fun _ h9 => h9) rfl xd_De_rootsAreNames_38 ?_
        refine lv_iload_n hx hb xd_De_rootsAreNames_41 rfl (lv_at hl 0 rfl) ?_
        have hFc := px_free hD hS hA
        refine va_calli (va_runV (As := [.int (nI i)]) (rest := []) ⟨hx, hb, hml, hown, hT⟩ (xc_Li_nameAtX l D kA H.size ad E RL g ml nd len lt wl cs i (by first | assumption | omega) (by first | assumption | omega) (by first | assumption | omega)) (cwV 1 hT (wT_V k5q_3 k5q_4 k5q_5 k5q_6 k5q_2) rfl rfl rfl (by decide +kernel) ⟨Nat.le_of_ble_eq_true rfl, Nat.le_of_ble_eq_true rfl⟩) (px_preV hK hP hD m_6 c_5 rfl) rfl rfl hl.1 rfl (lv_room (Nat.le_of_ble_eq_true rfl)) xd_De_rootsAreNames_42 ⟨(Nat.le_of_ble_eq_true rfl), (Nat.le_of_ble_eq_true rfl)⟩) hS (fun q _ h => hFc q h) hFc (fun r17 u18 t H1 locs ht hvm hp19 hB hz1 hk1 hS => ?_)
        obtain ⟨hP1, hD1⟩ := hB
        rw [ht] at hP1
        have hD1 := hD1.weaken (fun _ _ _ h => hFc _ h)
        generalize H1 = H at hP1 hS ⊢
        have hP := hP1
        have hD := hD1
        have hP : va_P D xcl (rp ad E RL) H := hP
        have hD : va_D A (rp ad E RL) := hD
        have hp19 : r17 = wN (g 0) wl i := hp19
        subst hp19
        have hP : va_P D xcl (rp ad E RL) H := hP
        have hD : va_D A (rp ad E RL) := hD
        refine lv_if_ne (tgt := 50) hx hb xd_De_rootsAreNames_45 (by decide) (fun hc20 => ?_) (fun hc20 => ?_)
        · refine lv_iinc (k := 0) (x := (nI i)) (v := (nI (i + 1))) hx hb xd_De_rootsAreNames_50 hl rfl (xb_inc i 1) (Nat.le_of_ble_eq_true rfl) rfl (fun ls hl => ?_)
          have hl : lv_has ls 2 [(1, .int (nI (i + 1))), (0, .ref (ad 0 0))] := hl
          refine lv_goto (tgt := 26) hx hb xd_De_rootsAreNames_53 (by decide) ?_
          exact ih15 (i + 1) _ _ _ (show wl.length - (i + 1) < wl.length - i by omega) (lv_sub hl [0, 1] rfl) hP hD hS ⟨(show (i + 1) ≤ wl.length from by first | assumption | omega), (show ∀ w, w < (i + 1) → ¬ wN (g 0) wl w = 0 from fun w hw => by
        rcases Nat.lt_or_ge w i with z | z
        · exact hnz w z
        · rw [show w = i by omega]; exact hc20)⟩
        · refine lv_iconst (v := 0) hx hb xd_De_rootsAreNames_48 (by decide) ?_
          exact W.zret (v := 0) hx hb hr rfl (fun t ht hW => ⟨⟨0, (), rfl, Or.inr ⟨rfl, fun q => q.2 i (by omega) hc20⟩, by rw [ht]; exact hP, hD⟩, hS.F ht⟩) hS.2.2 xd_De_rootsAreNames_49
    · refine lv_iconst (v := 0) hx hb xd_De_rootsAreNames_22 (by decide) ?_
      exact W.zret (v := 0) hx hb hr rfl (fun t ht hW => ⟨⟨0, (), rfl, Or.inr ⟨rfl, fun q => absurd q.1 (by omega)⟩, by rw [ht]; exact hP, hD⟩, hS.F ht⟩) hS.2.2 xd_De_rootsAreNames_23
set_option maxHeartbeats 4000000 in
set_option maxRecDepth 100000 in
theorem xc_De_addRootsX (l : Launch) (D : va_G) (kA : Nat → ClassId) (sz : Nat) (ad : Nat → Nat → Nat) (E : Nat → Nat → va_E) (RL : List (Nat × Nat)) (g : Nat → Nat → Int32) (ml : Nat) (nd : Nat) (len : Nat) (lt : Nat) (wl : List (Nat × Nat)) (fi : Int32) (lq : Nat) (L : List Nat) (hCI : CI kA ad E RL ml nd len wl.length L.length) (hCX : CX ad E nd fi lq L) (hTD : TDs g E nd) (hTL : TLas g ad E nd ml) (hlqm : lq ≤ ml) (hLW : LW g E lt wl) : Met l xy_De_addRoots (.code xy_De_addRoots xb_De_addRoots 2 (some .boolean) :: wT) { frames := 20, cells := 0, slots := 0, locals := 1215 } (va_Pc [.ref (ad 0 0)] (xPre D kA sz (rp ad E RL))) (va_Qi (fun (r : Int32) (u : Nat → Nat → va_E) => ∃ L2, CI kA ad u RL ml nd len wl.length L2.length ∧ CX ad u nd fi lq L2 ∧ F78 E u ∧ ((r = 1 ∧ aF (adG g nd fi lq) L (nmL (g 0) wl wl.length 0) = (true, L2)) ∨ (r = 0 ∧ aF (adG g nd fi lq) L (nmL (g 0) wl wl.length 0) = (false, L2)))) (fun (u : Nat → Nat → va_E) t => va_P D xcl (rp ad u RL) t.heap ∧ va_D (va_A (rp ad E RL) sz) (rp ad u RL)) (va_A (rp ad E RL) sz)) 0 0 (va_A (rp ad E RL) sz) := by
  refine Met.ofW (cc := xb_De_addRoots) (maxL := 2) (ret := (some .boolean)) (by decide) rfl ?_
  intro p e s m args below meth c s₁ B hml hv
  obtain ⟨rfl, hsz, hP, hK, hD0⟩ := hv
  have hx := B.exec
  have hb := B.bytes
  have hr := B.returns
  have hT := x_hT B.pre
  have hown : s.vm.findClass xR_De = some m.cls := findClass_of_methodNamed B.named
  have hlocks := B.notSynchronized
  subst hsz
  have hD := hD0.self (sz := s.heap.size)
  generalize hAe : va_A (rp ad E RL) s.heap.size = A at hD ⊢
  have hA : ∀ q : Nat, s.heap.size ≤ q → A q := fun q h => by rw [← hAe]; exact Or.inr h
  have hS : va_S A s.heap s.heap [] := va_S.rf
  have hl := lv_entry ([.ref (ad 0 0)]) (n := 2) (Nat.le_of_ble_eq_true rfl)
  rw [lg_entry_eq]
  generalize (lg_sl ([.ref (ad 0 0)]) ++ List.replicate (2 - (lg_sl ([.ref (ad 0 0)])).length) Slot.unset).toArray = ls at hl ⊢
  have hl : lv_has ls 2 [(0, .ref (ad 0 0))] := hl
  have hP : va_P D xcl (rp ad E RL) s.heap := hP
  obtain ⟨hmB, hDk, hLi, hSh, hCh, hLa, hDIs, hLIs⟩ := id hCI
  have hwl20 := hLW.1.1
  refine lv_iconst (v := 0) hx hb xd_De_addRoots_0 (by decide) ?_
  refine lv_istore_n hx hb xd_De_addRoots_1 rfl hl (Nat.le_of_ble_eq_true rfl) rfl (fun ls hl => ?_)
  have hl : lv_has ls 2 [(1, .int 0), (0, .ref (ad 0 0))] := hl
  refine xlab (σ := Nat × (Nat → Nat → va_E) × List Nat) (ml := 2) 2 (fun (i, E1, L1) => [(1, .int (nI i)), (0, .ref (ad 0 0))]) (fun (i, E1, L1) => []) (fun (i, E1, L1) => rp ad E1 RL) (fun (i, E1, L1) => (i ≤ wl.length) ∧ (CI kA ad E1 RL ml nd len wl.length L1.length) ∧ (CX ad E1 nd fi lq L1) ∧ (F78 E E1) ∧ (aF (adG g nd fi lq) L (nmL (g 0) wl wl.length 0) = aF (adG g nd fi lq) L1 (nmL (g 0) wl (wl.length - i) i))) (fun (i, E1, L1) => wl.length - i) ?_ (0, E, L) _ _ _ (lv_sub hl [0, 1] rfl) hP hD hS ⟨(show 0 ≤ wl.length from by first | assumption | omega), (show CI kA ad E RL ml nd len wl.length L.length from hCI), (show CX ad E nd fi lq L from hCX), (show F78 E E from F78_rf), (show aF (adG g nd fi lq) L (nmL (g 0) wl wl.length 0) = aF (adG g nd fi lq) L (nmL (g 0) wl (wl.length - 0) 0) from rfl)⟩
  intro n9 ih1 a9 ls H locs hμ hl hP hD hS hI
  subst hμ
  obtain ⟨i, E1, L1⟩ := a9
  obtain ⟨hi, hCI, hCX1, hF1, hN⟩ := hI
  have hi : i ≤ wl.length := hi
  have hCI : CI kA ad E1 RL ml nd len wl.length L1.length := hCI
  have hCX1 : CX ad E1 nd fi lq L1 := hCX1
  have hF1 : F78 E E1 := hF1
  have hN : aF (adG g nd fi lq) L (nmL (g 0) wl wl.length 0) = aF (adG g nd fi lq) L1 (nmL (g 0) wl (wl.length - i) i) := hN
  have hl : lv_has ls 2 [(1, .int (nI i)), (0, .ref (ad 0 0))] := hl
  have hP : va_P D xcl (rp ad E1 RL) H := hP
  have hD : va_D A (rp ad E1 RL) := hD
  obtain ⟨hmB, hDk, hLi, hSh, hCh, hLa, hDIs, hLIs⟩ := id hCI
  obtain ⟨lf_2, q_2⟩ := id (hDk)
  have c_3 : E1 0 0 = .inr (0, [.ref (ad 0 1), .ref (ad 0 5), .ref (ad 0 7), .ref (ad 0 9), .int (nI ml), .int lf_2]) := q_2
  have m_4 : (0, 0) ∈ RL := hmB 0 (by omega)
  obtain ⟨tx_5, fb_5, fe_5, hl1_5, hw2_5, q1_5, q2_5, q3_5, q4_5, hws_5⟩ := id (hLi)
  have c_6 : E1 0 1 = .inr (1, [.ref (ad 0 2), .ref (ad 0 3), .ref (ad 0 4), .int (nI len), .int (nI (wl.length))]) := q1_5
  have m_7 : (0, 1) ∈ RL := hmB 1 (by omega)
  have c_8 : E1 0 2 = .inl (kA 1, 40, .inl tx_5) := q2_5
  have m_9 : (0, 2) ∈ RL := hmB 2 (by omega)
  have c_10 : E1 0 3 = .inl (kA 0, 20, .inl fb_5) := q3_5
  have m_11 : (0, 3) ∈ RL := hmB 3 (by omega)
  have c_12 : E1 0 4 = .inl (kA 0, 20, .inl fe_5) := q4_5
  have m_13 : (0, 4) ∈ RL := hmB 4 (by omega)
  obtain ⟨cf_14, pv_14, fc_14, hcs_14, hpv_14, q7_14, q8_14, hfc_14⟩ := id (hCh)
  have c_15 : E1 0 7 = .inr (3, [.ref (ad 0 5), .ref (ad 0 8), .int (nI (L1.length)), .int cf_14, pv_14]) := q7_14
  have m_16 : (0, 7) ∈ RL := hmB 7 (by omega)
  have c_17 : E1 0 8 = .inl (kA 4, 12, .inr (.inr (.inr (.inr fc_14)))) := q8_14
  have m_18 : (0, 8) ∈ RL := hmB 8 (by omega)
  have hTD1 : TDs g E1 nd := TDs_78 hF1 hTD
  have hTL1 : TLas g ad E1 nd ml := TLas_78 hF1 hTL
  have hLW1 : LW g E1 lt wl := LW_78 hF1 hLW
  refine lv_iload_n hx hb xd_De_addRoots_2 rfl (lv_at hl 0 rfl) ?_
  refine lv_aload_n hx hb xd_De_addRoots_3 rfl (lv_at hl 1 rfl) ?_
  refine px_get (D := D) (ci := 0) (v := .ref (ad 0 1)) (C := xR_De) (T := xT_De) (N := 6) hx hb hT xi_De hown hK.1 hP m_4 c_3 rfl 0 (by decide) (hT _ k5q_0) (fun _ h9 => h9) rfl xd_De_addRoots_4 ?_
  refine px_get (D := D) (ci := 1) (v := .int (nI (wl.length))) (C := xR_Li) (T := xT_Li) (N := 5) hx hb hT xi_Li hown hK.1 hP m_7 c_6 rfl 4 (by decide) (hT _ k5q_1) (fun _ h9 => h9) rfl xd_De_addRoots_7 ?_
  refine xn_ge (a := i) (b := wl.length) (tgt := 39) hx hb xd_De_addRoots_10 (by decide) (by omega) (by omega) (fun hc19 => ?_) (fun hc19 => ?_)
  · refine lv_iconst (v := 1) hx hb xd_De_addRoots_39 (by decide) ?_
    exact W.zret (v := 1) hx hb hr rfl (fun t ht hW => ⟨⟨1, E1, rfl, ⟨L1, hCI, hCX1, hF1, Or.inl ⟨rfl, by rw [hN, show wl.length - i = 0 by omega]; rfl⟩⟩, by rw [ht]; exact hP, hD⟩, hS.F ht⟩) hS.2.2 xd_De_addRoots_40
  · refine lv_aload_n hx hb xd_De_addRoots_13 rfl (lv_at hl 1 rfl) ?_
    refine px_get (D := D) (ci := 0) (v := .ref (ad 0 7)) (C := xR_De) (T := xT_De) (N := 6) hx hb hT xi_De hown hK.1 hP m_4 c_3 rfl 2 (by decide) (hT _ k5q_7) (fun _ h9 => h9) rfl xd_De_addRoots_14 ?_
    refine lv_aload_n hx hb xd_De_addRoots_17 rfl (lv_at hl 1 rfl) ?_
    refine px_get (D := D) (ci := 0) (v := .ref (ad 0 1)) (C := xR_De) (T := xT_De) (N := 6) hx hb hT xi_De hown hK.1 hP m_4 c_3 rfl 0 (by decide) (hT _ k5q_0) (fun _ h9 => h9) rfl xd_De_addRoots_18 ?_
    refine lv_iload_n hx hb xd_De_addRoots_21 rfl (lv_at hl 0 rfl) ?_
    have hFc := px_free hD hS hA
    refine va_calli (va_runV (As := [.int (nI i)]) (rest := [.ref (ad 0 7)]) ⟨hx, hb, hml, hown, hT⟩ (xc_Li_nameAtX l D kA H.size ad E1 RL g ml nd len lt wl L1.length i (by first | assumption | omega) hLW1 (by first | assumption | omega)) (cwV 1 hT (wT_V k5q_3 k5q_4 k5q_5 k5q_6 k5q_2) rfl rfl rfl (by decide +kernel) ⟨Nat.le_of_ble_eq_true rfl, Nat.le_of_ble_eq_true rfl⟩) (px_preV hK hP hD m_7 c_6 rfl) rfl rfl hl.1 rfl (lv_room (Nat.le_of_ble_eq_true rfl)) xd_De_addRoots_22 ⟨(Nat.le_of_ble_eq_true rfl), (Nat.le_of_ble_eq_true rfl)⟩) hS (fun q _ h => hFc q h) hFc (fun r20 u21 t H1 locs ht hvm hp22 hB hz1 hk1 hS => ?_)
    obtain ⟨hP1, hD1⟩ := hB
    rw [ht] at hP1
    have hD1 := hD1.weaken (fun _ _ _ h => hFc _ h)
    generalize H1 = H at hP1 hS ⊢
    have hP := hP1
    have hD := hD1
    have hP : va_P D xcl (rp ad E1 RL) H := hP
    have hD : va_D A (rp ad E1 RL) := hD
    have hp22 : r20 = wN (g 0) wl i := hp22
    subst hp22
    have hP : va_P D xcl (rp ad E1 RL) H := hP
    have hD : va_D A (rp ad E1 RL) := hD
    have hFc := px_free hD hS hA
    refine va_calli (va_runV (As := [.int (wN (g 0) wl i)]) (rest := []) ⟨hx, hb, hml, hown, hT⟩ (xc_Ch_addRootX l D kA H.size ad E1 RL g ml nd len wl.length fi lq L1 (wN (g 0) wl i) (by first | assumption | omega) hCX1 hTD1 hTL1 (by first | assumption | omega)) (cwV 1 hT (wT_V k5q_9 k5q_10 k5q_11 k5q_12 k5q_8) rfl rfl rfl (by decide +kernel) ⟨Nat.le_of_ble_eq_true rfl, Nat.le_of_ble_eq_true rfl⟩) (px_preV hK hP hD m_16 c_15 rfl) rfl rfl hl.1 rfl (lv_room (Nat.le_of_ble_eq_true rfl)) xd_De_addRoots_25 ⟨(Nat.le_of_ble_eq_true rfl), (Nat.le_of_ble_eq_true rfl)⟩) hS (fun q _ h => hFc q h) hFc (fun r23 u24 t H1 locs ht hvm hp25 hB hz1 hk1 hS => ?_)
    obtain ⟨hP1, hD1⟩ := hB
    rw [ht] at hP1
    have hD1 := hD1.weaken (fun _ _ _ h => hFc _ h)
    generalize H1 = H at hP1 hS ⊢
    have hP := hP1
    have hD := hD1
    obtain ⟨E26, rfl⟩ : ∃ z, z = u24 := ⟨_, rfl⟩
    have hP : va_P D xcl (rp ad E26 RL) H := hP
    have hD : va_D A (rp ad E26 RL) := hD
    obtain ⟨L2, hCI, hCX2, hF9, hres⟩ := hp25
    have hCI : CI kA ad E26 RL ml nd len wl.length L2.length := hCI
    have hF2 : F78 E E26 := F78_tr hF1 hF9
    obtain ⟨hmB, hDk, hLi, hSh, hCh, hLa, hDIs, hLIs⟩ := id hCI
    rcases hres with ⟨rfl, hok9⟩ | ⟨rfl, hok9⟩
    · have hok8 := hok9
      refine lv_if_ne (tgt := 33) hx hb xd_De_addRoots_28 (by decide) (fun _ => ?_) (fun hc27 => absurd hc27 (by decide))
      refine lv_iinc (k := 0) (x := (nI i)) (v := (nI (i + 1))) hx hb xd_De_addRoots_33 hl rfl (xb_inc i 1) (Nat.le_of_ble_eq_true rfl) rfl (fun ls hl => ?_)
      have hl : lv_has ls 2 [(1, .int (nI (i + 1))), (0, .ref (ad 0 0))] := hl
      refine lv_goto (tgt := 2) hx hb xd_De_addRoots_36 (by decide) ?_
      exact ih1 (i + 1, E26, L2) _ _ _ (show wl.length - (i + 1) < wl.length - i by omega) (lv_sub hl [0, 1] rfl) hP hD hS ⟨(show (i + 1) ≤ wl.length from by first | assumption | omega), (show CI kA ad E26 RL ml nd len wl.length L2.length from hCI), (show CX ad E26 nd fi lq L2 from hCX2), (show F78 E E26 from hF2), (show aF (adG g nd fi lq) L (nmL (g 0) wl wl.length 0) = aF (adG g nd fi lq) L2 (nmL (g 0) wl (wl.length - (i + 1)) (i + 1)) from by rw [hN, nmL_s (by omega), aF_t hok9])⟩
    · have hok8 := hok9
      refine lv_if_ne (tgt := 33) hx hb xd_De_addRoots_28 (by decide) (fun hc28 => absurd (by decide) hc28) (fun _ => ?_)
      refine lv_iconst (v := 0) hx hb xd_De_addRoots_31 (by decide) ?_
      exact W.zret (v := 0) hx hb hr rfl (fun t ht hW => ⟨⟨0, E26, rfl, ⟨L2, hCI, hCX2, hF2, Or.inr ⟨rfl, by rw [hN, nmL_s (by omega), aF_f hok9]⟩⟩, by rw [ht]; exact hP, hD⟩, hS.F ht⟩) hS.2.2 xd_De_addRoots_32
