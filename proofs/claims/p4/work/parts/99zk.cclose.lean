theorem k6c_0 : (Cond.fieldLink "LayerDesk" 10 "LayerDesk" "written" "LLayerDesk$Line;") ∈ wT := wT_t (List.mem_append_left _ (List.mem_of_getElem? (i := 99) rfl)) rfl
theorem k6c_1 : (Cond.code xy_Li_append xb_Li_append 2 (some .boolean)) ∈ wT := wT_t (List.mem_append_left _ (List.mem_of_getElem? (i := 125) rfl)) rfl
theorem k6c_2 : (Cond.methodLink "LayerDesk" 45 xy_Li_append) ∈ wT := wT_t (List.mem_append_left _ (List.mem_of_getElem? (i := 122) rfl)) rfl
theorem k6c_3 : (Cond.instanceMethod xy_Li_append) ∈ wT := wT_t (List.mem_append_left _ (List.mem_of_getElem? (i := 123) rfl)) rfl
theorem k6c_4 : (Cond.selects "LayerDesk$Line" xy_Li_append xy_Li_append) ∈ wT := wT_t (List.mem_append_left _ (List.mem_of_getElem? (i := 124) rfl)) rfl
theorem k6c_5 : (Cond.initialized "LayerDesk$Line") ∈ wT := wT_t (List.mem_append_left _ (List.mem_of_getElem? (i := 2) rfl)) rfl
theorem k6c_6 : (Cond.fieldLink "LayerDesk" 38 "LayerDesk" "made" "I") ∈ wT := wT_t (List.mem_append_left _ (List.mem_of_getElem? (i := 103) rfl)) rfl
theorem k6c_7 : (Cond.code xy_De_openLayer xb_De_openLayer 3 (some (.object "LayerDesk$Layer"))) ∈ wT := wT_t (List.mem_append_left _ (List.mem_of_getElem? (i := 137) rfl)) rfl
theorem k6c_8 : (Cond.methodLink "LayerDesk" 68 xy_De_openLayer) ∈ wT := wT_t (List.mem_append_left _ (List.mem_of_getElem? (i := 134) rfl)) rfl
theorem k6c_9 : (Cond.instanceMethod xy_De_openLayer) ∈ wT := wT_t (List.mem_append_left _ (List.mem_of_getElem? (i := 136) rfl)) rfl
theorem k6c_10 : (Cond.selects "LayerDesk" xy_De_openLayer xy_De_openLayer) ∈ wT := wT_s (q := (xy_De_openLayer, 6)) (by decide +kernel) rfl
theorem k6c_11 : (Cond.initialized "LayerDesk") ∈ wT := wT_t (List.mem_append_left _ (List.mem_of_getElem? (i := 1) rfl)) rfl
theorem k6c_12 : (Cond.fieldLink "LayerDesk" 217 "LayerDesk$Layer" "parent" "LLayerDesk$Layer;") ∈ wT := wT_t (List.mem_append_right _ (List.mem_append_right _ (List.mem_append_left _ (List.mem_of_getElem? (i := 146) rfl)))) rfl
theorem k6c_13 : (Cond.code xy_De_isParentOfOpen xb_De_isParentOfOpen 4 (some .boolean)) ∈ wT := wT_t (List.mem_append_left _ (List.mem_of_getElem? (i := 141) rfl)) rfl
theorem k6c_14 : (Cond.methodLink "LayerDesk" 113 xy_De_isParentOfOpen) ∈ wT := wT_t (List.mem_append_left _ (List.mem_of_getElem? (i := 138) rfl)) rfl
theorem k6c_15 : (Cond.instanceMethod xy_De_isParentOfOpen) ∈ wT := wT_t (List.mem_append_left _ (List.mem_of_getElem? (i := 140) rfl)) rfl
theorem k6c_16 : (Cond.selects "LayerDesk" xy_De_isParentOfOpen xy_De_isParentOfOpen) ∈ wT := wT_s (q := (xy_De_isParentOfOpen, 6)) (by decide +kernel) rfl
theorem k6c_17 : (Cond.fieldLink "LayerDesk" 117 "LayerDesk$Layer" "open" "Z") ∈ wT := wT_t (List.mem_append_right _ (List.mem_append_right _ (List.mem_append_left _ (List.mem_of_getElem? (i := 152) rfl)))) rfl
set_option maxHeartbeats 4000000 in
set_option maxRecDepth 100000 in
theorem xc_De_writeX (l : Launch) (D : va_G) (kA : Nat → ClassId) (sz : Nat) (ad : Nat → Nat → Nat) (E : Nat → Nat → va_E) (RL : List (Nat × Nat)) (ml : Nat) (nd : Nat) (len : Nat) (wn : Nat) (cs : Nat) (cc9 : Int32) (hCI : CI kA ad E RL ml nd len wn cs) : Met l xy_De_write (.code xy_De_write xb_De_write 2 (some .boolean) :: wT) { frames := 1, cells := 0, slots := 0, locals := 21 } (va_Pc [.ref (ad 0 0), .int cc9] (xPre D kA sz (rp ad E RL))) (va_Qi (fun (r : Int32) (u : Nat → Nat → va_E) => ∃ len2, CI kA ad u RL ml nd len2 wn cs ∧ ((r = 0 ∧ len2 = len ∧ eA (u 0 2) = eA (E 0 2) ∧ (cc9 < 32 ∨ 126 < cc9 ∨ len = 40)) ∨ (r = 1 ∧ len2 = len + 1 ∧ eA (u 0 2) = upd (eA (E 0 2)) len (vp_nar .char cc9) ∧ len < 40 ∧ ¬ cc9 < 32 ∧ ¬ 126 < cc9)) ∧ (∀ b2 o2, ¬ (b2 = 0 ∧ o2 = 1) → ¬ (b2 = 0 ∧ o2 = 2) → u b2 o2 = E b2 o2)) (fun (u : Nat → Nat → va_E) t => va_P D xcl (rp ad u RL) t.heap ∧ va_D (va_A (rp ad E RL) sz) (rp ad u RL)) (va_A (rp ad E RL) sz)) 0 0 (va_A (rp ad E RL) sz) := by
  refine Met.ofW (cc := xb_De_write) (maxL := 2) (ret := (some .boolean)) (by decide) rfl ?_
  intro p e s m args below meth c s₁ B hml hv
  obtain ⟨rfl, hsz, hP, hK, hD0⟩ := hv
  have hx := B.exec
  have hb := B.bytes
  have hr := B.returns
  have hT := x_hT B.pre
  have hown : s.vm.findClass xR_De = some m.cls := findClass_of_methodNamed B.named
  have hlocks := B.notSynchronized
  subst hsz
  have hD := hD0.self (sz := s.heap.size)
  generalize hAe : va_A (rp ad E RL) s.heap.size = A at hD ⊢
  have hA : ∀ q : Nat, s.heap.size ≤ q → A q := fun q h => by rw [← hAe]; exact Or.inr h
  have hS : va_S A s.heap s.heap [] := va_S.rf
  have hl := lv_entry ([.ref (ad 0 0), .int cc9]) (n := 2) (Nat.le_of_ble_eq_true rfl)
  rw [lg_entry_eq]
  generalize (lg_sl ([.ref (ad 0 0), .int cc9]) ++ List.replicate (2 - (lg_sl ([.ref (ad 0 0), .int cc9])).length) Slot.unset).toArray = ls at hl ⊢
  have hl : lv_has ls 2 [(0, .ref (ad 0 0)), (1, .int cc9)] := hl
  have hP : va_P D xcl (rp ad E RL) s.heap := hP
  obtain ⟨hmB, hDk, hLi, hSh, hCh, hLa, hDIs, hLIs⟩ := id hCI
  obtain ⟨lf_1, q_1⟩ := id (hDk)
  have c_2 : E 0 0 = .inr (0, [.ref (ad 0 1), .ref (ad 0 5), .ref (ad 0 7), .ref (ad 0 9), .int (nI ml), .int lf_1]) := q_1
  have m_3 : (0, 0) ∈ RL := hmB 0 (by omega)
  obtain ⟨tx_4, fb_4, fe_4, hl1_4, hw2_4, q1_4, q2_4, q3_4, q4_4, hws_4⟩ := id (hLi)
  have c_5 : E 0 1 = .inr (1, [.ref (ad 0 2), .ref (ad 0 3), .ref (ad 0 4), .int (nI len), .int (nI wn)]) := q1_4
  have m_6 : (0, 1) ∈ RL := hmB 1 (by omega)
  have c_7 : E 0 2 = .inl (kA 1, 40, .inl tx_4) := q2_4
  have m_8 : (0, 2) ∈ RL := hmB 2 (by omega)
  have c_9 : E 0 3 = .inl (kA 0, 20, .inl fb_4) := q3_4
  have m_10 : (0, 3) ∈ RL := hmB 3 (by omega)
  have c_11 : E 0 4 = .inl (kA 0, 20, .inl fe_4) := q4_4
  have m_12 : (0, 4) ∈ RL := hmB 4 (by omega)
  obtain ⟨fd_13, hnd_13, q5_13, q6_13, hds_13⟩ := id (hSh)
  have c_14 : E 0 5 = .inr (2, [.ref (ad 0 6), .int (nI nd)]) := q5_13
  have m_15 : (0, 5) ∈ RL := hmB 5 (by omega)
  have c_16 : E 0 6 = .inl (kA 4, 12, .inr (.inr (.inr (.inr fd_13)))) := q6_13
  have m_17 : (0, 6) ∈ RL := hmB 6 (by omega)
  obtain ⟨cf_18, pv_18, fc_18, hcs_18, hpv_18, q7_18, q8_18, hfc_18⟩ := id (hCh)
  have c_19 : E 0 7 = .inr (3, [.ref (ad 0 5), .ref (ad 0 8), .int (nI cs), .int cf_18, pv_18]) := q7_18
  have m_20 : (0, 7) ∈ RL := hmB 7 (by omega)
  have c_21 : E 0 8 = .inl (kA 4, 12, .inr (.inr (.inr (.inr fc_18)))) := q8_18
  have m_22 : (0, 8) ∈ RL := hmB 8 (by omega)
  obtain ⟨fl_23, hml_23, q9_23, hla_23⟩ := id (hLa)
  have c_24 : E 0 9 = .inl (kA 5, 5, .inr (.inr (.inr (.inr fl_23)))) := q9_23
  have m_25 : (0, 9) ∈ RL := hmB 9 (by omega)
  refine lv_aload_n hx hb xd_De_write_0 rfl (lv_at hl 0 rfl) ?_
  refine px_get (D := D) (ci := 0) (v := .ref (ad 0 1)) (C := xR_De) (T := xT_De) (N := 6) hx hb hT xi_De hown hK.1 hP m_3 c_2 rfl 0 (by decide) (hT _ k6c_0) (fun _ h9 => h9) rfl xd_De_write_1 ?_
  refine lv_iload_n hx hb xd_De_write_4 rfl (lv_at hl 1 rfl) ?_
  have hFc := px_free hD hS hA
  refine va_calli (va_runV (As := [.int cc9]) (rest := []) ⟨hx, hb, hml, hown, hT⟩ (xc_Li_appendX l D kA s.heap.size ad E RL len wn tx_4 cc9 m_6 c_5 m_8 c_7 (by first | assumption | omega)) (cwV 1 hT (wT_V k6c_2 k6c_3 k6c_4 k6c_5 k6c_1) rfl rfl rfl (by decide +kernel) ⟨Nat.le_of_ble_eq_true rfl, Nat.le_of_ble_eq_true rfl⟩) (px_preV hK hP hD m_6 c_5 rfl) rfl rfl hl.1 rfl (lv_room (Nat.le_of_ble_eq_true rfl)) xd_De_write_5 ⟨(Nat.le_of_ble_eq_true rfl), (Nat.le_of_ble_eq_true rfl)⟩) hS (fun q _ h => hFc q h) hFc (fun r26 u27 t H1 locs ht hvm hp28 hB hz1 hk1 hS => ?_)
  obtain ⟨hP1, hD1⟩ := hB
  rw [ht] at hP1
  have hD1 := hD1.weaken (fun _ _ _ h => hFc _ h)
  generalize H1 = H at hP1 hS ⊢
  have hP := hP1
  have hD := hD1
  obtain ⟨E29, rfl⟩ : ∃ z, z = u27 := ⟨_, rfl⟩
  obtain ⟨w30, w31, hp35, p_32, p_33, p_34⟩ := hp28
  have p_32 : E29 0 1 = .inr (1, [.ref (ad 0 2), .ref (ad 0 3), .ref (ad 0 4), .int (nI w30), .int (nI wn)]) := p_32
  have p_33 : E29 0 2 = .inl (kA 1, 40, .inl w31) := p_33
  have p_34 : (∀ b2 o2, ¬ (b2 = 0 ∧ o2 = 1) → ¬ (b2 = 0 ∧ o2 = 2) → E29 b2 o2 = E b2 o2) := p_34
  have c_36 : E29 0 0 = .inr (0, [.ref (ad 0 1), .ref (ad 0 5), .ref (ad 0 7), .ref (ad 0 9), .int (nI ml), .int lf_1]) := (p_34 0 0 (by omega) (by omega)).trans c_2
  have c_37 : E29 0 3 = .inl (kA 0, 20, .inl fb_4) := (p_34 0 3 (by omega) (by omega)).trans c_9
  have c_38 : E29 0 4 = .inl (kA 0, 20, .inl fe_4) := (p_34 0 4 (by omega) (by omega)).trans c_11
  have c_39 : E29 0 5 = .inr (2, [.ref (ad 0 6), .int (nI nd)]) := (p_34 0 5 (by omega) (by omega)).trans c_14
  have c_40 : E29 0 6 = .inl (kA 4, 12, .inr (.inr (.inr (.inr fd_13)))) := (p_34 0 6 (by omega) (by omega)).trans c_16
  have c_41 : E29 0 7 = .inr (3, [.ref (ad 0 5), .ref (ad 0 8), .int (nI cs), .int cf_18, pv_18]) := (p_34 0 7 (by omega) (by omega)).trans c_19
  have c_42 : E29 0 8 = .inl (kA 4, 12, .inr (.inr (.inr (.inr fc_18)))) := (p_34 0 8 (by omega) (by omega)).trans c_21
  have c_43 : E29 0 9 = .inl (kA 5, 5, .inr (.inr (.inr (.inr fl_23)))) := (p_34 0 9 (by omega) (by omega)).trans c_24
  have hP : va_P D xcl (rp ad E29 RL) H := hP
  have hD : va_D A (rp ad E29 RL) := hD
  have hap : ((r26 = 0 ∧ w30 = len ∧ eA (E29 0 2) = eA (E 0 2) ∧ (cc9 < 32 ∨ 126 < cc9 ∨ len = 40)) ∨ (r26 = 1 ∧ w30 = len + 1 ∧ eA (E29 0 2) = upd (eA (E 0 2)) len (vp_nar .char cc9) ∧ len < 40 ∧ ¬ cc9 < 32 ∧ ¬ 126 < cc9)) := by
    rw [show eA (E29 0 2) = w31 from by rw [p_33]; rfl, show eA (E 0 2) = tx_4 from by rw [c_7]; rfl]; exact hp35
  have hfw : (∀ b2 o2, ¬ (b2 = 0 ∧ o2 = 1) → ¬ (b2 = 0 ∧ o2 = 2) → E29 b2 o2 = E b2 o2) := fun b2 o2 h19 h29 => by show E29 b2 o2 = _; rw [p_34 b2 o2 (by omega) (by omega)]
  have hCI : CI kA ad E29 RL ml nd w30 wn cs := ⟨hmB, ⟨lf_1, c_36⟩, ⟨w31, fb_4, fe_4, (by omega), (by omega), p_32, p_33, c_37, c_38, hws_4⟩, ⟨fd_13, (by omega), c_39, c_40, hds_13⟩, ⟨cf_18, pv_18, fc_18, (by omega), hpv_18, c_41, c_42, hfc_18⟩, ⟨fl_23, (by omega), c_43, hla_23⟩, (DIs_same (fun d9 hd9 => fun2 fun o9 => by show E29 (1 + d9) o9 = _; rw [p_34 (1 + d9) o9 (by omega) (by omega)]) (fun _ _ => rfl) (fun _ h9 => h9) hDIs), (LIs_same (Nat.le_refl _) (fun n9 hn9 => fun2 fun o9 => by show E29 (20 + n9) o9 = _; rw [p_34 (20 + n9) o9 (by omega) (by omega)]) (fun _ _ => rfl) (fun _ _ => rfl) (fun _ h9 => h9) hLIs)⟩
  obtain ⟨hmB, hDk, hLi, hSh, hCh, hLa, hDIs, hLIs⟩ := id hCI
  exact W.zret (v := r26) hx hb hr (by rcases hap with ⟨h, _⟩ | ⟨h, _⟩ <;> rw [h] <;> rfl) (fun t ht hW => ⟨⟨r26, E29, rfl, ⟨w30, hCI, hap, hfw⟩, by rw [ht]; exact hP, hD⟩, hS.F ht⟩) hS.2.2 xd_De_write_8
set_option maxHeartbeats 4000000 in
set_option maxRecDepth 100000 in
theorem xc_De_isParentOfOpenX (l : Launch) (D : va_G) (kA : Nat → ClassId) (sz : Nat) (ad : Nat → Nat → Nat) (E : Nat → Nat → va_E) (RL : List (Nat × Nat)) (g : Nat → Nat → Int32) (ml : Nat) (nd : Nat) (len : Nat) (wn : Nat) (cs : Nat) (n : Nat) (hCI : CI kA ad E RL ml nd len wn cs) (hTL : TLas g ad E nd ml) (hn9 : n < ml) : Met l xy_De_isParentOfOpen (.code xy_De_isParentOfOpen xb_De_isParentOfOpen 4 (some .boolean) :: wT) { frames := 1, cells := 0, slots := 0, locals := 22 } (va_Pc [.ref (ad 0 0), .ref (ad (20 + n) 0)] (xPre D kA sz (rp ad E RL))) (va_Qi (fun (r : Int32) (u : Unit) => (r = 1 ∧ (∃ j8, j8 < ml ∧ ¬ g 22 j8 = 0 ∧ g 19 j8 = nI n)) ∨ (r = 0 ∧ ¬ (∃ j8, j8 < ml ∧ ¬ g 22 j8 = 0 ∧ g 19 j8 = nI n))) (fun (u : Unit) t => va_P D xcl (rp ad E RL) t.heap ∧ va_D (va_A (rp ad E RL) sz) (rp ad E RL)) (va_A (rp ad E RL) sz)) 0 0 (va_A (rp ad E RL) sz) := by
  refine Met.ofW (cc := xb_De_isParentOfOpen) (maxL := 4) (ret := (some .boolean)) (by decide) rfl ?_
  intro p e s m args below meth c s₁ B hml hv
  obtain ⟨rfl, hsz, hP, hK, hD0⟩ := hv
  have hx := B.exec
  have hb := B.bytes
  have hr := B.returns
  have hT := x_hT B.pre
  have hown : s.vm.findClass xR_De = some m.cls := findClass_of_methodNamed B.named
  have hlocks := B.notSynchronized
  subst hsz
  have hD := hD0.self (sz := s.heap.size)
  generalize hAe : va_A (rp ad E RL) s.heap.size = A at hD ⊢
  have hA : ∀ q : Nat, s.heap.size ≤ q → A q := fun q h => by rw [← hAe]; exact Or.inr h
  have hS : va_S A s.heap s.heap [] := va_S.rf
  have hl := lv_entry ([.ref (ad 0 0), .ref (ad (20 + n) 0)]) (n := 4) (Nat.le_of_ble_eq_true rfl)
  rw [lg_entry_eq]
  generalize (lg_sl ([.ref (ad 0 0), .ref (ad (20 + n) 0)]) ++ List.replicate (4 - (lg_sl ([.ref (ad 0 0), .ref (ad (20 + n) 0)])).length) Slot.unset).toArray = ls at hl ⊢
  have hl : lv_has ls 4 [(0, .ref (ad 0 0)), (1, .ref (ad (20 + n) 0))] := hl
  have hP : va_P D xcl (rp ad E RL) s.heap := hP
  obtain ⟨hmB, hDk, hLi, hSh, hCh, hLa, hDIs, hLIs⟩ := id hCI
  obtain ⟨lf_1, q_1⟩ := id (hDk)
  have c_2 : E 0 0 = .inr (0, [.ref (ad 0 1), .ref (ad 0 5), .ref (ad 0 7), .ref (ad 0 9), .int (nI ml), .int lf_1]) := q_1
  have m_3 : (0, 0) ∈ RL := hmB 0 (by omega)
  obtain ⟨fl_4, hml_4, q9_4, hla_4⟩ := id (hLa)
  have c_5 : E 0 9 = .inl (kA 5, 5, .inr (.inr (.inr (.inr fl_4)))) := q9_4
  have m_6 : (0, 9) ∈ RL := hmB 9 (by omega)
  refine lv_iconst (v := 0) hx hb xd_De_isParentOfOpen_0 (by decide) ?_
  refine lv_istore_n hx hb xd_De_isParentOfOpen_1 rfl hl (Nat.le_of_ble_eq_true rfl) rfl (fun ls hl => ?_)
  have hl : lv_has ls 4 [(2, .int 0), (0, .ref (ad 0 0)), (1, .ref (ad (20 + n) 0))] := hl
  refine xlab (σ := Nat) (ml := 4) 2 (fun (i : Nat) => [(2, .int (nI i)), (0, .ref (ad 0 0)), (1, .ref (ad (20 + n) 0))]) (fun (i : Nat) => []) (fun (i : Nat) => rp ad E RL) (fun (i : Nat) => (i ≤ ml) ∧ (∀ j8, j8 < i → ¬ g 22 j8 = 0 → ¬ g 19 j8 = nI n)) (fun (i : Nat) => ml - i) ?_ 0 _ _ _ (lv_sub hl [0, 1, 2] rfl) hP hD hS ⟨(show 0 ≤ ml from by first | assumption | omega), (show ∀ j8, j8 < 0 → ¬ g 22 j8 = 0 → ¬ g 19 j8 = nI n from fun j hj => absurd hj (by omega))⟩
  intro n9 ih7 a9 ls H locs hμ hl hP hD hS hI
  subst hμ
  obtain ⟨i, rfl⟩ : ∃ z, z = a9 := ⟨_, rfl⟩
  obtain ⟨hi, hno⟩ := hI
  have hi : i ≤ ml := hi
  have hno : ∀ j8, j8 < i → ¬ g 22 j8 = 0 → ¬ g 19 j8 = nI n := hno
  have hl : lv_has ls 4 [(2, .int (nI i)), (0, .ref (ad 0 0)), (1, .ref (ad (20 + n) 0))] := hl
  have hP : va_P D xcl (rp ad E RL) H := hP
  have hD : va_D A (rp ad E RL) := hD
  refine lv_iload_n hx hb xd_De_isParentOfOpen_2 rfl (lv_at hl 0 rfl) ?_
  refine lv_aload_n hx hb xd_De_isParentOfOpen_3 rfl (lv_at hl 1 rfl) ?_
  refine px_get (D := D) (ci := 0) (v := .int (nI ml)) (C := xR_De) (T := xT_De) (N := 6) hx hb hT xi_De hown hK.1 hP m_3 c_2 rfl 4 (by decide) (hT _ k6c_6) (fun _ h9 => h9) rfl xd_De_isParentOfOpen_4 ?_
  refine xn_ge (a := i) (b := ml) (tgt := 36) hx hb xd_De_isParentOfOpen_7 (by decide) (by omega) (by omega) (fun hc8 => ?_) (fun hc8 => ?_)
  · refine lv_iconst (v := 0) hx hb xd_De_isParentOfOpen_36 (by decide) ?_
    exact W.zret (v := 0) hx hb hr rfl (fun t ht hW => ⟨⟨0, (), rfl, Or.inr ⟨rfl, fun ⟨j8, q1, q2, q3⟩ => hno j8 (by omega) q2 q3⟩, by rw [ht]; exact hP, hD⟩, hS.F ht⟩) hS.2.2 xd_De_isParentOfOpen_37
  · refine lv_aload_n hx hb xd_De_isParentOfOpen_10 rfl (lv_at hl 1 rfl) ?_
    refine lv_iload_n hx hb xd_De_isParentOfOpen_11 rfl (lv_at hl 0 rfl) ?_
    have hFc := px_free hD hS hA
    refine va_callq (va_runV (As := [.int (nI i)]) (rest := []) ⟨hx, hb, hml, hown, hT⟩ (xc_De_openLayerX l D kA H.size ad E RL g ml nd len wn cs (nI i) (by first | assumption | omega) (by first | assumption | omega)) (cwV 1 hT (wT_V k6c_8 k6c_9 k6c_10 k6c_11 k6c_7) rfl rfl rfl (by decide +kernel) ⟨Nat.le_of_ble_eq_true rfl, Nat.le_of_ble_eq_true rfl⟩) (px_preV hK hP hD m_3 c_2 rfl) rfl rfl hl.1 rfl (lv_room (Nat.le_of_ble_eq_true rfl)) xd_De_isParentOfOpen_12 ⟨(Nat.le_of_ble_eq_true rfl), (Nat.le_of_ble_eq_true rfl)⟩) hS (fun q _ h => hFc q h) hFc (fun r9 u10 t H1 locs ht hvm hp11 hB hz1 hk1 hS => ?_)
    obtain ⟨hP1, hD1⟩ := hB
    rw [ht] at hP1
    have hD1 := hD1.weaken (fun _ _ _ h => hFc _ h)
    generalize H1 = H at hP1 hS ⊢
    have hP := hP1
    have hD := hD1
    have hP : va_P D xcl (rp ad E RL) H := hP
    have hD : va_D A (rp ad E RL) := hD
    rcases hp11 with ⟨rfl, z12⟩ | ⟨z13, z14, z15, z16, rfl⟩
    · refine W.eq (g2 := F0 m 15 ls [.null]) rfl ?_
      refine lv_astore_nN hx hb xd_De_isParentOfOpen_15 rfl hl (Nat.le_of_ble_eq_true rfl) rfl (fun ls hl => ?_)
      have hl : lv_has ls 4 [(3, .null), (2, .int (nI i)), (0, .ref (ad 0 0)), (1, .ref (ad (20 + n) 0))] := hl
      refine lv_aload_nN hx hb xd_De_isParentOfOpen_16 rfl (lv_at hl 0 rfl) ?_
      refine lv_ifnullN (tgt := 30) hx hb xd_De_isParentOfOpen_17 (by decide) ?_
      refine lv_iinc (k := 1) (x := (nI i)) (v := (nI (i + 1))) hx hb xd_De_isParentOfOpen_30 hl rfl (xb_inc i 1) (Nat.le_of_ble_eq_true rfl) rfl (fun ls hl => ?_)
      have hl : lv_has ls 4 [(2, .int (nI (i + 1))), (3, .null), (0, .ref (ad 0 0)), (1, .ref (ad (20 + n) 0))] := hl
      refine lv_goto (tgt := 2) hx hb xd_De_isParentOfOpen_33 (by decide) ?_
      exact ih7 (i + 1) _ _ _ (show ml - (i + 1) < ml - i by omega) (lv_sub hl [0, 2, 3] rfl) hP hD hS ⟨(show (i + 1) ≤ ml from by first | assumption | omega), (show ∀ j8, j8 < (i + 1) → ¬ g 22 j8 = 0 → ¬ g 19 j8 = nI n from fun j hj => by
        rcases Nat.lt_or_ge j i with z | z
        · exact hno j z
        · rw [show j = i by omega]; exact fun q => absurd ⟨i, by omega, rfl, q⟩ z12)⟩
    · have hxi : z13 = i := (nI_inj (by omega) (by omega) z15).symm
      refine W.eq (g2 := F0 m 15 ls [.ref (ad (20 + z13) 0)]) rfl ?_
      refine lv_astore_n hx hb xd_De_isParentOfOpen_15 rfl hl (Nat.le_of_ble_eq_true rfl) rfl (fun ls hl => ?_)
      have hl : lv_has ls 4 [(3, .ref (ad (20 + z13) 0)), (2, .int (nI i)), (0, .ref (ad 0 0)), (1, .ref (ad (20 + n) 0))] := hl
      refine lv_aload_n hx hb xd_De_isParentOfOpen_16 rfl (lv_at hl 0 rfl) ?_
      refine lv_ifnull hx hb xd_De_isParentOfOpen_17 ?_
      refine lv_aload_n hx hb xd_De_isParentOfOpen_20 rfl (lv_at hl 0 rfl) ?_
      obtain ⟨m0_17, m1_17, pv_17, op_17, mk_17, fm_17, hmk_17, hpv_17, q0_17, q1_17, hk_17⟩ := id (hLIs z13 (by omega))
      have c_18 : E (20 + z13) 0 = .inr (5, [.int (nI z13), pv_17, .ref (ad (20 + z13) 1), .int op_17]) := q0_17
      have m_19 : (20 + z13, 0) ∈ RL := m0_17
      have c_20 : E (20 + z13) 1 = .inl (kA 6, mk_17, .inr (.inr (.inr (.inr fm_17)))) := q1_17
      have m_21 : (20 + z13, 1) ∈ RL := m1_17
      obtain ⟨top_17, ⟨lq_17, hlq_17, h19_17, hpv2_17⟩, h20_17, tmd_17⟩ := TLa_get c_18 c_20 (hTL z13 (by omega))
      have c_22 : E (20 + z13) 0 = .inr (5, [.int (nI z13), (lyv ad lq_17), .ref (ad (20 + z13) 1), .int op_17]) := by rw [← hpv2_17]; exact c_18
      have i20_17 : iN (g 20 z13) = mk_17 := by rw [h20_17, iN_nI (by omega)]
      refine px_get (D := D) (ci := 5) (v := (lyv ad lq_17)) (C := xR_Ly) (T := xT_Ly) (N := 4) hx hb hT xi_Ly hown hK.1 hP m_19 c_22 rfl 1 (by decide) (hT _ k6c_12) (fun _ h9 => h9) rfl xd_De_isParentOfOpen_21 ?_
      rcases (show lq_17 = 0 ∨ ∃ yq, lq_17 = yq + 1 from by rcases Nat.eq_zero_or_pos lq_17 with q | q; exact Or.inl q; exact Or.inr ⟨lq_17 - 1, by omega⟩) with hyq | ⟨yq, hyq⟩
      · refine W.eq (g2 := F0 m 24 ls [.null]) (by rw [lyv_0 hyq]) ?_
        refine lv_aload_n hx hb xd_De_isParentOfOpen_24 rfl (lv_at hl 3 rfl) ?_
        refine lv_acmp_ne (rx := none) (ry := (some (ad (20 + n) 0))) (tgt := 30) hx hb xd_De_isParentOfOpen_25 (by decide) (fun hc23 => ?_) (fun hc23 => ?_)
        · refine lv_iinc (k := 1) (x := (nI i)) (v := (nI (i + 1))) hx hb xd_De_isParentOfOpen_30 hl rfl (xb_inc i 1) (Nat.le_of_ble_eq_true rfl) rfl (fun ls hl => ?_)
          have hl : lv_has ls 4 [(2, .int (nI (i + 1))), (3, .ref (ad (20 + z13) 0)), (0, .ref (ad 0 0)), (1, .ref (ad (20 + n) 0))] := hl
          refine lv_goto (tgt := 2) hx hb xd_De_isParentOfOpen_33 (by decide) ?_
          exact ih7 (i + 1) _ _ _ (show ml - (i + 1) < ml - i by omega) (lv_sub hl [0, 2, 3] rfl) hP hD hS ⟨(show (i + 1) ≤ ml from by first | assumption | omega), (show ∀ j8, j8 < (i + 1) → ¬ g 22 j8 = 0 → ¬ g 19 j8 = nI n from fun j hj => by
        rcases Nat.lt_or_ge j i with z | z
        · exact hno j z
        · rw [show j = i by omega]; exact fun _ q => m1_ne (n := n) (by omega) (by rw [← q, ← hxi, h19_17, hyq]))⟩
        · refine lv_iconst (v := 1) hx hb xd_De_isParentOfOpen_28 (by decide) ?_
          exact W.zret (v := 1) hx hb hr rfl (fun t ht hW => ⟨⟨1, (), rfl, absurd hc23 (fun q => nomatch q), by rw [ht]; exact hP, hD⟩, hS.F ht⟩) hS.2.2 xd_De_isParentOfOpen_29
      · refine W.eq (g2 := F0 m 24 ls [.ref (ad (20 + yq) 0)]) (by rw [lyv_s hyq]) ?_
        refine lv_aload_n hx hb xd_De_isParentOfOpen_24 rfl (lv_at hl 3 rfl) ?_
        refine lv_acmp_ne (rx := (some (ad (20 + yq) 0))) (ry := (some (ad (20 + n) 0))) (tgt := 30) hx hb xd_De_isParentOfOpen_25 (by decide) (fun hc24 => ?_) (fun hc24 => ?_)
        · refine lv_iinc (k := 1) (x := (nI i)) (v := (nI (i + 1))) hx hb xd_De_isParentOfOpen_30 hl rfl (xb_inc i 1) (Nat.le_of_ble_eq_true rfl) rfl (fun ls hl => ?_)
          have hl : lv_has ls 4 [(2, .int (nI (i + 1))), (3, .ref (ad (20 + z13) 0)), (0, .ref (ad 0 0)), (1, .ref (ad (20 + n) 0))] := hl
          refine lv_goto (tgt := 2) hx hb xd_De_isParentOfOpen_33 (by decide) ?_
          exact ih7 (i + 1) _ _ _ (show ml - (i + 1) < ml - i by omega) (lv_sub hl [0, 2, 3] rfl) hP hD hS ⟨(show (i + 1) ≤ ml from by first | assumption | omega), (show ∀ j8, j8 < (i + 1) → ¬ g 22 j8 = 0 → ¬ g 19 j8 = nI n from fun j hj => by
        rcases Nat.lt_or_ge j i with z | z
        · exact hno j z
        · rw [show j = i by omega]; exact fun _ q => by
            rw [← hxi, h19_17, hyq, s1_eq (by omega)] at q
            exact hc24 (by rw [nI_inj (by omega) (by omega) q]))⟩
        · refine lv_iconst (v := 1) hx hb xd_De_isParentOfOpen_28 (by decide) ?_
          exact W.zret (v := 1) hx hb hr rfl (fun t ht hW => ⟨⟨1, (), rfl, Or.inl ⟨rfl, z13, z14, z16, by
        have e9 := (rp_inj hD (hLIs yq (by omega)).1 (hLIs n hn9).1 (Option.some.inj hc24)).1
        rw [h19_17, hyq, s1_eq (by omega), show yq = n by omega]⟩, by rw [ht]; exact hP, hD⟩, hS.F ht⟩) hS.2.2 xd_De_isParentOfOpen_29
set_option maxHeartbeats 4000000 in
set_option maxRecDepth 100000 in
theorem xc_De_closeX (l : Launch) (D : va_G) (kA : Nat → ClassId) (sz : Nat) (ad : Nat → Nat → Nat) (E : Nat → Nat → va_E) (RL : List (Nat × Nat)) (g : Nat → Nat → Int32) (ml : Nat) (nd : Nat) (len : Nat) (wn : Nat) (cs : Nat) (ix : Int32) (hCI : CI kA ad E RL ml nd len wn cs) (hTL : TLas g ad E nd ml) : Met l xy_De_close (.code xy_De_close xb_De_close 3 (some .boolean) :: wT) { frames := 2, cells := 0, slots := 0, locals := 45 } (va_Pc [.ref (ad 0 0), .int ix] (xPre D kA sz (rp ad E RL))) (va_Qi (fun (r : Int32) (u : Nat → Nat → va_E) => CI kA ad u RL ml nd len wn cs ∧ (∀ b2 o2, (¬ o2 = 0 ∨ b2 < 20) → u b2 o2 = E b2 o2) ∧ TLas (clF ml g ix) ad u nd ml ∧ ((r = 1 ∧ clQ g ml ix) ∨ (r = 0 ∧ ¬ clQ g ml ix))) (fun (u : Nat → Nat → va_E) t => va_P D xcl (rp ad u RL) t.heap ∧ va_D (va_A (rp ad E RL) sz) (rp ad u RL)) (va_A (rp ad E RL) sz)) 0 0 (va_A (rp ad E RL) sz) := by
  refine Met.ofW (cc := xb_De_close) (maxL := 3) (ret := (some .boolean)) (by decide) rfl ?_
  intro p e s m args below meth c s₁ B hml hv
  obtain ⟨rfl, hsz, hP, hK, hD0⟩ := hv
  have hx := B.exec
  have hb := B.bytes
  have hr := B.returns
  have hT := x_hT B.pre
  have hown : s.vm.findClass xR_De = some m.cls := findClass_of_methodNamed B.named
  have hlocks := B.notSynchronized
  subst hsz
  have hD := hD0.self (sz := s.heap.size)
  generalize hAe : va_A (rp ad E RL) s.heap.size = A at hD ⊢
  have hA : ∀ q : Nat, s.heap.size ≤ q → A q := fun q h => by rw [← hAe]; exact Or.inr h
  have hS : va_S A s.heap s.heap [] := va_S.rf
  have hl := lv_entry ([.ref (ad 0 0), .int ix]) (n := 3) (Nat.le_of_ble_eq_true rfl)
  rw [lg_entry_eq]
  generalize (lg_sl ([.ref (ad 0 0), .int ix]) ++ List.replicate (3 - (lg_sl ([.ref (ad 0 0), .int ix])).length) Slot.unset).toArray = ls at hl ⊢
  have hl : lv_has ls 3 [(0, .ref (ad 0 0)), (1, .int ix)] := hl
  have hP : va_P D xcl (rp ad E RL) s.heap := hP
  obtain ⟨hmB, hDk, hLi, hSh, hCh, hLa, hDIs, hLIs⟩ := id hCI
  obtain ⟨lf_1, q_1⟩ := id (hDk)
  have c_2 : E 0 0 = .inr (0, [.ref (ad 0 1), .ref (ad 0 5), .ref (ad 0 7), .ref (ad 0 9), .int (nI ml), .int lf_1]) := q_1
  have m_3 : (0, 0) ∈ RL := hmB 0 (by omega)
  obtain ⟨tx_4, fb_4, fe_4, hl1_4, hw2_4, q1_4, q2_4, q3_4, q4_4, hws_4⟩ := id (hLi)
  have c_5 : E 0 1 = .inr (1, [.ref (ad 0 2), .ref (ad 0 3), .ref (ad 0 4), .int (nI len), .int (nI wn)]) := q1_4
  have m_6 : (0, 1) ∈ RL := hmB 1 (by omega)
  have c_7 : E 0 2 = .inl (kA 1, 40, .inl tx_4) := q2_4
  have m_8 : (0, 2) ∈ RL := hmB 2 (by omega)
  have c_9 : E 0 3 = .inl (kA 0, 20, .inl fb_4) := q3_4
  have m_10 : (0, 3) ∈ RL := hmB 3 (by omega)
  have c_11 : E 0 4 = .inl (kA 0, 20, .inl fe_4) := q4_4
  have m_12 : (0, 4) ∈ RL := hmB 4 (by omega)
  obtain ⟨fd_13, hnd_13, q5_13, q6_13, hds_13⟩ := id (hSh)
  have c_14 : E 0 5 = .inr (2, [.ref (ad 0 6), .int (nI nd)]) := q5_13
  have m_15 : (0, 5) ∈ RL := hmB 5 (by omega)
  have c_16 : E 0 6 = .inl (kA 4, 12, .inr (.inr (.inr (.inr fd_13)))) := q6_13
  have m_17 : (0, 6) ∈ RL := hmB 6 (by omega)
  obtain ⟨cf_18, pv_18, fc_18, hcs_18, hpv_18, q7_18, q8_18, hfc_18⟩ := id (hCh)
  have c_19 : E 0 7 = .inr (3, [.ref (ad 0 5), .ref (ad 0 8), .int (nI cs), .int cf_18, pv_18]) := q7_18
  have m_20 : (0, 7) ∈ RL := hmB 7 (by omega)
  have c_21 : E 0 8 = .inl (kA 4, 12, .inr (.inr (.inr (.inr fc_18)))) := q8_18
  have m_22 : (0, 8) ∈ RL := hmB 8 (by omega)
  obtain ⟨fl_23, hml_23, q9_23, hla_23⟩ := id (hLa)
  have c_24 : E 0 9 = .inl (kA 5, 5, .inr (.inr (.inr (.inr fl_23)))) := q9_23
  have m_25 : (0, 9) ∈ RL := hmB 9 (by omega)
  refine lv_aload_n hx hb xd_De_close_0 rfl (lv_at hl 0 rfl) ?_
  refine lv_iload_n hx hb xd_De_close_1 rfl (lv_at hl 1 rfl) ?_
  have hFc := px_free hD hS hA
  refine va_callq (va_runV (As := [.int ix]) (rest := []) ⟨hx, hb, hml, hown, hT⟩ (xc_De_openLayerX l D kA s.heap.size ad E RL g ml nd len wn cs ix (by first | assumption | omega) (by first | assumption | omega)) (cwV 1 hT (wT_V k6c_8 k6c_9 k6c_10 k6c_11 k6c_7) rfl rfl rfl (by decide +kernel) ⟨Nat.le_of_ble_eq_true rfl, Nat.le_of_ble_eq_true rfl⟩) (px_preV hK hP hD m_3 c_2 rfl) rfl rfl hl.1 rfl (lv_room (Nat.le_of_ble_eq_true rfl)) xd_De_close_2 ⟨(Nat.le_of_ble_eq_true rfl), (Nat.le_of_ble_eq_true rfl)⟩) hS (fun q _ h => hFc q h) hFc (fun r26 u27 t H1 locs ht hvm hp28 hB hz1 hk1 hS => ?_)
  obtain ⟨hP1, hD1⟩ := hB
  rw [ht] at hP1
  have hD1 := hD1.weaken (fun _ _ _ h => hFc _ h)
  generalize H1 = H at hP1 hS ⊢
  have hP := hP1
  have hD := hD1
  have hP : va_P D xcl (rp ad E RL) H := hP
  have hD : va_D A (rp ad E RL) := hD
  rcases hp28 with ⟨rfl, z29⟩ | ⟨z30, z31, z32, z33, rfl⟩
  · refine W.eq (g2 := F0 m 5 ls [.null]) rfl ?_
    refine lv_astore_nN hx hb xd_De_close_5 rfl hl (Nat.le_of_ble_eq_true rfl) rfl (fun ls hl => ?_)
    have hl : lv_has ls 3 [(2, .null), (0, .ref (ad 0 0)), (1, .int ix)] := hl
    refine lv_aload_nN hx hb xd_De_close_6 rfl (lv_at hl 0 rfl) ?_
    refine lv_ifnullN (tgt := 18) hx hb xd_De_close_7 (by decide) ?_
    refine lv_iconst (v := 0) hx hb xd_De_close_18 (by decide) ?_
    exact W.zret (v := 0) hx hb hr rfl (fun t ht hW => ⟨⟨0, E, rfl, ⟨hCI, fun _ _ _ => rfl, by rw [← clF_no (fun q => z29 q.1)]; exact hTL, Or.inr ⟨rfl, (fun q => z29 q.1)⟩⟩, by rw [ht]; exact hP, hD⟩, hS.F ht⟩) hS.2.2 xd_De_close_19
  · refine W.eq (g2 := F0 m 5 ls [.ref (ad (20 + z30) 0)]) rfl ?_
    refine lv_astore_n hx hb xd_De_close_5 rfl hl (Nat.le_of_ble_eq_true rfl) rfl (fun ls hl => ?_)
    have hl : lv_has ls 3 [(2, .ref (ad (20 + z30) 0)), (0, .ref (ad 0 0)), (1, .int ix)] := hl
    refine lv_aload_n hx hb xd_De_close_6 rfl (lv_at hl 0 rfl) ?_
    refine lv_ifnull hx hb xd_De_close_7 ?_
    refine lv_aload_n hx hb xd_De_close_10 rfl (lv_at hl 1 rfl) ?_
    refine lv_aload_n hx hb xd_De_close_11 rfl (lv_at hl 0 rfl) ?_
    have hFc := px_free hD hS hA
    refine va_calli (va_runV (As := [.ref (ad (20 + z30) 0)]) (rest := []) ⟨hx, hb, hml, hown, hT⟩ (xc_De_isParentOfOpenX l D kA H.size ad E RL g ml nd len wn cs z30 (by first | assumption | omega) (by first | assumption | omega) z31) (cwV 1 hT (wT_V k6c_14 k6c_15 k6c_16 k6c_11 k6c_13) rfl rfl rfl (by decide +kernel) ⟨Nat.le_of_ble_eq_true rfl, Nat.le_of_ble_eq_true rfl⟩) (px_preV hK hP hD m_3 c_2 rfl) rfl rfl hl.1 rfl (lv_room (Nat.le_of_ble_eq_true rfl)) xd_De_close_12 ⟨(Nat.le_of_ble_eq_true rfl), (Nat.le_of_ble_eq_true rfl)⟩) hS (fun q _ h => hFc q h) hFc (fun r34 u35 t H1 locs ht hvm hp36 hB hz1 hk1 hS => ?_)
    obtain ⟨hP1, hD1⟩ := hB
    rw [ht] at hP1
    have hD1 := hD1.weaken (fun _ _ _ h => hFc _ h)
    generalize H1 = H at hP1 hS ⊢
    have hP := hP1
    have hD := hD1
    have hP : va_P D xcl (rp ad E RL) H := hP
    have hD : va_D A (rp ad E RL) := hD
    rcases hp36 with ⟨rfl, z37⟩ | ⟨rfl, z38⟩
    · refine W.eq (g2 := F0 m 15 ls [.int 1]) rfl ?_
      refine lv_if_eq (tgt := 20) hx hb xd_De_close_15 (by decide) (fun hc39 => absurd hc39 (by decide)) (fun _ => ?_)
      refine lv_iconst (v := 0) hx hb xd_De_close_18 (by decide) ?_
      exact W.zret (v := 0) hx hb hr rfl (fun t ht hW => ⟨⟨0, E, rfl, ⟨hCI, fun _ _ _ => rfl, by rw [← clF_no (fun q => by obtain ⟨j9, q1, q2, q3⟩ := z37; exact q.2 j9 q1 q2 (by rw [q3, z32]))]; exact hTL, Or.inr ⟨rfl, (fun q => by obtain ⟨j9, q1, q2, q3⟩ := z37; exact q.2 j9 q1 q2 (by rw [q3, z32]))⟩⟩, by rw [ht]; exact hP, hD⟩, hS.F ht⟩) hS.2.2 xd_De_close_19
    · refine W.eq (g2 := F0 m 15 ls [.int 0]) rfl ?_
      refine lv_if_eq (tgt := 20) hx hb xd_De_close_15 (by decide) (fun _ => ?_) (fun hc40 => absurd (by decide) hc40)
      obtain ⟨m0_41, m1_41, pv_41, op_41, mk_41, fm_41, hmk_41, hpv_41, q0_41, q1_41, hk_41⟩ := id (hLIs z30 (by omega))
      have c_42 : E (20 + z30) 0 = .inr (5, [.int (nI z30), pv_41, .ref (ad (20 + z30) 1), .int op_41]) := q0_41
      have m_43 : (20 + z30, 0) ∈ RL := m0_41
      have c_44 : E (20 + z30) 1 = .inl (kA 6, mk_41, .inr (.inr (.inr (.inr fm_41)))) := q1_41
      have m_45 : (20 + z30, 1) ∈ RL := m1_41
      obtain ⟨top_41, ⟨lq_41, hlq_41, h19_41, hpv2_41⟩, h20_41, tmd_41⟩ := TLa_get c_42 c_44 (hTL z30 (by omega))
      have c_46 : E (20 + z30) 0 = .inr (5, [.int (nI z30), (lyv ad lq_41), .ref (ad (20 + z30) 1), .int op_41]) := by rw [← hpv2_41]; exact c_42
      have i20_41 : iN (g 20 z30) = mk_41 := by rw [h20_41, iN_nI (by omega)]
      refine lv_aload_n hx hb xd_De_close_20 rfl (lv_at hl 0 rfl) ?_
      refine lv_iconst (v := 0) hx hb xd_De_close_21 (by decide) ?_
      refine px_put (D := D) (ci := 5) (v := .int 0) (ty := .boolean) (C := xR_Ly) (T := xT_Ly) (N := 4) hx hb hT xi_Ly xt_Ly xt_Ly_ok xn_Ly hown hK.1 hP hD hS m_43 c_46 rfl 3 (by decide) (hT _ k6c_17) (fun _ h9 => h9) rfl (by decide +kernel) rfl rfl (Nat.le_of_ble_eq_true rfl) xd_De_close_22 (fun H locs hP hD hS => ?_)
      have hP : va_P D xcl (rp ad (up2 E (20 + z30) 0 (.inr (5, [.int (nI z30), (lyv ad lq_41), .ref (ad (20 + z30) 1), .int 0]))) RL) H := hP
      have hD : va_D A (rp ad (up2 E (20 + z30) 0 (.inr (5, [.int (nI z30), (lyv ad lq_41), .ref (ad (20 + z30) 1), .int 0]))) RL) := hD
      generalize hE48 : up2 E (20 + z30) 0 (.inr (5, [.int (nI z30), (lyv ad lq_41), .ref (ad (20 + z30) 1), .int 0])) = E47 at hP hD
      have fE49 : ∀ b2 o2, ¬ (b2 = 20 + z30 ∧ o2 = 0) → E47 b2 o2 = E b2 o2 := fun b2 o2 h9 => by rw [← hE48]; exact up2_ne (by omega)
      have c_50 : E47 (20 + z30) 0 = .inr (5, [.int (nI z30), (lyv ad lq_41), .ref (ad (20 + z30) 1), .int 0]) := by rw [← hE48]; exact up2_eq
      have c_51 : E47 0 0 = .inr (0, [.ref (ad 0 1), .ref (ad 0 5), .ref (ad 0 7), .ref (ad 0 9), .int (nI ml), .int lf_1]) := (fE49 0 0 (by omega)).trans c_2
      have c_52 : E47 0 1 = .inr (1, [.ref (ad 0 2), .ref (ad 0 3), .ref (ad 0 4), .int (nI len), .int (nI wn)]) := (fE49 0 1 (by omega)).trans c_5
      have c_53 : E47 0 2 = .inl (kA 1, 40, .inl tx_4) := (fE49 0 2 (by omega)).trans c_7
      have c_54 : E47 0 3 = .inl (kA 0, 20, .inl fb_4) := (fE49 0 3 (by omega)).trans c_9
      have c_55 : E47 0 4 = .inl (kA 0, 20, .inl fe_4) := (fE49 0 4 (by omega)).trans c_11
      have c_56 : E47 0 5 = .inr (2, [.ref (ad 0 6), .int (nI nd)]) := (fE49 0 5 (by omega)).trans c_14
      have c_57 : E47 0 6 = .inl (kA 4, 12, .inr (.inr (.inr (.inr fd_13)))) := (fE49 0 6 (by omega)).trans c_16
      have c_58 : E47 0 7 = .inr (3, [.ref (ad 0 5), .ref (ad 0 8), .int (nI cs), .int cf_18, pv_18]) := (fE49 0 7 (by omega)).trans c_19
      have c_59 : E47 0 8 = .inl (kA 4, 12, .inr (.inr (.inr (.inr fc_18)))) := (fE49 0 8 (by omega)).trans c_21
      have c_60 : E47 0 9 = .inl (kA 5, 5, .inr (.inr (.inr (.inr fl_23)))) := (fE49 0 9 (by omega)).trans c_24
      have c_61 : E47 (20 + z30) 1 = .inl (kA 6, mk_41, .inr (.inr (.inr (.inr fm_41)))) := (fE49 (20 + z30) 1 (by omega)).trans c_44
      have hclq : clQ g ml ix := ⟨⟨z30, z31, z32, z33⟩, fun j9 h19 h29 h39 => z38 ⟨j9, h19, h29, by rw [h39, z32]⟩⟩
      have hTLc : TLas (clF ml g ix) ad E47 nd ml := by
        have q := clF_ok (g := g) (nl := ml) (la := z30) (x := 0) (by omega) (by rw [← z32]; exact hclq.1) (by rw [← z32]; exact hclq.2) rfl
        rw [z32, ← q]
        exact TLas_cl c_46 c_50 (fun b2 o2 h9 => by show E47 b2 o2 = _; rw [fE49 b2 o2 (by omega)]) hTL
      have hfc9 : ∀ b2 o2, (¬ o2 = 0 ∨ b2 < 20) → E47 b2 o2 = E b2 o2 := fun b2 o2 h9 => by show E47 b2 o2 = _; rw [fE49 b2 o2 (by omega)]
      have hCI : CI kA ad E47 RL ml nd len wn cs := ⟨hmB, ⟨lf_1, c_51⟩, ⟨tx_4, fb_4, fe_4, (by omega), (by omega), c_52, c_53, c_54, c_55, hws_4⟩, ⟨fd_13, (by omega), c_56, c_57, hds_13⟩, ⟨cf_18, pv_18, fc_18, (by omega), hpv_18, c_58, c_59, hfc_18⟩, ⟨fl_23, (by omega), c_60, hla_23⟩, (DIs_same (fun d9 hd9 => fun2 fun o9 => by show E47 (1 + d9) o9 = _; rw [fE49 (1 + d9) o9 (by omega)]) (fun _ _ => rfl) (fun _ h9 => h9) hDIs), (LIs_set (x := z30) (fun n9 hn9 hx9 => fun2 fun o9 => by show E47 (20 + n9) o9 = _; rw [fE49 (20 + n9) o9 (by omega)]) ⟨m0_41, m1_41, (lyv ad lq_41), 0, mk_41, fm_41, hmk_41, (by rw [← hpv2_41]; exact hpv_41), c_50, c_61, fun k9 hk9 => ⟨(hk_41 k9 hk9).1, MEI_ext (fun o9 ho9 => by show E47 (20 + z30) o9 = _; rw [fE49 (20 + z30) o9 (by omega)]) (hk_41 k9 hk9).2⟩⟩ hLIs)⟩
      obtain ⟨hmB, hDk, hLi, hSh, hCh, hLa, hDIs, hLIs⟩ := id hCI
      refine lv_iconst (v := 1) hx hb xd_De_close_25 (by decide) ?_
      exact W.zret (v := 1) hx hb hr rfl (fun t ht hW => ⟨⟨1, E47, rfl, ⟨hCI, hfc9, hTLc, Or.inl ⟨rfl, hclq⟩⟩, by rw [ht]; exact hP, hD⟩, hS.F ht⟩) hS.2.2 xd_De_close_26
