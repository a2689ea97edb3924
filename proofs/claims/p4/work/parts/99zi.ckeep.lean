theorem k6b_0 : (Cond.fieldLink "LayerDesk" 38 "LayerDesk" "made" "I") ∈ wT := wT_t (List.mem_append_left _ (List.mem_of_getElem? (i := 103) rfl)) rfl
theorem k6b_1 : (Cond.fieldLink "LayerDesk" 34 "LayerDesk" "layers" "[LLayerDesk$Layer;") ∈ wT := wT_t (List.mem_append_left _ (List.mem_of_getElem? (i := 102) rfl)) rfl
theorem k6b_2 : (Cond.fieldLink "LayerDesk" 128 "LayerDesk$Layer" "members" "[LLayerDesk$Member;") ∈ wT := wT_t (List.mem_append_right _ (List.mem_append_right _ (List.mem_append_left _ (List.mem_of_getElem? (i := 150) rfl)))) rfl
theorem k6b_3 : (Cond.fieldLink "LayerDesk" 136 "LayerDesk$Member" "descriptor" "LLayerDesk$Descriptor;") ∈ wT := wT_t (List.mem_append_right _ (List.mem_append_right _ (List.mem_append_left _ (List.mem_of_getElem? (i := 185) rfl)))) rfl
theorem k6b_4 : (Cond.fieldLink "LayerDesk" 214 "LayerDesk$Descriptor" "settled" "Z") ∈ wT := wT_t (List.mem_append_right _ (List.mem_append_left _ (List.mem_of_getElem? (i := 84) rfl))) rfl
set_option maxHeartbeats 4000000 in
set_option maxRecDepth 100000 in
theorem xc_De_keepX (l : Launch) (D : va_G) (kA : Nat → ClassId) (sz : Nat) (ad : Nat → Nat → Nat) (E : Nat → Nat → va_E) (RL : List (Nat × Nat)) (g : Nat → Nat → Int32) (ml : Nat) (nd : Nat) (len : Nat) (wn : Nat) (cs : Nat) (L : List Nat) (hCI : CI kA ad E RL ml nd len wn cs) (hLI : LI kA ad E RL nd ml) (hml5 : ml < 5) (hTD : TDs g E nd) (hTLx : TLas g ad E nd (ml + 1)) (hmL : mcv g ml = L.length) (hmD : ∀ k, k < L.length → mdv g ml k = L.getD k 0) : Met l xy_De_keep (.code xy_De_keep xb_De_keep 3 none :: wT) { frames := 0, cells := 0, slots := 0, locals := 0 } (va_Pc [.ref (ad 0 0), .ref (ad (20 + ml) 0)] (xPre D kA sz (rp ad E RL))) (va_Qv (fun (u : Nat → Nat → va_E) => CI kA ad u RL (ml + 1) nd len wn cs ∧ TDs (gKl g L) u nd ∧ (∀ n9, n9 < ml + 1 → u (20 + n9) = E (20 + n9)) ∧ eI (u 0 0) 5 = eI (E 0 0) 5) (fun (u : Nat → Nat → va_E) t => va_P D xcl (rp ad u RL) t.heap ∧ va_D (va_A (rp ad E RL) sz) (rp ad u RL)) (va_A (rp ad E RL) sz)) 0 0 (va_A (rp ad E RL) sz) := by
  refine Met.ofW (cc := xb_De_keep) (maxL := 3) (ret := none) (by decide) rfl ?_
  intro p e s m args below meth c s₁ B hml hv
  obtain ⟨rfl, hsz, hP, hK, hD0⟩ := hv
  have hx := B.exec
  have hb := B.bytes
  have hr := B.returns
  have hT := x_hT B.pre
  have hown : s.vm.findClass xR_De = some m.cls := findClass_of_methodNamed B.named
  have hlocks := B.notSynchronized
  subst hsz
  have hD := hD0.self (sz := s.heap.size)
  generalize hAe : va_A (rp ad E RL) s.heap.size = A at hD ⊢
  have hA : ∀ q : Nat, s.heap.size ≤ q → A q := fun q h => by rw [← hAe]; exact Or.inr h
  have hS : va_S A s.heap s.heap [] := va_S.rf
  have hl := lv_entry ([.ref (ad 0 0), .ref (ad (20 + ml) 0)]) (n := 3) (Nat.le_of_ble_eq_true rfl)
  rw [lg_entry_eq]
  generalize (lg_sl ([.ref (ad 0 0), .ref (ad (20 + ml) 0)]) ++ List.replicate (3 - (lg_sl ([.ref (ad 0 0), .ref (ad (20 + ml) 0)])).length) Slot.unset).toArray = ls at hl ⊢
  have hl : lv_has ls 3 [(0, .ref (ad 0 0)), (1, .ref (ad (20 + ml) 0))] := hl
  have hP : va_P D xcl (rp ad E RL) s.heap := hP
  obtain ⟨hmB, hDk, hLi, hSh, hCh, hLa, hDIs, hLIs⟩ := id hCI
  obtain ⟨lf_1, q_1⟩ := id (hDk)
  have c_2 : E 0 0 = .inr (0, [.ref (ad 0 1), .ref (ad 0 5), .ref (ad 0 7), .ref (ad 0 9), .int (nI ml), .int lf_1]) := q_1
  have m_3 : (0, 0) ∈ RL := hmB 0 (by omega)
  obtain ⟨tx_4, fb_4, fe_4, hl1_4, hw2_4, q1_4, q2_4, q3_4, q4_4, hws_4⟩ := id (hLi)
  have c_5 : E 0 1 = .inr (1, [.ref (ad 0 2), .ref (ad 0 3), .ref (ad 0 4), .int (nI len), .int (nI wn)]) := q1_4
  have m_6 : (0, 1) ∈ RL := hmB 1 (by omega)
  have c_7 : E 0 2 = .inl (kA 1, 40, .inl tx_4) := q2_4
  have m_8 : (0, 2) ∈ RL := hmB 2 (by omega)
  have c_9 : E 0 3 = .inl (kA 0, 20, .inl fb_4) := q3_4
  have m_10 : (0, 3) ∈ RL := hmB 3 (by omega)
  have c_11 : E 0 4 = .inl (kA 0, 20, .inl fe_4) := q4_4
  have m_12 : (0, 4) ∈ RL := hmB 4 (by omega)
  obtain ⟨fd_13, hnd_13, q5_13, q6_13, hds_13⟩ := id (hSh)
  have c_14 : E 0 5 = .inr (2, [.ref (ad 0 6), .int (nI nd)]) := q5_13
  have m_15 : (0, 5) ∈ RL := hmB 5 (by omega)
  have c_16 : E 0 6 = .inl (kA 4, 12, .inr (.inr (.inr (.inr fd_13)))) := q6_13
  have m_17 : (0, 6) ∈ RL := hmB 6 (by omega)
  obtain ⟨cf_18, pv_18, fc_18, hcs_18, hpv_18, q7_18, q8_18, hfc_18⟩ := id (hCh)
  have c_19 : E 0 7 = .inr (3, [.ref (ad 0 5), .ref (ad 0 8), .int (nI cs), .int cf_18, pv_18]) := q7_18
  have m_20 : (0, 7) ∈ RL := hmB 7 (by omega)
  have c_21 : E 0 8 = .inl (kA 4, 12, .inr (.inr (.inr (.inr fc_18)))) := q8_18
  have m_22 : (0, 8) ∈ RL := hmB 8 (by omega)
  obtain ⟨fl_23, hml_23, q9_23, hla_23⟩ := id (hLa)
  have c_24 : E 0 9 = .inl (kA 5, 5, .inr (.inr (.inr (.inr fl_23)))) := q9_23
  have m_25 : (0, 9) ∈ RL := hmB 9 (by omega)
  obtain ⟨m0_26, m1_26, pv_26, op_26, mk_26, fm_26, hmk_26, hpv_26, q0_26, q1_26, hk_26⟩ := id (hLI)
  have c_27 : E (20 + ml) 0 = .inr (5, [.int (nI ml), pv_26, .ref (ad (20 + ml) 1), .int op_26]) := q0_26
  have m_28 : (20 + ml, 0) ∈ RL := m0_26
  have c_29 : E (20 + ml) 1 = .inl (kA 6, mk_26, .inr (.inr (.inr (.inr fm_26)))) := q1_26
  have m_30 : (20 + ml, 1) ∈ RL := m1_26
  refine lv_aload_n hx hb xd_De_keep_0 rfl (lv_at hl 0 rfl) ?_
  refine px_get (D := D) (ci := 0) (v := .int (nI ml)) (C := xR_De) (T := xT_De) (N := 6) hx hb hT xi_De hown hK.1 hP m_3 c_2 rfl 4 (by decide) (hT _ k6b_0) (fun _ h9 => h9) rfl xd_De_keep_1 ?_
  refine lv_iconst (v := 5) hx hb xd_De_keep_4 (by decide) ?_
  refine xn_lt (a := ml) (b := 5) (tgt := 9) hx hb xd_De_keep_5 (by decide) (by omega) (by omega) (fun _ => ?_) (fun hc31 => absurd hc31 (by omega))
  refine lv_aload_n hx hb xd_De_keep_9 rfl (lv_at hl 0 rfl) ?_
  refine px_get (D := D) (ci := 0) (v := .ref (ad 0 9)) (C := xR_De) (T := xT_De) (N := 6) hx hb hT xi_De hown hK.1 hP m_3 c_2 rfl 3 (by decide) (hT _ k6b_1) (fun _ h9 => h9) rfl xd_De_keep_10 ?_
  refine lv_aload_n hx hb xd_De_keep_13 rfl (lv_at hl 0 rfl) ?_
  refine px_get (D := D) (ci := 0) (v := .int (nI ml)) (C := xR_De) (T := xT_De) (N := 6) hx hb hT xi_De hown hK.1 hP m_3 c_2 rfl 4 (by decide) (hT _ k6b_0) (fun _ h9 => h9) rfl xd_De_keep_14 ?_
  refine lv_aload_n hx hb xd_De_keep_17 rfl (lv_at hl 1 rfl) ?_
  refine px_aast (i := ml) (r := (xR_Ly, xT_Ly, 4)) hx hb hK.1 hP hD hS m_25 c_24 5 rfl m_28 c_27 rfl (by omega) (by decide) xd_De_keep_18 (fun H locs hP hD hS => ?_)
  have hP : va_P D xcl (rp ad (up2 E 0 9 (.inl (kA 5, 5, .inr (.inr (.inr (.inr (va_up fl_23 ml (some (ad (20 + ml) 0))))))))) RL) H := hP
  have hD : va_D A (rp ad (up2 E 0 9 (.inl (kA 5, 5, .inr (.inr (.inr (.inr (va_up fl_23 ml (some (ad (20 + ml) 0))))))))) RL) := hD
  generalize hE33 : up2 E 0 9 (.inl (kA 5, 5, .inr (.inr (.inr (.inr (va_up fl_23 ml (some (ad (20 + ml) 0)))))))) = E32 at hP hD
  have fE34 : ∀ b2 o2, ¬ (b2 = 0 ∧ o2 = 9) → E32 b2 o2 = E b2 o2 := fun b2 o2 h9 => by rw [← hE33]; exact up2_ne (by omega)
  have c_35 : E32 0 9 = .inl (kA 5, 5, .inr (.inr (.inr (.inr (va_up fl_23 ml (some (ad (20 + ml) 0))))))) := by rw [← hE33]; exact up2_eq
  have c_36 : E32 0 0 = .inr (0, [.ref (ad 0 1), .ref (ad 0 5), .ref (ad 0 7), .ref (ad 0 9), .int (nI ml), .int lf_1]) := (fE34 0 0 (by omega)).trans c_2
  have c_37 : E32 0 1 = .inr (1, [.ref (ad 0 2), .ref (ad 0 3), .ref (ad 0 4), .int (nI len), .int (nI wn)]) := (fE34 0 1 (by omega)).trans c_5
  have c_38 : E32 0 2 = .inl (kA 1, 40, .inl tx_4) := (fE34 0 2 (by omega)).trans c_7
  have c_39 : E32 0 3 = .inl (kA 0, 20, .inl fb_4) := (fE34 0 3 (by omega)).trans c_9
  have c_40 : E32 0 4 = .inl (kA 0, 20, .inl fe_4) := (fE34 0 4 (by omega)).trans c_11
  have c_41 : E32 0 5 = .inr (2, [.ref (ad 0 6), .int (nI nd)]) := (fE34 0 5 (by omega)).trans c_14
  have c_42 : E32 0 6 = .inl (kA 4, 12, .inr (.inr (.inr (.inr fd_13)))) := (fE34 0 6 (by omega)).trans c_16
  have c_43 : E32 0 7 = .inr (3, [.ref (ad 0 5), .ref (ad 0 8), .int (nI cs), .int cf_18, pv_18]) := (fE34 0 7 (by omega)).trans c_19
  have c_44 : E32 0 8 = .inl (kA 4, 12, .inr (.inr (.inr (.inr fc_18)))) := (fE34 0 8 (by omega)).trans c_21
  have c_45 : E32 (20 + ml) 0 = .inr (5, [.int (nI ml), pv_26, .ref (ad (20 + ml) 1), .int op_26]) := (fE34 (20 + ml) 0 (by omega)).trans c_27
  have c_46 : E32 (20 + ml) 1 = .inl (kA 6, mk_26, .inr (.inr (.inr (.inr fm_26)))) := (fE34 (20 + ml) 1 (by omega)).trans c_29
  refine lv_aload_n hx hb xd_De_keep_19 rfl (lv_at hl 0 rfl) ?_
  refine lv_dup hx hb xd_De_keep_20 rfl ?_
  refine px_get (D := D) (ci := 0) (v := .int (nI ml)) (C := xR_De) (T := xT_De) (N := 6) hx hb hT xi_De hown hK.1 hP m_3 c_36 rfl 4 (by decide) (hT _ k6b_0) (fun _ h9 => h9) rfl xd_De_keep_21 ?_
  refine lv_iconst (v := 1) hx hb xd_De_keep_24 (by decide) ?_
  refine lv_iadd hx hb xd_De_keep_25 ?_
  refine xn_top (y := nI (ml + 1)) (nI_add ml 1) ?_
  refine px_put (D := D) (ci := 0) (v := .int (nI (ml + 1))) (ty := .int) (C := xR_De) (T := xT_De) (N := 6) hx hb hT xi_De xt_De xt_De_ok xn_De hown hK.1 hP hD hS m_3 c_36 rfl 4 (by decide) (hT _ k6b_0) (fun _ h9 => h9) rfl (by decide +kernel) rfl rfl (Nat.le_of_ble_eq_true rfl) xd_De_keep_26 (fun H locs hP hD hS => ?_)
  have hP : va_P D xcl (rp ad (up2 E32 0 0 (.inr (0, [.ref (ad 0 1), .ref (ad 0 5), .ref (ad 0 7), .ref (ad 0 9), .int (nI (ml + 1)), .int lf_1]))) RL) H := hP
  have hD : va_D A (rp ad (up2 E32 0 0 (.inr (0, [.ref (ad 0 1), .ref (ad 0 5), .ref (ad 0 7), .ref (ad 0 9), .int (nI (ml + 1)), .int lf_1]))) RL) := hD
  generalize hE48 : up2 E32 0 0 (.inr (0, [.ref (ad 0 1), .ref (ad 0 5), .ref (ad 0 7), .ref (ad 0 9), .int (nI (ml + 1)), .int lf_1])) = E47 at hP hD
  have fE49 : ∀ b2 o2, ¬ (b2 = 0 ∧ o2 = 0) → E47 b2 o2 = E32 b2 o2 := fun b2 o2 h9 => by rw [← hE48]; exact up2_ne (by omega)
  have c_50 : E47 0 0 = .inr (0, [.ref (ad 0 1), .ref (ad 0 5), .ref (ad 0 7), .ref (ad 0 9), .int (nI (ml + 1)), .int lf_1]) := by rw [← hE48]; exact up2_eq
  have c_51 : E47 0 9 = .inl (kA 5, 5, .inr (.inr (.inr (.inr (va_up fl_23 ml (some (ad (20 + ml) 0))))))) := (fE49 0 9 (by omega)).trans c_35
  have c_52 : E47 0 1 = .inr (1, [.ref (ad 0 2), .ref (ad 0 3), .ref (ad 0 4), .int (nI len), .int (nI wn)]) := (fE49 0 1 (by omega)).trans c_37
  have c_53 : E47 0 2 = .inl (kA 1, 40, .inl tx_4) := (fE49 0 2 (by omega)).trans c_38
  have c_54 : E47 0 3 = .inl (kA 0, 20, .inl fb_4) := (fE49 0 3 (by omega)).trans c_39
  have c_55 : E47 0 4 = .inl (kA 0, 20, .inl fe_4) := (fE49 0 4 (by omega)).trans c_40
  have c_56 : E47 0 5 = .inr (2, [.ref (ad 0 6), .int (nI nd)]) := (fE49 0 5 (by omega)).trans c_41
  have c_57 : E47 0 6 = .inl (kA 4, 12, .inr (.inr (.inr (.inr fd_13)))) := (fE49 0 6 (by omega)).trans c_42
  have c_58 : E47 0 7 = .inr (3, [.ref (ad 0 5), .ref (ad 0 8), .int (nI cs), .int cf_18, pv_18]) := (fE49 0 7 (by omega)).trans c_43
  have c_59 : E47 0 8 = .inl (kA 4, 12, .inr (.inr (.inr (.inr fc_18)))) := (fE49 0 8 (by omega)).trans c_44
  have c_60 : E47 (20 + ml) 0 = .inr (5, [.int (nI ml), pv_26, .ref (ad (20 + ml) 1), .int op_26]) := (fE49 (20 + ml) 0 (by omega)).trans c_45
  have c_61 : E47 (20 + ml) 1 = .inl (kA 6, mk_26, .inr (.inr (.inr (.inr fm_26)))) := (fE49 (20 + ml) 1 (by omega)).trans c_46
  have hTDz : TDs (va_up g 11 (kf g L 0)) E47 nd := TDs_same (fun d9 hd9 => fun2 fun o9 => by show E47 (1 + d9) o9 = _; rw [fE49 (1 + d9) o9 (by omega), fE34 (1 + d9) o9 (by omega)]) (TDs_AG hDIs (fun d9 hd9 => AG_11g kf_0) hTD)
  have hLyz : ∀ n9, n9 < ml + 1 → E47 (20 + n9) = E (20 + n9) := fun n9 hn9 => fun2 fun o9 => by show E47 (20 + n9) o9 = _; rw [fE49 (20 + n9) o9 (by omega), fE34 (20 + n9) o9 (by omega)]
  have hF0z : eI (E47 0 0) 5 = eI (E 0 0) 5 := by rw [c_50, c_2]; rfl
  have hCI : CI kA ad E47 RL (ml + 1) nd len wn cs := ⟨hmB, ⟨lf_1, c_50⟩, ⟨tx_4, fb_4, fe_4, (by omega), (by omega), c_52, c_53, c_54, c_55, hws_4⟩, ⟨fd_13, (by omega), c_56, c_57, hds_13⟩, ⟨cf_18, pv_18, fc_18, (by omega), (PV_le hpv_18 (by omega)), c_58, c_59, hfc_18⟩, ⟨(va_up fl_23 ml (some (ad (20 + ml) 0))), (by omega), c_51, (LA_add hla_23)⟩, (DIs_same (fun d9 hd9 => fun2 fun o9 => by show E47 (1 + d9) o9 = _; rw [fE49 (1 + d9) o9 (by omega), fE34 (1 + d9) o9 (by omega)]) (fun _ _ => rfl) (fun _ h9 => h9) hDIs), (LIs_add (LIs_same (Nat.le_refl _) (fun n9 hn9 => fun2 fun o9 => by show E47 (20 + n9) o9 = _; rw [fE49 (20 + n9) o9 (by omega), fE34 (20 + n9) o9 (by omega)]) (fun _ _ => rfl) (fun _ _ => rfl) (fun _ h9 => h9) hLIs) (LI_same (Nat.le_refl _) (fun2 fun o9 => by show E47 (20 + ml) o9 = _; rw [fE49 (20 + ml) o9 (by omega), fE34 (20 + ml) o9 (by omega)]) rfl (fun _ _ => rfl) (fun _ _ => rfl) (fun _ h => h) hLI))⟩
  obtain ⟨hmB, hDk, hLi, hSh, hCh, hLa, hDIs, hLIs⟩ := id hCI
  refine lv_iconst (v := 0) hx hb xd_De_keep_29 (by decide) ?_
  refine lv_istore_n hx hb xd_De_keep_30 rfl hl (Nat.le_of_ble_eq_true rfl) rfl (fun ls hl => ?_)
  have hl : lv_has ls 3 [(2, .int 0), (0, .ref (ad 0 0)), (1, .ref (ad (20 + ml) 0))] := hl
  refine xlab (σ := Nat × (Nat → Nat → va_E)) (ml := 3) 31 (fun (k, E1) => [(2, .int (nI k)), (1, .ref (ad (20 + ml) 0)), (0, .ref (ad 0 0))]) (fun (k, E1) => []) (fun (k, E1) => rp ad E1 RL) (fun (k, E1) => (k ≤ L.length) ∧ (CI kA ad E1 RL (ml + 1) nd len wn cs) ∧ (TDs (va_up g 11 (kf g L k)) E1 nd) ∧ (∀ n9, n9 < ml + 1 → E1 (20 + n9) = E (20 + n9)) ∧ (eI (E1 0 0) 5 = eI (E 0 0) 5)) (fun (k, E1) => L.length - k) ?_ (0, E47) _ _ _ (lv_sub hl [0, 2, 1] rfl) hP hD hS ⟨(show 0 ≤ L.length from by first | assumption | omega), (show CI kA ad E47 RL (ml + 1) nd len wn cs from hCI), (show TDs (va_up g 11 (kf g L 0)) E47 nd from hTDz), (show ∀ n9, n9 < ml + 1 → E47 (20 + n9) = E (20 + n9) from hLyz), (show eI (E47 0 0) 5 = eI (E 0 0) 5 from hF0z)⟩
  intro n9 ih62 a9 ls H locs hμ hl hP hD hS hI
  subst hμ
  obtain ⟨k, E1⟩ := a9
  obtain ⟨hk0, hCI, hTDk, hLy, hF0⟩ := hI
  have hk0 : k ≤ L.length := hk0
  have hCI : CI kA ad E1 RL (ml + 1) nd len wn cs := hCI
  have hTDk : TDs (va_up g 11 (kf g L k)) E1 nd := hTDk
  have hLy : ∀ n9, n9 < ml + 1 → E1 (20 + n9) = E (20 + n9) := hLy
  have hF0 : eI (E1 0 0) 5 = eI (E 0 0) 5 := hF0
  have hl : lv_has ls 3 [(2, .int (nI k)), (1, .ref (ad (20 + ml) 0)), (0, .ref (ad 0 0))] := hl
  have hP : va_P D xcl (rp ad E1 RL) H := hP
  have hD : va_D A (rp ad E1 RL) := hD
  have hTLk : TLas g ad E1 nd (ml + 1) := TLas_same (Nat.le_refl _) (fun n9 hn9 => hLy n9 hn9) (fun _ _ => rfl) (fun _ _ => rfl) hTLx
  obtain ⟨hmB, hDk, hLi, hSh, hCh, hLa, hDIs, hLIs⟩ := id hCI
  obtain ⟨lf_63, q_63⟩ := id (hDk)
  have c_64 : E1 0 0 = .inr (0, [.ref (ad 0 1), .ref (ad 0 5), .ref (ad 0 7), .ref (ad 0 9), .int (nI (ml + 1)), .int lf_63]) := q_63
  have m_65 : (0, 0) ∈ RL := hmB 0 (by omega)
  obtain ⟨tx_66, fb_66, fe_66, hl1_66, hw2_66, q1_66, q2_66, q3_66, q4_66, hws_66⟩ := id (hLi)
  have c_67 : E1 0 1 = .inr (1, [.ref (ad 0 2), .ref (ad 0 3), .ref (ad 0 4), .int (nI len), .int (nI wn)]) := q1_66
  have m_68 : (0, 1) ∈ RL := hmB 1 (by omega)
  have c_69 : E1 0 2 = .inl (kA 1, 40, .inl tx_66) := q2_66
  have m_70 : (0, 2) ∈ RL := hmB 2 (by omega)
  have c_71 : E1 0 3 = .inl (kA 0, 20, .inl fb_66) := q3_66
  have m_72 : (0, 3) ∈ RL := hmB 3 (by omega)
  have c_73 : E1 0 4 = .inl (kA 0, 20, .inl fe_66) := q4_66
  have m_74 : (0, 4) ∈ RL := hmB 4 (by omega)
  obtain ⟨fd_75, hnd_75, q5_75, q6_75, hds_75⟩ := id (hSh)
  have c_76 : E1 0 5 = .inr (2, [.ref (ad 0 6), .int (nI nd)]) := q5_75
  have m_77 : (0, 5) ∈ RL := hmB 5 (by omega)
  have c_78 : E1 0 6 = .inl (kA 4, 12, .inr (.inr (.inr (.inr fd_75)))) := q6_75
  have m_79 : (0, 6) ∈ RL := hmB 6 (by omega)
  obtain ⟨cf_80, pv_80, fc_80, hcs_80, hpv_80, q7_80, q8_80, hfc_80⟩ := id (hCh)
  have c_81 : E1 0 7 = .inr (3, [.ref (ad 0 5), .ref (ad 0 8), .int (nI cs), .int cf_80, pv_80]) := q7_80
  have m_82 : (0, 7) ∈ RL := hmB 7 (by omega)
  have c_83 : E1 0 8 = .inl (kA 4, 12, .inr (.inr (.inr (.inr fc_80)))) := q8_80
  have m_84 : (0, 8) ∈ RL := hmB 8 (by omega)
  obtain ⟨fl_85, hml_85, q9_85, hla_85⟩ := id (hLa)
  have c_86 : E1 0 9 = .inl (kA 5, 5, .inr (.inr (.inr (.inr fl_85)))) := q9_85
  have m_87 : (0, 9) ∈ RL := hmB 9 (by omega)
  obtain ⟨m0_88, m1_88, pv_88, op_88, mk_88, fm_88, hmk_88, hpv_88, q0_88, q1_88, hk_88⟩ := id (hLIs ml (by omega))
  have c_89 : E1 (20 + ml) 0 = .inr (5, [.int (nI ml), pv_88, .ref (ad (20 + ml) 1), .int op_88]) := q0_88
  have m_90 : (20 + ml, 0) ∈ RL := m0_88
  have c_91 : E1 (20 + ml) 1 = .inl (kA 6, mk_88, .inr (.inr (.inr (.inr fm_88)))) := q1_88
  have m_92 : (20 + ml, 1) ∈ RL := m1_88
  obtain ⟨top_88, ⟨lq_88, hlq_88, h19_88, hpv2_88⟩, h20_88, tmd_88⟩ := TLa_get c_89 c_91 (hTLk ml (by omega))
  have c_93 : E1 (20 + ml) 0 = .inr (5, [.int (nI ml), (lyv ad lq_88), .ref (ad (20 + ml) 1), .int op_88]) := by rw [← hpv2_88]; exact c_89
  have i20_88 : iN (g 20 ml) = mk_88 := by rw [h20_88, iN_nI (by omega)]
  have hmkL : mk_88 = L.length := by have q := hmL; unfold mcv at q; rw [h20_88, iN_nI (by omega)] at q; exact q
  refine lv_iload_n hx hb xd_De_keep_31 rfl (lv_at hl 0 rfl) ?_
  refine lv_aload_n hx hb xd_De_keep_32 rfl (lv_at hl 1 rfl) ?_
  refine px_get (D := D) (ci := 5) (v := .ref (ad (20 + ml) 1)) (C := xR_Ly) (T := xT_Ly) (N := 4) hx hb hT xi_Ly hown hK.1 hP m_90 c_93 rfl 2 (by decide) (hT _ k6b_2) (fun _ h9 => h9) rfl xd_De_keep_33 ?_
  refine px_alen hx hb hK.1 hP m_92 c_91 6 rfl xd_De_keep_36 ?_
  refine W.eq (g2 := F0 m 37 ls [.int (nI mk_88), .int (nI k)]) rfl ?_
  refine xn_ge (a := k) (b := mk_88) (tgt := 59) hx hb xd_De_keep_37 (by decide) (by omega) (by omega) (fun hc94 => ?_) (fun hc94 => ?_)
  · exact W.vret hx hb hr (fun t ht hW => ⟨⟨E1, rfl, ⟨hCI, by rw [← kf_end (k := k) (by omega)]; exact hTDk, hLy, hF0⟩, by rw [ht]; exact hP, hD⟩, hS.F ht⟩) hS.2.2 xd_De_keep_59
  · refine lv_aload_n hx hb xd_De_keep_40 rfl (lv_at hl 1 rfl) ?_
    refine px_get (D := D) (ci := 5) (v := .ref (ad (20 + ml) 1)) (C := xR_Ly) (T := xT_Ly) (N := 4) hx hb hT xi_Ly hown hK.1 hP m_90 c_93 rfl 2 (by decide) (hT _ k6b_2) (fun _ h9 => h9) rfl xd_De_keep_41 ?_
    refine lv_iload_n hx hb xd_De_keep_44 rfl (lv_at hl 0 rfl) ?_
    refine px_aald (i := k) (x := (some (ad (20 + ml) (10 + 10 * k)))) hx hb hK.1 hP m_92 c_91 6 rfl ((hk_88 k (by omega)).1) (by omega) (by omega) xd_De_keep_45 ?_
    obtain ⟨hm_95, d_95, rs_95, fr_95, g2_95, g3_95, g4_95, hd_95, hrs_95, q0_95, q1_95, q2_95, q3_95, q4_95, q5_95, q6_95, q7_95⟩ := (hk_88 k (by omega)).2
    have c_96 : E1 (20 + ml) (10 + 10 * k) = .inr (6, [.ref (ad (20 + ml) 0), .ref (ad (1 + d_95) 0), .ref (ad (20 + ml) (11 + 10 * k)), .ref (ad (20 + ml) (12 + 10 * k)), .ref (ad (20 + ml) (13 + 10 * k)), .ref (ad (20 + ml) (14 + 10 * k))]) := q0_95
    have m_97 : (20 + ml, 10 + 10 * k) ∈ RL := hm_95 0 (by omega)
    have c_98 : E1 (20 + ml) (11 + 10 * k) = .inl (kA 6, rs_95, .inr (.inr (.inr (.inr fr_95)))) := q1_95
    have m_99 : (20 + ml, 11 + 10 * k) ∈ RL := hm_95 1 (by omega)
    have c_100 : E1 (20 + ml) (12 + 10 * k) = .inr (10, [.ref (ad (20 + ml) (15 + 10 * k))]) := q2_95
    have m_101 : (20 + ml, 12 + 10 * k) ∈ RL := hm_95 2 (by omega)
    have c_102 : E1 (20 + ml) (13 + 10 * k) = .inr (10, [.ref (ad (20 + ml) (16 + 10 * k))]) := q3_95
    have m_103 : (20 + ml, 13 + 10 * k) ∈ RL := hm_95 3 (by omega)
    have c_104 : E1 (20 + ml) (14 + 10 * k) = .inr (10, [.ref (ad (20 + ml) (17 + 10 * k))]) := q4_95
    have m_105 : (20 + ml, 14 + 10 * k) ∈ RL := hm_95 4 (by omega)
    have c_106 : E1 (20 + ml) (15 + 10 * k) = .inl (kA 0, 6, .inl g2_95) := q5_95
    have m_107 : (20 + ml, 15 + 10 * k) ∈ RL := hm_95 5 (by omega)
    have c_108 : E1 (20 + ml) (16 + 10 * k) = .inl (kA 0, 6, .inl g3_95) := q6_95
    have m_109 : (20 + ml, 16 + 10 * k) ∈ RL := hm_95 6 (by omega)
    have c_110 : E1 (20 + ml) (17 + 10 * k) = .inl (kA 0, 6, .inl g4_95) := q7_95
    have m_111 : (20 + ml, 17 + 10 * k) ∈ RL := hm_95 7 (by omega)
    have hdm_95 : mdv g ml k = d_95 := by
      obtain ⟨dz, hdz, h21z, hvz⟩ := tmd_88 k (by omega)
      rw [c_96] at hvz
      have ez := (rp_inj hD ((hDIs d_95 hd_95).1 0 (by omega)) ((hDIs dz hdz).1 0 (by omega)) (Value.ref.inj hvz)).1
      unfold mdv
      rw [h21z, iN_nI (by omega)]; omega
    refine px_get (D := D) (ci := 6) (v := .ref (ad (1 + d_95) 0)) (C := xR_Me) (T := xT_Me) (N := 6) hx hb hT xi_Me hown hK.1 hP m_97 c_96 rfl 1 (by decide) (hT _ k6b_3) (fun _ h9 => h9) rfl xd_De_keep_46 ?_
    refine lv_iconst (v := 1) hx hb xd_De_keep_49 (by decide) ?_
    obtain ⟨hm_112, fd_112, nm_112, sd_112, k0_112, k1_112, k2_112, k3_112, f0_112, f1_112, f2_112, f3_112, fe_112, fo_112, tr_112, op_112, hk0_112, hk1_112, hk2_112, hk3_112, q0_112, q1_112, q2_112, q3_112, q4_112, q5_112, q6_112, q7_112, q8_112, q9_112, q10_112, q11_112, q12_112, hg_112⟩ := id (hDIs d_95 (by omega))
    have c_113 : E1 (1 + d_95) 0 = .inr (7, [.int (nI d_95), .int fd_112, .int nm_112, .ref (ad (1 + d_95) 1), .ref (ad (1 + d_95) 9), .ref (ad (1 + d_95) 10), .ref (ad (1 + d_95) 2), .ref (ad (1 + d_95) 11), .ref (ad (1 + d_95) 12), .ref (ad (1 + d_95) 3), .ref (ad (1 + d_95) 4), .int sd_112]) := q0_112
    have m_114 : (1 + d_95, 0) ∈ RL := hm_112 0 (by omega)
    have c_115 : E1 (1 + d_95) 1 = .inr (8, [.ref (ad (1 + d_95) 5), .int (nI k0_112)]) := q1_112
    have m_116 : (1 + d_95, 1) ∈ RL := hm_112 1 (by omega)
    have c_117 : E1 (1 + d_95) 2 = .inr (8, [.ref (ad (1 + d_95) 6), .int (nI k1_112)]) := q2_112
    have m_118 : (1 + d_95, 2) ∈ RL := hm_112 2 (by omega)
    have c_119 : E1 (1 + d_95) 3 = .inr (8, [.ref (ad (1 + d_95) 7), .int (nI k2_112)]) := q3_112
    have m_120 : (1 + d_95, 3) ∈ RL := hm_112 3 (by omega)
    have c_121 : E1 (1 + d_95) 4 = .inr (8, [.ref (ad (1 + d_95) 8), .int (nI k3_112)]) := q4_112
    have m_122 : (1 + d_95, 4) ∈ RL := hm_112 4 (by omega)
    have c_123 : E1 (1 + d_95) 5 = .inl (kA 0, 6, .inl f0_112) := q5_112
    have m_124 : (1 + d_95, 5) ∈ RL := hm_112 5 (by omega)
    have c_125 : E1 (1 + d_95) 6 = .inl (kA 0, 5, .inl f1_112) := q6_112
    have m_126 : (1 + d_95, 6) ∈ RL := hm_112 6 (by omega)
    have c_127 : E1 (1 + d_95) 7 = .inl (kA 0, 3, .inl f2_112) := q7_112
    have m_128 : (1 + d_95, 7) ∈ RL := hm_112 7 (by omega)
    have c_129 : E1 (1 + d_95) 8 = .inl (kA 0, 3, .inl f3_112) := q8_112
    have m_130 : (1 + d_95, 8) ∈ RL := hm_112 8 (by omega)
    have c_131 : E1 (1 + d_95) 9 = .inl (kA 8, 6, .inr (.inr (.inr (.inr fe_112)))) := q9_112
    have m_132 : (1 + d_95, 9) ∈ RL := hm_112 9 (by omega)
    have c_133 : E1 (1 + d_95) 10 = .inl (kA 8, 6, .inr (.inr (.inr (.inr fo_112)))) := q10_112
    have m_134 : (1 + d_95, 10) ∈ RL := hm_112 10 (by omega)
    have c_135 : E1 (1 + d_95) 11 = .inl (kA 2, 5, .inl tr_112) := q11_112
    have m_136 : (1 + d_95, 11) ∈ RL := hm_112 11 (by omega)
    have c_137 : E1 (1 + d_95) 12 = .inl (kA 2, 5, .inl op_112) := q12_112
    have m_138 : (1 + d_95, 12) ∈ RL := hm_112 12 (by omega)
    have hg_112 : ∀ w9, w9 < k0_112 → fe_112 w9 = some (ad (1 + d_95) (20 + 3 * w9)) ∧ fo_112 w9 = some (ad (1 + d_95) (38 + 3 * w9)) ∧ GI kA (ad (1 + d_95)) (E1 (1 + d_95)) (fun o => (1 + d_95, o) ∈ RL) (20 + 3 * w9) (21 + 3 * w9) (22 + 3 * w9) ∧ GI kA (ad (1 + d_95)) (E1 (1 + d_95)) (fun o => (1 + d_95, o) ∈ RL) (38 + 3 * w9) (39 + 3 * w9) (40 + 3 * w9) := hg_112
    have hkd9 : L.getD k 0 = d_95 := by have q := hmD k (by omega); rw [hdm_95] at q; exact q.symm
    refine px_put (D := D) (ci := 7) (v := .int 1) (ty := .boolean) (C := xR_Ds) (T := xT_Ds) (N := 12) hx hb hT xi_Ds xt_Ds xt_Ds_ok xn_Ds hown hK.1 hP hD hS m_114 c_113 rfl 11 (by decide) (hT _ k6b_4) (fun _ h9 => h9) rfl (by decide +kernel) rfl rfl (Nat.le_of_ble_eq_true rfl) xd_De_keep_50 (fun H locs hP hD hS => ?_)
    have hP : va_P D xcl (rp ad (up2 E1 (1 + d_95) 0 (.inr (7, [.int (nI d_95), .int fd_112, .int nm_112, .ref (ad (1 + d_95) 1), .ref (ad (1 + d_95) 9), .ref (ad (1 + d_95) 10), .ref (ad (1 + d_95) 2), .ref (ad (1 + d_95) 11), .ref (ad (1 + d_95) 12), .ref (ad (1 + d_95) 3), .ref (ad (1 + d_95) 4), .int 1]))) RL) H := hP
    have hD : va_D A (rp ad (up2 E1 (1 + d_95) 0 (.inr (7, [.int (nI d_95), .int fd_112, .int nm_112, .ref (ad (1 + d_95) 1), .ref (ad (1 + d_95) 9), .ref (ad (1 + d_95) 10), .ref (ad (1 + d_95) 2), .ref (ad (1 + d_95) 11), .ref (ad (1 + d_95) 12), .ref (ad (1 + d_95) 3), .ref (ad (1 + d_95) 4), .int 1]))) RL) := hD
    generalize hE140 : up2 E1 (1 + d_95) 0 (.inr (7, [.int (nI d_95), .int fd_112, .int nm_112, .ref (ad (1 + d_95) 1), .ref (ad (1 + d_95) 9), .ref (ad (1 + d_95) 10), .ref (ad (1 + d_95) 2), .ref (ad (1 + d_95) 11), .ref (ad (1 + d_95) 12), .ref (ad (1 + d_95) 3), .ref (ad (1 + d_95) 4), .int 1])) = E139 at hP hD
    have fE141 : ∀ b2 o2, ¬ (b2 = 1 + d_95 ∧ o2 = 0) → E139 b2 o2 = E1 b2 o2 := fun b2 o2 h9 => by rw [← hE140]; exact up2_ne (by omega)
    have c_142 : E139 (1 + d_95) 0 = .inr (7, [.int (nI d_95), .int fd_112, .int nm_112, .ref (ad (1 + d_95) 1), .ref (ad (1 + d_95) 9), .ref (ad (1 + d_95) 10), .ref (ad (1 + d_95) 2), .ref (ad (1 + d_95) 11), .ref (ad (1 + d_95) 12), .ref (ad (1 + d_95) 3), .ref (ad (1 + d_95) 4), .int 1]) := by rw [← hE140]; exact up2_eq
    have c_143 : E139 0 0 = .inr (0, [.ref (ad 0 1), .ref (ad 0 5), .ref (ad 0 7), .ref (ad 0 9), .int (nI (ml + 1)), .int lf_63]) := (fE141 0 0 (by omega)).trans c_64
    have c_144 : E139 0 1 = .inr (1, [.ref (ad 0 2), .ref (ad 0 3), .ref (ad 0 4), .int (nI len), .int (nI wn)]) := (fE141 0 1 (by omega)).trans c_67
    have c_145 : E139 0 2 = .inl (kA 1, 40, .inl tx_66) := (fE141 0 2 (by omega)).trans c_69
    have c_146 : E139 0 3 = .inl (kA 0, 20, .inl fb_66) := (fE141 0 3 (by omega)).trans c_71
    have c_147 : E139 0 4 = .inl (kA 0, 20, .inl fe_66) := (fE141 0 4 (by omega)).trans c_73
    have c_148 : E139 0 5 = .inr (2, [.ref (ad 0 6), .int (nI nd)]) := (fE141 0 5 (by omega)).trans c_76
    have c_149 : E139 0 6 = .inl (kA 4, 12, .inr (.inr (.inr (.inr fd_75)))) := (fE141 0 6 (by omega)).trans c_78
    have c_150 : E139 0 7 = .inr (3, [.ref (ad 0 5), .ref (ad 0 8), .int (nI cs), .int cf_80, pv_80]) := (fE141 0 7 (by omega)).trans c_81
    have c_151 : E139 0 8 = .inl (kA 4, 12, .inr (.inr (.inr (.inr fc_80)))) := (fE141 0 8 (by omega)).trans c_83
    have c_152 : E139 0 9 = .inl (kA 5, 5, .inr (.inr (.inr (.inr fl_85)))) := (fE141 0 9 (by omega)).trans c_86
    have c_153 : E139 (20 + ml) 0 = .inr (5, [.int (nI ml), (lyv ad lq_88), .ref (ad (20 + ml) 1), .int op_88]) := (fE141 (20 + ml) 0 (by omega)).trans c_93
    have c_154 : E139 (20 + ml) 1 = .inl (kA 6, mk_88, .inr (.inr (.inr (.inr fm_88)))) := (fE141 (20 + ml) 1 (by omega)).trans c_91
    have c_155 : E139 (20 + ml) (10 + 10 * k) = .inr (6, [.ref (ad (20 + ml) 0), .ref (ad (1 + d_95) 0), .ref (ad (20 + ml) (11 + 10 * k)), .ref (ad (20 + ml) (12 + 10 * k)), .ref (ad (20 + ml) (13 + 10 * k)), .ref (ad (20 + ml) (14 + 10 * k))]) := (fE141 (20 + ml) (10 + 10 * k) (by omega)).trans c_96
    have c_156 : E139 (20 + ml) (11 + 10 * k) = .inl (kA 6, rs_95, .inr (.inr (.inr (.inr fr_95)))) := (fE141 (20 + ml) (11 + 10 * k) (by omega)).trans c_98
    have c_157 : E139 (20 + ml) (12 + 10 * k) = .inr (10, [.ref (ad (20 + ml) (15 + 10 * k))]) := (fE141 (20 + ml) (12 + 10 * k) (by omega)).trans c_100
    have c_158 : E139 (20 + ml) (13 + 10 * k) = .inr (10, [.ref (ad (20 + ml) (16 + 10 * k))]) := (fE141 (20 + ml) (13 + 10 * k) (by omega)).trans c_102
    have c_159 : E139 (20 + ml) (14 + 10 * k) = .inr (10, [.ref (ad (20 + ml) (17 + 10 * k))]) := (fE141 (20 + ml) (14 + 10 * k) (by omega)).trans c_104
    have c_160 : E139 (20 + ml) (15 + 10 * k) = .inl (kA 0, 6, .inl g2_95) := (fE141 (20 + ml) (15 + 10 * k) (by omega)).trans c_106
    have c_161 : E139 (20 + ml) (16 + 10 * k) = .inl (kA 0, 6, .inl g3_95) := (fE141 (20 + ml) (16 + 10 * k) (by omega)).trans c_108
    have c_162 : E139 (20 + ml) (17 + 10 * k) = .inl (kA 0, 6, .inl g4_95) := (fE141 (20 + ml) (17 + 10 * k) (by omega)).trans c_110
    have c_163 : E139 (1 + d_95) 1 = .inr (8, [.ref (ad (1 + d_95) 5), .int (nI k0_112)]) := (fE141 (1 + d_95) 1 (by omega)).trans c_115
    have c_164 : E139 (1 + d_95) 2 = .inr (8, [.ref (ad (1 + d_95) 6), .int (nI k1_112)]) := (fE141 (1 + d_95) 2 (by omega)).trans c_117
    have c_165 : E139 (1 + d_95) 3 = .inr (8, [.ref (ad (1 + d_95) 7), .int (nI k2_112)]) := (fE141 (1 + d_95) 3 (by omega)).trans c_119
    have c_166 : E139 (1 + d_95) 4 = .inr (8, [.ref (ad (1 + d_95) 8), .int (nI k3_112)]) := (fE141 (1 + d_95) 4 (by omega)).trans c_121
    have c_167 : E139 (1 + d_95) 5 = .inl (kA 0, 6, .inl f0_112) := (fE141 (1 + d_95) 5 (by omega)).trans c_123
    have c_168 : E139 (1 + d_95) 6 = .inl (kA 0, 5, .inl f1_112) := (fE141 (1 + d_95) 6 (by omega)).trans c_125
    have c_169 : E139 (1 + d_95) 7 = .inl (kA 0, 3, .inl f2_112) := (fE141 (1 + d_95) 7 (by omega)).trans c_127
    have c_170 : E139 (1 + d_95) 8 = .inl (kA 0, 3, .inl f3_112) := (fE141 (1 + d_95) 8 (by omega)).trans c_129
    have c_171 : E139 (1 + d_95) 9 = .inl (kA 8, 6, .inr (.inr (.inr (.inr fe_112)))) := (fE141 (1 + d_95) 9 (by omega)).trans c_131
    have c_172 : E139 (1 + d_95) 10 = .inl (kA 8, 6, .inr (.inr (.inr (.inr fo_112)))) := (fE141 (1 + d_95) 10 (by omega)).trans c_133
    have c_173 : E139 (1 + d_95) 11 = .inl (kA 2, 5, .inl tr_112) := (fE141 (1 + d_95) 11 (by omega)).trans c_135
    have c_174 : E139 (1 + d_95) 12 = .inl (kA 2, 5, .inl op_112) := (fE141 (1 + d_95) 12 (by omega)).trans c_137
    have hTDn : TDs (va_up g 11 (kf g L (k + 1))) E139 nd := TDs_upd (x := d_95) hDIs (fun d9 hd9 hx9 => fun2 fun o9 => by show E139 (1 + d9) o9 = _; rw [fE141 (1 + d9) o9 (by omega)]) (fun d9 hd9 hx9 => AG_11 (kf_o (fun e9 => hx9 (by rw [← e9, hkd9])))) (TD_k (hTDk d_95 (by omega)) c_113 c_142 (fun o9 ho9 => by show E139 (1 + d_95) o9 = _; rw [fE141 (1 + d_95) o9 (by omega)]) (kf_s hkd9)) hTDk
    have hLyn : ∀ n9, n9 < ml + 1 → E139 (20 + n9) = E (20 + n9) := fun n9 hn9 => (show E139 (20 + n9) = E1 (20 + n9) from fun2 fun o9 => by show E139 (20 + n9) o9 = _; rw [fE141 (20 + n9) o9 (by omega)]).trans (hLy n9 hn9)
    have hF0n : eI (E139 0 0) 5 = eI (E 0 0) 5 := by rw [(show E139 0 0 = E1 0 0 from by show E139 0 0 = _; rw [fE141 0 0 (by omega)])]; exact hF0
    have hCI : CI kA ad E139 RL (ml + 1) nd len wn cs := ⟨hmB, ⟨lf_63, c_143⟩, ⟨tx_66, fb_66, fe_66, (by omega), (by omega), c_144, c_145, c_146, c_147, hws_66⟩, ⟨fd_75, (by omega), c_148, c_149, hds_75⟩, ⟨cf_80, pv_80, fc_80, (by omega), hpv_80, c_150, c_151, hfc_80⟩, ⟨fl_85, (by omega), c_152, hla_85⟩, (DIs_set (x := d_95) (fun d9 hd9 hx9 => fun2 fun o9 => by show E139 (1 + d9) o9 = _; rw [fE141 (1 + d9) o9 (by omega)]) (fun _ _ _ => rfl) (fun _ h => h) (DI_set0 (hDIs d_95 (by omega)) (fun o9 ho9 => by show E139 (1 + d_95) o9 = _; rw [fE141 (1 + d_95) o9 (by omega)]) c_142) hDIs), (LIs_same (Nat.le_refl _) (fun n9 hn9 => fun2 fun o9 => by show E139 (20 + n9) o9 = _; rw [fE141 (20 + n9) o9 (by omega)]) (fun _ _ => rfl) (fun _ _ => rfl) (fun _ h9 => h9) hLIs)⟩
    obtain ⟨hmB, hDk, hLi, hSh, hCh, hLa, hDIs, hLIs⟩ := id hCI
    refine lv_iinc (k := 0) (x := (nI k)) (v := (nI (k + 1))) hx hb xd_De_keep_53 hl rfl (xb_inc k 1) (Nat.le_of_ble_eq_true rfl) rfl (fun ls hl => ?_)
    have hl : lv_has ls 3 [(2, .int (nI (k + 1))), (1, .ref (ad (20 + ml) 0)), (0, .ref (ad 0 0))] := hl
    refine lv_goto (tgt := 31) hx hb xd_De_keep_56 (by decide) ?_
    exact ih62 (k + 1, E139) _ _ _ (show L.length - (k + 1) < L.length - k by omega) (lv_sub hl [0, 1, 2] rfl) hP hD hS ⟨(show (k + 1) ≤ L.length from by first | assumption | omega), (show CI kA ad E139 RL (ml + 1) nd len wn cs from hCI), (show TDs (va_up g 11 (kf g L (k + 1))) E139 nd from hTDn), (show ∀ n9, n9 < ml + 1 → E139 (20 + n9) = E (20 + n9) from hLyn), (show eI (E139 0 0) 5 = eI (E 0 0) 5 from hF0n)⟩
