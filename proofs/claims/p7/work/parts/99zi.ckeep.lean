theorem k6b_0 : (Cond.fieldLink "LayerDesk" 38 "LayerDesk" "made" "I") ∈ wT := wT_t (List.mem_append_left _ (List.mem_of_getElem? (i := 103) rfl)) rfl
theorem k6b_1 : (Cond.fieldLink "LayerDesk" 34 "LayerDesk" "layers" "[LLayerDesk$Layer;") ∈ wT := wT_t (List.mem_append_left _ (List.mem_of_getElem? (i := 102) rfl)) rfl
theorem k6b_2 : (Cond.fieldLink "LayerDesk" 128 "LayerDesk$Layer" "members" "[LLayerDesk$Member;") ∈ wT := wT_t (List.mem_append_right _ (List.mem_append_right _ (List.mem_append_left _ (List.mem_of_getElem? (i := 150) rfl)))) rfl
theorem k6b_3 : (Cond.fieldLink "LayerDesk" 136 "LayerDesk$Member" "descriptor" "LLayerDesk$Descriptor;") ∈ wT := wT_t (List.mem_append_right _ (List.mem_append_right _ (List.mem_append_left _ (List.mem_of_getElem? (i := 185) rfl)))) rfl
theorem k6b_4 : (Cond.fieldLink "LayerDesk" 214 "LayerDesk$Descriptor" "settled" "Z") ∈ wT := wT_t (List.mem_append_right _ (List.mem_append_left _ (List.mem_of_getElem? (i := 84) rfl))) rfl
set_option maxHeartbeats 4000000 in
set_option maxRecDepth 100000 in
theorem xc_De_keepX (l : Launch) (D : va_G) (kA : Nat → ClassId) (sz : Nat) (ad : Nat → Nat → Nat) (E : Nat → Nat → va_E) (RL : List (Nat × Nat)) (g : Nat → Nat → Int32) (ml : Nat) (nd : Nat) (len : Nat) (wn : Nat) (cs : Nat) (L : List Nat) (hCI : CI kA ad E RL ml nd len wn cs) (hLI : LI kA ad E RL nd ml) (hml5 : ml < 5) (hTD : TDs g E nd) (hTLx : TLas g ad E nd (ml + 1)) (hmL : mcv g ml = L.length) (hmD : ∀ k, k < L.length → mdv g ml k = L.getD k 0) : Met l xy_De_keep (.code xy_De_keep xb_De_keep 3 none :: wT) { frames := 0, cells := 0, slots := 0, locals := 0 } (va_Pc [.ref (ad 0 0), .ref (ad (20 + ml) 0)] (xPre D kA sz (rp ad E RL))) (va_Qv (fun (u : Nat → Nat → va_E) => CI kA ad u RL (ml + 1) nd len wn cs ∧ TDs (gKl g L) u nd ∧ (∀ n9, n9 < ml + 1 → u (20 + n9) = E (20 + n9)) ∧ eI (u 0 0) 5 = eI (E 0 0) 5) (fun (u : Nat → Nat → va_E) t => va_P D xcl (rp ad u RL) t.heap ∧ va_D (va_A (rp ad E RL) sz) (rp ad u RL)) (va_A (rp ad E RL) sz)) 0 0 (va_A (rp ad E RL) sz) := by
  refine Met.ofW (cc := xb_De_keep) (maxL := 3) (ret := none) (by decide) rfl ?_
  intro p e s m args below meth c s₁ B hml hv
  obtain ⟨rfl, hsz, hP, hK, hD0⟩ := hv
  have hx := B.exec
  have hb := B.bytes
  have hr := B.returns
  have hT := x_hT B.pre
  have hown : s.vm.findClass xR_De = some m.cls := findClass_of_methodNamed B.named
  have hlocks := B.notSynchronized
  subst hsz
  have hD := hD0.self (sz := s.heap.size)
  generalize hAe : va_A (rp ad E RL) s.heap.size = A at hD ⊢
  have hA : ∀ q : Nat, s.heap.size ≤ q → A q := fun q h => by rw [← hAe]; exact Or.inr h
  have hS : va_S A s.heap s.heap [] := va_S.rf
  have hl := lv_entry ([.ref (ad 0 0), .ref (ad (20 + ml) 0)]) (n := 3) (Nat.le_of_ble_eq_true rfl)
  rw [lg_entry_eq]
  generalize (lg_sl ([.ref (ad 0 0), .ref (ad (20 + ml) 0)]) ++ List.replicate (3 - (lg_sl ([.ref (ad 0 0), .ref (ad (20 + ml) 0)])).length) Slot.unset).toArray = ls at hl ⊢
  have hl : lv_has ls 3 [(0, .ref (ad 0 0)), (1, .ref (ad (20 + ml) 0))] := hl
  have hP : va_P D xcl (rp ad E RL) s.heap := hP
  obtain ⟨hmB, hDk, hLi, hSh, hCh, hLa, hDIs, hLIs⟩ := id hCI
  obtain ⟨lf_1, q_1⟩ := id (hDk)
  have c_2 : E 0 0 = .inr (0, [.ref (ad 0 1), .ref (ad 0 5), .ref (ad 0 7), .ref (ad 0 9), .int (nI ml), .int lf_1]) := q_1
  have m_3 : (0, 0) ∈ RL := hmB 0 (by omega)
  obtain ⟨tx_4, fb_4, fe_4, hl1_4, hw2_4, q1_4, q2_4, q3_4, q4_4, hws_4⟩ := id (hLi)
  have c_5 : E 0 1 = .inr (1, [.ref (ad 0 2), .ref (ad 0 3), .ref (ad 0 4), .int (nI len), .int (nI wn)]) := q1_4
  have m_6 : (0, 1) ∈ RL := hmB 1 (by omega)
  have c_7 : E 0 2 = .inl (kA 1, 40, .inl tx_4) := q2_4
  have m_8 : (0, 2) ∈ RL := hmB 2 (by omega)
  have c_9 : E 0 3 = .inl (kA 0, 20, .inl fb_4) := q3_4
  have m_10 : (0, 3) ∈ RL := hmB 3 (by omega)
  have c_11 : E 0 4 = .inl (kA 0, 20, .inl fe_4) := q4_4
  have m_12 : (0, 4) ∈ RL := hmB 4 (by omega)
  obtain ⟨fd_13, hnd_13, q5_13, q6_13, hds_13⟩ := id (hSh)
  have c_14 : E 0 5 = .inr (2, [.ref (ad 0 6), .int (nI nd)]) := q5_13
  have m_15 : (0, 5) ∈ RL := hmB 5 (by omega)
  have c_16 : E 0 6 = .inl (kA 4, 12, .inr (.inr (.inr (.inr fd_13)))) := q6_13
  have m_17 : (0, 6) ∈ RL := hmB 6 (by omega)
  obtain ⟨cf_18, pv_18, fc_18, hcs_18, hpv_18, q7_18, q8_18, hfc_18⟩ := id (hCh)
  have c_19 : E 0 7 = .inr (3, [.ref (ad 0 5), .ref (ad 0 8), .int (nI cs), .int cf_18, pv_18]) := q7_18
  have m_20 : (0, 7) ∈ RL := hmB 7 (by omega)
  have c_21 : E 0 8 = .inl (kA 4, 12, .inr (.inr (.inr (.inr fc_18)))) := q8_18
  have m_22 : (0, 8) ∈ RL := hmB 8 (by omega)
  obtain ⟨fl_23, hml_23, q9_23, hla_23⟩ := id (hLa)
  have c_24 : E 0 9 = .inl (kA 5, 5, .inr (.inr (.inr (.inr fl_23)))) := q9_23
  have m_25 : (0, 9) ∈ RL := hmB 9 (by omega)
  obtain ⟨m0_26, m1_26, pv_26, op_26, mk_26, fm_26, hmk_26, hpv_26, q0_26, q1_26, hk_26⟩ := id (hLI)
  have c_27 : E (20 + ml) 0 = .inr (5, [.int (nI ml), pv_26, .ref (ad (20 + ml) 1), .int op_26]) := q0_26
  have m_28 : (20 + ml, 0) ∈ RL := m0_26
  have c_29 : E (20 + ml) 1 = .inl (kA 6, mk_26, .inr (.inr (.inr (.inr fm_26)))) := q1_26
  have m_30 : (20 + ml, 1) ∈ RL := m1_26
  refine lv_aload_n hx hb xd_De_keep_0 rfl (lv_at hl 0 rfl) ?_
  refine px_get (D := D) (ci := 0) (v := .int (nI ml)) (C := xR_De) (T := xT_De) (N := 6) hx hb hT xi_De hown hK.1 hP m_3 c_2 rfl 4 (by decide) (hT _ k6b_0) (fun _ h9 => h9) rfl xd_De_keep_1 ?_
  refine lv_iconst (v := 5) hx hb xd_De_keep_4 (by decide) ?_
  refine xn_lt (a := ml) (b := 5) (tgt := 9) hx hb xd_De_keep_5 (by decide) (by omega) (by omega) (fun _ => ?_) (fun hc31 => absurd hc31 (by omega))
  refine lv_aload_n hx hb xd_De_keep_9 rfl (lv_at hl 0 rfl) ?_
  refine px_get (D := D) (ci := 0) (v := .ref (ad 0 9)) (C := xR_De) (T := xT_De) (N := 6) hx hb hT xi_De hown hK.1 hP m_3 c_2 rfl 3 (by decide) (hT _ k6b_1) (fun _ h9 => h9) rfl xd_De_keep_10 ?_
  refine lv_aload_n hx hb xd_De_keep_13 rfl (lv_at hl 0 rfl) ?_
  refine px_get (D := D) (ci := 0) (v := .int (nI ml)) (C := xR_De) (T := xT_De) (N := 6) hx hb hT xi_De hown hK.1 hP m_3 c_2 rfl 4 (by decide) (hT _ k6b_0) (fun _ h9 => h9) rfl xd_De_keep_14 ?_
  refine lv_aload_n hx hb xd_De_keep_17 rfl (lv_at hl 1 rfl) ?_
  refine px_aast (i := ml) (r := (xR_Ly, xT_Ly, 4)) hx hb hK.1 hP hD hS m_25 c_24 5 rfl m_28 c_27 rfl (by omega) (by decide) xd_De_keep_18 (fun H locs hP hD hS => ?_)
  have hP : va_P D xcl (rp ad (up2 E 0 9 (.inl (kA 5, 5, .inr (.inr (.inr (.inr (va_up fl_23 ml (some (ad (20 + ml) 0))))))))) RL) H := hP
  have hD : va_D A (rp ad (up2 E 0 9 (.inl (kA 5, 5, .inr (.inr (.inr (.inr (va_up fl_23 ml (some (ad (20 + ml) 0))))))))) RL) := hD
  generalize hE33 : up2 E 0 9 (.inl (kA 5, 5, .inr (.inr (.inr (.inr (va_up fl_23 ml (some (ad (20 + ml) 0)))))))) = E32 at hP hD
  have fE34 : ∀ b2 o2, ¬ (b2 = 0 ∧ o2 = 9) → E32 b2 o2 = E b2 o2 := fun b2 o2 h9 => by rw [← hE33]; exact up2_ne (by omega)
  have c_35 : E32 0 9 = .inl (kA 5, 5, .inr (.inr (.inr (.inr (va_up fl_23 ml (some (ad (20 + ml) 0))))))) := by rw [← hE33]; exact up2_eq
  have c_36 : E32 0 0 = .inr (0, [.ref (ad 0 1), .ref (ad 0 5), .ref (ad 0 7), .ref (ad 0 9), .int (nI ml), .int lf_1]) := (fE34 0 0 (by omega)).trans c_2
  have c_37 : E32 0 1 = .inr (1, [.ref (ad 0 2), .ref (ad 0 3), .ref (ad 0 4), .int (nI len), .int (nI wn)]) := (fE34 0 1 (by omega)).trans c_5
  have c_38 : E32 0 2 = .inl (kA 1, 40, .inl tx_4) := (fE34 0 2 (by omega)).trans c_7
  have c_39 : E32 0 3 = .inl (kA 0, 20, .inl fb_4) := (fE34 0 3 (by omega)).trans c_9
  have c_40 : E32 0 4 = .inl (kA 0, 20, .inl fe_4) := (fE34 0 4 (by omega)).trans c_11
  have c_41 : E32 0 5 = .inr (2, [.ref (ad 0 6), .int (nI nd)]) := (fE34 0 5 (by omega)).trans c_14
  have c_42 : E32 0 6 = .inl (kA 4, 12, .inr (.inr (.inr (.inr fd_13)))) := (fE34 0 6 (by omega)).trans c_16
  have c_43 : E32 0 7 = .inr (3, [.ref (ad 0 5), .ref (ad 0 8), .int (nI cs), .int cf_18, pv_18]) := (fE34 0 7 (by omega)).trans c_19
  have c_44 : E32 0 8 = .inl (kA 4, 12, .inr (.inr (.inr (.inr fc_18)))) := (fE34 0 8 (by omega)).trans c_21
  have c_45 : E32 (20 + ml) 0 = .inr (5, [.int (nI ml), pv_26, .ref (ad (20 + ml) 1), .int op_26]) := (fE34 (20 + ml) 0 (by omega)).trans c_27
  have c_46 : E32 (20 + ml) 1 = .inl (kA 6, mk_26, .inr (.inr (.inr (.inr fm_26)))) := (fE34 (20 + ml) 1 (by omega)).trans c_29
  refine lv_aload_n hx hb xd_De_keep_19 rfl (lv_at hl 0 rfl) ?_
  refine lv_dup hx hb xd_De_keep_20 rfl ?_
  refine px_get (D := D) (ci := 0) (v := .int (nI ml)) (C := xR_De) (T := xT_De) (N := 6) hx hb hT xi_De hown hK.1 hP m_3 c_36 rfl 4 (by decide) (hT _ k6b_0) (fun _ h9 => h9) rfl xd_De_keep_21 ?_
  refine lv_iconst (v := 1) hx hb xd_De_keep_24 (by decide) ?_
  refine lv_iadd hx hb xd_De_keep_25 ?_
  refine xn_top (y := nI (ml + 1)) (nI_add ml 1) ?_
  refine px_put (D := D) (ci := 0) (v := .int (nI (ml + 1))) (ty := .int) (C := xR_De) (T := xT_De) (N := 6) hx hb hT xi_De xt_De xt_De_ok xn_De hown hK.1 hP hD hS m_3 c_36 rfl 4 (by decide) (hT _ k6b_0) (fun _ h9 => h9) rfl (by decide +kernel) rfl rfl (Nat.le_of_ble_eq_true rfl) xd_De_keep_26 (fun H locs hP hD hS => ?_)
  have hP : va_P D xcl (rp ad (up2 E32 0 0 (.inr (0, [.ref (ad 0 1), .ref (ad 0 5), .ref (ad 0 7), .ref (ad 0 9), .int (nI (ml + 1)), .int lf_1]))) RL) H := hP
  have hD : va_D A (rp ad (up2 E32 0 0 (.inr (0, [.ref (ad 0 1), .ref (ad 0 5), .ref (ad 0 7), .ref (ad 0 9), .int (nI (ml + 1)), .int lf_1]))) RL) := hD
  generalize hE48 : up2 E32 0 0 (.inr (0, [.ref (ad 0 1), .ref (ad 0 5), .ref (ad 0 7), .ref (ad 0 9), .int (nI (ml + 1)), .int lf_1])) = E47 at hP hD
  have fE49 : ∀ b2 o2, ¬ (b2 = 0 ∧ o2 = 0) → E47 b2 o2 = E32 b2 o2 := fun b2 o2 h9 => by rw [← hE48]; exact up2_ne (by omega)
  have c_50 : E47 0 0 = .inr (0, [.ref (ad 0 1), .ref (ad 0 5), .ref (ad 0 7), .ref (ad 0 9), .int (nI (ml + 1)), .int lf_1]) := by rw [← hE48]; exact up2_eq
  have c_51 : E47 0 9 = .inl (kA 5, 5, .inr (.inr (.inr (.inr (va_up fl_23 ml (some (ad (20 + ml) 0))))))) := (fE49 0 9 (by omega)).trans c_35
  have c_52 : E47 0 1 = .inr (1, [.ref (ad 0 2), .ref (ad 0 3), .ref (ad 0 4), .int (nI len), .int (nI wn)]) := (fE49 0 1 (by omega)).trans c_37
  have c_53 : E47 0 2 = .inl (kA 1, 40, .inl tx_4) := (fE49 0 2 (by omega)).trans c_38
  have c_54 : E47 0 3 = .inl (kA 0, 20, .inl fb_4) := (fE49 0 3 (by omega)).trans c_39
  have c_55 : E47 0 4 = .inl (kA 0, 20, .inl fe_4) := (fE49 0 4 (by omega)).trans c_40
  have c_56 : E47 0 5 = .inr (2, [.ref (ad 0 6), .int (nI nd)]) := (fE49 0 5 (by omega)).trans c_41
  have c_57 : E47 0 6 = .inl (kA 4, 12, .inr (.inr (.inr (.inr fd_13)))) := (fE49 0 6 (by omega)).trans c_42
  have c_58 : E47 0 7 = .inr (3, [.ref (ad 0 5), .ref (ad 0 8), .int (nI cs), .int cf_18, pv_18]) := (fE49 0 7 (by omega)).trans c_43
  have c_59 : E47 0 8 = .inl (kA 4, 12, .inr (.inr (.inr (.inr fc_18)))) := (fE49 0 8 (by omega)).trans c_44
  have c_60 : E47 (20 + ml) 0 = .inr (5, [.int (nI ml), pv_26, .ref (ad (20 + ml) 1), .int op_26]) := (fE49 (20 + ml) 0 (by omega)).trans c_45
  have c_61 : E47 (20 + ml) 1 = .inl (kA 6, mk_26, .inr (.inr (.inr (.inr fm_26)))) := (fE49 (20 + ml) 1 (by omega)).trans c_46
  have hTDz : TDs (va_up g 11 (kf g L 0)) E47 nd := TDs_same (fun d9 hd9 => fun2 fun o9 => by show E47 (1 + d9) o9 = _; rw [fE49 (1 + d9) o9 (by omega), fE34 (1 + d9) o9 (by omega)]) (TDs_AG hDIs (fun d9 hd9 => AG_11g kf_0) hTD)
  have hLyz : ∀ n9, n9 < ml + 1 → E47 (20 + n9) = E (20 + n9) := fun n9 hn9 => fun2 fun o9 => by show E47 (20 + n9) o9 = _; rw [fE49 (20 + n9) o9 (by omega), fE34 (20 + n9) o9 (by omega)]
  have hF0z : eI (E47 0 0) 5 = eI (E 0 0) 5 := by rw [c_50, c_2]; rfl
  have hCI : CI kA ad E47 RL (ml + 1) nd len wn cs := ⟨hmB, ⟨lf_1, c_50⟩, ⟨tx_4, fb_4, fe_4, (by omega), (by omega), c_52, c_53, c_54, c_55, hws_4⟩, ⟨fd_13, (by omega), c_56, c_57, hds_13⟩, ⟨cf_18, pv_18, fc_18, (by omega), (PV_le hpv_18 (by omega)), c_58, c_59, hfc_18⟩, ⟨(va_up fl_23 ml (some (ad (20 + ml) 0))), (by omega), c_51, (LA_add hla_23)⟩, (DIs_same (fun d9 hd9 => fun2 fun o9 => by show E47 (1 + d9) o9 = _; rw [fE49 (1 + d9) o9 (by omega), fE34 (1 + d9) o9 (by omega)]) (fun _ _ => rfl) (fun _ h9 => h9) hDIs), (LIs_add (LIs_same (Nat.le_refl _) (fun n9 hn9 => fun2 fun o9 => by show E47 (20 + n9) o9 = _; rw [fE49 (20 + n9) o9 (by omega), fE34 (20 + n9) o9 (by omega)]) (fun _ _ => rfl) (fun _ _ => rfl) (fun _ h9 => h9) hLIs) (LI_same (Nat.le_refl _) (fun2 fun o9 => by show E47 (20 + ml) o9 = _; rw [fE49 (20 + ml) o9 (by omega), fE34 (20 + ml) o9 (by omega)]) rfl (fun _ _ => rfl) (fun _ _ => rfl) (fun _ h => h) hLI))⟩
  obtain ⟨hmB, hDk, hLi, hSh, hCh, hLa, hDIs, hLIs⟩ := id hCI
  refine lv_iconst (v := 0) hx hb xd_De_keep_29 (by decide) ?_
  refine lv_istore_n hx hb xd_De_keep_30 rfl hl (Nat.le_of_ble_eq_true rfl) rfl (fun ls hl => ?_)
  have hl : lv_has ls 3 [(2, .int 0), (0, .ref (ad 0 0)), (1, .ref (ad (20 + ml) 0))] := hl
  refine xlab (σ := Nat × (Nat → Nat → va_E)) (ml := 3) 31 (fun (k, E1) => [(2, .int (nI k)), (1, .ref (ad (20 + ml) 0)), (0, .ref (ad 0 0))]) (fun (k, E1) => []) (fun (k, E1) => rp ad E1 RL) (fun (k, E1) => (k ≤ L.length) ∧ (CI kA ad E1 RL (ml + 1) nd len wn cs) ∧ (TDs (va_up g 11 (kf g L k)) E1 nd) ∧ (∀ n9, n9 < ml + 1 → E1 (20 + n9) = E (20 + n9)) ∧ (eI (E1 0 0) 5 = eI (E 0 0) 5)) (fun (k, E1) => L.length - k) ?_ (0, E47) _ _ _ (lv_sub hl [0, 2, 1] rfl) hP hD hS ⟨(show 0 ≤ L.length from by first | assumption | omega), (show CI kA ad E47 RL (ml + 1) nd len wn cs from hCI), (show TDs (va_up g 11 (kf g L 0)) E47 nd from hTDz), (show ∀ n9, n9 < ml + 1 → E47 (20 + n9) = E (20 + n9) from hLyz), (show eI (E47 0 0) 5 = eI (E 0 0) 5 from hF0z)⟩
  intro n9 ih62 a9 ls H locs hμ hl hP hD hS hI
  subst hμ
  obtain ⟨k, E1⟩ := a9
  obtain ⟨hk0, hCI, hTDk, hLy, hF0⟩ := hI
  have hk0 : k ≤ L.length := hk0
  have hCI : CI kA ad E1 RL (ml + 1) nd len wn cs := hCI
  have hTDk : TDs (va_up g 11 (kf g L k)) E1 nd := hTDk
  have hLy : ∀ n9, n9 < ml + 1 → E1 (20 + n9) = E (20 + n9) := hLy
  have hF0 : eI (E1 0 0) 5 = eI (E 0 0) 5 := hF0
  have hl : lv_has ls 3 [(2, .int (nI k)), (1, .ref (ad (20 + ml) 0)), (0, .ref (ad 0 0))] := hl
  have hP : va_P D xcl (rp ad E1 RL) H := hP
  have hD : va_D A (rp ad E1 RL) := hD
  have hTLk : TLas g ad E1 nd (ml + 1) := TLas_same (Nat.le_refl _) (fun n9 hn9 => hLy n9 hn9) (fun _ _ => rfl) (fun _ _ => rfl) hTLx
  obtain ⟨hmB, hDk, hLi, hSh, hCh, hLa, hDIs, hLIs⟩ := id hCI
  obtain ⟨lf_63, q_63⟩ := id (hDk)
  have c_64 : E1 0 0 = .inr (0, [.ref (ad 0 1), .ref (ad 0 5), .ref (ad 0 7), .ref (ad 0 9), .int (nI (ml + 1)), .int lf_63]) := q_63
  have m_65 : (0, 0) ∈ RL := hmB 0 (by omega)
  obtain ⟨tx_66, fb_66, fe_66, hl1_66, hw2_66, q1_66, q2_66, q3_66, q4_66, hws_66⟩ := id (hLi)
  have c_67 : E1 0 1 = .inr (1, [.ref (ad 0 2), .ref (ad 0 3), .ref (ad 0 4), .int (nI len), .int (nI wn)]) := q1_66
  have m_68 : (0, 1) ∈ RL := hmB 1 (by omega)
  have c_69 : E1 0 2 = .inl (kA 1, 40, .inl tx_66) := q2_66
  have m_70 : (0, 2) ∈ RL := hmB 2 (by omega)
  have c_71 : E1 0 3 = .inl (kA 0, 20, .inl fb_66) := q3_66
  have m_72 : (0, 3) ∈ RL := hmB 3 (by omega)
  have c_73 : E1 0 4 = .inl (kA 0, 20, .inl fe_66) := q4_66
  have m_74 : (0, 4) ∈ RL := hmB 4 (by omega)
  obtain ⟨fd_75, hnd_75, q5_75, q6_75, hds_75⟩ := id (hSh)
  have c_76 : E1 0 5 = .inr (2, [.ref (ad 0 6), .int (nI nd)]) := q5_75
  have m_77 : (0, 5) ∈ RL := hmB 5 (by omega)
  have c_78 : E1 0 6 = .inl (kA 4, 12, .inr (.inr (.inr (.inr fd_75)))) := q6_75
  have m_79 : (0, 6) ∈ RL := hmB 6 (by omega)
  obtain ⟨cf_80, pv_80, fc_80, hcs_80, hpv_80, q7_80, q8_80, hfc_80⟩ := id (hCh)
  have c_81 : E1 0 7 = .inr (3, [.ref (ad 0 5), .ref (ad 0 8), .int (nI cs), .int cf_80, pv_80]) := q7_80
  have m_82 : (0, 7) ∈ RL := hmB 7 (by omega)
  have c_83 : E1 0 8 = .inl (kA 4, 12, .inr (.inr (.inr (.inr fc_80)))) := q8_80
  have m_84 : (0, 8) ∈ RL := hmB 8 (by omega)
  obtain ⟨fl_85, hml_85, q9_85, hla_85⟩ := id (hLa)
  have c_86 : E1 0 9 = .inl (kA 5, 5, .inr (.inr (.inr (.inr fl_85)))) := q9_85
  have m_87 : (0, 9) ∈ RL := hmB 9 (by omega)
  obtain ⟨m0_88, m1_88, pv_88, op_88, mk_88, fm_88, hmk_88, hpv_88, q0_88, q1_88, hk_88⟩ := id (hLIs ml (by omega))
  have c_89 : E1 (20 + ml) 0 = .inr (5, [.int (nI ml), pv_88, .ref (ad (20 + ml) 1), .int op_88]) := q0_88
  have m_90 : (20 + ml, 0) ∈ RL := m0_88
  have c_91 : E1 (20 + ml) 1 = .inl (kA 6, mk_88, .inr (.inr (.inr (.inr fm_88)))) := q1_88
  have m_92 : (20 + ml, 1) ∈ RL := m1_88
  obtain ⟨top_88, ⟨lq_88, hlq_88, h19_88, hpv2_88⟩, h20_88, tmd_88⟩ := TLa_get c_89 c_91 (hTLk ml (by omega))
  have c_93 : E1 (20 + ml) 0 = .inr (5, [.int (nI ml), (lyv ad lq_88), .ref (ad (20 + ml) 1), .int op_88]) := by rw [← hpv2_88]; exact c_89
  have i20_88 : iN (g 20 ml) = mk_88 := by rw [h20_88, iN_nI (by omega)]
  have hmkL : mk_88 = L.length := by have q := hmL; unfold mcv at q; rw [h20_88, iN_nI (by omega)] at q; exact q
  refine lv_iload_n hx hb xd_De_keep_31 rfl (lv_at hl 0 rfl) ?_
  refine lv_aload_n hx hb xd_De_keep_32 rfl (lv_at hl 1 rfl) ?_
  refine px_get (D := D) (ci := 5) (v := .ref (ad (20 + ml) 1)) (C := xR_Ly) (T := xT_Ly) (N := 4) hx hb hT xi_Ly hown hK.1 hP m_90 c_93 rfl 2 (by decide) (hT _ k6b_2) (fun _ h9 => h9) rfl xd_De_keep_33 ?_
  refine px_alen hx hb hK.1 hP m_92 c_91 6 rfl xd_De_keep_36 ?_
  refine W.eq (g2 := F0 m 37 ls [.int (nI mk_88), .int (nI k)]) rfl ?_
  refine xn_ge (a := k) (b := mk_88) (tgt := 59) hx hb xd_De_keep_37 (by decide) (by omega) (by omega) (fun hc94 => ?_) (fun hc94 => ?_)
  · exact W.vret hx hb hr (fun t ht hW => ⟨⟨E1, rfl, ⟨hCI, by rw [← kf_end (k := k) (by omega)]; exact hTDk, hLy, hF0⟩, by rw [ht]; exact hP, hD⟩, hS.F ht⟩) hS.2.2 xd_De_keep_59
  · refine lv_aload_n hx hb xd_De_keep_40 rfl (lv_at hl 1 rfl) ?_
    refine px_get (D := D) (ci := 5) (v := .ref (ad (20 + ml) 1)) (C := xR_Ly) (T := xT_Ly) (N := 4) hx hb hT xi_Ly hown hK.1 hP m_90 c_93 rfl 2 (by decide) (hT _ k6b_2) (fun _ h9 => h9) rfl xd_De_keep_41 ?_
    refine lv_iload_n hx hb xd_De_keep_44 rfl (lv_at hl 0 rfl) ?_
    refine px_aald (i := k) (x := (some (ad (20 + ml) (10 + 10 * k)))) hx hb hK.1 hP m_92 c_91 6 rfl ((hk_88 k (by omega)).1) (by omega) (by omega) xd_De_keep_45 ?_
    obtain ⟨hm_95, d_95, rs_95, fr_95, g2_95, g3_95, g4_95, hd_95, hrs_95, q0_95, q1_95, q2_95, q3_95, q4_95, q5_95, q6_95, q7_95⟩ := (hk_88 k (by omega)).2
    have c_96 : E1 (20 + ml) (10 + 10 * k) = .inr (6, [.ref (ad (20 + ml) 0), .ref (ad (1 + d_95) 0), .ref (ad (20 + ml) (11 + 10 * k)), .ref (ad (20 + ml) (12 + 10 * k)), .ref (ad (20 + ml) (13 + 10 * k)), .ref (ad (20 + ml) (14 + 10 * k))]) := q0_95
    have m_97 : (20 + ml, 10 + 10 * k) ∈ RL := hm_95 0 (by omega)
    have c_98 : E1 (20 + ml) (11 + 10 * k) = .inl (kA 6, rs_95, .inr (.inr (.inr (.inr fr_95)))) := q1_95
    have m_99 : (20 + ml, 11 + 10 * k) ∈ RL := hm_95 1 (by omega)
    have c_100 : E1 (20 + ml) (12 + 10 * k) = .inr (10, [.ref (ad (20 + ml) (15 + 10 * k))]) := q2_95
    have m_101 : (20 + ml, 12 + 10 * k) ∈ RL := hm_95 2 (by omega)
    have c_102 : E1 (20 + ml) (13 + 10 * k) = .inr (10, [.ref (ad (20 + ml) (16 + 10 * k))]) := q3_95
    have m_103 : (20 + ml, 13 + 10 * k) ∈ RL := hm_95 3 (by omega)
    have c_104 : E1 (20 + ml) (14 + 10 * k) = .inr (10, [.ref (ad (20 + ml) (17 + 10 * k))]) := q4_95
    have m_105 : (20 + ml, 14 + 10 * k) ∈ RL := hm_95 4 (by omega)
    have c_106 : E1 (20 + ml) (15 + 10 * k) = .inl (kA 0, 6, .inl g2_95) := q5_95
    have m_107 : (20 + ml, 15 + 10 * k) ∈ RL := hm_95 5 (by omega)
    have c_108 : E1 (20 + ml) (16 + 10 * k) = .inl (kA 0, 6, .inl g3_95) := q6_95
    have m_109 : (20 + ml, 16 + 10 * k) ∈ RL := hm_95 6 (by omega)
    have c_110 : E1 (20 + ml) (17 + 10 * k) = .inl (kA 0, 6, .inl g4_95) := q7_95
    have m_111 : (20 + ml, 17 + 10 * k) ∈ RL := hm_95 7 (by omega)
    have hdm_95 : mdv g ml k = d_95 := by
      obtain ⟨dz, hdz, h21z, hvz⟩ := tmd_88 k (by omega)
      rw [c_96] at hvz
      have ez := (rp_inj hD ((hDIs d_95 hd_95).1 0 (by omega)) ((hDIs dz hdz).1 0 (by omega)) (Value.ref.inj hvz)).1
      unfold mdv
      rw [h21z, iN_nI (by omega)]; omega
    refine px_get (D := D) (ci := 6) (v := .ref (ad (1 + d_95) 0)) (C := xR_Me) (T := xT_Me) (N := 6) hx hb hT xi_Me hown hK.1 hP m_97 c_96 rfl 1 (by decide) (hT _ k6b_3) (fun _ h9 => h9) rfl xd_De_keep_46 ?_
    refine lv_iconst (v := 1) hx hb xd_De_keep_49 (by decide) ?_
    obtain ⟨hm_112, fd_112, nm_112, sd_112, k0_112, k1_112, k2_112, k3_112, f0_112, f1_112, f2_112, f3_112, fe_112, fo_112, tr_112, op_112, hk0_112, hk1_112, hk2_112, hk3_112, q0_112, q1_112, q2_112, q3_112, q4_112, q5_112, q6_112, q7_112, q8_112, q9_112, q10_112, q11_112, q12_112, hg_112⟩ := id (hDIs d_95 (by omega))
    have c_113 : E1 (1 + d_95) 0 = .inr (7, [.int (nI d_95), .int fd_112, .int nm_112, .ref (ad (1 + d_95) 1), .ref (ad (1 + d_95) 9), .ref (ad (1 + d_95) 10), .ref (ad (1 + d_95) 2), .ref (ad (1 + d_95) 11), .ref (ad (1 + d_95) 12), .ref (ad (1 + d_95) 3), .ref (ad (1 + d_95) 4), .int sd_112]) := q0_112
    have m_114 : (1 + d_95, 0) ∈ RL := hm_112 0 (by omega)
    have c_115 : E1 (1 + d_95) 1 = .inr (8, [.ref (ad (1 + d_95) 5), .int (nI k0_112)]) := q1_112
    have m_116 : (1 + d_95, 1) ∈ RL := hm_112 1 (by omega)
    have c_117 : E1 (1 + d_95) 2 = .inr (8, [.ref (ad (1 + d_95) 6), .int (nI k1_112)]) := q2_112
    have m_118 : (1 + d_95, 2) ∈ RL := hm_112 2 (by omega)
    have c_119 : E1 (1 + d_95) 3 = .inr (8, [.ref (ad (1 + d_95) 7), .int (nI k2_112)]) := q3_112
    have m_120 : (1 + d_95, 3) ∈ RL := hm_112 3 (by omega)
    have c_121 : E1 (1 + d_95) 4 = .inr (8, [.ref (ad (1 + d_95) 8), .int (nI k3_112)]) := q4_112
    have m_122 : (1 + d_95, 4) ∈ RL := hm_112 4 (by omega)
    have c_123 : E1 (1 + d_95) 5 = .inl (kA 0, 6, .inl f0_112) := q5_112
    have m_124 : (1 + d_95, 5) ∈ RL := hm_112 5 (by omega)
    have c_125 : E1 (1 + d_95) 6 = .inl (kA 0, 5, .inl f1_112) := q6_112
    have m_126 : (1 + d_95, 6) ∈ RL := hm_112 6 (by omega)
    have c_127 : E1 (1 + d_95) 7 = .inl (kA 0, 3, .inl f2_112) := q7_112
    have m_128 : (1 + d_95, 7) ∈ RL := hm_112 7 (by omega)
    have c_129 : E1 (1 + d_95) 8 = .inl (kA 0, 3, .inl f3_112) := q8_112
    have m_130 : (1 + d_95, 8) ∈ RL := hm_112 8 (by omega)
    have c_131 : E1 (1 + d_95) 9 = .inl (kA 8, 6, .inr (.inr (.inr (.inr fe_112)))) := q9_112
    have m_132 : (1 + d_95, 9) ∈ RL := hm_112 9 (by omega)
    have c_133 : E1 (1 + d_95) 10 = .inl (kA 8, 6, .inr (.inr (.inr (.inr fo_112)))) := q10_112
    have m_134 : (1 + d_95, 10) ∈ RL := hm_112 10 (by omega)
    have c_135 : E1 (1 + d_95) 11 = .inl (kA 2, 5, .inl tr_112) := q11_112
    have m_136 : (1 + d_95, 11) ∈ RL := hm_112 11 (by omega)
    have c_137 : E1 (1 + d_95) 12 = .inl (kA 2, 5, .inl op_112) := q12_112
    have m_138 : (1 + d_95, 12) ∈ RL := hm_112 12 (by omega)
    have hg_112 : ∀ w9, w9 < k0_112 → fe_112 w9 = some (ad (1 + d_95) (20 + 3 * w9)) ∧ fo_112 w9 = some (ad (1 + d_95) (38 + 3 * w9)) ∧ GI kA (ad (1 + d_95)) (E1 (1 + d_95)) (fun o => (1 + d_95, o) ∈ RL) (20 + 3 * w9) (21 + 3 * w9) (22 + 3 * w9) ∧ GI kA (ad (1 + d_95)) (E1 (1 + d_95)) (fun o => (1 + d_95, o) ∈ RL) (38 + 3 * w9) (39 + 3 * w9) (40 + 3 * w9) := hg_112
    have hkd9 : L.getD k 0 = d_95 := by have q := hmD k (by omega); rw [hdm_95] at q; exact q.symm
    refine px_put (D := D) (ci := 7) (v := .int 1) (ty := .boolean) (C := xR_Ds) (T := xT_Ds) (N := 12) hx hb hT xi_Ds xt_Ds xt_Ds_ok xn_Ds hown hK.1 hP hD hS m_114 c_113 rfl 11 (by decide) (hT _ k6b_4) (fun _ h9 => h9) rfl (by decide +kernel) rfl rfl (Nat.le_of_ble_eq_true rfl) xd_De_keep_50 (fun H locs hP hD hS => ?_)
    have hP : va_P D xcl (rp ad (up2 E1 (1 + d_95) 0 (.inr (7, [.int (nI d_95), .int fd_112, .int nm_112, .ref (ad (1 + d_95) 1), .ref (ad (1 + d_95) 9), .ref (ad (1 + d_95) 10), .ref (ad (1 + d_95) 2), .ref (ad (1 + d_95) 11), .ref (ad (1 + d_95) 12), .ref (ad (1 + d_95) 3), .ref (ad (1 + d_95) 4), .int 1]))) RL) H := hP
    have hD : va_D A (rp ad (up2 E1 (1 + d_95) 0 (.inr (7, [.int (nI d_95), .int fd_112, .int nm_112, .ref (ad (1 + d_95) 1), .ref (ad (1 + d_95) 9), .ref (ad (1 + d_95) 10), .ref (ad (1 + d_95) 2), .ref (ad (1 + d_95) 11), .ref (ad (1 + d_95) 12), .ref (ad (1 + d_95) 3), .ref (ad (1 + d_95) 4), .int 1]))) RL) := hD
    generalize hE140 : up2 E1 (1 + d_95) 0 (.inr (7, [.int (nI d_95), .int fd_112, .int nm_112, .ref (ad (1 + d_95) 1), .ref (ad (1 + d_95) 9), .ref (ad (1 + d_95) 10), .ref (ad (1 + d_95) 2), .ref (ad (1 + d_95) 11), .ref (ad (1 + d_95) 12), .ref (ad (1 + d_95) 3), .ref (ad (1 + d_95) 4), .int 1])) = E139 at hP hD
    have fE141 : ∀ b2 o2, ¬ (b2 = 1 + d_95 ∧ o2 = 0) → E139 b2 o2 = E1 b2 o2 := fun b2 o2 h9 => by rw [← hE140]; exact up2_ne (by omega)
    have c_142 : E139 (1 + d_95) 0 = .inr (7, [.int (nI d_95), .int fd_112, .int nm_112, .ref (ad (1 + d_95) 1), .ref (ad (1 + d_95) 9), .ref (ad (1 + d_95) 10), .ref (ad (1 + d_95) 2), .ref (ad (1 + d_95) 11), .ref (ad (1 + d_95) 12), .ref (ad (1 + d_95) 3), .ref (ad (1 + d_95) 4), .int 1]) := by rw [← hE140]; exact up2_eq
    have c_143 : E139 0 0 = .inr (0, [.ref (ad 0 1), .ref (ad 0 5), .ref (ad 0 7), .ref (ad 0 9), .int (nI (ml + 1)), .int lf_63]) := (fE141 0 0 (by omega)).trans c_64
    have c_144 : E139 0 1 = .inr (1, [.ref (ad 0 2), .ref (ad 0 3), .ref (ad 0 4), .int (nI len), .int (nI wn)]) := (fE141 0 1 (by omega)).trans c_67
    have c_145 : E139 0 2 = .inl (kA 1, 40, .inl tx_66) := (fE141 0 2 (by omega)).trans c_69
    have c_146 : E139 0 3 = .inl (kA 0, 20, .inl fb_66) := (fE141 0 3 (by omega)).trans c_71
    have c_147 : E139 0 4 = .inl (kA 0, 20, .inl fe_66) := (fE141 0 4 (by omega)).trans c_73
    have c_148 : E139 0 5 = .inr (2, [.ref (ad 0 6), .int (nI nd)]) := (fE141 0 5 (by omega)).trans c_76
    have c_149 : E139 0 6 = .inl (kA 4, 12, .inr (.inr (.inr (.inr fd_75)))) := (fE141 0 6 (by omega)).trans c_78
    have c_150 : E139 0 7 = .inr (3, [.ref (ad 0 5), .ref (ad 0 8), .int (nI cs), .int cf_80, pv_80]) := (fE141 0 7 (by omega)).trans c_81
    have c_151 : E139 0 8 = .inl (kA 4, 12, .inr (.inr (.inr (.inr fc_80)))) := (fE141 0 8 (by omega)).trans c_83
    have c_152 : E139 0 9 = .inl (kA 5, 5, .inr (.inr (.inr (.inr fl_85)))) := (fE141 0 9 (by omega)).trans c_86
    have c_153 : E139 (20 + ml) 0 = .inr (5, [.int (nI ml), (lyv ad lq_88), .ref (ad (20 + ml) 1), .int op_88]) := (fE141 (20 + ml) 0 (by omega)).trans c_93
    have c_154 : E139 (20 + ml) 1 = .inl (kA 6, mk_88, .inr (.inr (.inr (.inr fm_88)))) := (fE141 (20 + ml) 1 (by omega)).trans c_91
    have c_155 : E139 (20 + ml) (10 + 10 * k) = .inr (6, [.ref (ad (20 + ml) 0), .ref (ad (1 + d_95) 0), .ref (ad (20 + ml) (11 + 10 * k)), .ref (ad (20 + ml) (12 + 10 * k)), .ref (ad (20 + ml) (13 + 10 * k)), .ref (ad (20 + ml) (14 + 10 * k))]) := (fE141 (20 + ml) (10 + 10 * k) (by omega)).trans c_96
    have c_156 : E139 (20 + ml) (11 + 10 * k) = .inl (kA 6, rs_95, .inr (.inr (.inr (.inr fr_95)))) := (fE141 (20 + ml) (11 + 10 * k) (by omega)).trans c_98
    have c_157 : E139 (20 + ml) (12 + 10 * k) = .inr (10, [.ref (ad (20 + ml) (15 + 10 * k))]) := (fE141 (20 + ml) (12 + 10 * k) (by omega)).trans c_100
    have c_158 : E139 (20 + ml) (13 + 10 * k) = .inr (10, [.ref (ad (20 + ml) (16 + 10 * k))]) := (fE141 (20 + ml) (13 + 10 * k) (by omega)).trans c_102
    have c_159 : E139 (20 + ml) (14 + 10 * k) = .inr (10, [.ref (ad (20 + ml) (17 + 10 * k))]) := (fE141 (20 + ml) (14 + 10 * k) (by omega)).trans c_104
    have c_160 : E139 (20 + ml) (15 + 10 * k) = .inl (kA 0, 6, .inl g2_95) := (fE141 (20 + ml) (15 + 10 * k) (by omega)).trans c_106
    have c_161 : E139 (20 + ml) (16 + 10 * k) = .inl (kA 0, 6, .inl g3_95) := (fE141 (20 + ml) (16 + 10 * k) (by omega)).trans c_108
    have c_162 : E139 (20 + ml) (17 + 10 * k) = .inl (kA 0, 6, .inl g4_95) := (fE141 (20 + ml) (17 + 10 * k) (by omega)).trans c_110
    have c_163 : E139 (1 + d_95) 1 = .inr (8, [.ref (ad (1 + d_95) 5), .int (nI k0_112)]) := (fE141 (1 + d_95) 1 (by omega)).trans c_115
    have c_164 : E139 (1 + d_95) 2 = .inr (8, [.ref (ad (1 + d_95) 6), .int (nI k1_112)]) := (fE141 (1 + d_95) 2 (by omega)).trans c_117
    have c_165 : E139 (1 + d_95) 3 = .inr (8, [.ref (ad (1 + d_95) 7), .int (nI k2_112)]) := (fE141 (1 + d_95) 3 (by omega)).trans c_119
    have c_166 : E139 (1 + d_95) 4 = .inr (8, [.ref (ad (1 + d_95) 8), .int (nI k3_112)]) := (fE141 (1 + d_95) 4 (by omega)).trans c_121
    have c_167 : E139 (1 + d_95) 5 = .inl (kA 0, 6, .inl f0_112) := (fE141 (1 + d_95) 5 (by omega)).trans c_123
    have c_168 : E139 (1 + d_95) 6 = .inl (kA 0, 5, .inl f1_112) := (fE141 (1 + d_95) 6 (by omega)).trans c_125
    have c_169 : E139 (1 + d_95) 7 = .inl (kA 0, 3, .inl f2_112) := (fE141 (1 + d_95) 7 (by omega)).trans c_127
    have c_170 : E139 (1 + d_95) 8 = .inl (kA 0, 3, .inl f3_112) := (fE141 (1 + d_95) 8 (by omega)).trans c_129
    have c_171 : E139 (1 + d_95) 9 = .inl (kA 8, 6, .inr (.inr (.inr (.inr fe_112)))) := (fE141 (1 + d_95) 9 (by omega)).trans c_131
    have c_172 : E139 (1 + d_95) 10 = .inl (kA 8, 6, .inr (.inr (.inr (.inr fo_112)))) := (fE141 (1 + d_95) 10 (by omega)).trans c_133
    have c_173 : E139 (1 + d_95) 11 = .inl (kA 2, 5, .inl tr_112) := (fE141 (1 + d_95) 11 (by omega)).trans c_135
    have c_174 : E139 (1 + d_95) 12 = .inl (kA 2, 5, .inl op_112) := (fE141 (1 + d_95) 12 (by omega)).trans c_137
    have hTDn : TDs (va_up g 11 (kf g L (k + 1))) E139 nd := TDs_upd (x := d_95) hDIs (fun d9 hd9 hx9 => fun2 fun o9 => by show E139 (1 + d9) o9 = _; rw [fE141 (1 + d9) o9 (by omega)]) (fun d9 hd9 hx9 => AG_11 (kf_o (fun e9 => hx9 (by rw [← e9, hkd9])))) (TD_k (hTDk d_95 (by omega)) c_113 c_142 (fun o9 ho9 => by show E139 (1 + d_95) o9 = _; rw [fE141 (1 + d_95) o9 (by omega)]) (kf_s hkd9)) hTDk
    have hLyn : ∀ n9, n9 < ml + 1 → E139 (20 + n9) = E (20 + n9) := fun n9 hn9 => (show E139 (20 + n9) = E1 (20 + n9) from fun2 fun o9 => by show E139 (20 + n9) o9 = _; rw [fE141 (20 + n9) o9 (by omega)]).trans (hLy n9 hn9)
    have hF0n : eI (E139 0 0) 5 = eI (E 0 0) 5 := by rw [(show E139 0 0 = E1 0 0 from by show E139 0 0 = _; rw [fE141 0 0 (by omega)])]; exact hF0
    have hCI : CI kA ad E139 RL (ml + 1) nd len wn cs := ⟨hmB, ⟨lf_63, c_143⟩, ⟨tx_66, fb_66, fe_66, (by omega), (by omega), c_144, c_145, c_146, c_147, hws_66⟩, ⟨fd_75, (by omega), c_148, c_149, hds_75⟩, ⟨cf_80, pv_80, fc_80, (by omega), hpv_80, c_150, c_151, hfc_80⟩, ⟨fl_85, (by omega), c_152, hla_85⟩, (DIs_set (x := d_95) (fun d9 hd9 hx9 => fun2 fun o9 => by show E139 (1 + d9) o9 = _; rw [fE141 (1 + d9) o9 (by omega)]) (fun _ _ _ => rfl) (fun _ h => h) (DI_set0 (hDIs d_95 (by omega)) (fun o9 ho9 => by show E139 (1 + d_95) o9 = _; rw [fE141 (1 + d_95) o9 (by omega)]) c_142) hDIs), (LIs_same (Nat.le_refl _) (fun n9 hn9 => fun2 fun o9 => by show E139 (20 + n9) o9 = _; rw [fE141 (20 + n9) o9 (by omega)]) (fun _ _ => rfl) (fun _ _ => rfl) (fun _ h9 => h9) hLIs)⟩
    obtain ⟨hmB, hDk, hLi, hSh, hCh, hLa, hDIs, hLIs⟩ := id hCI
    refine lv_iinc (k := 0) (x := (nI k)) (v := (nI (k + 1))) hx hb xd_De_keep_53 hl rfl (xb_inc k 1) (Nat.le_of_ble_eq_true rfl) rfl (fun ls hl => ?_)
    have hl : lv_has ls 3 [(2, .int (nI (k + 1))), (1, .ref (ad (20 + ml) 0)), (0, .ref (ad 0 0))] := hl
    refine lv_goto (tgt := 31) hx hb xd_De_keep_56 (by decide) ?_
    exact ih62 (k + 1, E139) _ _ _ (show L.length - (k + 1) < L.length - k by omega) (lv_sub hl [0, 1, 2] rfl) hP hD hS ⟨(show (k + 1) ≤ L.length from by first | assumption | omega), (show CI kA ad E139 RL (ml + 1) nd len wn cs from hCI), (show TDs (va_up g 11 (kf g L (k + 1))) E139 nd from hTDn), (show ∀ n9, n9 < ml + 1 → E139 (20 + n9) = E (20 + n9) from hLyn), (show eI (E139 0 0) 5 = eI (E 0 0) 5 from hF0n)⟩
def F134 (E E' : Nat → Nat → va_E) : Prop := ∀ b2 o2, ¬ (b2 = 0 ∧ o2 = 1) → ¬ (b2 = 0 ∧ o2 = 3) → ¬ (b2 = 0 ∧ o2 = 4) → E' b2 o2 = E b2 o2
theorem we_le {t : Nat → Int32} {n i : Nat} (h : i < (w_all t n).length) : we (w_all t n) i ≤ n := by
  have q := w_all_ok t (n := n) ((w_all t n).getD i (0, 0)) (by rw [List.getD_eq_getElem?_getD, List.getElem?_eq_getElem h]; exact List.getElem_mem h)
  exact q.2
theorem LW_mk {g : gT} {E : Nat → Nat → va_E} {len : Nat} {wl : List (Nat × Nat)} {tx fb fe : Nat → Int32} {ka kb kc : ClassId} {na nb nc : Nat} {zz : Nat → Nat → Int32} (hwl : wl = w_all (g 0) len) (hl : len ≤ 40) (c2 : E 0 2 = .inl (ka, na, .inl tx)) (c3 : E 0 3 = .inl (kb, nb, .inl fb)) (c4 : E 0 4 = .inl (kc, nc, .inl fe)) (hT : ∀ i, i < len → tx i = g 0 i) (hf : fT zz fb fe wl) : LW g E len wl := by
  refine ⟨by rw [hwl]; exact WL_all _ hl, hl, fun i hi => ⟨?_, ?_, ?_⟩, fun i hi => ?_⟩
  · rw [c3]; exact (hf i hi).1
  · rw [c4]; exact (hf i hi).2
  · rw [hwl] at hi ⊢; exact we_le hi
  · rw [c2]; exact hT i hi
theorem FRL_c {ml nd : Nat} {ad ad' : Nat → Nat → Nat} {E E1 E' : Nat → Nat → va_E} (h : F134 E E1) (h2 : FRL ml nd ad ad' E1 E') : FRL ml nd ad ad' E E' := ⟨fun n hn => ⟨(h2.1 n hn).1.trans (fun2 fun o => h (20 + n) o (by omega) (by omega) (by omega)), (h2.1 n hn).2⟩, h2.2.1, h2.2.2.trans (h 0 0 (by omega) (by omega) (by omega))⟩
theorem m1_ne {n : Nat} (h : n < 100) : ¬ (nI 0 - 1 = nI n) := fun e => by
  have q : nI n < 0 := by rw [← e]; decide
  exact absurd q (nI_pos (by rw [xb_31]; omega))
theorem s1_eq {n : Nat} (h : n < 100) : nI (n + 1) - 1 = nI n := by
  have q : nI (n + 1) - nI 1 = nI (n + 1 - 1) := pk_sub (a := n + 1) (b := 1) (by omega)
  rw [show n + 1 - 1 = n by omega] at q; exact q
def clQ (g : gT) (ml : Nat) (ix : Int32) : Prop := opP g ml ix ∧ ∀ j, j < ml → ¬ g 22 j = 0 → ¬ g 19 j = ix
theorem TLas_cl {g : gT} {ad : Nat → Nat → Nat} {E E' : Nat → Nat → va_E} {nd ml x : Nat} {v0 v2 pv : Value} {lo : Int32} (c0 : E (20 + x) 0 = .inr (5, [v0, pv, v2, .int lo])) (c1 : E' (20 + x) 0 = .inr (5, [v0, pv, v2, .int 0])) (hf : ∀ b o, ¬ (b = 20 + x ∧ o = 0) → E' b o = E b o) (h : TLas g ad E nd ml) : TLas (va_up g 22 (upd (g 22) x 0)) ad E' nd ml := fun n hn => by
  obtain ⟨q1, q2, q3, q4⟩ := h n hn
  have e19 : va_up g 22 (upd (g 22) x 0) 19 = g 19 := vu_ne (by decide)
  have e20 : va_up g 22 (upd (g 22) x 0) 20 = g 20 := vu_ne (by decide)
  have e21 : va_up g 22 (upd (g 22) x 0) 21 = g 21 := vu_ne (by decide)
  unfold TLa
  rw [e19, e20, e21, vu_eq, hf (20 + n) 1 (by omega)]
  have q4 : ∀ k, k < eL (E (20 + n) 1) → ∃ d, d < nd ∧ g 21 (12 * n + k) = nI d ∧ eV (E' (20 + n) (10 + 10 * k)) 1 = .ref (ad (1 + d) 0) := fun k hk => by rw [hf (20 + n) (10 + 10 * k) (by omega)]; exact q4 k hk
  by_cases e : n = x
  · subst e
    rw [c0] at q2
    refine ⟨by rw [c1, pk_us]; rfl, by rw [c1]; exact q2, q3, q4⟩
  · rw [hf (20 + n) 0 (by omega), pk_un e]
    exact ⟨q1, q2, q3, q4⟩
theorem k6c_0 : (Cond.fieldLink "LayerDesk" 10 "LayerDesk" "written" "LLayerDesk$Line;") ∈ wT := wT_t (List.mem_append_left _ (List.mem_of_getElem? (i := 99) rfl)) rfl
theorem k6c_1 : (Cond.code xy_Li_append xb_Li_append 2 (some .boolean)) ∈ wT := wT_t (List.mem_append_left _ (List.mem_of_getElem? (i := 125) rfl)) rfl
theorem k6c_2 : (Cond.methodLink "LayerDesk" 45 xy_Li_append) ∈ wT := wT_t (List.mem_append_left _ (List.mem_of_getElem? (i := 122) rfl)) rfl
theorem k6c_3 : (Cond.instanceMethod xy_Li_append) ∈ wT := wT_t (List.mem_append_left _ (List.mem_of_getElem? (i := 123) rfl)) rfl
theorem k6c_4 : (Cond.selects "LayerDesk$Line" xy_Li_append xy_Li_append) ∈ wT := wT_t (List.mem_append_left _ (List.mem_of_getElem? (i := 124) rfl)) rfl
theorem k6c_5 : (Cond.initialized "LayerDesk$Line") ∈ wT := wT_t (List.mem_append_left _ (List.mem_of_getElem? (i := 2) rfl)) rfl
theorem k6c_6 : (Cond.fieldLink "LayerDesk" 38 "LayerDesk" "made" "I") ∈ wT := wT_t (List.mem_append_left _ (List.mem_of_getElem? (i := 103) rfl)) rfl
theorem k6c_7 : (Cond.code xy_De_openLayer xb_De_openLayer 3 (some (.object "LayerDesk$Layer"))) ∈ wT := wT_t (List.mem_append_left _ (List.mem_of_getElem? (i := 137) rfl)) rfl
theorem k6c_8 : (Cond.methodLink "LayerDesk" 68 xy_De_openLayer) ∈ wT := wT_t (List.mem_append_left _ (List.mem_of_getElem? (i := 134) rfl)) rfl
theorem k6c_9 : (Cond.instanceMethod xy_De_openLayer) ∈ wT := wT_t (List.mem_append_left _ (List.mem_of_getElem? (i := 136) rfl)) rfl
theorem k6c_10 : (Cond.selects "LayerDesk" xy_De_openLayer xy_De_openLayer) ∈ wT := wT_s (q := (xy_De_openLayer, 6)) (by decide +kernel) rfl
theorem k6c_11 : (Cond.initialized "LayerDesk") ∈ wT := wT_t (List.mem_append_left _ (List.mem_of_getElem? (i := 1) rfl)) rfl
theorem k6c_12 : (Cond.fieldLink "LayerDesk" 217 "LayerDesk$Layer" "parent" "LLayerDesk$Layer;") ∈ wT := wT_t (List.mem_append_right _ (List.mem_append_right _ (List.mem_append_left _ (List.mem_of_getElem? (i := 146) rfl)))) rfl
theorem k6c_13 : (Cond.code xy_De_isParentOfOpen xb_De_isParentOfOpen 4 (some .boolean)) ∈ wT := wT_t (List.mem_append_left _ (List.mem_of_getElem? (i := 141) rfl)) rfl
theorem k6c_14 : (Cond.methodLink "LayerDesk" 113 xy_De_isParentOfOpen) ∈ wT := wT_t (List.mem_append_left _ (List.mem_of_getElem? (i := 138) rfl)) rfl
theorem k6c_15 : (Cond.instanceMethod xy_De_isParentOfOpen) ∈ wT := wT_t (List.mem_append_left _ (List.mem_of_getElem? (i := 140) rfl)) rfl
theorem k6c_16 : (Cond.selects "LayerDesk" xy_De_isParentOfOpen xy_De_isParentOfOpen) ∈ wT := wT_s (q := (xy_De_isParentOfOpen, 6)) (by decide +kernel) rfl
theorem k6c_17 : (Cond.fieldLink "LayerDesk" 117 "LayerDesk$Layer" "open" "Z") ∈ wT := wT_t (List.mem_append_right _ (List.mem_append_right _ (List.mem_append_left _ (List.mem_of_getElem? (i := 152) rfl)))) rfl
set_option maxHeartbeats 4000000 in
set_option maxRecDepth 100000 in
theorem xc_De_writeX (l : Launch) (D : va_G) (kA : Nat → ClassId) (sz : Nat) (ad : Nat → Nat → Nat) (E : Nat → Nat → va_E) (RL : List (Nat × Nat)) (ml : Nat) (nd : Nat) (len : Nat) (wn : Nat) (cs : Nat) (cc9 : Int32) (hCI : CI kA ad E RL ml nd len wn cs) : Met l xy_De_write (.code xy_De_write xb_De_write 2 (some .boolean) :: wT) { frames := 1, cells := 0, slots := 0, locals := 21 } (va_Pc [.ref (ad 0 0), .int cc9] (xPre D kA sz (rp ad E RL))) (va_Qi (fun (r : Int32) (u : Nat → Nat → va_E) => ∃ len2, CI kA ad u RL ml nd len2 wn cs ∧ ((r = 0 ∧ len2 = len ∧ eA (u 0 2) = eA (E 0 2) ∧ (cc9 < 32 ∨ 126 < cc9 ∨ len = 40)) ∨ (r = 1 ∧ len2 = len + 1 ∧ eA (u 0 2) = upd (eA (E 0 2)) len (vp_nar .char cc9) ∧ len < 40 ∧ ¬ cc9 < 32 ∧ ¬ 126 < cc9)) ∧ (∀ b2 o2, ¬ (b2 = 0 ∧ o2 = 1) → ¬ (b2 = 0 ∧ o2 = 2) → u b2 o2 = E b2 o2)) (fun (u : Nat → Nat → va_E) t => va_P D xcl (rp ad u RL) t.heap ∧ va_D (va_A (rp ad E RL) sz) (rp ad u RL)) (va_A (rp ad E RL) sz)) 0 0 (va_A (rp ad E RL) sz) := by
  refine Met.ofW (cc := xb_De_write) (maxL := 2) (ret := (some .boolean)) (by decide) rfl ?_
  intro p e s m args below meth c s₁ B hml hv
  obtain ⟨rfl, hsz, hP, hK, hD0⟩ := hv
  have hx := B.exec
  have hb := B.bytes
  have hr := B.returns
  have hT := x_hT B.pre
  have hown : s.vm.findClass xR_De = some m.cls := findClass_of_methodNamed B.named
  have hlocks := B.notSynchronized
  subst hsz
  have hD := hD0.self (sz := s.heap.size)
  generalize hAe : va_A (rp ad E RL) s.heap.size = A at hD ⊢
  have hA : ∀ q : Nat, s.heap.size ≤ q → A q := fun q h => by rw [← hAe]; exact Or.inr h
  have hS : va_S A s.heap s.heap [] := va_S.rf
  have hl := lv_entry ([.ref (ad 0 0), .int cc9]) (n := 2) (Nat.le_of_ble_eq_true rfl)
  rw [lg_entry_eq]
  generalize (lg_sl ([.ref (ad 0 0), .int cc9]) ++ List.replicate (2 - (lg_sl ([.ref (ad 0 0), .int cc9])).length) Slot.unset).toArray = ls at hl ⊢
  have hl : lv_has ls 2 [(0, .ref (ad 0 0)), (1, .int cc9)] := hl
  have hP : va_P D xcl (rp ad E RL) s.heap := hP
  obtain ⟨hmB, hDk, hLi, hSh, hCh, hLa, hDIs, hLIs⟩ := id hCI
  obtain ⟨lf_1, q_1⟩ := id (hDk)
  have c_2 : E 0 0 = .inr (0, [.ref (ad 0 1), .ref (ad 0 5), .ref (ad 0 7), .ref (ad 0 9), .int (nI ml), .int lf_1]) := q_1
  have m_3 : (0, 0) ∈ RL := hmB 0 (by omega)
  obtain ⟨tx_4, fb_4, fe_4, hl1_4, hw2_4, q1_4, q2_4, q3_4, q4_4, hws_4⟩ := id (hLi)
  have c_5 : E 0 1 = .inr (1, [.ref (ad 0 2), .ref (ad 0 3), .ref (ad 0 4), .int (nI len), .int (nI wn)]) := q1_4
  have m_6 : (0, 1) ∈ RL := hmB 1 (by omega)
  have c_7 : E 0 2 = .inl (kA 1, 40, .inl tx_4) := q2_4
  have m_8 : (0, 2) ∈ RL := hmB 2 (by omega)
  have c_9 : E 0 3 = .inl (kA 0, 20, .inl fb_4) := q3_4
  have m_10 : (0, 3) ∈ RL := hmB 3 (by omega)
  have c_11 : E 0 4 = .inl (kA 0, 20, .inl fe_4) := q4_4
  have m_12 : (0, 4) ∈ RL := hmB 4 (by omega)
  obtain ⟨fd_13, hnd_13, q5_13, q6_13, hds_13⟩ := id (hSh)
  have c_14 : E 0 5 = .inr (2, [.ref (ad 0 6), .int (nI nd)]) := q5_13
  have m_15 : (0, 5) ∈ RL := hmB 5 (by omega)
  have c_16 : E 0 6 = .inl (kA 4, 12, .inr (.inr (.inr (.inr fd_13)))) := q6_13
  have m_17 : (0, 6) ∈ RL := hmB 6 (by omega)
  obtain ⟨cf_18, pv_18, fc_18, hcs_18, hpv_18, q7_18, q8_18, hfc_18⟩ := id (hCh)
  have c_19 : E 0 7 = .inr (3, [.ref (ad 0 5), .ref (ad 0 8), .int (nI cs), .int cf_18, pv_18]) := q7_18
  have m_20 : (0, 7) ∈ RL := hmB 7 (by omega)
  have c_21 : E 0 8 = .inl (kA 4, 12, .inr (.inr (.inr (.inr fc_18)))) := q8_18
  have m_22 : (0, 8) ∈ RL := hmB 8 (by omega)
  obtain ⟨fl_23, hml_23, q9_23, hla_23⟩ := id (hLa)
  have c_24 : E 0 9 = .inl (kA 5, 5, .inr (.inr (.inr (.inr fl_23)))) := q9_23
  have m_25 : (0, 9) ∈ RL := hmB 9 (by omega)
  refine lv_aload_n hx hb xd_De_write_0 rfl (lv_at hl 0 rfl) ?_
  refine px_get (D := D) (ci := 0) (v := .ref (ad 0 1)) (C := xR_De) (T := xT_De) (N := 6) hx hb hT xi_De hown hK.1 hP m_3 c_2 rfl 0 (by decide) (hT _ k6c_0) (fun _ h9 => h9) rfl xd_De_write_1 ?_
  refine lv_iload_n hx hb xd_De_write_4 rfl (lv_at hl 1 rfl) ?_
  have hFc := px_free hD hS hA
  refine va_calli (va_runV (As := [.int cc9]) (rest := []) ⟨hx, hb, hml, hown, hT⟩ (xc_Li_appendX l D kA s.heap.size ad E RL len wn tx_4 cc9 m_6 c_5 m_8 c_7 (by first | assumption | omega)) (cwV 1 hT (wT_V k6c_2 k6c_3 k6c_4 k6c_5 k6c_1) rfl rfl rfl (by decide +kernel) ⟨Nat.le_of_ble_eq_true rfl, Nat.le_of_ble_eq_true rfl⟩) (px_preV hK hP hD m_6 c_5 rfl) rfl rfl hl.1 rfl (lv_room (Nat.le_of_ble_eq_true rfl)) xd_De_write_5 ⟨(Nat.le_of_ble_eq_true rfl), (Nat.le_of_ble_eq_true rfl)⟩) hS (fun q _ h => hFc q h) hFc (fun r26 u27 t H1 locs ht hvm hp28 hB hz1 hk1 hS => ?_)
  obtain ⟨hP1, hD1⟩ := hB
  rw [ht] at hP1
  have hD1 := hD1.weaken (fun _ _ _ h => hFc _ h)
  generalize H1 = H at hP1 hS ⊢
  have hP := hP1
  have hD := hD1
  obtain ⟨E29, rfl⟩ : ∃ z, z = u27 := ⟨_, rfl⟩
  obtain ⟨w30, w31, hp35, p_32, p_33, p_34⟩ := hp28
  have p_32 : E29 0 1 = .inr (1, [.ref (ad 0 2), .ref (ad 0 3), .ref (ad 0 4), .int (nI w30), .int (nI wn)]) := p_32
  have p_33 : E29 0 2 = .inl (kA 1, 40, .inl w31) := p_33
  have p_34 : (∀ b2 o2, ¬ (b2 = 0 ∧ o2 = 1) → ¬ (b2 = 0 ∧ o2 = 2) → E29 b2 o2 = E b2 o2) := p_34
  have c_36 : E29 0 0 = .inr (0, [.ref (ad 0 1), .ref (ad 0 5), .ref (ad 0 7), .ref (ad 0 9), .int (nI ml), .int lf_1]) := (p_34 0 0 (by omega) (by omega)).trans c_2
  have c_37 : E29 0 3 = .inl (kA 0, 20, .inl fb_4) := (p_34 0 3 (by omega) (by omega)).trans c_9
  have c_38 : E29 0 4 = .inl (kA 0, 20, .inl fe_4) := (p_34 0 4 (by omega) (by omega)).trans c_11
  have c_39 : E29 0 5 = .inr (2, [.ref (ad 0 6), .int (nI nd)]) := (p_34 0 5 (by omega) (by omega)).trans c_14
  have c_40 : E29 0 6 = .inl (kA 4, 12, .inr (.inr (.inr (.inr fd_13)))) := (p_34 0 6 (by omega) (by omega)).trans c_16
  have c_41 : E29 0 7 = .inr (3, [.ref (ad 0 5), .ref (ad 0 8), .int (nI cs), .int cf_18, pv_18]) := (p_34 0 7 (by omega) (by omega)).trans c_19
  have c_42 : E29 0 8 = .inl (kA 4, 12, .inr (.inr (.inr (.inr fc_18)))) := (p_34 0 8 (by omega) (by omega)).trans c_21
  have c_43 : E29 0 9 = .inl (kA 5, 5, .inr (.inr (.inr (.inr fl_23)))) := (p_34 0 9 (by omega) (by omega)).trans c_24
  have hP : va_P D xcl (rp ad E29 RL) H := hP
  have hD : va_D A (rp ad E29 RL) := hD
  have hap : ((r26 = 0 ∧ w30 = len ∧ eA (E29 0 2) = eA (E 0 2) ∧ (cc9 < 32 ∨ 126 < cc9 ∨ len = 40)) ∨ (r26 = 1 ∧ w30 = len + 1 ∧ eA (E29 0 2) = upd (eA (E 0 2)) len (vp_nar .char cc9) ∧ len < 40 ∧ ¬ cc9 < 32 ∧ ¬ 126 < cc9)) := by
    rw [show eA (E29 0 2) = w31 from by rw [p_33]; rfl, show eA (E 0 2) = tx_4 from by rw [c_7]; rfl]; exact hp35
  have hfw : (∀ b2 o2, ¬ (b2 = 0 ∧ o2 = 1) → ¬ (b2 = 0 ∧ o2 = 2) → E29 b2 o2 = E b2 o2) := fun b2 o2 h19 h29 => by show E29 b2 o2 = _; rw [p_34 b2 o2 (by omega) (by omega)]
  have hCI : CI kA ad E29 RL ml nd w30 wn cs := ⟨hmB, ⟨lf_1, c_36⟩, ⟨w31, fb_4, fe_4, (by omega), (by omega), p_32, p_33, c_37, c_38, hws_4⟩, ⟨fd_13, (by omega), c_39, c_40, hds_13⟩, ⟨cf_18, pv_18, fc_18, (by omega), hpv_18, c_41, c_42, hfc_18⟩, ⟨fl_23, (by omega), c_43, hla_23⟩, (DIs_same (fun d9 hd9 => fun2 fun o9 => by show E29 (1 + d9) o9 = _; rw [p_34 (1 + d9) o9 (by omega) (by omega)]) (fun _ _ => rfl) (fun _ h9 => h9) hDIs), (LIs_same (Nat.le_refl _) (fun n9 hn9 => fun2 fun o9 => by show E29 (20 + n9) o9 = _; rw [p_34 (20 + n9) o9 (by omega) (by omega)]) (fun _ _ => rfl) (fun _ _ => rfl) (fun _ h9 => h9) hLIs)⟩
  obtain ⟨hmB, hDk, hLi, hSh, hCh, hLa, hDIs, hLIs⟩ := id hCI
  exact W.zret (v := r26) hx hb hr (by rcases hap with ⟨h, _⟩ | ⟨h, _⟩ <;> rw [h] <;> rfl) (fun t ht hW => ⟨⟨r26, E29, rfl, ⟨w30, hCI, hap, hfw⟩, by rw [ht]; exact hP, hD⟩, hS.F ht⟩) hS.2.2 xd_De_write_8
set_option maxHeartbeats 4000000 in
set_option maxRecDepth 100000 in
theorem xc_De_isParentOfOpenX (l : Launch) (D : va_G) (kA : Nat → ClassId) (sz : Nat) (ad : Nat → Nat → Nat) (E : Nat → Nat → va_E) (RL : List (Nat × Nat)) (g : Nat → Nat → Int32) (ml : Nat) (nd : Nat) (len : Nat) (wn : Nat) (cs : Nat) (n : Nat) (hCI : CI kA ad E RL ml nd len wn cs) (hTL : TLas g ad E nd ml) (hn9 : n < ml) : Met l xy_De_isParentOfOpen (.code xy_De_isParentOfOpen xb_De_isParentOfOpen 4 (some .boolean) :: wT) { frames := 1, cells := 0, slots := 0, locals := 22 } (va_Pc [.ref (ad 0 0), .ref (ad (20 + n) 0)] (xPre D kA sz (rp ad E RL))) (va_Qi (fun (r : Int32) (u : Unit) => (r = 1 ∧ (∃ j8, j8 < ml ∧ ¬ g 22 j8 = 0 ∧ g 19 j8 = nI n)) ∨ (r = 0 ∧ ¬ (∃ j8, j8 < ml ∧ ¬ g 22 j8 = 0 ∧ g 19 j8 = nI n))) (fun (u : Unit) t => va_P D xcl (rp ad E RL) t.heap ∧ va_D (va_A (rp ad E RL) sz) (rp ad E RL)) (va_A (rp ad E RL) sz)) 0 0 (va_A (rp ad E RL) sz) := by
  refine Met.ofW (cc := xb_De_isParentOfOpen) (maxL := 4) (ret := (some .boolean)) (by decide) rfl ?_
  intro p e s m args below meth c s₁ B hml hv
  obtain ⟨rfl, hsz, hP, hK, hD0⟩ := hv
  have hx := B.exec
  have hb := B.bytes
  have hr := B.returns
  have hT := x_hT B.pre
  have hown : s.vm.findClass xR_De = some m.cls := findClass_of_methodNamed B.named
  have hlocks := B.notSynchronized
  subst hsz
  have hD := hD0.self (sz := s.heap.size)
  generalize hAe : va_A (rp ad E RL) s.heap.size = A at hD ⊢
  have hA : ∀ q : Nat, s.heap.size ≤ q → A q := fun q h => by rw [← hAe]; exact Or.inr h
  have hS : va_S A s.heap s.heap [] := va_S.rf
  have hl := lv_entry ([.ref (ad 0 0), .ref (ad (20 + n) 0)]) (n := 4) (Nat.le_of_ble_eq_true rfl)
  rw [lg_entry_eq]
  generalize (lg_sl ([.ref (ad 0 0), .ref (ad (20 + n) 0)]) ++ List.replicate (4 - (lg_sl ([.ref (ad 0 0), .ref (ad (20 + n) 0)])).length) Slot.unset).toArray = ls at hl ⊢
  have hl : lv_has ls 4 [(0, .ref (ad 0 0)), (1, .ref (ad (20 + n) 0))] := hl
  have hP : va_P D xcl (rp ad E RL) s.heap := hP
  obtain ⟨hmB, hDk, hLi, hSh, hCh, hLa, hDIs, hLIs⟩ := id hCI
  obtain ⟨lf_1, q_1⟩ := id (hDk)
  have c_2 : E 0 0 = .inr (0, [.ref (ad 0 1), .ref (ad 0 5), .ref (ad 0 7), .ref (ad 0 9), .int (nI ml), .int lf_1]) := q_1
  have m_3 : (0, 0) ∈ RL := hmB 0 (by omega)
  obtain ⟨fl_4, hml_4, q9_4, hla_4⟩ := id (hLa)
  have c_5 : E 0 9 = .inl (kA 5, 5, .inr (.inr (.inr (.inr fl_4)))) := q9_4
  have m_6 : (0, 9) ∈ RL := hmB 9 (by omega)
  refine lv_iconst (v := 0) hx hb xd_De_isParentOfOpen_0 (by decide) ?_
  refine lv_istore_n hx hb xd_De_isParentOfOpen_1 rfl hl (Nat.le_of_ble_eq_true rfl) rfl (fun ls hl => ?_)
  have hl : lv_has ls 4 [(2, .int 0), (0, .ref (ad 0 0)), (1, .ref (ad (20 + n) 0))] := hl
  refine xlab (σ := Nat) (ml := 4) 2 (fun (i : Nat) => [(2, .int (nI i)), (0, .ref (ad 0 0)), (1, .ref (ad (20 + n) 0))]) (fun (i : Nat) => []) (fun (i : Nat) => rp ad E RL) (fun (i : Nat) => (i ≤ ml) ∧ (∀ j8, j8 < i → ¬ g 22 j8 = 0 → ¬ g 19 j8 = nI n)) (fun (i : Nat) => ml - i) ?_ 0 _ _ _ (lv_sub hl [0, 1, 2] rfl) hP hD hS ⟨(show 0 ≤ ml from by first | assumption | omega), (show ∀ j8, j8 < 0 → ¬ g 22 j8 = 0 → ¬ g 19 j8 = nI n from fun j hj => absurd hj (by omega))⟩
  intro n9 ih7 a9 ls H locs hμ hl hP hD hS hI
  subst hμ
  obtain ⟨i, rfl⟩ : ∃ z, z = a9 := ⟨_, rfl⟩
  obtain ⟨hi, hno⟩ := hI
  have hi : i ≤ ml := hi
  have hno : ∀ j8, j8 < i → ¬ g 22 j8 = 0 → ¬ g 19 j8 = nI n := hno
  have hl : lv_has ls 4 [(2, .int (nI i)), (0, .ref (ad 0 0)), (1, .ref (ad (20 + n) 0))] := hl
  have hP : va_P D xcl (rp ad E RL) H := hP
  have hD : va_D A (rp ad E RL) := hD
  refine lv_iload_n hx hb xd_De_isParentOfOpen_2 rfl (lv_at hl 0 rfl) ?_
  refine lv_aload_n hx hb xd_De_isParentOfOpen_3 rfl (lv_at hl 1 rfl) ?_
  refine px_get (D := D) (ci := 0) (v := .int (nI ml)) (C := xR_De) (T := xT_De) (N := 6) hx hb hT xi_De hown hK.1 hP m_3 c_2 rfl 4 (by decide) (hT _ k6c_6) (fun _ h9 => h9) rfl xd_De_isParentOfOpen_4 ?_
  refine xn_ge (a := i) (b := ml) (tgt := 36) hx hb xd_De_isParentOfOpen_7 (by decide) (by omega) (by omega) (fun hc8 => ?_) (fun hc8 => ?_)
  · refine lv_iconst (v := 0) hx hb xd_De_isParentOfOpen_36 (by decide) ?_
    exact W.zret (v := 0) hx hb hr rfl (fun t ht hW => ⟨⟨0, (), rfl, Or.inr ⟨rfl, fun ⟨j8, q1, q2, q3⟩ => hno j8 (by omega) q2 q3⟩, by rw [ht]; exact hP, hD⟩, hS.F ht⟩) hS.2.2 xd_De_isParentOfOpen_37
  · refine lv_aload_n hx hb xd_De_isParentOfOpen_10 rfl (lv_at hl 1 rfl) ?_
    refine lv_iload_n hx hb xd_De_isParentOfOpen_11 rfl (lv_at hl 0 rfl) ?_
    have hFc := px_free hD hS hA
    refine va_callq (va_runV (As := [.int (nI i)]) (rest := []) ⟨hx, hb, hml, hown, hT⟩ (xc_De_openLayerX l D kA H.size ad E RL g ml nd len wn cs (nI i) (by first | assumption | omega) (by first | assumption | omega)) (cwV 1 hT (wT_V k6c_8 k6c_9 k6c_10 k6c_11 k6c_7) rfl rfl rfl (by decide +kernel) ⟨Nat.le_of_ble_eq_true rfl, Nat.le_of_ble_eq_true rfl⟩) (px_preV hK hP hD m_3 c_2 rfl) rfl rfl hl.1 rfl (lv_room (Nat.le_of_ble_eq_true rfl)) xd_De_isParentOfOpen_12 ⟨(Nat.le_of_ble_eq_true rfl), (Nat.le_of_ble_eq_true rfl)⟩) hS (fun q _ h => hFc q h) hFc (fun r9 u10 t H1 locs ht hvm hp11 hB hz1 hk1 hS => ?_)
    obtain ⟨hP1, hD1⟩ := hB
    rw [ht] at hP1
    have hD1 := hD1.weaken (fun _ _ _ h => hFc _ h)
    generalize H1 = H at hP1 hS ⊢
    have hP := hP1
    have hD := hD1
    have hP : va_P D xcl (rp ad E RL) H := hP
    have hD : va_D A (rp ad E RL) := hD
    rcases hp11 with ⟨rfl, z12⟩ | ⟨z13, z14, z15, z16, rfl⟩
    · refine W.eq (g2 := F0 m 15 ls [.null]) rfl ?_
      refine lv_astore_nN hx hb xd_De_isParentOfOpen_15 rfl hl (Nat.le_of_ble_eq_true rfl) rfl (fun ls hl => ?_)
      have hl : lv_has ls 4 [(3, .null), (2, .int (nI i)), (0, .ref (ad 0 0)), (1, .ref (ad (20 + n) 0))] := hl
      refine lv_aload_nN hx hb xd_De_isParentOfOpen_16 rfl (lv_at hl 0 rfl) ?_
      refine lv_ifnullN (tgt := 30) hx hb xd_De_isParentOfOpen_17 (by decide) ?_
      refine lv_iinc (k := 1) (x := (nI i)) (v := (nI (i + 1))) hx hb xd_De_isParentOfOpen_30 hl rfl (xb_inc i 1) (Nat.le_of_ble_eq_true rfl) rfl (fun ls hl => ?_)
      have hl : lv_has ls 4 [(2, .int (nI (i + 1))), (3, .null), (0, .ref (ad 0 0)), (1, .ref (ad (20 + n) 0))] := hl
      refine lv_goto (tgt := 2) hx hb xd_De_isParentOfOpen_33 (by decide) ?_
      exact ih7 (i + 1) _ _ _ (show ml - (i + 1) < ml - i by omega) (lv_sub hl [0, 2, 3] rfl) hP hD hS ⟨(show (i + 1) ≤ ml from by first | assumption | omega), (show ∀ j8, j8 < (i + 1) → ¬ g 22 j8 = 0 → ¬ g 19 j8 = nI n from fun j hj => by
        rcases Nat.lt_or_ge j i with z | z
        · exact hno j z
        · rw [show j = i by omega]; exact fun q => absurd ⟨i, by omega, rfl, q⟩ z12)⟩
    · have hxi : z13 = i := (nI_inj (by omega) (by omega) z15).symm
      refine W.eq (g2 := F0 m 15 ls [.ref (ad (20 + z13) 0)]) rfl ?_
      refine lv_astore_n hx hb xd_De_isParentOfOpen_15 rfl hl (Nat.le_of_ble_eq_true rfl) rfl (fun ls hl => ?_)
      have hl : lv_has ls 4 [(3, .ref (ad (20 + z13) 0)), (2, .int (nI i)), (0, .ref (ad 0 0)), (1, .ref (ad (20 + n) 0))] := hl
      refine lv_aload_n hx hb xd_De_isParentOfOpen_16 rfl (lv_at hl 0 rfl) ?_
      refine lv_ifnull hx hb xd_De_isParentOfOpen_17 ?_
      refine lv_aload_n hx hb xd_De_isParentOfOpen_20 rfl (lv_at hl 0 rfl) ?_
      obtain ⟨m0_17, m1_17, pv_17, op_17, mk_17, fm_17, hmk_17, hpv_17, q0_17, q1_17, hk_17⟩ := id (hLIs z13 (by omega))
      have c_18 : E (20 + z13) 0 = .inr (5, [.int (nI z13), pv_17, .ref (ad (20 + z13) 1), .int op_17]) := q0_17
      have m_19 : (20 + z13, 0) ∈ RL := m0_17
      have c_20 : E (20 + z13) 1 = .inl (kA 6, mk_17, .inr (.inr (.inr (.inr fm_17)))) := q1_17
      have m_21 : (20 + z13, 1) ∈ RL := m1_17
      obtain ⟨top_17, ⟨lq_17, hlq_17, h19_17, hpv2_17⟩, h20_17, tmd_17⟩ := TLa_get c_18 c_20 (hTL z13 (by omega))
      have c_22 : E (20 + z13) 0 = .inr (5, [.int (nI z13), (lyv ad lq_17), .ref (ad (20 + z13) 1), .int op_17]) := by rw [← hpv2_17]; exact c_18
      have i20_17 : iN (g 20 z13) = mk_17 := by rw [h20_17, iN_nI (by omega)]
      refine px_get (D := D) (ci := 5) (v := (lyv ad lq_17)) (C := xR_Ly) (T := xT_Ly) (N := 4) hx hb hT xi_Ly hown hK.1 hP m_19 c_22 rfl 1 (by decide) (hT _ k6c_12) (fun _ h9 => h9) rfl xd_De_isParentOfOpen_21 ?_
      rcases (show lq_17 = 0 ∨ ∃ yq, lq_17 = yq + 1 from by rcases Nat.eq_zero_or_pos lq_17 with q | q; exact Or.inl q; exact Or.inr ⟨lq_17 - 1, by omega⟩) with hyq | ⟨yq, hyq⟩
      · refine W.eq (g2 := F0 m 24 ls [.null]) (by rw [lyv_0 hyq]) ?_
        refine lv_aload_n hx hb xd_De_isParentOfOpen_24 rfl (lv_at hl 3 rfl) ?_
        refine lv_acmp_ne (rx := none) (ry := (some (ad (20 + n) 0))) (tgt := 30) hx hb xd_De_isParentOfOpen_25 (by decide) (fun hc23 => ?_) (fun hc23 => ?_)
        · refine lv_iinc (k := 1) (x := (nI i)) (v := (nI (i + 1))) hx hb xd_De_isParentOfOpen_30 hl rfl (xb_inc i 1) (Nat.le_of_ble_eq_true rfl) rfl (fun ls hl => ?_)
          have hl : lv_has ls 4 [(2, .int (nI (i + 1))), (3, .ref (ad (20 + z13) 0)), (0, .ref (ad 0 0)), (1, .ref (ad (20 + n) 0))] := hl
          refine lv_goto (tgt := 2) hx hb xd_De_isParentOfOpen_33 (by decide) ?_
          exact ih7 (i + 1) _ _ _ (show ml - (i + 1) < ml - i by omega) (lv_sub hl [0, 2, 3] rfl) hP hD hS ⟨(show (i + 1) ≤ ml from by first | assumption | omega), (show ∀ j8, j8 < (i + 1) → ¬ g 22 j8 = 0 → ¬ g 19 j8 = nI n from fun j hj => by
        rcases Nat.lt_or_ge j i with z | z
        · exact hno j z
        · rw [show j = i by omega]; exact fun _ q => m1_ne (n := n) (by omega) (by rw [← q, ← hxi, h19_17, hyq]))⟩
        · refine lv_iconst (v := 1) hx hb xd_De_isParentOfOpen_28 (by decide) ?_
          exact W.zret (v := 1) hx hb hr rfl (fun t ht hW => ⟨⟨1, (), rfl, absurd hc23 (fun q => nomatch q), by rw [ht]; exact hP, hD⟩, hS.F ht⟩) hS.2.2 xd_De_isParentOfOpen_29
      · refine W.eq (g2 := F0 m 24 ls [.ref (ad (20 + yq) 0)]) (by rw [lyv_s hyq]) ?_
        refine lv_aload_n hx hb xd_De_isParentOfOpen_24 rfl (lv_at hl 3 rfl) ?_
        refine lv_acmp_ne (rx := (some (ad (20 + yq) 0))) (ry := (some (ad (20 + n) 0))) (tgt := 30) hx hb xd_De_isParentOfOpen_25 (by decide) (fun hc24 => ?_) (fun hc24 => ?_)
        · refine lv_iinc (k := 1) (x := (nI i)) (v := (nI (i + 1))) hx hb xd_De_isParentOfOpen_30 hl rfl (xb_inc i 1) (Nat.le_of_ble_eq_true rfl) rfl (fun ls hl => ?_)
          have hl : lv_has ls 4 [(2, .int (nI (i + 1))), (3, .ref (ad (20 + z13) 0)), (0, .ref (ad 0 0)), (1, .ref (ad (20 + n) 0))] := hl
          refine lv_goto (tgt := 2) hx hb xd_De_isParentOfOpen_33 (by decide) ?_
          exact ih7 (i + 1) _ _ _ (show ml - (i + 1) < ml - i by omega) (lv_sub hl [0, 2, 3] rfl) hP hD hS ⟨(show (i + 1) ≤ ml from by first | assumption | omega), (show ∀ j8, j8 < (i + 1) → ¬ g 22 j8 = 0 → ¬ g 19 j8 = nI n from fun j hj => by
        rcases Nat.lt_or_ge j i with z | z
        · exact hno j z
        · rw [show j = i by omega]; exact fun _ q => by
            rw [← hxi, h19_17, hyq, s1_eq (by omega)] at q
            exact hc24 (by rw [nI_inj (by omega) (by omega) q]))⟩
        · refine lv_iconst (v := 1) hx hb xd_De_isParentOfOpen_28 (by decide) ?_
          exact W.zret (v := 1) hx hb hr rfl (fun t ht hW => ⟨⟨1, (), rfl, Or.inl ⟨rfl, z13, z14, z16, by
        have e9 := (rp_inj hD (hLIs yq (by omega)).1 (hLIs n hn9).1 (Option.some.inj hc24)).1
        rw [h19_17, hyq, s1_eq (by omega), show yq = n by omega]⟩, by rw [ht]; exact hP, hD⟩, hS.F ht⟩) hS.2.2 xd_De_isParentOfOpen_29
set_option maxHeartbeats 4000000 in
set_option maxRecDepth 100000 in
theorem xc_De_closeX (l : Launch) (D : va_G) (kA : Nat → ClassId) (sz : Nat) (ad : Nat → Nat → Nat) (E : Nat → Nat → va_E) (RL : List (Nat × Nat)) (g : Nat → Nat → Int32) (ml : Nat) (nd : Nat) (len : Nat) (wn : Nat) (cs : Nat) (ix : Int32) (hCI : CI kA ad E RL ml nd len wn cs) (hTL : TLas g ad E nd ml) : Met l xy_De_close (.code xy_De_close xb_De_close 3 (some .boolean) :: wT) { frames := 2, cells := 0, slots := 0, locals := 45 } (va_Pc [.ref (ad 0 0), .int ix] (xPre D kA sz (rp ad E RL))) (va_Qi (fun (r : Int32) (u : Nat → Nat → va_E) => CI kA ad u RL ml nd len wn cs ∧ (∀ b2 o2, (¬ o2 = 0 ∨ b2 < 20) → u b2 o2 = E b2 o2) ∧ TLas (clF ml g ix) ad u nd ml ∧ ((r = 1 ∧ clQ g ml ix) ∨ (r = 0 ∧ ¬ clQ g ml ix))) (fun (u : Nat → Nat → va_E) t => va_P D xcl (rp ad u RL) t.heap ∧ va_D (va_A (rp ad E RL) sz) (rp ad u RL)) (va_A (rp ad E RL) sz)) 0 0 (va_A (rp ad E RL) sz) := by
  refine Met.ofW (cc := xb_De_close) (maxL := 3) (ret := (some .boolean)) (by decide) rfl ?_
  intro p e s m args below meth c s₁ B hml hv
  obtain ⟨rfl, hsz, hP, hK, hD0⟩ := hv
  have hx := B.exec
  have hb := B.bytes
  have hr := B.returns
  have hT := x_hT B.pre
  have hown : s.vm.findClass xR_De = some m.cls := findClass_of_methodNamed B.named
  have hlocks := B.notSynchronized
  subst hsz
  have hD := hD0.self (sz := s.heap.size)
  generalize hAe : va_A (rp ad E RL) s.heap.size = A at hD ⊢
  have hA : ∀ q : Nat, s.heap.size ≤ q → A q := fun q h => by rw [← hAe]; exact Or.inr h
  have hS : va_S A s.heap s.heap [] := va_S.rf
  have hl := lv_entry ([.ref (ad 0 0), .int ix]) (n := 3) (Nat.le_of_ble_eq_true rfl)
  rw [lg_entry_eq]
  generalize (lg_sl ([.ref (ad 0 0), .int ix]) ++ List.replicate (3 - (lg_sl ([.ref (ad 0 0), .int ix])).length) Slot.unset).toArray = ls at hl ⊢
  have hl : lv_has ls 3 [(0, .ref (ad 0 0)), (1, .int ix)] := hl
  have hP : va_P D xcl (rp ad E RL) s.heap := hP
  obtain ⟨hmB, hDk, hLi, hSh, hCh, hLa, hDIs, hLIs⟩ := id hCI
  obtain ⟨lf_1, q_1⟩ := id (hDk)
  have c_2 : E 0 0 = .inr (0, [.ref (ad 0 1), .ref (ad 0 5), .ref (ad 0 7), .ref (ad 0 9), .int (nI ml), .int lf_1]) := q_1
  have m_3 : (0, 0) ∈ RL := hmB 0 (by omega)
  obtain ⟨tx_4, fb_4, fe_4, hl1_4, hw2_4, q1_4, q2_4, q3_4, q4_4, hws_4⟩ := id (hLi)
  have c_5 : E 0 1 = .inr (1, [.ref (ad 0 2), .ref (ad 0 3), .ref (ad 0 4), .int (nI len), .int (nI wn)]) := q1_4
  have m_6 : (0, 1) ∈ RL := hmB 1 (by omega)
  have c_7 : E 0 2 = .inl (kA 1, 40, .inl tx_4) := q2_4
  have m_8 : (0, 2) ∈ RL := hmB 2 (by omega)
  have c_9 : E 0 3 = .inl (kA 0, 20, .inl fb_4) := q3_4
  have m_10 : (0, 3) ∈ RL := hmB 3 (by omega)
  have c_11 : E 0 4 = .inl (kA 0, 20, .inl fe_4) := q4_4
  have m_12 : (0, 4) ∈ RL := hmB 4 (by omega)
  obtain ⟨fd_13, hnd_13, q5_13, q6_13, hds_13⟩ := id (hSh)
  have c_14 : E 0 5 = .inr (2, [.ref (ad 0 6), .int (nI nd)]) := q5_13
  have m_15 : (0, 5) ∈ RL := hmB 5 (by omega)
  have c_16 : E 0 6 = .inl (kA 4, 12, .inr (.inr (.inr (.inr fd_13)))) := q6_13
  have m_17 : (0, 6) ∈ RL := hmB 6 (by omega)
  obtain ⟨cf_18, pv_18, fc_18, hcs_18, hpv_18, q7_18, q8_18, hfc_18⟩ := id (hCh)
  have c_19 : E 0 7 = .inr (3, [.ref (ad 0 5), .ref (ad 0 8), .int (nI cs), .int cf_18, pv_18]) := q7_18
  have m_20 : (0, 7) ∈ RL := hmB 7 (by omega)
  have c_21 : E 0 8 = .inl (kA 4, 12, .inr (.inr (.inr (.inr fc_18)))) := q8_18
  have m_22 : (0, 8) ∈ RL := hmB 8 (by omega)
  obtain ⟨fl_23, hml_23, q9_23, hla_23⟩ := id (hLa)
  have c_24 : E 0 9 = .inl (kA 5, 5, .inr (.inr (.inr (.inr fl_23)))) := q9_23
  have m_25 : (0, 9) ∈ RL := hmB 9 (by omega)
  refine lv_aload_n hx hb xd_De_close_0 rfl (lv_at hl 0 rfl) ?_
  refine lv_iload_n hx hb xd_De_close_1 rfl (lv_at hl 1 rfl) ?_
  have hFc := px_free hD hS hA
  refine va_callq (va_runV (As := [.int ix]) (rest := []) ⟨hx, hb, hml, hown, hT⟩ (xc_De_openLayerX l D kA s.heap.size ad E RL g ml nd len wn cs ix (by first | assumption | omega) (by first | assumption | omega)) (cwV 1 hT (wT_V k6c_8 k6c_9 k6c_10 k6c_11 k6c_7) rfl rfl rfl (by decide +kernel) ⟨Nat.le_of_ble_eq_true rfl, Nat.le_of_ble_eq_true rfl⟩) (px_preV hK hP hD m_3 c_2 rfl) rfl rfl hl.1 rfl (lv_room (Nat.le_of_ble_eq_true rfl)) xd_De_close_2 ⟨(Nat.le_of_ble_eq_true rfl), (Nat.le_of_ble_eq_true rfl)⟩) hS (fun q _ h => hFc q h) hFc (fun r26 u27 t H1 locs ht hvm hp28 hB hz1 hk1 hS => ?_)
  obtain ⟨hP1, hD1⟩ := hB
  rw [ht] at hP1
  have hD1 := hD1.weaken (fun _ _ _ h => hFc _ h)
  generalize H1 = H at hP1 hS ⊢
  have hP := hP1
  have hD := hD1
  have hP : va_P D xcl (rp ad E RL) H := hP
  have hD : va_D A (rp ad E RL) := hD
  rcases hp28 with ⟨rfl, z29⟩ | ⟨z30, z31, z32, z33, rfl⟩
  · refine W.eq (g2 := F0 m 5 ls [.null]) rfl ?_
    refine lv_astore_nN hx hb xd_De_close_5 rfl hl (Nat.le_of_ble_eq_true rfl) rfl (fun ls hl => ?_)
    have hl : lv_has ls 3 [(2, .null), (0, .ref (ad 0 0)), (1, .int ix)] := hl
    refine lv_aload_nN hx hb xd_De_close_6 rfl (lv_at hl 0 rfl) ?_
    refine lv_ifnullN (tgt := 18) hx hb xd_De_close_7 (by decide) ?_
    refine lv_iconst (v := 0) hx hb xd_De_close_18 (by decide) ?_
    exact W.zret (v := 0) hx hb hr rfl (fun t ht hW => ⟨⟨0, E, rfl, ⟨hCI, fun _ _ _ => rfl, by rw [← clF_no (fun q => z29 q.1)]; exact hTL, Or.inr ⟨rfl, (fun q => z29 q.1)⟩⟩, by rw [ht]; exact hP, hD⟩, hS.F ht⟩) hS.2.2 xd_De_close_19
  · refine W.eq (g2 := F0 m 5 ls [.ref (ad (20 + z30) 0)]) rfl ?_
    refine lv_astore_n hx hb xd_De_close_5 rfl hl (Nat.le_of_ble_eq_true rfl) rfl (fun ls hl => ?_)
    have hl : lv_has ls 3 [(2, .ref (ad (20 + z30) 0)), (0, .ref (ad 0 0)), (1, .int ix)] := hl
    refine lv_aload_n hx hb xd_De_close_6 rfl (lv_at hl 0 rfl) ?_
    refine lv_ifnull hx hb xd_De_close_7 ?_
    refine lv_aload_n hx hb xd_De_close_10 rfl (lv_at hl 1 rfl) ?_
    refine lv_aload_n hx hb xd_De_close_11 rfl (lv_at hl 0 rfl) ?_
    have hFc := px_free hD hS hA
    refine va_calli (va_runV (As := [.ref (ad (20 + z30) 0)]) (rest := []) ⟨hx, hb, hml, hown, hT⟩ (xc_De_isParentOfOpenX l D kA H.size ad E RL g ml nd len wn cs z30 (by first | assumption | omega) (by first | assumption | omega) z31) (cwV 1 hT (wT_V k6c_14 k6c_15 k6c_16 k6c_11 k6c_13) rfl rfl rfl (by decide +kernel) ⟨Nat.le_of_ble_eq_true rfl, Nat.le_of_ble_eq_true rfl⟩) (px_preV hK hP hD m_3 c_2 rfl) rfl rfl hl.1 rfl (lv_room (Nat.le_of_ble_eq_true rfl)) xd_De_close_12 ⟨(Nat.le_of_ble_eq_true rfl), (Nat.le_of_ble_eq_true rfl)⟩) hS (fun q _ h => hFc q h) hFc (fun r34 u35 t H1 locs ht hvm hp36 hB hz1 hk1 hS => ?_)
    obtain ⟨hP1, hD1⟩ := hB
    rw [ht] at hP1
    have hD1 := hD1.weaken (fun _ _ _ h => hFc _ h)
    generalize H1 = H at hP1 hS ⊢
    have hP := hP1
    have hD := hD1
    have hP : va_P D xcl (rp ad E RL) H := hP
    have hD : va_D A (rp ad E RL) := hD
    rcases hp36 with ⟨rfl, z37⟩ | ⟨rfl, z38⟩
    · refine W.eq (g2 := F0 m 15 ls [.int 1]) rfl ?_
      refine lv_if_eq (tgt := 20) hx hb xd_De_close_15 (by decide) (fun hc39 => absurd hc39 (by decide)) (fun _ => ?_)
      refine lv_iconst (v := 0) hx hb xd_De_close_18 (by decide) ?_
      exact W.zret (v := 0) hx hb hr rfl (fun t ht hW => ⟨⟨0, E, rfl, ⟨hCI, fun _ _ _ => rfl, by rw [← clF_no (fun q => by obtain ⟨j9, q1, q2, q3⟩ := z37; exact q.2 j9 q1 q2 (by rw [q3, z32]))]; exact hTL, Or.inr ⟨rfl, (fun q => by obtain ⟨j9, q1, q2, q3⟩ := z37; exact q.2 j9 q1 q2 (by rw [q3, z32]))⟩⟩, by rw [ht]; exact hP, hD⟩, hS.F ht⟩) hS.2.2 xd_De_close_19
    · refine W.eq (g2 := F0 m 15 ls [.int 0]) rfl ?_
      refine lv_if_eq (tgt := 20) hx hb xd_De_close_15 (by decide) (fun _ => ?_) (fun hc40 => absurd (by decide) hc40)
      obtain ⟨m0_41, m1_41, pv_41, op_41, mk_41, fm_41, hmk_41, hpv_41, q0_41, q1_41, hk_41⟩ := id (hLIs z30 (by omega))
      have c_42 : E (20 + z30) 0 = .inr (5, [.int (nI z30), pv_41, .ref (ad (20 + z30) 1), .int op_41]) := q0_41
      have m_43 : (20 + z30, 0) ∈ RL := m0_41
      have c_44 : E (20 + z30) 1 = .inl (kA 6, mk_41, .inr (.inr (.inr (.inr fm_41)))) := q1_41
      have m_45 : (20 + z30, 1) ∈ RL := m1_41
      obtain ⟨top_41, ⟨lq_41, hlq_41, h19_41, hpv2_41⟩, h20_41, tmd_41⟩ := TLa_get c_42 c_44 (hTL z30 (by omega))
      have c_46 : E (20 + z30) 0 = .inr (5, [.int (nI z30), (lyv ad lq_41), .ref (ad (20 + z30) 1), .int op_41]) := by rw [← hpv2_41]; exact c_42
      have i20_41 : iN (g 20 z30) = mk_41 := by rw [h20_41, iN_nI (by omega)]
      refine lv_aload_n hx hb xd_De_close_20 rfl (lv_at hl 0 rfl) ?_
      refine lv_iconst (v := 0) hx hb xd_De_close_21 (by decide) ?_
      refine px_put (D := D) (ci := 5) (v := .int 0) (ty := .boolean) (C := xR_Ly) (T := xT_Ly) (N := 4) hx hb hT xi_Ly xt_Ly xt_Ly_ok xn_Ly hown hK.1 hP hD hS m_43 c_46 rfl 3 (by decide) (hT _ k6c_17) (fun _ h9 => h9) rfl (by decide +kernel) rfl rfl (Nat.le_of_ble_eq_true rfl) xd_De_close_22 (fun H locs hP hD hS => ?_)
      have hP : va_P D xcl (rp ad (up2 E (20 + z30) 0 (.inr (5, [.int (nI z30), (lyv ad lq_41), .ref (ad (20 + z30) 1), .int 0]))) RL) H := hP
      have hD : va_D A (rp ad (up2 E (20 + z30) 0 (.inr (5, [.int (nI z30), (lyv ad lq_41), .ref (ad (20 + z30) 1), .int 0]))) RL) := hD
      generalize hE48 : up2 E (20 + z30) 0 (.inr (5, [.int (nI z30), (lyv ad lq_41), .ref (ad (20 + z30) 1), .int 0])) = E47 at hP hD
      have fE49 : ∀ b2 o2, ¬ (b2 = 20 + z30 ∧ o2 = 0) → E47 b2 o2 = E b2 o2 := fun b2 o2 h9 => by rw [← hE48]; exact up2_ne (by omega)
      have c_50 : E47 (20 + z30) 0 = .inr (5, [.int (nI z30), (lyv ad lq_41), .ref (ad (20 + z30) 1), .int 0]) := by rw [← hE48]; exact up2_eq
      have c_51 : E47 0 0 = .inr (0, [.ref (ad 0 1), .ref (ad 0 5), .ref (ad 0 7), .ref (ad 0 9), .int (nI ml), .int lf_1]) := (fE49 0 0 (by omega)).trans c_2
      have c_52 : E47 0 1 = .inr (1, [.ref (ad 0 2), .ref (ad 0 3), .ref (ad 0 4), .int (nI len), .int (nI wn)]) := (fE49 0 1 (by omega)).trans c_5
      have c_53 : E47 0 2 = .inl (kA 1, 40, .inl tx_4) := (fE49 0 2 (by omega)).trans c_7
      have c_54 : E47 0 3 = .inl (kA 0, 20, .inl fb_4) := (fE49 0 3 (by omega)).trans c_9
      have c_55 : E47 0 4 = .inl (kA 0, 20, .inl fe_4) := (fE49 0 4 (by omega)).trans c_11
      have c_56 : E47 0 5 = .inr (2, [.ref (ad 0 6), .int (nI nd)]) := (fE49 0 5 (by omega)).trans c_14
      have c_57 : E47 0 6 = .inl (kA 4, 12, .inr (.inr (.inr (.inr fd_13)))) := (fE49 0 6 (by omega)).trans c_16
      have c_58 : E47 0 7 = .inr (3, [.ref (ad 0 5), .ref (ad 0 8), .int (nI cs), .int cf_18, pv_18]) := (fE49 0 7 (by omega)).trans c_19
      have c_59 : E47 0 8 = .inl (kA 4, 12, .inr (.inr (.inr (.inr fc_18)))) := (fE49 0 8 (by omega)).trans c_21
      have c_60 : E47 0 9 = .inl (kA 5, 5, .inr (.inr (.inr (.inr fl_23)))) := (fE49 0 9 (by omega)).trans c_24
      have c_61 : E47 (20 + z30) 1 = .inl (kA 6, mk_41, .inr (.inr (.inr (.inr fm_41)))) := (fE49 (20 + z30) 1 (by omega)).trans c_44
      have hclq : clQ g ml ix := ⟨⟨z30, z31, z32, z33⟩, fun j9 h19 h29 h39 => z38 ⟨j9, h19, h29, by rw [h39, z32]⟩⟩
      have hTLc : TLas (clF ml g ix) ad E47 nd ml := by
        have q := clF_ok (g := g) (nl := ml) (la := z30) (x := 0) (by omega) (by rw [← z32]; exact hclq.1) (by rw [← z32]; exact hclq.2) rfl
        rw [z32, ← q]
        exact TLas_cl c_46 c_50 (fun b2 o2 h9 => by show E47 b2 o2 = _; rw [fE49 b2 o2 (by omega)]) hTL
      have hfc9 : ∀ b2 o2, (¬ o2 = 0 ∨ b2 < 20) → E47 b2 o2 = E b2 o2 := fun b2 o2 h9 => by show E47 b2 o2 = _; rw [fE49 b2 o2 (by omega)]
      have hCI : CI kA ad E47 RL ml nd len wn cs := ⟨hmB, ⟨lf_1, c_51⟩, ⟨tx_4, fb_4, fe_4, (by omega), (by omega), c_52, c_53, c_54, c_55, hws_4⟩, ⟨fd_13, (by omega), c_56, c_57, hds_13⟩, ⟨cf_18, pv_18, fc_18, (by omega), hpv_18, c_58, c_59, hfc_18⟩, ⟨fl_23, (by omega), c_60, hla_23⟩, (DIs_same (fun d9 hd9 => fun2 fun o9 => by show E47 (1 + d9) o9 = _; rw [fE49 (1 + d9) o9 (by omega)]) (fun _ _ => rfl) (fun _ h9 => h9) hDIs), (LIs_set (x := z30) (fun n9 hn9 hx9 => fun2 fun o9 => by show E47 (20 + n9) o9 = _; rw [fE49 (20 + n9) o9 (by omega)]) ⟨m0_41, m1_41, (lyv ad lq_41), 0, mk_41, fm_41, hmk_41, (by rw [← hpv2_41]; exact hpv_41), c_50, c_61, fun k9 hk9 => ⟨(hk_41 k9 hk9).1, MEI_ext (fun o9 ho9 => by show E47 (20 + z30) o9 = _; rw [fE49 (20 + z30) o9 (by omega)]) (hk_41 k9 hk9).2⟩⟩ hLIs)⟩
      obtain ⟨hmB, hDk, hLi, hSh, hCh, hLa, hDIs, hLIs⟩ := id hCI
      refine lv_iconst (v := 1) hx hb xd_De_close_25 (by decide) ?_
      exact W.zret (v := 1) hx hb hr rfl (fun t ht hW => ⟨⟨1, E47, rfl, ⟨hCI, hfc9, hTLc, Or.inl ⟨rfl, hclq⟩⟩, by rw [ht]; exact hP, hD⟩, hS.F ht⟩) hS.2.2 xd_De_close_26
theorem k6d_0 : (Cond.code xy_Li_take xb_Li_take 3 none) ∈ wT := wT_t (List.mem_append_left _ (List.mem_of_getElem? (i := 190) rfl)) rfl
theorem k6d_1 : (Cond.methodLink "LayerDesk$Line" 27 xy_Li_take) ∈ wT := wT_t (List.mem_append_right _ (List.mem_append_right _ (List.mem_append_right _ (List.mem_append_left _ (List.mem_of_getElem? (i := 43) rfl))))) rfl
theorem k6d_2 : (Cond.instanceMethod xy_Li_take) ∈ wT := wT_t (List.mem_append_left _ (List.mem_of_getElem? (i := 188) rfl)) rfl
theorem k6d_3 : (Cond.selects "LayerDesk$Line" xy_Li_take xy_Li_take) ∈ wT := wT_t (List.mem_append_left _ (List.mem_of_getElem? (i := 189) rfl)) rfl
theorem k6d_4 : (Cond.initialized "LayerDesk$Line") ∈ wT := wT_t (List.mem_append_left _ (List.mem_of_getElem? (i := 2) rfl)) rfl
theorem k6d_5 : (Cond.fieldLink "LayerDesk$Line" 24 "LayerDesk$Line" "words" "I") ∈ wT := wT_t (List.mem_append_left _ (List.mem_of_getElem? (i := 40) rfl)) rfl
theorem k6d_6 : (Cond.code xy_Li_nameAt xb_Li_nameAt 4 (some .int)) ∈ wT := wT_t (List.mem_append_right _ (List.mem_append_left _ (List.mem_of_getElem? (i := 17) rfl))) rfl
theorem k6d_7 : (Cond.methodLink "LayerDesk$Line" 30 xy_Li_nameAt) ∈ wT := wT_t (List.mem_append_right _ (List.mem_append_right _ (List.mem_append_right _ (List.mem_append_left _ (List.mem_of_getElem? (i := 44) rfl))))) rfl
theorem k6d_8 : (Cond.instanceMethod xy_Li_nameAt) ∈ wT := wT_t (List.mem_append_right _ (List.mem_append_left _ (List.mem_of_getElem? (i := 15) rfl))) rfl
theorem k6d_9 : (Cond.selects "LayerDesk$Line" xy_Li_nameAt xy_Li_nameAt) ∈ wT := wT_t (List.mem_append_right _ (List.mem_append_left _ (List.mem_of_getElem? (i := 16) rfl))) rfl
theorem k6d_10 : (Cond.fieldLink "LayerDesk" 10 "LayerDesk" "written" "LLayerDesk$Line;") ∈ wT := wT_t (List.mem_append_left _ (List.mem_of_getElem? (i := 99) rfl)) rfl
theorem k6d_11 : (Cond.code xy_Li_takeName xb_Li_takeName 1 (some .int)) ∈ wT := wT_t (List.mem_append_right _ (List.mem_append_right _ (List.mem_append_right _ (List.mem_append_left _ (List.mem_of_getElem? (i := 42) rfl))))) rfl
theorem k6d_12 : (Cond.methodLink "LayerDesk" 158 xy_Li_takeName) ∈ wT := wT_t (List.mem_append_right _ (List.mem_append_right _ (List.mem_append_right _ (List.mem_append_left _ (List.mem_of_getElem? (i := 39) rfl))))) rfl
theorem k6d_13 : (Cond.instanceMethod xy_Li_takeName) ∈ wT := wT_t (List.mem_append_right _ (List.mem_append_right _ (List.mem_append_right _ (List.mem_append_left _ (List.mem_of_getElem? (i := 40) rfl))))) rfl
theorem k6d_14 : (Cond.selects "LayerDesk$Line" xy_Li_takeName xy_Li_takeName) ∈ wT := wT_t (List.mem_append_right _ (List.mem_append_right _ (List.mem_append_right _ (List.mem_append_left _ (List.mem_of_getElem? (i := 41) rfl))))) rfl
theorem k6d_15 : (Cond.code xy_De_memberAt xb_De_memberAt 4 (some (.object "LayerDesk$Member"))) ∈ wT := wT_t (List.mem_append_left _ (List.mem_of_getElem? (i := 161) rfl)) rfl
theorem k6d_16 : (Cond.methodLink "LayerDesk" 132 xy_De_memberAt) ∈ wT := wT_t (List.mem_append_left _ (List.mem_of_getElem? (i := 158) rfl)) rfl
theorem k6d_17 : (Cond.instanceMethod xy_De_memberAt) ∈ wT := wT_t (List.mem_append_left _ (List.mem_of_getElem? (i := 160) rfl)) rfl
theorem k6d_18 : (Cond.selects "LayerDesk" xy_De_memberAt xy_De_memberAt) ∈ wT := wT_s (q := (xy_De_memberAt, 6)) (by decide +kernel) rfl
theorem k6d_19 : (Cond.initialized "LayerDesk") ∈ wT := wT_t (List.mem_append_left _ (List.mem_of_getElem? (i := 1) rfl)) rfl
theorem k6d_20 : (Cond.classLink "LayerDesk" 56 "java/lang/IllegalArgumentException") ∈ wT := wT_t (List.mem_append_right _ (List.mem_append_left _ (List.mem_of_getElem? (i := 205) rfl))) rfl
theorem k6d_21 : (Cond.initialized "java/lang/IllegalArgumentException") ∈ wT := wT_t (List.mem_append_left _ (List.mem_of_getElem? (i := 16) rfl)) rfl
theorem k6d_22 : (Cond.fieldLink "LayerDesk" 136 "LayerDesk$Member" "descriptor" "LLayerDesk$Descriptor;") ∈ wT := wT_t (List.mem_append_right _ (List.mem_append_right _ (List.mem_append_left _ (List.mem_of_getElem? (i := 185) rfl)))) rfl
theorem k6d_23 : (Cond.fieldLink "LayerDesk" 163 "LayerDesk$Descriptor" "packages" "LLayerDesk$Names;") ∈ wT := wT_t (List.mem_append_right _ (List.mem_append_left _ (List.mem_of_getElem? (i := 63) rfl))) rfl
theorem k6d_24 : (Cond.code xy_Na_holds xb_Na_holds 2 (some .boolean)) ∈ wT := wT_t (List.mem_append_right _ (List.mem_append_left _ (List.mem_of_getElem? (i := 123) rfl))) rfl
theorem k6d_25 : (Cond.methodLink "LayerDesk" 167 xy_Na_holds) ∈ wT := wT_t (List.mem_append_right _ (List.mem_append_right _ (List.mem_append_right _ (List.mem_append_left _ (List.mem_of_getElem? (i := 46) rfl))))) rfl
theorem k6d_26 : (Cond.instanceMethod xy_Na_holds) ∈ wT := wT_t (List.mem_append_right _ (List.mem_append_left _ (List.mem_of_getElem? (i := 121) rfl))) rfl
theorem k6d_27 : (Cond.selects "LayerDesk$Names" xy_Na_holds xy_Na_holds) ∈ wT := wT_t (List.mem_append_right _ (List.mem_append_left _ (List.mem_of_getElem? (i := 122) rfl))) rfl
theorem k6d_28 : (Cond.initialized "LayerDesk$Names") ∈ wT := wT_t (List.mem_append_left _ (List.mem_of_getElem? (i := 11) rfl)) rfl
theorem k6d_29 : (Cond.code xy_Me_code xb_Me_code 1 (some .int)) ∈ wT := wT_t (List.mem_append_right _ (List.mem_append_right _ (List.mem_append_right _ (List.mem_append_left _ (List.mem_of_getElem? (i := 52) rfl))))) rfl
theorem k6d_30 : (Cond.methodLink "LayerDesk" 178 xy_Me_code) ∈ wT := wT_t (List.mem_append_right _ (List.mem_append_right _ (List.mem_append_right _ (List.mem_append_left _ (List.mem_of_getElem? (i := 49) rfl))))) rfl
theorem k6d_31 : (Cond.instanceMethod xy_Me_code) ∈ wT := wT_t (List.mem_append_right _ (List.mem_append_right _ (List.mem_append_right _ (List.mem_append_left _ (List.mem_of_getElem? (i := 50) rfl))))) rfl
theorem k6d_32 : (Cond.selects "LayerDesk$Member" xy_Me_code xy_Me_code) ∈ wT := wT_t (List.mem_append_right _ (List.mem_append_right _ (List.mem_append_right _ (List.mem_append_left _ (List.mem_of_getElem? (i := 51) rfl))))) rfl
theorem k6d_33 : (Cond.initialized "LayerDesk$Member") ∈ wT := wT_t (List.mem_append_left _ (List.mem_of_getElem? (i := 20) rfl)) rfl
theorem k6d_34 : (Cond.code xy_Me_sourceOf xb_Me_sourceOf 5 (some (.object "LayerDesk$Member"))) ∈ wT := wT_t (List.mem_append_right _ (List.mem_append_right _ (List.mem_append_right _ (List.mem_append_left _ (List.mem_of_getElem? (i := 26) rfl))))) rfl
theorem k6d_35 : (Cond.methodLink "LayerDesk" 172 xy_Me_sourceOf) ∈ wT := wT_t (List.mem_append_right _ (List.mem_append_right _ (List.mem_append_right _ (List.mem_append_left _ (List.mem_of_getElem? (i := 47) rfl))))) rfl
theorem k6d_36 : (Cond.instanceMethod xy_Me_sourceOf) ∈ wT := wT_t (List.mem_append_right _ (List.mem_append_right _ (List.mem_append_right _ (List.mem_append_left _ (List.mem_of_getElem? (i := 24) rfl))))) rfl
theorem k6d_37 : (Cond.selects "LayerDesk$Member" xy_Me_sourceOf xy_Me_sourceOf) ∈ wT := wT_t (List.mem_append_right _ (List.mem_append_right _ (List.mem_append_right _ (List.mem_append_left _ (List.mem_of_getElem? (i := 25) rfl))))) rfl
theorem k6d_38 : (Cond.classLink "LayerDesk" 89 "java/util/NoSuchElementException") ∈ wT := wT_t (List.mem_append_right _ (List.mem_append_right _ (List.mem_append_left _ (List.mem_of_getElem? (i := 94) rfl)))) rfl
theorem k6d_39 : (Cond.initialized "java/util/NoSuchElementException") ∈ wT := wT_t (List.mem_append_left _ (List.mem_of_getElem? (i := 18) rfl)) rfl
theorem k6d_40 : (Cond.code xy_De_memberOf xb_De_memberOf 4 (some (.object "LayerDesk$Member"))) ∈ wT := wT_t (List.mem_append_left _ (List.mem_of_getElem? (i := 169) rfl)) rfl
theorem k6d_41 : (Cond.methodLink "LayerDesk" 145 xy_De_memberOf) ∈ wT := wT_t (List.mem_append_left _ (List.mem_of_getElem? (i := 166) rfl)) rfl
theorem k6d_42 : (Cond.instanceMethod xy_De_memberOf) ∈ wT := wT_t (List.mem_append_left _ (List.mem_of_getElem? (i := 168) rfl)) rfl
theorem k6d_43 : (Cond.selects "LayerDesk" xy_De_memberOf xy_De_memberOf) ∈ wT := wT_s (q := (xy_De_memberOf, 6)) (by decide +kernel) rfl
theorem k6d_44 : (Cond.fieldLink "LayerDesk" 148 "LayerDesk$Member" "reading" "LLayerDesk$Reach;") ∈ wT := wT_t (List.mem_append_right _ (List.mem_append_right _ (List.mem_append_left _ (List.mem_of_getElem? (i := 192) rfl)))) rfl
theorem k6d_45 : (Cond.code xy_Re_marks xb_Re_marks 2 (some .boolean)) ∈ wT := wT_t (List.mem_append_left _ (List.mem_of_getElem? (i := 177) rfl)) rfl
theorem k6d_46 : (Cond.methodLink "LayerDesk" 152 xy_Re_marks) ∈ wT := wT_t (List.mem_append_left _ (List.mem_of_getElem? (i := 174) rfl)) rfl
theorem k6d_47 : (Cond.instanceMethod xy_Re_marks) ∈ wT := wT_t (List.mem_append_left _ (List.mem_of_getElem? (i := 175) rfl)) rfl
theorem k6d_48 : (Cond.selects "LayerDesk$Reach" xy_Re_marks xy_Re_marks) ∈ wT := wT_t (List.mem_append_left _ (List.mem_of_getElem? (i := 176) rfl)) rfl
theorem k6d_49 : (Cond.initialized "LayerDesk$Reach") ∈ wT := wT_t (List.mem_append_left _ (List.mem_of_getElem? (i := 21) rfl)) rfl
theorem k6d_50 : (Cond.fieldLink "LayerDesk" 183 "LayerDesk$Descriptor" "name" "I") ∈ wT := wT_t (List.mem_append_right _ (List.mem_append_left _ (List.mem_of_getElem? (i := 59) rfl))) rfl
theorem k6d_51 : (Cond.code xy_Ds_opensTo xb_Ds_opensTo 4 (some .boolean)) ∈ wT := wT_t (List.mem_append_right _ (List.mem_append_right _ (List.mem_append_right _ (List.mem_append_left _ (List.mem_of_getElem? (i := 64) rfl))))) rfl
theorem k6d_52 : (Cond.methodLink "LayerDesk" 186 xy_Ds_opensTo) ∈ wT := wT_t (List.mem_append_right _ (List.mem_append_right _ (List.mem_append_right _ (List.mem_append_left _ (List.mem_of_getElem? (i := 61) rfl))))) rfl
theorem k6d_53 : (Cond.instanceMethod xy_Ds_opensTo) ∈ wT := wT_t (List.mem_append_right _ (List.mem_append_right _ (List.mem_append_right _ (List.mem_append_left _ (List.mem_of_getElem? (i := 62) rfl))))) rfl
theorem k6d_54 : (Cond.selects "LayerDesk$Descriptor" xy_Ds_opensTo xy_Ds_opensTo) ∈ wT := wT_t (List.mem_append_right _ (List.mem_append_right _ (List.mem_append_right _ (List.mem_append_left _ (List.mem_of_getElem? (i := 63) rfl))))) rfl
theorem k6d_55 : (Cond.initialized "LayerDesk$Descriptor") ∈ wT := wT_t (List.mem_append_left _ (List.mem_of_getElem? (i := 10) rfl)) rfl
theorem k6d_56 : (Cond.code xy_De_openLayer xb_De_openLayer 3 (some (.object "LayerDesk$Layer"))) ∈ wT := wT_t (List.mem_append_left _ (List.mem_of_getElem? (i := 137) rfl)) rfl
theorem k6d_57 : (Cond.methodLink "LayerDesk" 68 xy_De_openLayer) ∈ wT := wT_t (List.mem_append_left _ (List.mem_of_getElem? (i := 134) rfl)) rfl
theorem k6d_58 : (Cond.instanceMethod xy_De_openLayer) ∈ wT := wT_t (List.mem_append_left _ (List.mem_of_getElem? (i := 136) rfl)) rfl
theorem k6d_59 : (Cond.selects "LayerDesk" xy_De_openLayer xy_De_openLayer) ∈ wT := wT_s (q := (xy_De_openLayer, 6)) (by decide +kernel) rfl
theorem k6d_60 : (Cond.code xy_Ly_providerOf xb_Ly_providerOf 6 (some (.object "LayerDesk$Member"))) ∈ wT := wT_t (List.mem_append_right _ (List.mem_append_right _ (List.mem_append_right _ (List.mem_append_left _ (List.mem_of_getElem? (i := 76) rfl))))) rfl
theorem k6d_61 : (Cond.methodLink "LayerDesk" 192 xy_Ly_providerOf) ∈ wT := wT_t (List.mem_append_right _ (List.mem_append_right _ (List.mem_append_right _ (List.mem_append_left _ (List.mem_of_getElem? (i := 73) rfl))))) rfl
theorem k6d_62 : (Cond.instanceMethod xy_Ly_providerOf) ∈ wT := wT_t (List.mem_append_right _ (List.mem_append_right _ (List.mem_append_right _ (List.mem_append_left _ (List.mem_of_getElem? (i := 74) rfl))))) rfl
theorem k6d_63 : (Cond.selects "LayerDesk$Layer" xy_Ly_providerOf xy_Ly_providerOf) ∈ wT := wT_t (List.mem_append_right _ (List.mem_append_right _ (List.mem_append_right _ (List.mem_append_left _ (List.mem_of_getElem? (i := 75) rfl))))) rfl
theorem k6d_64 : (Cond.initialized "LayerDesk$Layer") ∈ wT := wT_t (List.mem_append_left _ (List.mem_of_getElem? (i := 19) rfl)) rfl
theorem k6d_65 : (Cond.methodLink "LayerDesk" 49 xy_Li_take) ∈ wT := wT_t (List.mem_append_left _ (List.mem_of_getElem? (i := 187) rfl)) rfl
theorem k6d_66 : (Cond.fieldLink "LayerDesk" 19 "LayerDesk" "shelf" "LLayerDesk$Shelf;") ∈ wT := wT_t (List.mem_append_left _ (List.mem_of_getElem? (i := 100) rfl)) rfl
theorem k6d_67 : (Cond.code xy_Sh_accept xb_Sh_accept 2 (some .int)) ∈ wT := wT_t (List.mem_append_left _ (List.mem_of_getElem? (i := 194) rfl)) rfl
theorem k6d_68 : (Cond.methodLink "LayerDesk" 52 xy_Sh_accept) ∈ wT := wT_t (List.mem_append_left _ (List.mem_of_getElem? (i := 191) rfl)) rfl
theorem k6d_69 : (Cond.instanceMethod xy_Sh_accept) ∈ wT := wT_t (List.mem_append_left _ (List.mem_of_getElem? (i := 192) rfl)) rfl
theorem k6d_70 : (Cond.selects "LayerDesk$Shelf" xy_Sh_accept xy_Sh_accept) ∈ wT := wT_t (List.mem_append_left _ (List.mem_of_getElem? (i := 193) rfl)) rfl
theorem k6d_71 : (Cond.initialized "LayerDesk$Shelf") ∈ wT := wT_t (List.mem_append_left _ (List.mem_of_getElem? (i := 3) rfl)) rfl
theorem k6d_72 : (Cond.classLink "LayerDesk" 63 "java/lang/IllegalStateException") ∈ wT := wT_t (List.mem_append_right _ (List.mem_append_right _ (List.mem_append_left _ (List.mem_of_getElem? (i := 32) rfl)))) rfl
theorem k6d_73 : (Cond.initialized "java/lang/IllegalStateException") ∈ wT := wT_t (List.mem_append_left _ (List.mem_of_getElem? (i := 17) rfl)) rfl
set_option maxHeartbeats 4000000 in
set_option maxRecDepth 100000 in
theorem xc_Li_takeNameX (l : Launch) (D : va_G) (kA : Nat → ClassId) (sz : Nat) (ad : Nat → Nat → Nat) (E : Nat → Nat → va_E) (RL : List (Nat × Nat)) (g : Nat → Nat → Int32) (ml : Nat) (nd : Nat) (len : Nat) (wn : Nat) (cs : Nat) (hCI : CI kA ad E RL ml nd len wn cs) (hTX : ∀ i, i < len → eA (E 0 2) i = g 0 i) : Met l xy_Li_takeName (.code xy_Li_takeName xb_Li_takeName 1 (some .int) :: wT) { frames := 1, cells := 0, slots := 0, locals := 23 } (va_Pc [.ref (ad 0 1)] (xPre D kA sz (rp ad E RL))) (va_Qi (fun (r : Int32) (u : Nat → Nat → va_E) => (∃ wn2, CI kA ad u RL ml nd 0 wn2 cs) ∧ F134 E u ∧ r = (cif ((w_all (g 0) len).length = 1) (wN (g 0) (w_all (g 0) len) 0) 0)) (fun (u : Nat → Nat → va_E) t => va_P D xcl (rp ad u RL) t.heap ∧ va_D (va_A (rp ad E RL) sz) (rp ad u RL)) (va_A (rp ad E RL) sz)) 0 0 (va_A (rp ad E RL) sz) := by
  refine Met.ofW (cc := xb_Li_takeName) (maxL := 1) (ret := (some .int)) (by decide) rfl ?_
  intro p e s m args below meth c s₁ B hml hv
  obtain ⟨rfl, hsz, hP, hK, hD0⟩ := hv
  have hx := B.exec
  have hb := B.bytes
  have hr := B.returns
  have hT := x_hT B.pre
  have hown : s.vm.findClass xR_Li = some m.cls := findClass_of_methodNamed B.named
  have hlocks := B.notSynchronized
  subst hsz
  have hD := hD0.self (sz := s.heap.size)
  generalize hAe : va_A (rp ad E RL) s.heap.size = A at hD ⊢
  have hA : ∀ q : Nat, s.heap.size ≤ q → A q := fun q h => by rw [← hAe]; exact Or.inr h
  have hS : va_S A s.heap s.heap [] := va_S.rf
  have hl := lv_entry ([.ref (ad 0 1)]) (n := 1) (Nat.le_of_ble_eq_true rfl)
  rw [lg_entry_eq]
  generalize (lg_sl ([.ref (ad 0 1)]) ++ List.replicate (1 - (lg_sl ([.ref (ad 0 1)])).length) Slot.unset).toArray = ls at hl ⊢
  have hl : lv_has ls 1 [(0, .ref (ad 0 1))] := hl
  have hP : va_P D xcl (rp ad E RL) s.heap := hP
  obtain ⟨hmB, hDk, hLi, hSh, hCh, hLa, hDIs, hLIs⟩ := id hCI
  obtain ⟨lf_1, q_1⟩ := id (hDk)
  have c_2 : E 0 0 = .inr (0, [.ref (ad 0 1), .ref (ad 0 5), .ref (ad 0 7), .ref (ad 0 9), .int (nI ml), .int lf_1]) := q_1
  have m_3 : (0, 0) ∈ RL := hmB 0 (by omega)
  obtain ⟨tx_4, fb_4, fe_4, hl1_4, hw2_4, q1_4, q2_4, q3_4, q4_4, hws_4⟩ := id (hLi)
  have c_5 : E 0 1 = .inr (1, [.ref (ad 0 2), .ref (ad 0 3), .ref (ad 0 4), .int (nI len), .int (nI wn)]) := q1_4
  have m_6 : (0, 1) ∈ RL := hmB 1 (by omega)
  have c_7 : E 0 2 = .inl (kA 1, 40, .inl tx_4) := q2_4
  have m_8 : (0, 2) ∈ RL := hmB 2 (by omega)
  have c_9 : E 0 3 = .inl (kA 0, 20, .inl fb_4) := q3_4
  have m_10 : (0, 3) ∈ RL := hmB 3 (by omega)
  have c_11 : E 0 4 = .inl (kA 0, 20, .inl fe_4) := q4_4
  have m_12 : (0, 4) ∈ RL := hmB 4 (by omega)
  obtain ⟨fd_13, hnd_13, q5_13, q6_13, hds_13⟩ := id (hSh)
  have c_14 : E 0 5 = .inr (2, [.ref (ad 0 6), .int (nI nd)]) := q5_13
  have m_15 : (0, 5) ∈ RL := hmB 5 (by omega)
  have c_16 : E 0 6 = .inl (kA 4, 12, .inr (.inr (.inr (.inr fd_13)))) := q6_13
  have m_17 : (0, 6) ∈ RL := hmB 6 (by omega)
  obtain ⟨cf_18, pv_18, fc_18, hcs_18, hpv_18, q7_18, q8_18, hfc_18⟩ := id (hCh)
  have c_19 : E 0 7 = .inr (3, [.ref (ad 0 5), .ref (ad 0 8), .int (nI cs), .int cf_18, pv_18]) := q7_18
  have m_20 : (0, 7) ∈ RL := hmB 7 (by omega)
  have c_21 : E 0 8 = .inl (kA 4, 12, .inr (.inr (.inr (.inr fc_18)))) := q8_18
  have m_22 : (0, 8) ∈ RL := hmB 8 (by omega)
  obtain ⟨fl_23, hml_23, q9_23, hla_23⟩ := id (hLa)
  have c_24 : E 0 9 = .inl (kA 5, 5, .inr (.inr (.inr (.inr fl_23)))) := q9_23
  have m_25 : (0, 9) ∈ RL := hmB 9 (by omega)
  refine lv_aload_n hx hb xd_Li_takeName_0 rfl (lv_at hl 0 rfl) ?_
  have hFc := px_free hD hS hA
  refine va_callv (va_runV (As := []) (rest := []) ⟨hx, hb, hml, hown, hT⟩ (xc_Li_takeX l D kA s.heap.size ad E RL len wn tx_4 fb_4 fe_4 m_6 c_5 m_8 c_7 m_10 c_9 m_12 c_11 (by first | assumption | omega)) (cwV 0 hT (wT_V k6d_1 k6d_2 k6d_3 k6d_4 k6d_0) rfl rfl rfl (by decide +kernel) ⟨Nat.le_of_ble_eq_true rfl, Nat.le_of_ble_eq_true rfl⟩) (px_preV hK hP hD m_6 c_5 rfl) rfl rfl hl.1 rfl (lv_room (Nat.le_of_ble_eq_true rfl)) xd_Li_takeName_1 ⟨(Nat.le_of_ble_eq_true rfl), (Nat.le_of_ble_eq_true rfl)⟩) hS (fun q _ h => hFc q h) hFc (fun u27 t H1 locs ht hvm hp28 hB hz1 hk1 hS => ?_)
  obtain ⟨hP1, hD1⟩ := hB
  rw [ht] at hP1
  have hD1 := hD1.weaken (fun _ _ _ h => hFc _ h)
  generalize H1 = H at hP1 hS ⊢
  have hP := hP1
  have hD := hD1
  obtain ⟨E29, rfl⟩ : ∃ z, z = u27 := ⟨_, rfl⟩
  obtain ⟨w30, w31, w32, hp37, p_33, p_34, p_35, p_36⟩ := hp28
  have p_33 : E29 0 1 = .inr (1, [.ref (ad 0 2), .ref (ad 0 3), .ref (ad 0 4), .int 0, .int (nI w30)]) := p_33
  have p_34 : E29 0 3 = .inl (kA 0, 20, .inl w31) := p_34
  have p_35 : E29 0 4 = .inl (kA 0, 20, .inl w32) := p_35
  have p_36 : (∀ b2 o2, ¬ (b2 = 0 ∧ o2 = 1) → ¬ (b2 = 0 ∧ o2 = 3) → ¬ (b2 = 0 ∧ o2 = 4) → E29 b2 o2 = E b2 o2) := p_36
  have c_38 : E29 0 0 = .inr (0, [.ref (ad 0 1), .ref (ad 0 5), .ref (ad 0 7), .ref (ad 0 9), .int (nI ml), .int lf_1]) := (p_36 0 0 (by omega) (by omega) (by omega)).trans c_2
  have c_39 : E29 0 2 = .inl (kA 1, 40, .inl tx_4) := (p_36 0 2 (by omega) (by omega) (by omega)).trans c_7
  have c_40 : E29 0 5 = .inr (2, [.ref (ad 0 6), .int (nI nd)]) := (p_36 0 5 (by omega) (by omega) (by omega)).trans c_14
  have c_41 : E29 0 6 = .inl (kA 4, 12, .inr (.inr (.inr (.inr fd_13)))) := (p_36 0 6 (by omega) (by omega) (by omega)).trans c_16
  have c_42 : E29 0 7 = .inr (3, [.ref (ad 0 5), .ref (ad 0 8), .int (nI cs), .int cf_18, pv_18]) := (p_36 0 7 (by omega) (by omega) (by omega)).trans c_19
  have c_43 : E29 0 8 = .inl (kA 4, 12, .inr (.inr (.inr (.inr fc_18)))) := (p_36 0 8 (by omega) (by omega) (by omega)).trans c_21
  have c_44 : E29 0 9 = .inl (kA 5, 5, .inr (.inr (.inr (.inr fl_23)))) := (p_36 0 9 (by omega) (by omega) (by omega)).trans c_24
  have hP : va_P D xcl (rp ad E29 RL) H := hP
  have hD : va_D A (rp ad E29 RL) := hD
  obtain ⟨hw20, hWP, hTQ1, hTQ2⟩ := hp37
  obtain ⟨wl, hwl⟩ : ∃ z, z = w_all (g 0) len := ⟨_, rfl⟩
  have htx9 : ∀ j, j < len → tx_4 j = g 0 j := fun j hj => by
    have q := hTX j hj
    rw [← (show E29 0 2 = E 0 2 from by show E29 0 2 = _; rw [p_36 0 2 (by omega) (by omega) (by omega)]), c_39] at q; exact q
  have hwx : w_all tx_4 len = wl := by rw [hwl]; exact w_all_congr htx9
  rw [hwx] at hTQ1 hTQ2
  have hLW : LW g E29 len wl := LW_mk hwl (by omega) c_39 p_34 p_35 htx9 hTQ2
  have c1w : E29 0 1 = .inr (1, [.ref (ad 0 2), .ref (ad 0 3), .ref (ad 0 4), .int 0, .int (nI (wl.length))]) := by rw [← hTQ1]; exact p_33
  have hF1 : F134 E E29 := fun b2 o2 h19 h29 h39 => by show E29 b2 o2 = _; rw [p_36 b2 o2 (by omega) (by omega) (by omega)]
  have hCI : CI kA ad E29 RL ml nd 0 wl.length cs := ⟨hmB, ⟨lf_1, c_38⟩, ⟨tx_4, w31, w32, (by omega), (by omega), c1w, c_39, p_34, p_35, (by rw [← hTQ1]; exact hWP)⟩, ⟨fd_13, (by omega), c_40, c_41, hds_13⟩, ⟨cf_18, pv_18, fc_18, (by omega), hpv_18, c_42, c_43, hfc_18⟩, ⟨fl_23, (by omega), c_44, hla_23⟩, (DIs_same (fun d9 hd9 => fun2 fun o9 => by show E29 (1 + d9) o9 = _; rw [p_36 (1 + d9) o9 (by omega) (by omega) (by omega)]) (fun _ _ => rfl) (fun _ h9 => h9) hDIs), (LIs_same (Nat.le_refl _) (fun n9 hn9 => fun2 fun o9 => by show E29 (20 + n9) o9 = _; rw [p_36 (20 + n9) o9 (by omega) (by omega) (by omega)]) (fun _ _ => rfl) (fun _ _ => rfl) (fun _ h9 => h9) hLIs)⟩
  obtain ⟨hmB, hDk, hLi, hSh, hCh, hLa, hDIs, hLIs⟩ := id hCI
  obtain ⟨tx_45, fb_45, fe_45, hl1_45, hw2_45, q1_45, q2_45, q3_45, q4_45, hws_45⟩ := id (hLi)
  have c_46 : E29 0 1 = .inr (1, [.ref (ad 0 2), .ref (ad 0 3), .ref (ad 0 4), .int (nI 0), .int (nI (wl.length))]) := q1_45
  have m_47 : (0, 1) ∈ RL := hmB 1 (by omega)
  have c_48 : E29 0 2 = .inl (kA 1, 40, .inl tx_45) := q2_45
  have m_49 : (0, 2) ∈ RL := hmB 2 (by omega)
  have c_50 : E29 0 3 = .inl (kA 0, 20, .inl fb_45) := q3_45
  have m_51 : (0, 3) ∈ RL := hmB 3 (by omega)
  have c_52 : E29 0 4 = .inl (kA 0, 20, .inl fe_45) := q4_45
  have m_53 : (0, 4) ∈ RL := hmB 4 (by omega)
  refine lv_aload_n hx hb xd_Li_takeName_4 rfl (lv_at hl 0 rfl) ?_
  refine px_get (D := D) (ci := 1) (v := .int (nI (wl.length))) (C := xR_Li) (T := xT_Li) (N := 5) hx hb hT xi_Li hown hK.1 hP m_47 c_46 rfl 4 (by decide) (hT _ k6d_5) (fun _ h9 => h9) rfl xd_Li_takeName_5 ?_
  refine lv_iconst (v := 1) hx hb xd_Li_takeName_8 (by decide) ?_
  refine xn_ne (a := wl.length) (b := 1) (tgt := 20) hx hb xd_Li_takeName_9 (by decide) (by omega) (by omega) (fun hc54 => ?_) (fun hc54 => ?_)
  · refine lv_iconst (v := 0) hx hb xd_Li_takeName_20 (by decide) ?_
    exact W.iret (v := 0) hx hb hr (fun t ht hW => ⟨⟨0, E29, rfl, ⟨⟨wl.length, hCI⟩, hF1, (by rw [← hwl, cif_neg (by omega)])⟩, by rw [ht]; exact hP, hD⟩, hS.F ht⟩) hS.2.2 xd_Li_takeName_21
  · refine lv_aload_n hx hb xd_Li_takeName_12 rfl (lv_at hl 0 rfl) ?_
    refine lv_iconst (v := 0) hx hb xd_Li_takeName_13 (by decide) ?_
    have hFc := px_free hD hS hA
    refine va_calli (va_runV (As := [.int 0]) (rest := []) ⟨hx, hb, hml, hown, hT⟩ (xc_Li_nameAtX l D kA H.size ad E29 RL g ml nd 0 len wl cs 0 (by first | assumption | omega) hLW (by first | assumption | omega)) (cwV 1 hT (wT_V k6d_7 k6d_8 k6d_9 k6d_4 k6d_6) rfl rfl rfl (by decide +kernel) ⟨Nat.le_of_ble_eq_true rfl, Nat.le_of_ble_eq_true rfl⟩) (px_preV hK hP hD m_47 c_46 rfl) rfl rfl hl.1 rfl (lv_room (Nat.le_of_ble_eq_true rfl)) xd_Li_takeName_14 ⟨(Nat.le_of_ble_eq_true rfl), (Nat.le_of_ble_eq_true rfl)⟩) hS (fun q _ h => hFc q h) hFc (fun r55 u56 t H1 locs ht hvm hp57 hB hz1 hk1 hS => ?_)
    obtain ⟨hP1, hD1⟩ := hB
    rw [ht] at hP1
    have hD1 := hD1.weaken (fun _ _ _ h => hFc _ h)
    generalize H1 = H at hP1 hS ⊢
    have hP := hP1
    have hD := hD1
    have hP : va_P D xcl (rp ad E29 RL) H := hP
    have hD : va_D A (rp ad E29 RL) := hD
    refine lv_goto (tgt := 21) hx hb xd_Li_takeName_17 (by decide) ?_
    exact W.iret (v := r55) hx hb hr (fun t ht hW => ⟨⟨r55, E29, rfl, ⟨⟨wl.length, hCI⟩, hF1, (by rw [← hwl, cif_pos (by omega)]; exact hp57)⟩, by rw [ht]; exact hP, hD⟩, hS.F ht⟩) hS.2.2 xd_Li_takeName_21
set_option maxHeartbeats 4000000 in
set_option maxRecDepth 100000 in
theorem xc_De_loadK (l : Launch) (hlt : l.stackTraces = false) (D : va_G) (kA : Nat → ClassId) (sz : Nat) (ad : Nat → Nat → Nat) (E : Nat → Nat → va_E) (RL : List (Nat × Nat)) (Z : zT) (g : Nat → Nat → Int32) (ml : Nat) (nd : Nat) (len : Nat) (wn : Nat) (cs : Nat) (ix : Int32) (kx : Int32) (hCI : CI kA ad E RL ml nd len wn cs) (hTX : ∀ i, i < len → eA (E 0 2) i = g 0 i) : vx_Met l xy_De_load (.code xy_De_load xb_De_load 6 (some .int) :: wT) { frames := 6, cells := 1, slots := 6, locals := 90 } (va_Pc [.ref (ad 0 0), .int ix, .int kx] (xPreZ D kA sz (rp ad E RL) Z)) (va_Qi (fun (r : Int32) (u : Nat → Nat → va_E) => (∃ wn2, CI kA ad u RL ml nd 0 wn2 cs) ∧ F134 E u) (fun (u : Nat → Nat → va_E) t => va_P D xcl (rp ad u RL) t.heap ∧ va_D (va_A (rp ad E RL) sz) (rp ad u RL)) (va_A (rp ad E RL) sz)) (vx_X (fun (u : Nat → Nat → va_E) => (∃ wn2, CI kA ad u RL ml nd 0 wn2 cs) ∧ F134 E u) (fun E9 u t => (E9 = "java/lang/IllegalArgumentException" ∨ E9 = "java/util/NoSuchElementException") ∧ va_P D xcl (rp ad u RL) t.heap ∧ va_D (va_A (rp ad E RL) sz) (rp ad u RL)) (va_A (rp ad E RL) sz)) 1 6 (va_A (rp ad E RL) sz) := by
  refine vx_ofW (cc := xb_De_load) (maxL := 6) (ret := (some .int)) (by decide) rfl ?_
  intro p e s m args below meth c s₁ B hml htab hv
  obtain ⟨rfl, ⟨hsz, hP, hK, hD0⟩, hZ⟩ := hv
  have hx := B.exec
  have hb := B.bytes
  have hr := B.returns
  have hT := x_hT B.pre
  have hown : s.vm.findClass xR_De = some m.cls := findClass_of_methodNamed B.named
  have hlocks := B.notSynchronized
  subst hsz
  have hD := hD0.self (sz := s.heap.size)
  generalize hAe : va_A (rp ad E RL) s.heap.size = A at hD hZ ⊢
  have hA : ∀ q : Nat, s.heap.size ≤ q → A q := fun q h => by rw [← hAe]; exact Or.inr h
  have hS : va_S A s.heap s.heap [] := va_S.rf
  have hl := lv_entry ([.ref (ad 0 0), .int ix, .int kx]) (n := 6) (Nat.le_of_ble_eq_true rfl)
  rw [lg_entry_eq]
  generalize (lg_sl ([.ref (ad 0 0), .int ix, .int kx]) ++ List.replicate (6 - (lg_sl ([.ref (ad 0 0), .int ix, .int kx])).length) Slot.unset).toArray = ls at hl ⊢
  have hl : lv_has ls 6 [(0, .ref (ad 0 0)), (1, .int ix), (2, .int kx)] := hl
  have hP : va_P D xcl (rp ad E RL) s.heap := hP
  obtain ⟨hmB, hDk, hLi, hSh, hCh, hLa, hDIs, hLIs⟩ := id hCI
  obtain ⟨lf_1, q_1⟩ := id (hDk)
  have c_2 : E 0 0 = .inr (0, [.ref (ad 0 1), .ref (ad 0 5), .ref (ad 0 7), .ref (ad 0 9), .int (nI ml), .int lf_1]) := q_1
  have m_3 : (0, 0) ∈ RL := hmB 0 (by omega)
  refine lv_aload_n hx hb xd_De_load_0 rfl (lv_at hl 0 rfl) ?_
  refine px_get (D := D) (ci := 0) (v := .ref (ad 0 1)) (C := xR_De) (T := xT_De) (N := 6) hx hb hT xi_De hown hK.1 hP m_3 c_2 rfl 0 (by decide) (hT _ k6d_10) (fun _ h9 => h9) rfl xd_De_load_1 ?_
  have hFc := px_free hD hS hA
  obtain ⟨tx_4, fb_4, fe_4, hl1_4, hw2_4, q1_4, q2_4, q3_4, q4_4, hws_4⟩ := id (hLi)
  have c_5 : E 0 1 = .inr (1, [.ref (ad 0 2), .ref (ad 0 3), .ref (ad 0 4), .int (nI len), .int (nI wn)]) := q1_4
  have m_6 : (0, 1) ∈ RL := hmB 1 (by omega)
  have c_7 : E 0 2 = .inl (kA 1, 40, .inl tx_4) := q2_4
  have m_8 : (0, 2) ∈ RL := hmB 2 (by omega)
  have c_9 : E 0 3 = .inl (kA 0, 20, .inl fb_4) := q3_4
  have m_10 : (0, 3) ∈ RL := hmB 3 (by omega)
  have c_11 : E 0 4 = .inl (kA 0, 20, .inl fe_4) := q4_4
  have m_12 : (0, 4) ∈ RL := hmB 4 (by omega)
  refine va_calli (va_runV (As := []) (rest := []) ⟨hx, hb, hml, hown, hT⟩ (xc_Li_takeNameX l D kA s.heap.size ad E RL g ml nd len wn cs (by first | assumption | omega) (by first | assumption | omega)) (cwV 0 hT (wT_V k6d_12 k6d_13 k6d_14 k6d_4 k6d_11) rfl rfl rfl (by decide +kernel) ⟨Nat.le_of_ble_eq_true rfl, Nat.le_of_ble_eq_true rfl⟩) (px_preV hK hP hD m_6 c_5 rfl) rfl rfl hl.1 rfl (lv_room (Nat.le_of_ble_eq_true rfl)) xd_De_load_4 ⟨(Nat.le_of_ble_eq_true rfl), (Nat.le_of_ble_eq_true rfl)⟩) hS (fun q _ h => hFc q h) hFc (fun r13 u14 t H1 locs ht hvm hp15 hB hz1 hk1 hS => ?_)
  obtain ⟨hP1, hD1⟩ := hB
  rw [ht] at hP1
  have hD1 := hD1.weaken (fun _ _ _ h => hFc _ h)
  generalize H1 = H at hP1 hS ⊢
  have hP := hP1
  have hD := hD1
  obtain ⟨E16, rfl⟩ : ∃ z, z = u14 := ⟨_, rfl⟩
  have hP : va_P D xcl (rp ad E16 RL) H := hP
  have hD : va_D A (rp ad E16 RL) := hD
  obtain ⟨⟨wn17, hCI⟩, hF1, hr9⟩ := hp15
  have hCI : CI kA ad E16 RL ml nd 0 wn17 cs := hCI
  obtain ⟨hmB, hDk, hLi, hSh, hCh, hLa, hDIs, hLIs⟩ := id hCI
  obtain ⟨lf_18, q_18⟩ := id (hDk)
  have c_19 : E16 0 0 = .inr (0, [.ref (ad 0 1), .ref (ad 0 5), .ref (ad 0 7), .ref (ad 0 9), .int (nI ml), .int lf_18]) := q_18
  have m_20 : (0, 0) ∈ RL := hmB 0 (by omega)
  obtain ⟨fd_21, hnd_21, q5_21, q6_21, hds_21⟩ := id (hSh)
  have c_22 : E16 0 5 = .inr (2, [.ref (ad 0 6), .int (nI nd)]) := q5_21
  have m_23 : (0, 5) ∈ RL := hmB 5 (by omega)
  have c_24 : E16 0 6 = .inl (kA 4, 12, .inr (.inr (.inr (.inr fd_21)))) := q6_21
  have m_25 : (0, 6) ∈ RL := hmB 6 (by omega)
  obtain ⟨fl_26, hml_26, q9_26, hla_26⟩ := id (hLa)
  have c_27 : E16 0 9 = .inl (kA 5, 5, .inr (.inr (.inr (.inr fl_26)))) := q9_26
  have m_28 : (0, 9) ∈ RL := hmB 9 (by omega)
  refine lv_istore_n hx hb xd_De_load_7 rfl hl (Nat.le_of_ble_eq_true rfl) rfl (fun ls hl => ?_)
  have hl : lv_has ls 6 [(3, .int r13), (0, .ref (ad 0 0)), (1, .int ix), (2, .int kx)] := hl
  refine lv_aload_n hx hb xd_De_load_8 rfl (lv_at hl 1 rfl) ?_
  refine lv_iload_n hx hb xd_De_load_9 rfl (lv_at hl 2 rfl) ?_
  refine lv_iload_n hx hb xd_De_load_10 rfl (lv_at hl 3 rfl) ?_
  have hFc := px_free hD hS hA
  refine va_callq (va_runV (As := [.int ix, .int kx]) (rest := []) ⟨hx, hb, hml, hown, hT⟩ (xc_De_memberAt l D kA H.size ad E16 RL ml nd 0 wn17 cs ix kx (by first | assumption | omega)) (cwV 2 hT (wT_V k6d_16 k6d_17 k6d_18 k6d_19 k6d_15) rfl rfl rfl (by decide +kernel) ⟨Nat.le_of_ble_eq_true rfl, Nat.le_of_ble_eq_true rfl⟩) (px_preV hK hP hD m_20 c_19 rfl) rfl rfl hl.1 rfl (lv_room (Nat.le_of_ble_eq_true rfl)) xd_De_load_11 ⟨(Nat.le_of_ble_eq_true rfl), (Nat.le_of_ble_eq_true rfl)⟩) hS (fun q _ h => hFc q h) hFc (fun r29 u30 t H1 locs ht hvm hp31 hB hz1 hk1 hS => ?_)
  obtain ⟨hP1, hD1⟩ := hB
  rw [ht] at hP1
  have hD1 := hD1.weaken (fun _ _ _ h => hFc _ h)
  generalize H1 = H at hP1 hS ⊢
  have hP := hP1
  have hD := hD1
  have hP : va_P D xcl (rp ad E16 RL) H := hP
  have hD : va_D A (rp ad E16 RL) := hD
  rcases hp31 with rfl | ⟨z32, z33, z34, rfl, z35⟩
  · refine W.eq (g2 := F0 m 14 ls [.null]) rfl ?_
    refine lv_astoreN hx hb xd_De_load_14 hl (Nat.le_of_ble_eq_true rfl) rfl (fun ls hl => ?_)
    have hl : lv_has ls 6 [(4, .null), (3, .int r13), (0, .ref (ad 0 0)), (1, .int ix), (2, .int kx)] := hl
    refine lv_aloadN hx hb xd_De_load_16 (lv_at hl 0 rfl) ?_
    refine lv_ifnullN (tgt := 25) hx hb xd_De_load_18 (by decide) ?_
    exact y_throwA (ik := 56) (is := 161) (wf := fun (u : Nat → Nat → va_E) => rp ad u RL) E16 (⟨⟨wn17, hCI⟩, hF1⟩) (Or.inl rfl) hx hb hlt hown hT hK k6d_20 k6d_21 hZ.2.2.2.1.2.2.2.2.2.2.2.2.2.2.2.2.2.2.2.2.2.1 hZ.1 hS hP hD (hl.1.trans hml.symm) xd_De_load_25 xd_De_load_28 xd_De_load_29 xd_De_load_31 xd_De_load_34 htab (Nat.le_of_ble_eq_true rfl) (Nat.le_of_ble_eq_true rfl) (Nat.le_of_ble_eq_true rfl) (Nat.le_of_ble_eq_true rfl) hlocks (Nat.le_of_ble_eq_true rfl) (Nat.le_of_ble_eq_true rfl)
  · refine W.eq (g2 := F0 m 14 ls [.ref (ad (20 + z32) (10 + 10 * z33))]) rfl ?_
    refine lv_astore hx hb xd_De_load_14 hl (Nat.le_of_ble_eq_true rfl) rfl (fun ls hl => ?_)
    have hl : lv_has ls 6 [(4, .ref (ad (20 + z32) (10 + 10 * z33))), (3, .int r13), (0, .ref (ad 0 0)), (1, .int ix), (2, .int kx)] := hl
    refine lv_aload hx hb xd_De_load_16 (lv_at hl 0 rfl) ?_
    refine lv_ifnull hx hb xd_De_load_18 ?_
    refine lv_iload_n hx hb xd_De_load_21 rfl (lv_at hl 1 rfl) ?_
    refine lv_if_ne (tgt := 35) hx hb xd_De_load_22 (by decide) (fun hc36 => ?_) (fun hc36 => ?_)
    · refine lv_aload hx hb xd_De_load_35 (lv_at hl 0 rfl) ?_
      obtain ⟨hm_37, d_37, rs_37, fr_37, g2_37, g3_37, g4_37, hd_37, hrs_37, q0_37, q1_37, q2_37, q3_37, q4_37, q5_37, q6_37, q7_37⟩ := id z35
      have c_38 : E16 (20 + z32) (10 + 10 * z33) = .inr (6, [.ref (ad (20 + z32) 0), .ref (ad (1 + d_37) 0), .ref (ad (20 + z32) (11 + 10 * z33)), .ref (ad (20 + z32) (12 + 10 * z33)), .ref (ad (20 + z32) (13 + 10 * z33)), .ref (ad (20 + z32) (14 + 10 * z33))]) := q0_37
      have m_39 : (20 + z32, 10 + 10 * z33) ∈ RL := hm_37 0 (by omega)
      have c_40 : E16 (20 + z32) (11 + 10 * z33) = .inl (kA 6, rs_37, .inr (.inr (.inr (.inr fr_37)))) := q1_37
      have m_41 : (20 + z32, 11 + 10 * z33) ∈ RL := hm_37 1 (by omega)
      have c_42 : E16 (20 + z32) (12 + 10 * z33) = .inr (10, [.ref (ad (20 + z32) (15 + 10 * z33))]) := q2_37
      have m_43 : (20 + z32, 12 + 10 * z33) ∈ RL := hm_37 2 (by omega)
      have c_44 : E16 (20 + z32) (13 + 10 * z33) = .inr (10, [.ref (ad (20 + z32) (16 + 10 * z33))]) := q3_37
      have m_45 : (20 + z32, 13 + 10 * z33) ∈ RL := hm_37 3 (by omega)
      have c_46 : E16 (20 + z32) (14 + 10 * z33) = .inr (10, [.ref (ad (20 + z32) (17 + 10 * z33))]) := q4_37
      have m_47 : (20 + z32, 14 + 10 * z33) ∈ RL := hm_37 4 (by omega)
      have c_48 : E16 (20 + z32) (15 + 10 * z33) = .inl (kA 0, 6, .inl g2_37) := q5_37
      have m_49 : (20 + z32, 15 + 10 * z33) ∈ RL := hm_37 5 (by omega)
      have c_50 : E16 (20 + z32) (16 + 10 * z33) = .inl (kA 0, 6, .inl g3_37) := q6_37
      have m_51 : (20 + z32, 16 + 10 * z33) ∈ RL := hm_37 6 (by omega)
      have c_52 : E16 (20 + z32) (17 + 10 * z33) = .inl (kA 0, 6, .inl g4_37) := q7_37
      have m_53 : (20 + z32, 17 + 10 * z33) ∈ RL := hm_37 7 (by omega)
      refine px_get (D := D) (ci := 6) (v := .ref (ad (1 + d_37) 0)) (C := xR_Me) (T := xT_Me) (N := 6) hx hb hT xi_Me hown hK.1 hP m_39 c_38 rfl 1 (by decide) (hT _ k6d_22) (fun _ h9 => h9) rfl xd_De_load_37 ?_
      obtain ⟨hm_54, fd_54, nm_54, sd_54, k0_54, k1_54, k2_54, k3_54, f0_54, f1_54, f2_54, f3_54, fe_54, fo_54, tr_54, op_54, hk0_54, hk1_54, hk2_54, hk3_54, q0_54, q1_54, q2_54, q3_54, q4_54, q5_54, q6_54, q7_54, q8_54, q9_54, q10_54, q11_54, q12_54, hg_54⟩ := id (hDIs d_37 (by omega))
      have c_55 : E16 (1 + d_37) 0 = .inr (7, [.int (nI d_37), .int fd_54, .int nm_54, .ref (ad (1 + d_37) 1), .ref (ad (1 + d_37) 9), .ref (ad (1 + d_37) 10), .ref (ad (1 + d_37) 2), .ref (ad (1 + d_37) 11), .ref (ad (1 + d_37) 12), .ref (ad (1 + d_37) 3), .ref (ad (1 + d_37) 4), .int sd_54]) := q0_54
      have m_56 : (1 + d_37, 0) ∈ RL := hm_54 0 (by omega)
      have c_57 : E16 (1 + d_37) 1 = .inr (8, [.ref (ad (1 + d_37) 5), .int (nI k0_54)]) := q1_54
      have m_58 : (1 + d_37, 1) ∈ RL := hm_54 1 (by omega)
      have c_59 : E16 (1 + d_37) 2 = .inr (8, [.ref (ad (1 + d_37) 6), .int (nI k1_54)]) := q2_54
      have m_60 : (1 + d_37, 2) ∈ RL := hm_54 2 (by omega)
      have c_61 : E16 (1 + d_37) 3 = .inr (8, [.ref (ad (1 + d_37) 7), .int (nI k2_54)]) := q3_54
      have m_62 : (1 + d_37, 3) ∈ RL := hm_54 3 (by omega)
      have c_63 : E16 (1 + d_37) 4 = .inr (8, [.ref (ad (1 + d_37) 8), .int (nI k3_54)]) := q4_54
      have m_64 : (1 + d_37, 4) ∈ RL := hm_54 4 (by omega)
      have c_65 : E16 (1 + d_37) 5 = .inl (kA 0, 6, .inl f0_54) := q5_54
      have m_66 : (1 + d_37, 5) ∈ RL := hm_54 5 (by omega)
      have c_67 : E16 (1 + d_37) 6 = .inl (kA 0, 5, .inl f1_54) := q6_54
      have m_68 : (1 + d_37, 6) ∈ RL := hm_54 6 (by omega)
      have c_69 : E16 (1 + d_37) 7 = .inl (kA 0, 3, .inl f2_54) := q7_54
      have m_70 : (1 + d_37, 7) ∈ RL := hm_54 7 (by omega)
      have c_71 : E16 (1 + d_37) 8 = .inl (kA 0, 3, .inl f3_54) := q8_54
      have m_72 : (1 + d_37, 8) ∈ RL := hm_54 8 (by omega)
      have c_73 : E16 (1 + d_37) 9 = .inl (kA 8, 6, .inr (.inr (.inr (.inr fe_54)))) := q9_54
      have m_74 : (1 + d_37, 9) ∈ RL := hm_54 9 (by omega)
      have c_75 : E16 (1 + d_37) 10 = .inl (kA 8, 6, .inr (.inr (.inr (.inr fo_54)))) := q10_54
      have m_76 : (1 + d_37, 10) ∈ RL := hm_54 10 (by omega)
      have c_77 : E16 (1 + d_37) 11 = .inl (kA 2, 5, .inl tr_54) := q11_54
      have m_78 : (1 + d_37, 11) ∈ RL := hm_54 11 (by omega)
      have c_79 : E16 (1 + d_37) 12 = .inl (kA 2, 5, .inl op_54) := q12_54
      have m_80 : (1 + d_37, 12) ∈ RL := hm_54 12 (by omega)
      have hg_54 : ∀ w9, w9 < k0_54 → fe_54 w9 = some (ad (1 + d_37) (20 + 3 * w9)) ∧ fo_54 w9 = some (ad (1 + d_37) (38 + 3 * w9)) ∧ GI kA (ad (1 + d_37)) (E16 (1 + d_37)) (fun o => (1 + d_37, o) ∈ RL) (20 + 3 * w9) (21 + 3 * w9) (22 + 3 * w9) ∧ GI kA (ad (1 + d_37)) (E16 (1 + d_37)) (fun o => (1 + d_37, o) ∈ RL) (38 + 3 * w9) (39 + 3 * w9) (40 + 3 * w9) := hg_54
      refine px_get (D := D) (ci := 7) (v := .ref (ad (1 + d_37) 1)) (C := xR_Ds) (T := xT_Ds) (N := 12) hx hb hT xi_Ds hown hK.1 hP m_56 c_55 rfl 3 (by decide) (hT _ k6d_23) (fun _ h9 => h9) rfl xd_De_load_40 ?_
      refine lv_iload_n hx hb xd_De_load_43 rfl (lv_at hl 1 rfl) ?_
      have hFc := px_free hD hS hA
      refine va_calli (va_runV (As := [.int r13]) (rest := []) ⟨hx, hb, hml, hown, hT⟩ (xc_Na_holds l D kA H.size ad E16 RL (1 + d_37) 1 5 6 k0_54 f0_54 r13 m_58 c_57 m_66 c_65 (by first | assumption | omega) (by first | assumption | omega)) (cwV 1 hT (wT_V k6d_25 k6d_26 k6d_27 k6d_28 k6d_24) rfl rfl rfl (by decide +kernel) ⟨Nat.le_of_ble_eq_true rfl, Nat.le_of_ble_eq_true rfl⟩) (px_preV hK hP hD m_58 c_57 rfl) rfl rfl hl.1 rfl (lv_room (Nat.le_of_ble_eq_true rfl)) xd_De_load_44 ⟨(Nat.le_of_ble_eq_true rfl), (Nat.le_of_ble_eq_true rfl)⟩) hS (fun q _ h => hFc q h) hFc (fun r81 u82 t H1 locs ht hvm hp83 hB hz1 hk1 hS => ?_)
      obtain ⟨hP1, hD1⟩ := hB
      rw [ht] at hP1
      have hD1 := hD1.weaken (fun _ _ _ h => hFc _ h)
      generalize H1 = H at hP1 hS ⊢
      have hP := hP1
      have hD := hD1
      have hP : va_P D xcl (rp ad E16 RL) H := hP
      have hD : va_D A (rp ad E16 RL) := hD
      rcases hp83 with ⟨rfl, z84, z85, z86⟩ | ⟨rfl, z87⟩
      · refine W.eq (g2 := F0 m 47 ls [.int 1]) rfl ?_
        refine lv_if_eq (tgt := 55) hx hb xd_De_load_47 (by decide) (fun hc88 => absurd hc88 (by decide)) (fun _ => ?_)
        refine lv_aload hx hb xd_De_load_50 (lv_at hl 0 rfl) ?_
        refine lv_goto (tgt := 61) hx hb xd_De_load_52 (by decide) ?_
        refine lv_astore hx hb xd_De_load_61 hl (Nat.le_of_ble_eq_true rfl) rfl (fun ls hl => ?_)
        have hl : lv_has ls 6 [(5, .ref (ad (20 + z32) (10 + 10 * z33))), (4, .ref (ad (20 + z32) (10 + 10 * z33))), (3, .int r13), (0, .ref (ad 0 0)), (1, .int ix), (2, .int kx)] := hl
        refine lv_aload hx hb xd_De_load_63 (lv_at hl 0 rfl) ?_
        refine lv_ifnonnull (tgt := 78) hx hb xd_De_load_65 (by decide) ?_
        refine lv_aload hx hb xd_De_load_78 (lv_at hl 0 rfl) ?_
        have hFc := px_free hD hS hA
        refine va_calli (va_runV (As := []) (rest := []) ⟨hx, hb, hml, hown, hT⟩ (xc_Me_code l D kA H.size ad E16 RL nd ml z32 z33 (by first | assumption | omega) (by first | assumption | omega) (by first | assumption | omega) (by first | assumption | omega) (by first | assumption | omega)) (cwV 0 hT (wT_V k6d_30 k6d_31 k6d_32 k6d_33 k6d_29) rfl rfl rfl (by decide +kernel) ⟨Nat.le_of_ble_eq_true rfl, Nat.le_of_ble_eq_true rfl⟩) (px_preV hK hP hD m_39 c_38 rfl) rfl rfl hl.1 rfl (lv_room (Nat.le_of_ble_eq_true rfl)) xd_De_load_80 ⟨(Nat.le_of_ble_eq_true rfl), (Nat.le_of_ble_eq_true rfl)⟩) hS (fun q _ h => hFc q h) hFc (fun r89 u90 t H1 locs ht hvm hp91 hB hz1 hk1 hS => ?_)
        obtain ⟨hP1, hD1⟩ := hB
        rw [ht] at hP1
        have hD1 := hD1.weaken (fun _ _ _ h => hFc _ h)
        generalize H1 = H at hP1 hS ⊢
        have hP := hP1
        have hD := hD1
        have hP : va_P D xcl (rp ad E16 RL) H := hP
        have hD : va_D A (rp ad E16 RL) := hD
        refine W.widen (k := 1) (n := 6) (Nat.le_of_ble_eq_true rfl) (Nat.le_of_ble_eq_true rfl) ?_
        refine vx_ret ?_
        exact W.iret (v := r89) hx hb hr (fun t ht hW => ⟨⟨r89, E16, rfl, ⟨⟨wn17, hCI⟩, hF1⟩, by rw [ht]; exact hP, hD⟩, hS.F ht⟩) hS.2.2 xd_De_load_83
      · refine W.eq (g2 := F0 m 47 ls [.int 0]) rfl ?_
        refine lv_if_eq (tgt := 55) hx hb xd_De_load_47 (by decide) (fun _ => ?_) (fun hc92 => absurd (by decide) hc92)
        refine lv_aload hx hb xd_De_load_55 (lv_at hl 0 rfl) ?_
        refine lv_iload_n hx hb xd_De_load_57 rfl (lv_at hl 1 rfl) ?_
        have hFc := px_free hD hS hA
        refine va_callq (va_runV (As := [.int r13]) (rest := []) ⟨hx, hb, hml, hown, hT⟩ (xc_Me_sourceOf l D kA H.size ad E16 RL nd ml z32 z33 r13 (by first | assumption | omega) (by first | assumption | omega) (by first | assumption | omega) (by first | assumption | omega) (by first | assumption | omega)) (cwV 1 hT (wT_V k6d_35 k6d_36 k6d_37 k6d_33 k6d_34) rfl rfl rfl (by decide +kernel) ⟨Nat.le_of_ble_eq_true rfl, Nat.le_of_ble_eq_true rfl⟩) (px_preV hK hP hD m_39 c_38 rfl) rfl rfl hl.1 rfl (lv_room (Nat.le_of_ble_eq_true rfl)) xd_De_load_58 ⟨(Nat.le_of_ble_eq_true rfl), (Nat.le_of_ble_eq_true rfl)⟩) hS (fun q _ h => hFc q h) hFc (fun r93 u94 t H1 locs ht hvm hp95 hB hz1 hk1 hS => ?_)
        obtain ⟨hP1, hD1⟩ := hB
        rw [ht] at hP1
        have hD1 := hD1.weaken (fun _ _ _ h => hFc _ h)
        generalize H1 = H at hP1 hS ⊢
        have hP := hP1
        have hD := hD1
        have hP : va_P D xcl (rp ad E16 RL) H := hP
        have hD : va_D A (rp ad E16 RL) := hD
        rcases hp95 with rfl | ⟨z96, z97, z98, rfl, z99⟩
        · refine W.eq (g2 := F0 m 61 ls [.null]) rfl ?_
          refine lv_astoreN hx hb xd_De_load_61 hl (Nat.le_of_ble_eq_true rfl) rfl (fun ls hl => ?_)
          have hl : lv_has ls 6 [(5, .null), (4, .ref (ad (20 + z32) (10 + 10 * z33))), (3, .int r13), (0, .ref (ad 0 0)), (1, .int ix), (2, .int kx)] := hl
          refine lv_aloadN hx hb xd_De_load_63 (lv_at hl 0 rfl) ?_
          refine lv_ifnonnullN hx hb xd_De_load_65 ?_
          exact y_throwC (ik := 89) (is := 176) (wf := fun (u : Nat → Nat → va_E) => rp ad u RL) E16 (⟨⟨wn17, hCI⟩, hF1⟩) (Or.inr rfl) hx hb hlt hown hT hK k6d_38 k6d_39 hZ.2.2.2.1.2.2.2.2.2.2.2.2.2.2.2.2.2.2.2.2.2.2.1 hZ.1 hS hP hD (hl.1.trans hml.symm) xd_De_load_68 xd_De_load_71 xd_De_load_72 xd_De_load_74 xd_De_load_77 htab (Nat.le_of_ble_eq_true rfl) (Nat.le_of_ble_eq_true rfl) (Nat.le_of_ble_eq_true rfl) (Nat.le_of_ble_eq_true rfl) hlocks (Nat.le_of_ble_eq_true rfl) (Nat.le_of_ble_eq_true rfl)
        · refine W.eq (g2 := F0 m 61 ls [.ref (ad (20 + z96) (10 + 10 * z97))]) rfl ?_
          refine lv_astore hx hb xd_De_load_61 hl (Nat.le_of_ble_eq_true rfl) rfl (fun ls hl => ?_)
          have hl : lv_has ls 6 [(5, .ref (ad (20 + z96) (10 + 10 * z97))), (4, .ref (ad (20 + z32) (10 + 10 * z33))), (3, .int r13), (0, .ref (ad 0 0)), (1, .int ix), (2, .int kx)] := hl
          refine lv_aload hx hb xd_De_load_63 (lv_at hl 0 rfl) ?_
          refine lv_ifnonnull (tgt := 78) hx hb xd_De_load_65 (by decide) ?_
          refine lv_aload hx hb xd_De_load_78 (lv_at hl 0 rfl) ?_
          have hFc := px_free hD hS hA
          obtain ⟨hm_100, d_100, rs_100, fr_100, g2_100, g3_100, g4_100, hd_100, hrs_100, q0_100, q1_100, q2_100, q3_100, q4_100, q5_100, q6_100, q7_100⟩ := id z99
          have c_101 : E16 (20 + z96) (10 + 10 * z97) = .inr (6, [.ref (ad (20 + z96) 0), .ref (ad (1 + d_100) 0), .ref (ad (20 + z96) (11 + 10 * z97)), .ref (ad (20 + z96) (12 + 10 * z97)), .ref (ad (20 + z96) (13 + 10 * z97)), .ref (ad (20 + z96) (14 + 10 * z97))]) := q0_100
          have m_102 : (20 + z96, 10 + 10 * z97) ∈ RL := hm_100 0 (by omega)
          have c_103 : E16 (20 + z96) (11 + 10 * z97) = .inl (kA 6, rs_100, .inr (.inr (.inr (.inr fr_100)))) := q1_100
          have m_104 : (20 + z96, 11 + 10 * z97) ∈ RL := hm_100 1 (by omega)
          have c_105 : E16 (20 + z96) (12 + 10 * z97) = .inr (10, [.ref (ad (20 + z96) (15 + 10 * z97))]) := q2_100
          have m_106 : (20 + z96, 12 + 10 * z97) ∈ RL := hm_100 2 (by omega)
          have c_107 : E16 (20 + z96) (13 + 10 * z97) = .inr (10, [.ref (ad (20 + z96) (16 + 10 * z97))]) := q3_100
          have m_108 : (20 + z96, 13 + 10 * z97) ∈ RL := hm_100 3 (by omega)
          have c_109 : E16 (20 + z96) (14 + 10 * z97) = .inr (10, [.ref (ad (20 + z96) (17 + 10 * z97))]) := q4_100
          have m_110 : (20 + z96, 14 + 10 * z97) ∈ RL := hm_100 4 (by omega)
          have c_111 : E16 (20 + z96) (15 + 10 * z97) = .inl (kA 0, 6, .inl g2_100) := q5_100
          have m_112 : (20 + z96, 15 + 10 * z97) ∈ RL := hm_100 5 (by omega)
          have c_113 : E16 (20 + z96) (16 + 10 * z97) = .inl (kA 0, 6, .inl g3_100) := q6_100
          have m_114 : (20 + z96, 16 + 10 * z97) ∈ RL := hm_100 6 (by omega)
          have c_115 : E16 (20 + z96) (17 + 10 * z97) = .inl (kA 0, 6, .inl g4_100) := q7_100
          have m_116 : (20 + z96, 17 + 10 * z97) ∈ RL := hm_100 7 (by omega)
          refine va_calli (va_runV (As := []) (rest := []) ⟨hx, hb, hml, hown, hT⟩ (xc_Me_code l D kA H.size ad E16 RL nd ml z96 z97 (by first | assumption | omega) (by first | assumption | omega) (by first | assumption | omega) (by first | assumption | omega) (by first | assumption | omega)) (cwV 0 hT (wT_V k6d_30 k6d_31 k6d_32 k6d_33 k6d_29) rfl rfl rfl (by decide +kernel) ⟨Nat.le_of_ble_eq_true rfl, Nat.le_of_ble_eq_true rfl⟩) (px_preV hK hP hD m_102 c_101 rfl) rfl rfl hl.1 rfl (lv_room (Nat.le_of_ble_eq_true rfl)) xd_De_load_80 ⟨(Nat.le_of_ble_eq_true rfl), (Nat.le_of_ble_eq_true rfl)⟩) hS (fun q _ h => hFc q h) hFc (fun r117 u118 t H1 locs ht hvm hp119 hB hz1 hk1 hS => ?_)
          obtain ⟨hP1, hD1⟩ := hB
          rw [ht] at hP1
          have hD1 := hD1.weaken (fun _ _ _ h => hFc _ h)
          generalize H1 = H at hP1 hS ⊢
          have hP := hP1
          have hD := hD1
          have hP : va_P D xcl (rp ad E16 RL) H := hP
          have hD : va_D A (rp ad E16 RL) := hD
          refine W.widen (k := 1) (n := 6) (Nat.le_of_ble_eq_true rfl) (Nat.le_of_ble_eq_true rfl) ?_
          refine vx_ret ?_
          exact W.iret (v := r117) hx hb hr (fun t ht hW => ⟨⟨r117, E16, rfl, ⟨⟨wn17, hCI⟩, hF1⟩, by rw [ht]; exact hP, hD⟩, hS.F ht⟩) hS.2.2 xd_De_load_83
    · exact y_throwA (ik := 56) (is := 161) (wf := fun (u : Nat → Nat → va_E) => rp ad u RL) E16 (⟨⟨wn17, hCI⟩, hF1⟩) (Or.inl rfl) hx hb hlt hown hT hK k6d_20 k6d_21 hZ.2.2.2.1.2.2.2.2.2.2.2.2.2.2.2.2.2.2.2.2.2.1 hZ.1 hS hP hD (hl.1.trans hml.symm) xd_De_load_25 xd_De_load_28 xd_De_load_29 xd_De_load_31 xd_De_load_34 htab (Nat.le_of_ble_eq_true rfl) (Nat.le_of_ble_eq_true rfl) (Nat.le_of_ble_eq_true rfl) (Nat.le_of_ble_eq_true rfl) hlocks (Nat.le_of_ble_eq_true rfl) (Nat.le_of_ble_eq_true rfl)
set_option maxHeartbeats 4000000 in
set_option maxRecDepth 100000 in
theorem xc_De_peekK (l : Launch) (hlt : l.stackTraces = false) (D : va_G) (kA : Nat → ClassId) (sz : Nat) (ad : Nat → Nat → Nat) (E : Nat → Nat → va_E) (RL : List (Nat × Nat)) (Z : zT) (g : Nat → Nat → Int32) (ml : Nat) (nd : Nat) (len : Nat) (wn : Nat) (cs : Nat) (ix : Int32) (kx : Int32) (tx : Int32) (dx : Int32) (hCI : CI kA ad E RL ml nd len wn cs) (hTX : ∀ i, i < len → eA (E 0 2) i = g 0 i) : vx_Met l xy_De_peek (.code xy_De_peek xb_De_peek 8 (some .boolean) :: wT) { frames := 6, cells := 1, slots := 6, locals := 82 } (va_Pc [.ref (ad 0 0), .int ix, .int kx, .int tx, .int dx] (xPreZ D kA sz (rp ad E RL) Z)) (va_Qi (fun (r : Int32) (u : Nat → Nat → va_E) => (∃ wn2, CI kA ad u RL ml nd 0 wn2 cs) ∧ F134 E u) (fun (u : Nat → Nat → va_E) t => va_P D xcl (rp ad u RL) t.heap ∧ va_D (va_A (rp ad E RL) sz) (rp ad u RL)) (va_A (rp ad E RL) sz)) (vx_X (fun (u : Nat → Nat → va_E) => (∃ wn2, CI kA ad u RL ml nd 0 wn2 cs) ∧ F134 E u) (fun E9 u t => (E9 = "java/lang/IllegalArgumentException" ∨ E9 = "java/util/NoSuchElementException") ∧ va_P D xcl (rp ad u RL) t.heap ∧ va_D (va_A (rp ad E RL) sz) (rp ad u RL)) (va_A (rp ad E RL) sz)) 1 6 (va_A (rp ad E RL) sz) := by
  refine vx_ofW (cc := xb_De_peek) (maxL := 8) (ret := (some .boolean)) (by decide) rfl ?_
  intro p e s m args below meth c s₁ B hml htab hv
  obtain ⟨rfl, ⟨hsz, hP, hK, hD0⟩, hZ⟩ := hv
  have hx := B.exec
  have hb := B.bytes
  have hr := B.returns
  have hT := x_hT B.pre
  have hown : s.vm.findClass xR_De = some m.cls := findClass_of_methodNamed B.named
  have hlocks := B.notSynchronized
  subst hsz
  have hD := hD0.self (sz := s.heap.size)
  generalize hAe : va_A (rp ad E RL) s.heap.size = A at hD hZ ⊢
  have hA : ∀ q : Nat, s.heap.size ≤ q → A q := fun q h => by rw [← hAe]; exact Or.inr h
  have hS : va_S A s.heap s.heap [] := va_S.rf
  have hl := lv_entry ([.ref (ad 0 0), .int ix, .int kx, .int tx, .int dx]) (n := 8) (Nat.le_of_ble_eq_true rfl)
  rw [lg_entry_eq]
  generalize (lg_sl ([.ref (ad 0 0), .int ix, .int kx, .int tx, .int dx]) ++ List.replicate (8 - (lg_sl ([.ref (ad 0 0), .int ix, .int kx, .int tx, .int dx])).length) Slot.unset).toArray = ls at hl ⊢
  have hl : lv_has ls 8 [(0, .ref (ad 0 0)), (1, .int ix), (2, .int kx), (3, .int tx), (4, .int dx)] := hl
  have hP : va_P D xcl (rp ad E RL) s.heap := hP
  obtain ⟨hmB, hDk, hLi, hSh, hCh, hLa, hDIs, hLIs⟩ := id hCI
  obtain ⟨lf_1, q_1⟩ := id (hDk)
  have c_2 : E 0 0 = .inr (0, [.ref (ad 0 1), .ref (ad 0 5), .ref (ad 0 7), .ref (ad 0 9), .int (nI ml), .int lf_1]) := q_1
  have m_3 : (0, 0) ∈ RL := hmB 0 (by omega)
  refine lv_aload_n hx hb xd_De_peek_0 rfl (lv_at hl 0 rfl) ?_
  refine px_get (D := D) (ci := 0) (v := .ref (ad 0 1)) (C := xR_De) (T := xT_De) (N := 6) hx hb hT xi_De hown hK.1 hP m_3 c_2 rfl 0 (by decide) (hT _ k6d_10) (fun _ h9 => h9) rfl xd_De_peek_1 ?_
  have hFc := px_free hD hS hA
  obtain ⟨tx_4, fb_4, fe_4, hl1_4, hw2_4, q1_4, q2_4, q3_4, q4_4, hws_4⟩ := id (hLi)
  have c_5 : E 0 1 = .inr (1, [.ref (ad 0 2), .ref (ad 0 3), .ref (ad 0 4), .int (nI len), .int (nI wn)]) := q1_4
  have m_6 : (0, 1) ∈ RL := hmB 1 (by omega)
  have c_7 : E 0 2 = .inl (kA 1, 40, .inl tx_4) := q2_4
  have m_8 : (0, 2) ∈ RL := hmB 2 (by omega)
  have c_9 : E 0 3 = .inl (kA 0, 20, .inl fb_4) := q3_4
  have m_10 : (0, 3) ∈ RL := hmB 3 (by omega)
  have c_11 : E 0 4 = .inl (kA 0, 20, .inl fe_4) := q4_4
  have m_12 : (0, 4) ∈ RL := hmB 4 (by omega)
  refine va_calli (va_runV (As := []) (rest := []) ⟨hx, hb, hml, hown, hT⟩ (xc_Li_takeNameX l D kA s.heap.size ad E RL g ml nd len wn cs (by first | assumption | omega) (by first | assumption | omega)) (cwV 0 hT (wT_V k6d_12 k6d_13 k6d_14 k6d_4 k6d_11) rfl rfl rfl (by decide +kernel) ⟨Nat.le_of_ble_eq_true rfl, Nat.le_of_ble_eq_true rfl⟩) (px_preV hK hP hD m_6 c_5 rfl) rfl rfl hl.1 rfl (lv_room (Nat.le_of_ble_eq_true rfl)) xd_De_peek_4 ⟨(Nat.le_of_ble_eq_true rfl), (Nat.le_of_ble_eq_true rfl)⟩) hS (fun q _ h => hFc q h) hFc (fun r13 u14 t H1 locs ht hvm hp15 hB hz1 hk1 hS => ?_)
  obtain ⟨hP1, hD1⟩ := hB
  rw [ht] at hP1
  have hD1 := hD1.weaken (fun _ _ _ h => hFc _ h)
  generalize H1 = H at hP1 hS ⊢
  have hP := hP1
  have hD := hD1
  obtain ⟨E16, rfl⟩ : ∃ z, z = u14 := ⟨_, rfl⟩
  have hP : va_P D xcl (rp ad E16 RL) H := hP
  have hD : va_D A (rp ad E16 RL) := hD
  obtain ⟨⟨wn17, hCI⟩, hF1, hr9⟩ := hp15
  have hCI : CI kA ad E16 RL ml nd 0 wn17 cs := hCI
  obtain ⟨hmB, hDk, hLi, hSh, hCh, hLa, hDIs, hLIs⟩ := id hCI
  obtain ⟨lf_18, q_18⟩ := id (hDk)
  have c_19 : E16 0 0 = .inr (0, [.ref (ad 0 1), .ref (ad 0 5), .ref (ad 0 7), .ref (ad 0 9), .int (nI ml), .int lf_18]) := q_18
  have m_20 : (0, 0) ∈ RL := hmB 0 (by omega)
  obtain ⟨fd_21, hnd_21, q5_21, q6_21, hds_21⟩ := id (hSh)
  have c_22 : E16 0 5 = .inr (2, [.ref (ad 0 6), .int (nI nd)]) := q5_21
  have m_23 : (0, 5) ∈ RL := hmB 5 (by omega)
  have c_24 : E16 0 6 = .inl (kA 4, 12, .inr (.inr (.inr (.inr fd_21)))) := q6_21
  have m_25 : (0, 6) ∈ RL := hmB 6 (by omega)
  obtain ⟨fl_26, hml_26, q9_26, hla_26⟩ := id (hLa)
  have c_27 : E16 0 9 = .inl (kA 5, 5, .inr (.inr (.inr (.inr fl_26)))) := q9_26
  have m_28 : (0, 9) ∈ RL := hmB 9 (by omega)
  refine lv_istore hx hb xd_De_peek_7 hl (Nat.le_of_ble_eq_true rfl) rfl (fun ls hl => ?_)
  have hl : lv_has ls 8 [(5, .int r13), (0, .ref (ad 0 0)), (1, .int ix), (2, .int kx), (3, .int tx), (4, .int dx)] := hl
  refine lv_aload_n hx hb xd_De_peek_9 rfl (lv_at hl 1 rfl) ?_
  refine lv_iload_n hx hb xd_De_peek_10 rfl (lv_at hl 2 rfl) ?_
  refine lv_iload_n hx hb xd_De_peek_11 rfl (lv_at hl 3 rfl) ?_
  have hFc := px_free hD hS hA
  refine va_callq (va_runV (As := [.int ix, .int kx]) (rest := []) ⟨hx, hb, hml, hown, hT⟩ (xc_De_memberAt l D kA H.size ad E16 RL ml nd 0 wn17 cs ix kx (by first | assumption | omega)) (cwV 2 hT (wT_V k6d_16 k6d_17 k6d_18 k6d_19 k6d_15) rfl rfl rfl (by decide +kernel) ⟨Nat.le_of_ble_eq_true rfl, Nat.le_of_ble_eq_true rfl⟩) (px_preV hK hP hD m_20 c_19 rfl) rfl rfl hl.1 rfl (lv_room (Nat.le_of_ble_eq_true rfl)) xd_De_peek_12 ⟨(Nat.le_of_ble_eq_true rfl), (Nat.le_of_ble_eq_true rfl)⟩) hS (fun q _ h => hFc q h) hFc (fun r29 u30 t H1 locs ht hvm hp31 hB hz1 hk1 hS => ?_)
  obtain ⟨hP1, hD1⟩ := hB
  rw [ht] at hP1
  have hD1 := hD1.weaken (fun _ _ _ h => hFc _ h)
  generalize H1 = H at hP1 hS ⊢
  have hP := hP1
  have hD := hD1
  have hP : va_P D xcl (rp ad E16 RL) H := hP
  have hD : va_D A (rp ad E16 RL) := hD
  rcases hp31 with rfl | ⟨z32, z33, z34, rfl, z35⟩
  · refine W.eq (g2 := F0 m 15 ls [.null]) rfl ?_
    refine lv_astoreN hx hb xd_De_peek_15 hl (Nat.le_of_ble_eq_true rfl) rfl (fun ls hl => ?_)
    have hl : lv_has ls 8 [(6, .null), (5, .int r13), (0, .ref (ad 0 0)), (1, .int ix), (2, .int kx), (3, .int tx), (4, .int dx)] := hl
    refine lv_aload_n hx hb xd_De_peek_17 rfl (lv_at hl 2 rfl) ?_
    refine lv_iload_n hx hb xd_De_peek_18 rfl (lv_at hl 5 rfl) ?_
    refine lv_iload hx hb xd_De_peek_19 (lv_at hl 6 rfl) ?_
    have hFc := px_free hD hS hA
    refine va_callq (va_runV (As := [.int tx, .int dx]) (rest := []) ⟨hx, hb, hml, hown, hT⟩ (xc_De_memberOf l D kA H.size ad E16 RL ml nd 0 wn17 cs tx dx (by first | assumption | omega)) (cwV 2 hT (wT_V k6d_41 k6d_42 k6d_43 k6d_19 k6d_40) rfl rfl rfl (by decide +kernel) ⟨Nat.le_of_ble_eq_true rfl, Nat.le_of_ble_eq_true rfl⟩) (px_preV hK hP hD m_20 c_19 rfl) rfl rfl hl.1 rfl (lv_room (Nat.le_of_ble_eq_true rfl)) xd_De_peek_21 ⟨(Nat.le_of_ble_eq_true rfl), (Nat.le_of_ble_eq_true rfl)⟩) hS (fun q _ h => hFc q h) hFc (fun r36 u37 t H1 locs ht hvm hp38 hB hz1 hk1 hS => ?_)
    obtain ⟨hP1, hD1⟩ := hB
    rw [ht] at hP1
    have hD1 := hD1.weaken (fun _ _ _ h => hFc _ h)
    generalize H1 = H at hP1 hS ⊢
    have hP := hP1
    have hD := hD1
    have hP : va_P D xcl (rp ad E16 RL) H := hP
    have hD : va_D A (rp ad E16 RL) := hD
    rcases hp38 with rfl | ⟨z39, z40, z41, rfl, z42⟩
    · refine W.eq (g2 := F0 m 24 ls [.null]) rfl ?_
      refine lv_astoreN hx hb xd_De_peek_24 hl (Nat.le_of_ble_eq_true rfl) rfl (fun ls hl => ?_)
      have hl : lv_has ls 8 [(7, .null), (6, .null), (5, .int r13), (0, .ref (ad 0 0)), (1, .int ix), (2, .int kx), (3, .int tx), (4, .int dx)] := hl
      refine lv_aloadN hx hb xd_De_peek_26 (lv_at hl 1 rfl) ?_
      refine lv_ifnullN (tgt := 41) hx hb xd_De_peek_28 (by decide) ?_
      exact y_throwA (ik := 56) (is := 161) (wf := fun (u : Nat → Nat → va_E) => rp ad u RL) E16 (⟨⟨wn17, hCI⟩, hF1⟩) (Or.inl rfl) hx hb hlt hown hT hK k6d_20 k6d_21 hZ.2.2.2.1.2.2.2.2.2.2.2.2.2.2.2.2.2.2.2.2.2.1 hZ.1 hS hP hD (hl.1.trans hml.symm) xd_De_peek_41 xd_De_peek_44 xd_De_peek_45 xd_De_peek_47 xd_De_peek_50 htab (Nat.le_of_ble_eq_true rfl) (Nat.le_of_ble_eq_true rfl) (Nat.le_of_ble_eq_true rfl) (Nat.le_of_ble_eq_true rfl) hlocks (Nat.le_of_ble_eq_true rfl) (Nat.le_of_ble_eq_true rfl)
    · refine W.eq (g2 := F0 m 24 ls [.ref (ad (20 + z39) (10 + 10 * z40))]) rfl ?_
      refine lv_astore hx hb xd_De_peek_24 hl (Nat.le_of_ble_eq_true rfl) rfl (fun ls hl => ?_)
      have hl : lv_has ls 8 [(7, .ref (ad (20 + z39) (10 + 10 * z40))), (6, .null), (5, .int r13), (0, .ref (ad 0 0)), (1, .int ix), (2, .int kx), (3, .int tx), (4, .int dx)] := hl
      refine lv_aloadN hx hb xd_De_peek_26 (lv_at hl 1 rfl) ?_
      refine lv_ifnullN (tgt := 41) hx hb xd_De_peek_28 (by decide) ?_
      exact y_throwA (ik := 56) (is := 161) (wf := fun (u : Nat → Nat → va_E) => rp ad u RL) E16 (⟨⟨wn17, hCI⟩, hF1⟩) (Or.inl rfl) hx hb hlt hown hT hK k6d_20 k6d_21 hZ.2.2.2.1.2.2.2.2.2.2.2.2.2.2.2.2.2.2.2.2.2.1 hZ.1 hS hP hD (hl.1.trans hml.symm) xd_De_peek_41 xd_De_peek_44 xd_De_peek_45 xd_De_peek_47 xd_De_peek_50 htab (Nat.le_of_ble_eq_true rfl) (Nat.le_of_ble_eq_true rfl) (Nat.le_of_ble_eq_true rfl) (Nat.le_of_ble_eq_true rfl) hlocks (Nat.le_of_ble_eq_true rfl) (Nat.le_of_ble_eq_true rfl)
  · refine W.eq (g2 := F0 m 15 ls [.ref (ad (20 + z32) (10 + 10 * z33))]) rfl ?_
    refine lv_astore hx hb xd_De_peek_15 hl (Nat.le_of_ble_eq_true rfl) rfl (fun ls hl => ?_)
    have hl : lv_has ls 8 [(6, .ref (ad (20 + z32) (10 + 10 * z33))), (5, .int r13), (0, .ref (ad 0 0)), (1, .int ix), (2, .int kx), (3, .int tx), (4, .int dx)] := hl
    refine lv_aload_n hx hb xd_De_peek_17 rfl (lv_at hl 2 rfl) ?_
    refine lv_iload_n hx hb xd_De_peek_18 rfl (lv_at hl 5 rfl) ?_
    refine lv_iload hx hb xd_De_peek_19 (lv_at hl 6 rfl) ?_
    have hFc := px_free hD hS hA
    refine va_callq (va_runV (As := [.int tx, .int dx]) (rest := []) ⟨hx, hb, hml, hown, hT⟩ (xc_De_memberOf l D kA H.size ad E16 RL ml nd 0 wn17 cs tx dx (by first | assumption | omega)) (cwV 2 hT (wT_V k6d_41 k6d_42 k6d_43 k6d_19 k6d_40) rfl rfl rfl (by decide +kernel) ⟨Nat.le_of_ble_eq_true rfl, Nat.le_of_ble_eq_true rfl⟩) (px_preV hK hP hD m_20 c_19 rfl) rfl rfl hl.1 rfl (lv_room (Nat.le_of_ble_eq_true rfl)) xd_De_peek_21 ⟨(Nat.le_of_ble_eq_true rfl), (Nat.le_of_ble_eq_true rfl)⟩) hS (fun q _ h => hFc q h) hFc (fun r43 u44 t H1 locs ht hvm hp45 hB hz1 hk1 hS => ?_)
    obtain ⟨hP1, hD1⟩ := hB
    rw [ht] at hP1
    have hD1 := hD1.weaken (fun _ _ _ h => hFc _ h)
    generalize H1 = H at hP1 hS ⊢
    have hP := hP1
    have hD := hD1
    have hP : va_P D xcl (rp ad E16 RL) H := hP
    have hD : va_D A (rp ad E16 RL) := hD
    rcases hp45 with rfl | ⟨z46, z47, z48, rfl, z49⟩
    · refine W.eq (g2 := F0 m 24 ls [.null]) rfl ?_
      refine lv_astoreN hx hb xd_De_peek_24 hl (Nat.le_of_ble_eq_true rfl) rfl (fun ls hl => ?_)
      have hl : lv_has ls 8 [(7, .null), (6, .ref (ad (20 + z32) (10 + 10 * z33))), (5, .int r13), (0, .ref (ad 0 0)), (1, .int ix), (2, .int kx), (3, .int tx), (4, .int dx)] := hl
      refine lv_aload hx hb xd_De_peek_26 (lv_at hl 1 rfl) ?_
      refine lv_ifnull hx hb xd_De_peek_28 ?_
      refine lv_aloadN hx hb xd_De_peek_31 (lv_at hl 0 rfl) ?_
      refine lv_ifnullN (tgt := 41) hx hb xd_De_peek_33 (by decide) ?_
      exact y_throwA (ik := 56) (is := 161) (wf := fun (u : Nat → Nat → va_E) => rp ad u RL) E16 (⟨⟨wn17, hCI⟩, hF1⟩) (Or.inl rfl) hx hb hlt hown hT hK k6d_20 k6d_21 hZ.2.2.2.1.2.2.2.2.2.2.2.2.2.2.2.2.2.2.2.2.2.1 hZ.1 hS hP hD (hl.1.trans hml.symm) xd_De_peek_41 xd_De_peek_44 xd_De_peek_45 xd_De_peek_47 xd_De_peek_50 htab (Nat.le_of_ble_eq_true rfl) (Nat.le_of_ble_eq_true rfl) (Nat.le_of_ble_eq_true rfl) (Nat.le_of_ble_eq_true rfl) hlocks (Nat.le_of_ble_eq_true rfl) (Nat.le_of_ble_eq_true rfl)
    · refine W.eq (g2 := F0 m 24 ls [.ref (ad (20 + z46) (10 + 10 * z47))]) rfl ?_
      refine lv_astore hx hb xd_De_peek_24 hl (Nat.le_of_ble_eq_true rfl) rfl (fun ls hl => ?_)
      have hl : lv_has ls 8 [(7, .ref (ad (20 + z46) (10 + 10 * z47))), (6, .ref (ad (20 + z32) (10 + 10 * z33))), (5, .int r13), (0, .ref (ad 0 0)), (1, .int ix), (2, .int kx), (3, .int tx), (4, .int dx)] := hl
      refine lv_aload hx hb xd_De_peek_26 (lv_at hl 1 rfl) ?_
      refine lv_ifnull hx hb xd_De_peek_28 ?_
      refine lv_aload hx hb xd_De_peek_31 (lv_at hl 0 rfl) ?_
      refine lv_ifnull hx hb xd_De_peek_33 ?_
      refine lv_iload hx hb xd_De_peek_36 (lv_at hl 2 rfl) ?_
      refine lv_if_ne (tgt := 51) hx hb xd_De_peek_38 (by decide) (fun hc50 => ?_) (fun hc50 => ?_)
      · refine lv_aload hx hb xd_De_peek_51 (lv_at hl 0 rfl) ?_
        obtain ⟨hm_51, d_51, rs_51, fr_51, g2_51, g3_51, g4_51, hd_51, hrs_51, q0_51, q1_51, q2_51, q3_51, q4_51, q5_51, q6_51, q7_51⟩ := id z49
        have c_52 : E16 (20 + z46) (10 + 10 * z47) = .inr (6, [.ref (ad (20 + z46) 0), .ref (ad (1 + d_51) 0), .ref (ad (20 + z46) (11 + 10 * z47)), .ref (ad (20 + z46) (12 + 10 * z47)), .ref (ad (20 + z46) (13 + 10 * z47)), .ref (ad (20 + z46) (14 + 10 * z47))]) := q0_51
        have m_53 : (20 + z46, 10 + 10 * z47) ∈ RL := hm_51 0 (by omega)
        have c_54 : E16 (20 + z46) (11 + 10 * z47) = .inl (kA 6, rs_51, .inr (.inr (.inr (.inr fr_51)))) := q1_51
        have m_55 : (20 + z46, 11 + 10 * z47) ∈ RL := hm_51 1 (by omega)
        have c_56 : E16 (20 + z46) (12 + 10 * z47) = .inr (10, [.ref (ad (20 + z46) (15 + 10 * z47))]) := q2_51
        have m_57 : (20 + z46, 12 + 10 * z47) ∈ RL := hm_51 2 (by omega)
        have c_58 : E16 (20 + z46) (13 + 10 * z47) = .inr (10, [.ref (ad (20 + z46) (16 + 10 * z47))]) := q3_51
        have m_59 : (20 + z46, 13 + 10 * z47) ∈ RL := hm_51 3 (by omega)
        have c_60 : E16 (20 + z46) (14 + 10 * z47) = .inr (10, [.ref (ad (20 + z46) (17 + 10 * z47))]) := q4_51
        have m_61 : (20 + z46, 14 + 10 * z47) ∈ RL := hm_51 4 (by omega)
        have c_62 : E16 (20 + z46) (15 + 10 * z47) = .inl (kA 0, 6, .inl g2_51) := q5_51
        have m_63 : (20 + z46, 15 + 10 * z47) ∈ RL := hm_51 5 (by omega)
        have c_64 : E16 (20 + z46) (16 + 10 * z47) = .inl (kA 0, 6, .inl g3_51) := q6_51
        have m_65 : (20 + z46, 16 + 10 * z47) ∈ RL := hm_51 6 (by omega)
        have c_66 : E16 (20 + z46) (17 + 10 * z47) = .inl (kA 0, 6, .inl g4_51) := q7_51
        have m_67 : (20 + z46, 17 + 10 * z47) ∈ RL := hm_51 7 (by omega)
        refine px_get (D := D) (ci := 6) (v := .ref (ad (1 + d_51) 0)) (C := xR_Me) (T := xT_Me) (N := 6) hx hb hT xi_Me hown hK.1 hP m_53 c_52 rfl 1 (by decide) (hT _ k6d_22) (fun _ h9 => h9) rfl xd_De_peek_53 ?_
        obtain ⟨hm_68, fd_68, nm_68, sd_68, k0_68, k1_68, k2_68, k3_68, f0_68, f1_68, f2_68, f3_68, fe_68, fo_68, tr_68, op_68, hk0_68, hk1_68, hk2_68, hk3_68, q0_68, q1_68, q2_68, q3_68, q4_68, q5_68, q6_68, q7_68, q8_68, q9_68, q10_68, q11_68, q12_68, hg_68⟩ := id (hDIs d_51 (by omega))
        have c_69 : E16 (1 + d_51) 0 = .inr (7, [.int (nI d_51), .int fd_68, .int nm_68, .ref (ad (1 + d_51) 1), .ref (ad (1 + d_51) 9), .ref (ad (1 + d_51) 10), .ref (ad (1 + d_51) 2), .ref (ad (1 + d_51) 11), .ref (ad (1 + d_51) 12), .ref (ad (1 + d_51) 3), .ref (ad (1 + d_51) 4), .int sd_68]) := q0_68
        have m_70 : (1 + d_51, 0) ∈ RL := hm_68 0 (by omega)
        have c_71 : E16 (1 + d_51) 1 = .inr (8, [.ref (ad (1 + d_51) 5), .int (nI k0_68)]) := q1_68
        have m_72 : (1 + d_51, 1) ∈ RL := hm_68 1 (by omega)
        have c_73 : E16 (1 + d_51) 2 = .inr (8, [.ref (ad (1 + d_51) 6), .int (nI k1_68)]) := q2_68
        have m_74 : (1 + d_51, 2) ∈ RL := hm_68 2 (by omega)
        have c_75 : E16 (1 + d_51) 3 = .inr (8, [.ref (ad (1 + d_51) 7), .int (nI k2_68)]) := q3_68
        have m_76 : (1 + d_51, 3) ∈ RL := hm_68 3 (by omega)
        have c_77 : E16 (1 + d_51) 4 = .inr (8, [.ref (ad (1 + d_51) 8), .int (nI k3_68)]) := q4_68
        have m_78 : (1 + d_51, 4) ∈ RL := hm_68 4 (by omega)
        have c_79 : E16 (1 + d_51) 5 = .inl (kA 0, 6, .inl f0_68) := q5_68
        have m_80 : (1 + d_51, 5) ∈ RL := hm_68 5 (by omega)
        have c_81 : E16 (1 + d_51) 6 = .inl (kA 0, 5, .inl f1_68) := q6_68
        have m_82 : (1 + d_51, 6) ∈ RL := hm_68 6 (by omega)
        have c_83 : E16 (1 + d_51) 7 = .inl (kA 0, 3, .inl f2_68) := q7_68
        have m_84 : (1 + d_51, 7) ∈ RL := hm_68 7 (by omega)
        have c_85 : E16 (1 + d_51) 8 = .inl (kA 0, 3, .inl f3_68) := q8_68
        have m_86 : (1 + d_51, 8) ∈ RL := hm_68 8 (by omega)
        have c_87 : E16 (1 + d_51) 9 = .inl (kA 8, 6, .inr (.inr (.inr (.inr fe_68)))) := q9_68
        have m_88 : (1 + d_51, 9) ∈ RL := hm_68 9 (by omega)
        have c_89 : E16 (1 + d_51) 10 = .inl (kA 8, 6, .inr (.inr (.inr (.inr fo_68)))) := q10_68
        have m_90 : (1 + d_51, 10) ∈ RL := hm_68 10 (by omega)
        have c_91 : E16 (1 + d_51) 11 = .inl (kA 2, 5, .inl tr_68) := q11_68
        have m_92 : (1 + d_51, 11) ∈ RL := hm_68 11 (by omega)
        have c_93 : E16 (1 + d_51) 12 = .inl (kA 2, 5, .inl op_68) := q12_68
        have m_94 : (1 + d_51, 12) ∈ RL := hm_68 12 (by omega)
        have hg_68 : ∀ w9, w9 < k0_68 → fe_68 w9 = some (ad (1 + d_51) (20 + 3 * w9)) ∧ fo_68 w9 = some (ad (1 + d_51) (38 + 3 * w9)) ∧ GI kA (ad (1 + d_51)) (E16 (1 + d_51)) (fun o => (1 + d_51, o) ∈ RL) (20 + 3 * w9) (21 + 3 * w9) (22 + 3 * w9) ∧ GI kA (ad (1 + d_51)) (E16 (1 + d_51)) (fun o => (1 + d_51, o) ∈ RL) (38 + 3 * w9) (39 + 3 * w9) (40 + 3 * w9) := hg_68
        refine px_get (D := D) (ci := 7) (v := .ref (ad (1 + d_51) 1)) (C := xR_Ds) (T := xT_Ds) (N := 12) hx hb hT xi_Ds hown hK.1 hP m_70 c_69 rfl 3 (by decide) (hT _ k6d_23) (fun _ h9 => h9) rfl xd_De_peek_56 ?_
        refine lv_iload hx hb xd_De_peek_59 (lv_at hl 2 rfl) ?_
        have hFc := px_free hD hS hA
        refine va_calli (va_runV (As := [.int r13]) (rest := []) ⟨hx, hb, hml, hown, hT⟩ (xc_Na_holds l D kA H.size ad E16 RL (1 + d_51) 1 5 6 k0_68 f0_68 r13 m_72 c_71 m_80 c_79 (by first | assumption | omega) (by first | assumption | omega)) (cwV 1 hT (wT_V k6d_25 k6d_26 k6d_27 k6d_28 k6d_24) rfl rfl rfl (by decide +kernel) ⟨Nat.le_of_ble_eq_true rfl, Nat.le_of_ble_eq_true rfl⟩) (px_preV hK hP hD m_72 c_71 rfl) rfl rfl hl.1 rfl (lv_room (Nat.le_of_ble_eq_true rfl)) xd_De_peek_61 ⟨(Nat.le_of_ble_eq_true rfl), (Nat.le_of_ble_eq_true rfl)⟩) hS (fun q _ h => hFc q h) hFc (fun r95 u96 t H1 locs ht hvm hp97 hB hz1 hk1 hS => ?_)
        obtain ⟨hP1, hD1⟩ := hB
        rw [ht] at hP1
        have hD1 := hD1.weaken (fun _ _ _ h => hFc _ h)
        generalize H1 = H at hP1 hS ⊢
        have hP := hP1
        have hD := hD1
        have hP : va_P D xcl (rp ad E16 RL) H := hP
        have hD : va_D A (rp ad E16 RL) := hD
        rcases hp97 with ⟨rfl, z98, z99, z100⟩ | ⟨rfl, z101⟩
        · refine W.eq (g2 := F0 m 64 ls [.int 1]) rfl ?_
          refine lv_if_ne (tgt := 77) hx hb xd_De_peek_64 (by decide) (fun _ => ?_) (fun hc102 => absurd hc102 (by decide))
          refine lv_aload hx hb xd_De_peek_77 (lv_at hl 1 rfl) ?_
          refine lv_aload hx hb xd_De_peek_79 (lv_at hl 0 rfl) ?_
          refine lv_acmp_eq (rx := (some (ad (20 + z32) (10 + 10 * z33)))) (ry := (some (ad (20 + z46) (10 + 10 * z47)))) (tgt := 118) hx hb xd_De_peek_81 (by decide) (fun hc103 => ?_) (fun hc103 => ?_)
          · refine lv_iconst (v := 1) hx hb xd_De_peek_118 (by decide) ?_
            refine lv_goto (tgt := 123) hx hb xd_De_peek_119 (by decide) ?_
            refine W.widen (k := 1) (n := 6) (Nat.le_of_ble_eq_true rfl) (Nat.le_of_ble_eq_true rfl) ?_
            refine vx_ret ?_
            exact W.zret (v := 1) hx hb hr rfl (fun t ht hW => ⟨⟨1, E16, rfl, ⟨⟨wn17, hCI⟩, hF1⟩, by rw [ht]; exact hP, hD⟩, hS.F ht⟩) hS.2.2 xd_De_peek_123
          · refine lv_aload hx hb xd_De_peek_84 (lv_at hl 1 rfl) ?_
            obtain ⟨hm_104, d_104, rs_104, fr_104, g2_104, g3_104, g4_104, hd_104, hrs_104, q0_104, q1_104, q2_104, q3_104, q4_104, q5_104, q6_104, q7_104⟩ := id z35
            have c_105 : E16 (20 + z32) (10 + 10 * z33) = .inr (6, [.ref (ad (20 + z32) 0), .ref (ad (1 + d_104) 0), .ref (ad (20 + z32) (11 + 10 * z33)), .ref (ad (20 + z32) (12 + 10 * z33)), .ref (ad (20 + z32) (13 + 10 * z33)), .ref (ad (20 + z32) (14 + 10 * z33))]) := q0_104
            have m_106 : (20 + z32, 10 + 10 * z33) ∈ RL := hm_104 0 (by omega)
            have c_107 : E16 (20 + z32) (11 + 10 * z33) = .inl (kA 6, rs_104, .inr (.inr (.inr (.inr fr_104)))) := q1_104
            have m_108 : (20 + z32, 11 + 10 * z33) ∈ RL := hm_104 1 (by omega)
            have c_109 : E16 (20 + z32) (12 + 10 * z33) = .inr (10, [.ref (ad (20 + z32) (15 + 10 * z33))]) := q2_104
            have m_110 : (20 + z32, 12 + 10 * z33) ∈ RL := hm_104 2 (by omega)
            have c_111 : E16 (20 + z32) (13 + 10 * z33) = .inr (10, [.ref (ad (20 + z32) (16 + 10 * z33))]) := q3_104
            have m_112 : (20 + z32, 13 + 10 * z33) ∈ RL := hm_104 3 (by omega)
            have c_113 : E16 (20 + z32) (14 + 10 * z33) = .inr (10, [.ref (ad (20 + z32) (17 + 10 * z33))]) := q4_104
            have m_114 : (20 + z32, 14 + 10 * z33) ∈ RL := hm_104 4 (by omega)
            have c_115 : E16 (20 + z32) (15 + 10 * z33) = .inl (kA 0, 6, .inl g2_104) := q5_104
            have m_116 : (20 + z32, 15 + 10 * z33) ∈ RL := hm_104 5 (by omega)
            have c_117 : E16 (20 + z32) (16 + 10 * z33) = .inl (kA 0, 6, .inl g3_104) := q6_104
            have m_118 : (20 + z32, 16 + 10 * z33) ∈ RL := hm_104 6 (by omega)
            have c_119 : E16 (20 + z32) (17 + 10 * z33) = .inl (kA 0, 6, .inl g4_104) := q7_104
            have m_120 : (20 + z32, 17 + 10 * z33) ∈ RL := hm_104 7 (by omega)
            refine px_get (D := D) (ci := 6) (v := .ref (ad (20 + z32) (14 + 10 * z33))) (C := xR_Me) (T := xT_Me) (N := 6) hx hb hT xi_Me hown hK.1 hP m_106 c_105 rfl 5 (by decide) (hT _ k6d_44) (fun _ h9 => h9) rfl xd_De_peek_86 ?_
            refine lv_aload hx hb xd_De_peek_89 (lv_at hl 0 rfl) ?_
            obtain ⟨m0_121, m1_121, pv_121, op_121, mk_121, fm_121, hmk_121, hpv_121, q0_121, q1_121, hk_121⟩ := id (hLIs z46 (by omega))
            have c_122 : E16 (20 + z46) 0 = .inr (5, [.int (nI z46), pv_121, .ref (ad (20 + z46) 1), .int op_121]) := q0_121
            have m_123 : (20 + z46, 0) ∈ RL := m0_121
            have c_124 : E16 (20 + z46) 1 = .inl (kA 6, mk_121, .inr (.inr (.inr (.inr fm_121)))) := q1_121
            have m_125 : (20 + z46, 1) ∈ RL := m1_121
            have hFc := px_free hD hS hA
            refine va_calli (va_runV (As := [.ref (ad (20 + z46) (10 + 10 * z47))]) (rest := []) ⟨hx, hb, hml, hown, hT⟩ (xc_Re_marks l D kA H.size ad E16 RL (20 + z32) (14 + 10 * z33) (17 + 10 * z33) g4_104 z46 z47 d_51 pv_121 op_121 fd_68 nm_68 sd_68 m_114 c_113 m_120 c_119 m_53 c_52 m_123 c_122 m_70 c_69 (by first | assumption | omega)) (cwV 1 hT (wT_V k6d_46 k6d_47 k6d_48 k6d_49 k6d_45) rfl rfl rfl (by decide +kernel) ⟨Nat.le_of_ble_eq_true rfl, Nat.le_of_ble_eq_true rfl⟩) (px_preV hK hP hD m_114 c_113 rfl) rfl rfl hl.1 rfl (lv_room (Nat.le_of_ble_eq_true rfl)) xd_De_peek_91 ⟨(Nat.le_of_ble_eq_true rfl), (Nat.le_of_ble_eq_true rfl)⟩) hS (fun q _ h => hFc q h) hFc (fun r126 u127 t H1 locs ht hvm hp128 hB hz1 hk1 hS => ?_)
            obtain ⟨hP1, hD1⟩ := hB
            rw [ht] at hP1
            have hD1 := hD1.weaken (fun _ _ _ h => hFc _ h)
            generalize H1 = H at hP1 hS ⊢
            have hP := hP1
            have hD := hD1
            have hP : va_P D xcl (rp ad E16 RL) H := hP
            have hD : va_D A (rp ad E16 RL) := hD
            rcases hp128 with ⟨rfl, z129⟩ | ⟨rfl, z130⟩
            · refine W.eq (g2 := F0 m 94 ls [.int 1]) rfl ?_
              refine lv_if_eq (tgt := 122) hx hb xd_De_peek_94 (by decide) (fun hc131 => absurd hc131 (by decide)) (fun _ => ?_)
              refine lv_aload hx hb xd_De_peek_97 (lv_at hl 0 rfl) ?_
              refine px_get (D := D) (ci := 6) (v := .ref (ad (1 + d_51) 0)) (C := xR_Me) (T := xT_Me) (N := 6) hx hb hT xi_Me hown hK.1 hP m_53 c_52 rfl 1 (by decide) (hT _ k6d_22) (fun _ h9 => h9) rfl xd_De_peek_99 ?_
              refine lv_iload hx hb xd_De_peek_102 (lv_at hl 2 rfl) ?_
              refine lv_aload hx hb xd_De_peek_104 (lv_at hl 1 rfl) ?_
              refine px_get (D := D) (ci := 6) (v := .ref (ad (1 + d_104) 0)) (C := xR_Me) (T := xT_Me) (N := 6) hx hb hT xi_Me hown hK.1 hP m_106 c_105 rfl 1 (by decide) (hT _ k6d_22) (fun _ h9 => h9) rfl xd_De_peek_106 ?_
              obtain ⟨hm_132, fd_132, nm_132, sd_132, k0_132, k1_132, k2_132, k3_132, f0_132, f1_132, f2_132, f3_132, fe_132, fo_132, tr_132, op_132, hk0_132, hk1_132, hk2_132, hk3_132, q0_132, q1_132, q2_132, q3_132, q4_132, q5_132, q6_132, q7_132, q8_132, q9_132, q10_132, q11_132, q12_132, hg_132⟩ := id (hDIs d_104 (by omega))
              have c_133 : E16 (1 + d_104) 0 = .inr (7, [.int (nI d_104), .int fd_132, .int nm_132, .ref (ad (1 + d_104) 1), .ref (ad (1 + d_104) 9), .ref (ad (1 + d_104) 10), .ref (ad (1 + d_104) 2), .ref (ad (1 + d_104) 11), .ref (ad (1 + d_104) 12), .ref (ad (1 + d_104) 3), .ref (ad (1 + d_104) 4), .int sd_132]) := q0_132
              have m_134 : (1 + d_104, 0) ∈ RL := hm_132 0 (by omega)
              have c_135 : E16 (1 + d_104) 1 = .inr (8, [.ref (ad (1 + d_104) 5), .int (nI k0_132)]) := q1_132
              have m_136 : (1 + d_104, 1) ∈ RL := hm_132 1 (by omega)
              have c_137 : E16 (1 + d_104) 2 = .inr (8, [.ref (ad (1 + d_104) 6), .int (nI k1_132)]) := q2_132
              have m_138 : (1 + d_104, 2) ∈ RL := hm_132 2 (by omega)
              have c_139 : E16 (1 + d_104) 3 = .inr (8, [.ref (ad (1 + d_104) 7), .int (nI k2_132)]) := q3_132
              have m_140 : (1 + d_104, 3) ∈ RL := hm_132 3 (by omega)
              have c_141 : E16 (1 + d_104) 4 = .inr (8, [.ref (ad (1 + d_104) 8), .int (nI k3_132)]) := q4_132
              have m_142 : (1 + d_104, 4) ∈ RL := hm_132 4 (by omega)
              have c_143 : E16 (1 + d_104) 5 = .inl (kA 0, 6, .inl f0_132) := q5_132
              have m_144 : (1 + d_104, 5) ∈ RL := hm_132 5 (by omega)
              have c_145 : E16 (1 + d_104) 6 = .inl (kA 0, 5, .inl f1_132) := q6_132
              have m_146 : (1 + d_104, 6) ∈ RL := hm_132 6 (by omega)
              have c_147 : E16 (1 + d_104) 7 = .inl (kA 0, 3, .inl f2_132) := q7_132
              have m_148 : (1 + d_104, 7) ∈ RL := hm_132 7 (by omega)
              have c_149 : E16 (1 + d_104) 8 = .inl (kA 0, 3, .inl f3_132) := q8_132
              have m_150 : (1 + d_104, 8) ∈ RL := hm_132 8 (by omega)
              have c_151 : E16 (1 + d_104) 9 = .inl (kA 8, 6, .inr (.inr (.inr (.inr fe_132)))) := q9_132
              have m_152 : (1 + d_104, 9) ∈ RL := hm_132 9 (by omega)
              have c_153 : E16 (1 + d_104) 10 = .inl (kA 8, 6, .inr (.inr (.inr (.inr fo_132)))) := q10_132
              have m_154 : (1 + d_104, 10) ∈ RL := hm_132 10 (by omega)
              have c_155 : E16 (1 + d_104) 11 = .inl (kA 2, 5, .inl tr_132) := q11_132
              have m_156 : (1 + d_104, 11) ∈ RL := hm_132 11 (by omega)
              have c_157 : E16 (1 + d_104) 12 = .inl (kA 2, 5, .inl op_132) := q12_132
              have m_158 : (1 + d_104, 12) ∈ RL := hm_132 12 (by omega)
              have hg_132 : ∀ w9, w9 < k0_132 → fe_132 w9 = some (ad (1 + d_104) (20 + 3 * w9)) ∧ fo_132 w9 = some (ad (1 + d_104) (38 + 3 * w9)) ∧ GI kA (ad (1 + d_104)) (E16 (1 + d_104)) (fun o => (1 + d_104, o) ∈ RL) (20 + 3 * w9) (21 + 3 * w9) (22 + 3 * w9) ∧ GI kA (ad (1 + d_104)) (E16 (1 + d_104)) (fun o => (1 + d_104, o) ∈ RL) (38 + 3 * w9) (39 + 3 * w9) (40 + 3 * w9) := hg_132
              refine px_get (D := D) (ci := 7) (v := .int nm_132) (C := xR_Ds) (T := xT_Ds) (N := 12) hx hb hT xi_Ds hown hK.1 hP m_134 c_133 rfl 2 (by decide) (hT _ k6d_50) (fun _ h9 => h9) rfl xd_De_peek_109 ?_
              have hFc := px_free hD hS hA
              refine va_calli (va_runV (As := [.int r13, .int nm_132]) (rest := []) ⟨hx, hb, hml, hown, hT⟩ (xc_Ds_opensTo l D kA H.size ad E16 RL nd d_51 r13 nm_132 (by first | assumption | omega) (by first | assumption | omega)) (cwV 2 hT (wT_V k6d_52 k6d_53 k6d_54 k6d_55 k6d_51) rfl rfl rfl (by decide +kernel) ⟨Nat.le_of_ble_eq_true rfl, Nat.le_of_ble_eq_true rfl⟩) (px_preV hK hP hD m_70 c_69 rfl) rfl rfl hl.1 rfl (lv_room (Nat.le_of_ble_eq_true rfl)) xd_De_peek_112 ⟨(Nat.le_of_ble_eq_true rfl), (Nat.le_of_ble_eq_true rfl)⟩) hS (fun q _ h => hFc q h) hFc (fun r159 u160 t H1 locs ht hvm hp161 hB hz1 hk1 hS => ?_)
              obtain ⟨hP1, hD1⟩ := hB
              rw [ht] at hP1
              have hD1 := hD1.weaken (fun _ _ _ h => hFc _ h)
              generalize H1 = H at hP1 hS ⊢
              have hP := hP1
              have hD := hD1
              have hP : va_P D xcl (rp ad E16 RL) H := hP
              have hD : va_D A (rp ad E16 RL) := hD
              rcases hp161 with rfl | rfl
              · refine W.eq (g2 := F0 m 115 ls [.int 0]) rfl ?_
                refine lv_if_eq (tgt := 122) hx hb xd_De_peek_115 (by decide) (fun _ => ?_) (fun hc162 => absurd (by decide) hc162)
                refine lv_iconst (v := 0) hx hb xd_De_peek_122 (by decide) ?_
                refine W.widen (k := 1) (n := 6) (Nat.le_of_ble_eq_true rfl) (Nat.le_of_ble_eq_true rfl) ?_
                refine vx_ret ?_
                exact W.zret (v := 0) hx hb hr rfl (fun t ht hW => ⟨⟨0, E16, rfl, ⟨⟨wn17, hCI⟩, hF1⟩, by rw [ht]; exact hP, hD⟩, hS.F ht⟩) hS.2.2 xd_De_peek_123
              · refine W.eq (g2 := F0 m 115 ls [.int 1]) rfl ?_
                refine lv_if_eq (tgt := 122) hx hb xd_De_peek_115 (by decide) (fun hc163 => absurd hc163 (by decide)) (fun _ => ?_)
                refine lv_iconst (v := 1) hx hb xd_De_peek_118 (by decide) ?_
                refine lv_goto (tgt := 123) hx hb xd_De_peek_119 (by decide) ?_
                refine W.widen (k := 1) (n := 6) (Nat.le_of_ble_eq_true rfl) (Nat.le_of_ble_eq_true rfl) ?_
                refine vx_ret ?_
                exact W.zret (v := 1) hx hb hr rfl (fun t ht hW => ⟨⟨1, E16, rfl, ⟨⟨wn17, hCI⟩, hF1⟩, by rw [ht]; exact hP, hD⟩, hS.F ht⟩) hS.2.2 xd_De_peek_123
            · refine W.eq (g2 := F0 m 94 ls [.int 0]) rfl ?_
              refine lv_if_eq (tgt := 122) hx hb xd_De_peek_94 (by decide) (fun _ => ?_) (fun hc164 => absurd (by decide) hc164)
              refine lv_iconst (v := 0) hx hb xd_De_peek_122 (by decide) ?_
              refine W.widen (k := 1) (n := 6) (Nat.le_of_ble_eq_true rfl) (Nat.le_of_ble_eq_true rfl) ?_
              refine vx_ret ?_
              exact W.zret (v := 0) hx hb hr rfl (fun t ht hW => ⟨⟨0, E16, rfl, ⟨⟨wn17, hCI⟩, hF1⟩, by rw [ht]; exact hP, hD⟩, hS.F ht⟩) hS.2.2 xd_De_peek_123
        · refine W.eq (g2 := F0 m 64 ls [.int 0]) rfl ?_
          refine lv_if_ne (tgt := 77) hx hb xd_De_peek_64 (by decide) (fun hc165 => absurd (by decide) hc165) (fun _ => ?_)
          exact y_throwC (ik := 89) (is := 181) (wf := fun (u : Nat → Nat → va_E) => rp ad u RL) E16 (⟨⟨wn17, hCI⟩, hF1⟩) (Or.inr rfl) hx hb hlt hown hT hK k6d_38 k6d_39 hZ.2.2.2.1.2.2.2.2.2.2.2.2.2.2.2.2.2.2.2.2.2.2.2.1 hZ.1 hS hP hD (hl.1.trans hml.symm) xd_De_peek_67 xd_De_peek_70 xd_De_peek_71 xd_De_peek_73 xd_De_peek_76 htab (Nat.le_of_ble_eq_true rfl) (Nat.le_of_ble_eq_true rfl) (Nat.le_of_ble_eq_true rfl) (Nat.le_of_ble_eq_true rfl) hlocks (Nat.le_of_ble_eq_true rfl) (Nat.le_of_ble_eq_true rfl)
      · exact y_throwA (ik := 56) (is := 161) (wf := fun (u : Nat → Nat → va_E) => rp ad u RL) E16 (⟨⟨wn17, hCI⟩, hF1⟩) (Or.inl rfl) hx hb hlt hown hT hK k6d_20 k6d_21 hZ.2.2.2.1.2.2.2.2.2.2.2.2.2.2.2.2.2.2.2.2.2.1 hZ.1 hS hP hD (hl.1.trans hml.symm) xd_De_peek_41 xd_De_peek_44 xd_De_peek_45 xd_De_peek_47 xd_De_peek_50 htab (Nat.le_of_ble_eq_true rfl) (Nat.le_of_ble_eq_true rfl) (Nat.le_of_ble_eq_true rfl) (Nat.le_of_ble_eq_true rfl) hlocks (Nat.le_of_ble_eq_true rfl) (Nat.le_of_ble_eq_true rfl)
set_option maxHeartbeats 4000000 in
set_option maxRecDepth 100000 in
theorem xc_De_providerK (l : Launch) (hlt : l.stackTraces = false) (D : va_G) (kA : Nat → ClassId) (sz : Nat) (ad : Nat → Nat → Nat) (E : Nat → Nat → va_E) (RL : List (Nat × Nat)) (Z : zT) (g : Nat → Nat → Int32) (ml : Nat) (nd : Nat) (len : Nat) (wn : Nat) (cs : Nat) (ix : Int32) (kx : Int32) (hCI : CI kA ad E RL ml nd len wn cs) (hTX : ∀ i, i < len → eA (E 0 2) i = g 0 i) : vx_Met l xy_De_provider (.code xy_De_provider xb_De_provider 6 (some .int) :: wT) { frames := 6, cells := 1, slots := 6, locals := 82 } (va_Pc [.ref (ad 0 0), .int ix, .int kx] (xPreZ D kA sz (rp ad E RL) Z)) (va_Qi (fun (r : Int32) (u : Nat → Nat → va_E) => (∃ wn2, CI kA ad u RL ml nd 0 wn2 cs) ∧ F134 E u) (fun (u : Nat → Nat → va_E) t => va_P D xcl (rp ad u RL) t.heap ∧ va_D (va_A (rp ad E RL) sz) (rp ad u RL)) (va_A (rp ad E RL) sz)) (vx_X (fun (u : Nat → Nat → va_E) => (∃ wn2, CI kA ad u RL ml nd 0 wn2 cs) ∧ F134 E u) (fun E9 u t => (E9 = "java/lang/IllegalArgumentException") ∧ va_P D xcl (rp ad u RL) t.heap ∧ va_D (va_A (rp ad E RL) sz) (rp ad u RL)) (va_A (rp ad E RL) sz)) 1 6 (va_A (rp ad E RL) sz) := by
  refine vx_ofW (cc := xb_De_provider) (maxL := 6) (ret := (some .int)) (by decide) rfl ?_
  intro p e s m args below meth c s₁ B hml htab hv
  obtain ⟨rfl, ⟨hsz, hP, hK, hD0⟩, hZ⟩ := hv
  have hx := B.exec
  have hb := B.bytes
  have hr := B.returns
  have hT := x_hT B.pre
  have hown : s.vm.findClass xR_De = some m.cls := findClass_of_methodNamed B.named
  have hlocks := B.notSynchronized
  subst hsz
  have hD := hD0.self (sz := s.heap.size)
  generalize hAe : va_A (rp ad E RL) s.heap.size = A at hD hZ ⊢
  have hA : ∀ q : Nat, s.heap.size ≤ q → A q := fun q h => by rw [← hAe]; exact Or.inr h
  have hS : va_S A s.heap s.heap [] := va_S.rf
  have hl := lv_entry ([.ref (ad 0 0), .int ix, .int kx]) (n := 6) (Nat.le_of_ble_eq_true rfl)
  rw [lg_entry_eq]
  generalize (lg_sl ([.ref (ad 0 0), .int ix, .int kx]) ++ List.replicate (6 - (lg_sl ([.ref (ad 0 0), .int ix, .int kx])).length) Slot.unset).toArray = ls at hl ⊢
  have hl : lv_has ls 6 [(0, .ref (ad 0 0)), (1, .int ix), (2, .int kx)] := hl
  have hP : va_P D xcl (rp ad E RL) s.heap := hP
  obtain ⟨hmB, hDk, hLi, hSh, hCh, hLa, hDIs, hLIs⟩ := id hCI
  obtain ⟨lf_1, q_1⟩ := id (hDk)
  have c_2 : E 0 0 = .inr (0, [.ref (ad 0 1), .ref (ad 0 5), .ref (ad 0 7), .ref (ad 0 9), .int (nI ml), .int lf_1]) := q_1
  have m_3 : (0, 0) ∈ RL := hmB 0 (by omega)
  refine lv_aload_n hx hb xd_De_provider_0 rfl (lv_at hl 0 rfl) ?_
  refine px_get (D := D) (ci := 0) (v := .ref (ad 0 1)) (C := xR_De) (T := xT_De) (N := 6) hx hb hT xi_De hown hK.1 hP m_3 c_2 rfl 0 (by decide) (hT _ k6d_10) (fun _ h9 => h9) rfl xd_De_provider_1 ?_
  have hFc := px_free hD hS hA
  obtain ⟨tx_4, fb_4, fe_4, hl1_4, hw2_4, q1_4, q2_4, q3_4, q4_4, hws_4⟩ := id (hLi)
  have c_5 : E 0 1 = .inr (1, [.ref (ad 0 2), .ref (ad 0 3), .ref (ad 0 4), .int (nI len), .int (nI wn)]) := q1_4
  have m_6 : (0, 1) ∈ RL := hmB 1 (by omega)
  have c_7 : E 0 2 = .inl (kA 1, 40, .inl tx_4) := q2_4
  have m_8 : (0, 2) ∈ RL := hmB 2 (by omega)
  have c_9 : E 0 3 = .inl (kA 0, 20, .inl fb_4) := q3_4
  have m_10 : (0, 3) ∈ RL := hmB 3 (by omega)
  have c_11 : E 0 4 = .inl (kA 0, 20, .inl fe_4) := q4_4
  have m_12 : (0, 4) ∈ RL := hmB 4 (by omega)
  refine va_calli (va_runV (As := []) (rest := []) ⟨hx, hb, hml, hown, hT⟩ (xc_Li_takeNameX l D kA s.heap.size ad E RL g ml nd len wn cs (by first | assumption | omega) (by first | assumption | omega)) (cwV 0 hT (wT_V k6d_12 k6d_13 k6d_14 k6d_4 k6d_11) rfl rfl rfl (by decide +kernel) ⟨Nat.le_of_ble_eq_true rfl, Nat.le_of_ble_eq_true rfl⟩) (px_preV hK hP hD m_6 c_5 rfl) rfl rfl hl.1 rfl (lv_room (Nat.le_of_ble_eq_true rfl)) xd_De_provider_4 ⟨(Nat.le_of_ble_eq_true rfl), (Nat.le_of_ble_eq_true rfl)⟩) hS (fun q _ h => hFc q h) hFc (fun r13 u14 t H1 locs ht hvm hp15 hB hz1 hk1 hS => ?_)
  obtain ⟨hP1, hD1⟩ := hB
  rw [ht] at hP1
  have hD1 := hD1.weaken (fun _ _ _ h => hFc _ h)
  generalize H1 = H at hP1 hS ⊢
  have hP := hP1
  have hD := hD1
  obtain ⟨E16, rfl⟩ : ∃ z, z = u14 := ⟨_, rfl⟩
  have hP : va_P D xcl (rp ad E16 RL) H := hP
  have hD : va_D A (rp ad E16 RL) := hD
  obtain ⟨⟨wn17, hCI⟩, hF1, hr9⟩ := hp15
  have hCI : CI kA ad E16 RL ml nd 0 wn17 cs := hCI
  obtain ⟨hmB, hDk, hLi, hSh, hCh, hLa, hDIs, hLIs⟩ := id hCI
  obtain ⟨lf_18, q_18⟩ := id (hDk)
  have c_19 : E16 0 0 = .inr (0, [.ref (ad 0 1), .ref (ad 0 5), .ref (ad 0 7), .ref (ad 0 9), .int (nI ml), .int lf_18]) := q_18
  have m_20 : (0, 0) ∈ RL := hmB 0 (by omega)
  obtain ⟨fd_21, hnd_21, q5_21, q6_21, hds_21⟩ := id (hSh)
  have c_22 : E16 0 5 = .inr (2, [.ref (ad 0 6), .int (nI nd)]) := q5_21
  have m_23 : (0, 5) ∈ RL := hmB 5 (by omega)
  have c_24 : E16 0 6 = .inl (kA 4, 12, .inr (.inr (.inr (.inr fd_21)))) := q6_21
  have m_25 : (0, 6) ∈ RL := hmB 6 (by omega)
  obtain ⟨fl_26, hml_26, q9_26, hla_26⟩ := id (hLa)
  have c_27 : E16 0 9 = .inl (kA 5, 5, .inr (.inr (.inr (.inr fl_26)))) := q9_26
  have m_28 : (0, 9) ∈ RL := hmB 9 (by omega)
  refine lv_istore_n hx hb xd_De_provider_7 rfl hl (Nat.le_of_ble_eq_true rfl) rfl (fun ls hl => ?_)
  have hl : lv_has ls 6 [(3, .int r13), (0, .ref (ad 0 0)), (1, .int ix), (2, .int kx)] := hl
  refine lv_aload_n hx hb xd_De_provider_8 rfl (lv_at hl 1 rfl) ?_
  refine lv_iload_n hx hb xd_De_provider_9 rfl (lv_at hl 2 rfl) ?_
  have hFc := px_free hD hS hA
  refine va_callq (va_runV (As := [.int ix]) (rest := []) ⟨hx, hb, hml, hown, hT⟩ (xc_De_openLayer l D kA H.size ad E16 RL ml nd 0 wn17 cs ix (by first | assumption | omega)) (cwV 1 hT (wT_V k6d_57 k6d_58 k6d_59 k6d_19 k6d_56) rfl rfl rfl (by decide +kernel) ⟨Nat.le_of_ble_eq_true rfl, Nat.le_of_ble_eq_true rfl⟩) (px_preV hK hP hD m_20 c_19 rfl) rfl rfl hl.1 rfl (lv_room (Nat.le_of_ble_eq_true rfl)) xd_De_provider_10 ⟨(Nat.le_of_ble_eq_true rfl), (Nat.le_of_ble_eq_true rfl)⟩) hS (fun q _ h => hFc q h) hFc (fun r29 u30 t H1 locs ht hvm hp31 hB hz1 hk1 hS => ?_)
  obtain ⟨hP1, hD1⟩ := hB
  rw [ht] at hP1
  have hD1 := hD1.weaken (fun _ _ _ h => hFc _ h)
  generalize H1 = H at hP1 hS ⊢
  have hP := hP1
  have hD := hD1
  have hP : va_P D xcl (rp ad E16 RL) H := hP
  have hD : va_D A (rp ad E16 RL) := hD
  rcases hp31 with rfl | ⟨z32, z33, z34, rfl⟩
  · refine W.eq (g2 := F0 m 13 ls [.null]) rfl ?_
    refine lv_astoreN hx hb xd_De_provider_13 hl (Nat.le_of_ble_eq_true rfl) rfl (fun ls hl => ?_)
    have hl : lv_has ls 6 [(4, .null), (3, .int r13), (0, .ref (ad 0 0)), (1, .int ix), (2, .int kx)] := hl
    refine lv_aloadN hx hb xd_De_provider_15 (lv_at hl 0 rfl) ?_
    refine lv_ifnullN (tgt := 24) hx hb xd_De_provider_17 (by decide) ?_
    exact y_throwA (ik := 56) (is := 190) (wf := fun (u : Nat → Nat → va_E) => rp ad u RL) E16 (⟨⟨wn17, hCI⟩, hF1⟩) rfl hx hb hlt hown hT hK k6d_20 k6d_21 hZ.2.2.2.1.2.2.2.2.2.2.2.2.2.2.2.2.2.2.2.2.2.2.2.2 hZ.1 hS hP hD (hl.1.trans hml.symm) xd_De_provider_24 xd_De_provider_27 xd_De_provider_28 xd_De_provider_30 xd_De_provider_33 htab (Nat.le_of_ble_eq_true rfl) (Nat.le_of_ble_eq_true rfl) (Nat.le_of_ble_eq_true rfl) (Nat.le_of_ble_eq_true rfl) hlocks (Nat.le_of_ble_eq_true rfl) (Nat.le_of_ble_eq_true rfl)
  · refine W.eq (g2 := F0 m 13 ls [.ref (ad (20 + z32) 0)]) rfl ?_
    refine lv_astore hx hb xd_De_provider_13 hl (Nat.le_of_ble_eq_true rfl) rfl (fun ls hl => ?_)
    have hl : lv_has ls 6 [(4, .ref (ad (20 + z32) 0)), (3, .int r13), (0, .ref (ad 0 0)), (1, .int ix), (2, .int kx)] := hl
    refine lv_aload hx hb xd_De_provider_15 (lv_at hl 0 rfl) ?_
    refine lv_ifnull hx hb xd_De_provider_17 ?_
    refine lv_iload_n hx hb xd_De_provider_20 rfl (lv_at hl 1 rfl) ?_
    refine lv_if_ne (tgt := 34) hx hb xd_De_provider_21 (by decide) (fun hc35 => ?_) (fun hc35 => ?_)
    · refine lv_aload hx hb xd_De_provider_34 (lv_at hl 0 rfl) ?_
      refine lv_iload_n hx hb xd_De_provider_36 rfl (lv_at hl 1 rfl) ?_
      refine lv_iload_n hx hb xd_De_provider_37 rfl (lv_at hl 4 rfl) ?_
      have hFc := px_free hD hS hA
      obtain ⟨m0_36, m1_36, pv_36, op_36, mk_36, fm_36, hmk_36, hpv_36, q0_36, q1_36, hk_36⟩ := id (hLIs z32 (by omega))
      have c_37 : E16 (20 + z32) 0 = .inr (5, [.int (nI z32), pv_36, .ref (ad (20 + z32) 1), .int op_36]) := q0_36
      have m_38 : (20 + z32, 0) ∈ RL := m0_36
      have c_39 : E16 (20 + z32) 1 = .inl (kA 6, mk_36, .inr (.inr (.inr (.inr fm_36)))) := q1_36
      have m_40 : (20 + z32, 1) ∈ RL := m1_36
      refine va_callq (va_runV (As := [.int r13, .int kx]) (rest := []) ⟨hx, hb, hml, hown, hT⟩ (xc_Ly_providerOf l D kA H.size ad E16 RL nd ml z32 r13 kx (by first | assumption | omega) (by first | assumption | omega) (by first | assumption | omega) (by first | assumption | omega)) (cwV 2 hT (wT_V k6d_61 k6d_62 k6d_63 k6d_64 k6d_60) rfl rfl rfl (by decide +kernel) ⟨Nat.le_of_ble_eq_true rfl, Nat.le_of_ble_eq_true rfl⟩) (px_preV hK hP hD m_38 c_37 rfl) rfl rfl hl.1 rfl (lv_room (Nat.le_of_ble_eq_true rfl)) xd_De_provider_38 ⟨(Nat.le_of_ble_eq_true rfl), (Nat.le_of_ble_eq_true rfl)⟩) hS (fun q _ h => hFc q h) hFc (fun r41 u42 t H1 locs ht hvm hp43 hB hz1 hk1 hS => ?_)
      obtain ⟨hP1, hD1⟩ := hB
      rw [ht] at hP1
      have hD1 := hD1.weaken (fun _ _ _ h => hFc _ h)
      generalize H1 = H at hP1 hS ⊢
      have hP := hP1
      have hD := hD1
      have hP : va_P D xcl (rp ad E16 RL) H := hP
      have hD : va_D A (rp ad E16 RL) := hD
      rcases hp43 with rfl | ⟨z44, z45, z46, rfl, z47⟩
      · refine W.eq (g2 := F0 m 41 ls [.null]) rfl ?_
        refine lv_astoreN hx hb xd_De_provider_41 hl (Nat.le_of_ble_eq_true rfl) rfl (fun ls hl => ?_)
        have hl : lv_has ls 6 [(5, .null), (4, .ref (ad (20 + z32) 0)), (3, .int r13), (0, .ref (ad 0 0)), (1, .int ix), (2, .int kx)] := hl
        refine lv_aloadN hx hb xd_De_provider_43 (lv_at hl 0 rfl) ?_
        refine lv_ifnonnullN hx hb xd_De_provider_45 ?_
        refine lv_iconst (v := (-1)) hx hb xd_De_provider_48 (by decide) ?_
        refine lv_goto (tgt := 57) hx hb xd_De_provider_49 (by decide) ?_
        refine W.widen (k := 1) (n := 6) (Nat.le_of_ble_eq_true rfl) (Nat.le_of_ble_eq_true rfl) ?_
        refine vx_ret ?_
        exact W.iret (v := (-1)) hx hb hr (fun t ht hW => ⟨⟨(-1), E16, rfl, ⟨⟨wn17, hCI⟩, hF1⟩, by rw [ht]; exact hP, hD⟩, hS.F ht⟩) hS.2.2 xd_De_provider_57
      · refine W.eq (g2 := F0 m 41 ls [.ref (ad (20 + z44) (10 + 10 * z45))]) rfl ?_
        refine lv_astore hx hb xd_De_provider_41 hl (Nat.le_of_ble_eq_true rfl) rfl (fun ls hl => ?_)
        have hl : lv_has ls 6 [(5, .ref (ad (20 + z44) (10 + 10 * z45))), (4, .ref (ad (20 + z32) 0)), (3, .int r13), (0, .ref (ad 0 0)), (1, .int ix), (2, .int kx)] := hl
        refine lv_aload hx hb xd_De_provider_43 (lv_at hl 0 rfl) ?_
        refine lv_ifnonnull (tgt := 52) hx hb xd_De_provider_45 (by decide) ?_
        refine lv_aload hx hb xd_De_provider_52 (lv_at hl 0 rfl) ?_
        have hFc := px_free hD hS hA
        obtain ⟨hm_48, d_48, rs_48, fr_48, g2_48, g3_48, g4_48, hd_48, hrs_48, q0_48, q1_48, q2_48, q3_48, q4_48, q5_48, q6_48, q7_48⟩ := id z47
        have c_49 : E16 (20 + z44) (10 + 10 * z45) = .inr (6, [.ref (ad (20 + z44) 0), .ref (ad (1 + d_48) 0), .ref (ad (20 + z44) (11 + 10 * z45)), .ref (ad (20 + z44) (12 + 10 * z45)), .ref (ad (20 + z44) (13 + 10 * z45)), .ref (ad (20 + z44) (14 + 10 * z45))]) := q0_48
        have m_50 : (20 + z44, 10 + 10 * z45) ∈ RL := hm_48 0 (by omega)
        have c_51 : E16 (20 + z44) (11 + 10 * z45) = .inl (kA 6, rs_48, .inr (.inr (.inr (.inr fr_48)))) := q1_48
        have m_52 : (20 + z44, 11 + 10 * z45) ∈ RL := hm_48 1 (by omega)
        have c_53 : E16 (20 + z44) (12 + 10 * z45) = .inr (10, [.ref (ad (20 + z44) (15 + 10 * z45))]) := q2_48
        have m_54 : (20 + z44, 12 + 10 * z45) ∈ RL := hm_48 2 (by omega)
        have c_55 : E16 (20 + z44) (13 + 10 * z45) = .inr (10, [.ref (ad (20 + z44) (16 + 10 * z45))]) := q3_48
        have m_56 : (20 + z44, 13 + 10 * z45) ∈ RL := hm_48 3 (by omega)
        have c_57 : E16 (20 + z44) (14 + 10 * z45) = .inr (10, [.ref (ad (20 + z44) (17 + 10 * z45))]) := q4_48
        have m_58 : (20 + z44, 14 + 10 * z45) ∈ RL := hm_48 4 (by omega)
        have c_59 : E16 (20 + z44) (15 + 10 * z45) = .inl (kA 0, 6, .inl g2_48) := q5_48
        have m_60 : (20 + z44, 15 + 10 * z45) ∈ RL := hm_48 5 (by omega)
        have c_61 : E16 (20 + z44) (16 + 10 * z45) = .inl (kA 0, 6, .inl g3_48) := q6_48
        have m_62 : (20 + z44, 16 + 10 * z45) ∈ RL := hm_48 6 (by omega)
        have c_63 : E16 (20 + z44) (17 + 10 * z45) = .inl (kA 0, 6, .inl g4_48) := q7_48
        have m_64 : (20 + z44, 17 + 10 * z45) ∈ RL := hm_48 7 (by omega)
        refine va_calli (va_runV (As := []) (rest := []) ⟨hx, hb, hml, hown, hT⟩ (xc_Me_code l D kA H.size ad E16 RL nd ml z44 z45 (by first | assumption | omega) (by first | assumption | omega) (by first | assumption | omega) (by first | assumption | omega) (by first | assumption | omega)) (cwV 0 hT (wT_V k6d_30 k6d_31 k6d_32 k6d_33 k6d_29) rfl rfl rfl (by decide +kernel) ⟨Nat.le_of_ble_eq_true rfl, Nat.le_of_ble_eq_true rfl⟩) (px_preV hK hP hD m_50 c_49 rfl) rfl rfl hl.1 rfl (lv_room (Nat.le_of_ble_eq_true rfl)) xd_De_provider_54 ⟨(Nat.le_of_ble_eq_true rfl), (Nat.le_of_ble_eq_true rfl)⟩) hS (fun q _ h => hFc q h) hFc (fun r65 u66 t H1 locs ht hvm hp67 hB hz1 hk1 hS => ?_)
        obtain ⟨hP1, hD1⟩ := hB
        rw [ht] at hP1
        have hD1 := hD1.weaken (fun _ _ _ h => hFc _ h)
        generalize H1 = H at hP1 hS ⊢
        have hP := hP1
        have hD := hD1
        have hP : va_P D xcl (rp ad E16 RL) H := hP
        have hD : va_D A (rp ad E16 RL) := hD
        refine W.widen (k := 1) (n := 6) (Nat.le_of_ble_eq_true rfl) (Nat.le_of_ble_eq_true rfl) ?_
        refine vx_ret ?_
        exact W.iret (v := r65) hx hb hr (fun t ht hW => ⟨⟨r65, E16, rfl, ⟨⟨wn17, hCI⟩, hF1⟩, by rw [ht]; exact hP, hD⟩, hS.F ht⟩) hS.2.2 xd_De_provider_57
    · exact y_throwA (ik := 56) (is := 190) (wf := fun (u : Nat → Nat → va_E) => rp ad u RL) E16 (⟨⟨wn17, hCI⟩, hF1⟩) rfl hx hb hlt hown hT hK k6d_20 k6d_21 hZ.2.2.2.1.2.2.2.2.2.2.2.2.2.2.2.2.2.2.2.2.2.2.2.2 hZ.1 hS hP hD (hl.1.trans hml.symm) xd_De_provider_24 xd_De_provider_27 xd_De_provider_28 xd_De_provider_30 xd_De_provider_33 htab (Nat.le_of_ble_eq_true rfl) (Nat.le_of_ble_eq_true rfl) (Nat.le_of_ble_eq_true rfl) (Nat.le_of_ble_eq_true rfl) hlocks (Nat.le_of_ble_eq_true rfl) (Nat.le_of_ble_eq_true rfl)
set_option maxHeartbeats 4000000 in
set_option maxRecDepth 100000 in
theorem xc_De_lineX (l : Launch) (hlt : l.stackTraces = false) (D : va_G) (kA : Nat → ClassId) (sz : Nat) (ad : Nat → Nat → Nat) (E : Nat → Nat → va_E) (RL : List (Nat × Nat)) (Z : zT) (g : Nat → Nat → Int32) (ml : Nat) (nd : Nat) (len : Nat) (wn : Nat) (cs : Nat) (hCI : CI kA ad E RL ml nd len wn cs) (hTD : TDs g E nd) (hZI : ZI g nd) (hTX : ∀ i, i < len → eA (E 0 2) i = g 0 i) : vx_Met l xy_De_line (.code xy_De_line xb_De_line 2 (some .int) :: wT) { frames := 7, cells := 14, slots := 72, locals := 155 } (va_Pc [.ref (ad 0 0)] (xPreZ D kA sz (rp ad E RL) Z)) (va_Qi (fun (r : Int32) (u : (Nat → Nat → Nat) × (Nat → Nat → va_E) × List (Nat × Nat)) => (∃ wn2, CI kA u.1 u.2.1 u.2.2 ml (lnF (g 0) (w_all (g 0) len) nd g).1 0 wn2 cs) ∧ TDs (lnF (g 0) (w_all (g 0) len) nd g).2 u.2.1 (lnF (g 0) (w_all (g 0) len) nd g).1 ∧ u.1 0 0 = ad 0 0 ∧ FRL ml nd ad u.1 E u.2.1) (fun (u : (Nat → Nat → Nat) × (Nat → Nat → va_E) × List (Nat × Nat)) t => va_P D xcl (rp u.1 u.2.1 u.2.2) t.heap ∧ va_D (va_A (rp ad E RL) sz) (rp u.1 u.2.1 u.2.2)) (va_A (rp ad E RL) sz)) (vx_X (fun (u : (Nat → Nat → Nat) × (Nat → Nat → va_E) × List (Nat × Nat)) => (∃ wn2, CI kA u.1 u.2.1 u.2.2 ml (lnF (g 0) (w_all (g 0) len) nd g).1 0 wn2 cs) ∧ TDs (lnF (g 0) (w_all (g 0) len) nd g).2 u.2.1 (lnF (g 0) (w_all (g 0) len) nd g).1 ∧ u.1 0 0 = ad 0 0 ∧ FRL ml nd ad u.1 E u.2.1) (fun E9 u t => (E9 = "java/lang/IllegalArgumentException" ∨ E9 = "java/lang/IllegalStateException") ∧ va_P D xcl (rp u.1 u.2.1 u.2.2) t.heap ∧ va_D (va_A (rp ad E RL) sz) (rp u.1 u.2.1 u.2.2)) (va_A (rp ad E RL) sz)) 14 72 (va_A (rp ad E RL) sz) := by
  refine vx_ofW (cc := xb_De_line) (maxL := 2) (ret := (some .int)) (by decide) rfl ?_
  intro p e s m args below meth c s₁ B hml htab hv
  obtain ⟨rfl, ⟨hsz, hP, hK, hD0⟩, hZ⟩ := hv
  have hx := B.exec
  have hb := B.bytes
  have hr := B.returns
  have hT := x_hT B.pre
  have hown : s.vm.findClass xR_De = some m.cls := findClass_of_methodNamed B.named
  have hlocks := B.notSynchronized
  subst hsz
  have hD := hD0.self (sz := s.heap.size)
  generalize hAe : va_A (rp ad E RL) s.heap.size = A at hD hZ ⊢
  have hA : ∀ q : Nat, s.heap.size ≤ q → A q := fun q h => by rw [← hAe]; exact Or.inr h
  have hS : va_S A s.heap s.heap [] := va_S.rf
  have hl := lv_entry ([.ref (ad 0 0)]) (n := 2) (Nat.le_of_ble_eq_true rfl)
  rw [lg_entry_eq]
  generalize (lg_sl ([.ref (ad 0 0)]) ++ List.replicate (2 - (lg_sl ([.ref (ad 0 0)])).length) Slot.unset).toArray = ls at hl ⊢
  have hl : lv_has ls 2 [(0, .ref (ad 0 0))] := hl
  have hP : va_P D xcl (rp ad E RL) s.heap := hP
  obtain ⟨hmB, hDk, hLi, hSh, hCh, hLa, hDIs, hLIs⟩ := id hCI
  obtain ⟨lf_1, q_1⟩ := id (hDk)
  have c_2 : E 0 0 = .inr (0, [.ref (ad 0 1), .ref (ad 0 5), .ref (ad 0 7), .ref (ad 0 9), .int (nI ml), .int lf_1]) := q_1
  have m_3 : (0, 0) ∈ RL := hmB 0 (by omega)
  obtain ⟨tx_4, fb_4, fe_4, hl1_4, hw2_4, q1_4, q2_4, q3_4, q4_4, hws_4⟩ := id (hLi)
  have c_5 : E 0 1 = .inr (1, [.ref (ad 0 2), .ref (ad 0 3), .ref (ad 0 4), .int (nI len), .int (nI wn)]) := q1_4
  have m_6 : (0, 1) ∈ RL := hmB 1 (by omega)
  have c_7 : E 0 2 = .inl (kA 1, 40, .inl tx_4) := q2_4
  have m_8 : (0, 2) ∈ RL := hmB 2 (by omega)
  have c_9 : E 0 3 = .inl (kA 0, 20, .inl fb_4) := q3_4
  have m_10 : (0, 3) ∈ RL := hmB 3 (by omega)
  have c_11 : E 0 4 = .inl (kA 0, 20, .inl fe_4) := q4_4
  have m_12 : (0, 4) ∈ RL := hmB 4 (by omega)
  obtain ⟨fd_13, hnd_13, q5_13, q6_13, hds_13⟩ := id (hSh)
  have c_14 : E 0 5 = .inr (2, [.ref (ad 0 6), .int (nI nd)]) := q5_13
  have m_15 : (0, 5) ∈ RL := hmB 5 (by omega)
  have c_16 : E 0 6 = .inl (kA 4, 12, .inr (.inr (.inr (.inr fd_13)))) := q6_13
  have m_17 : (0, 6) ∈ RL := hmB 6 (by omega)
  obtain ⟨cf_18, pv_18, fc_18, hcs_18, hpv_18, q7_18, q8_18, hfc_18⟩ := id (hCh)
  have c_19 : E 0 7 = .inr (3, [.ref (ad 0 5), .ref (ad 0 8), .int (nI cs), .int cf_18, pv_18]) := q7_18
  have m_20 : (0, 7) ∈ RL := hmB 7 (by omega)
  have c_21 : E 0 8 = .inl (kA 4, 12, .inr (.inr (.inr (.inr fc_18)))) := q8_18
  have m_22 : (0, 8) ∈ RL := hmB 8 (by omega)
  obtain ⟨fl_23, hml_23, q9_23, hla_23⟩ := id (hLa)
  have c_24 : E 0 9 = .inl (kA 5, 5, .inr (.inr (.inr (.inr fl_23)))) := q9_23
  have m_25 : (0, 9) ∈ RL := hmB 9 (by omega)
  refine lv_aload_n hx hb xd_De_line_0 rfl (lv_at hl 0 rfl) ?_
  refine px_get (D := D) (ci := 0) (v := .ref (ad 0 1)) (C := xR_De) (T := xT_De) (N := 6) hx hb hT xi_De hown hK.1 hP m_3 c_2 rfl 0 (by decide) (hT _ k6d_10) (fun _ h9 => h9) rfl xd_De_line_1 ?_
  have hFc := px_free hD hS hA
  refine va_callv (va_runV (As := []) (rest := []) ⟨hx, hb, hml, hown, hT⟩ (xc_Li_takeX l D kA s.heap.size ad E RL len wn tx_4 fb_4 fe_4 m_6 c_5 m_8 c_7 m_10 c_9 m_12 c_11 (by first | assumption | omega)) (cwV 0 hT (wT_V k6d_65 k6d_2 k6d_3 k6d_4 k6d_0) rfl rfl rfl (by decide +kernel) ⟨Nat.le_of_ble_eq_true rfl, Nat.le_of_ble_eq_true rfl⟩) (px_preV hK hP hD m_6 c_5 rfl) rfl rfl hl.1 rfl (lv_room (Nat.le_of_ble_eq_true rfl)) xd_De_line_4 ⟨(Nat.le_of_ble_eq_true rfl), (Nat.le_of_ble_eq_true rfl)⟩) hS (fun q _ h => hFc q h) hFc (fun u27 t H1 locs ht hvm hp28 hB hz1 hk1 hS => ?_)
  obtain ⟨hP1, hD1⟩ := hB
  rw [ht] at hP1
  have hD1 := hD1.weaken (fun _ _ _ h => hFc _ h)
  generalize H1 = H at hP1 hS ⊢
  have hP := hP1
  have hD := hD1
  obtain ⟨E29, rfl⟩ : ∃ z, z = u27 := ⟨_, rfl⟩
  obtain ⟨w30, w31, w32, hp37, p_33, p_34, p_35, p_36⟩ := hp28
  have p_33 : E29 0 1 = .inr (1, [.ref (ad 0 2), .ref (ad 0 3), .ref (ad 0 4), .int 0, .int (nI w30)]) := p_33
  have p_34 : E29 0 3 = .inl (kA 0, 20, .inl w31) := p_34
  have p_35 : E29 0 4 = .inl (kA 0, 20, .inl w32) := p_35
  have p_36 : (∀ b2 o2, ¬ (b2 = 0 ∧ o2 = 1) → ¬ (b2 = 0 ∧ o2 = 3) → ¬ (b2 = 0 ∧ o2 = 4) → E29 b2 o2 = E b2 o2) := p_36
  have c_38 : E29 0 0 = .inr (0, [.ref (ad 0 1), .ref (ad 0 5), .ref (ad 0 7), .ref (ad 0 9), .int (nI ml), .int lf_1]) := (p_36 0 0 (by omega) (by omega) (by omega)).trans c_2
  have c_39 : E29 0 2 = .inl (kA 1, 40, .inl tx_4) := (p_36 0 2 (by omega) (by omega) (by omega)).trans c_7
  have c_40 : E29 0 5 = .inr (2, [.ref (ad 0 6), .int (nI nd)]) := (p_36 0 5 (by omega) (by omega) (by omega)).trans c_14
  have c_41 : E29 0 6 = .inl (kA 4, 12, .inr (.inr (.inr (.inr fd_13)))) := (p_36 0 6 (by omega) (by omega) (by omega)).trans c_16
  have c_42 : E29 0 7 = .inr (3, [.ref (ad 0 5), .ref (ad 0 8), .int (nI cs), .int cf_18, pv_18]) := (p_36 0 7 (by omega) (by omega) (by omega)).trans c_19
  have c_43 : E29 0 8 = .inl (kA 4, 12, .inr (.inr (.inr (.inr fc_18)))) := (p_36 0 8 (by omega) (by omega) (by omega)).trans c_21
  have c_44 : E29 0 9 = .inl (kA 5, 5, .inr (.inr (.inr (.inr fl_23)))) := (p_36 0 9 (by omega) (by omega) (by omega)).trans c_24
  have hP : va_P D xcl (rp ad E29 RL) H := hP
  have hD : va_D A (rp ad E29 RL) := hD
  obtain ⟨hw20, hWP, hTQ1, hTQ2⟩ := hp37
  obtain ⟨wl, hwl⟩ : ∃ z, z = w_all (g 0) len := ⟨_, rfl⟩
  have htx9 : ∀ j, j < len → tx_4 j = g 0 j := fun j hj => by
    have q := hTX j hj
    rw [← (show E29 0 2 = E 0 2 from by show E29 0 2 = _; rw [p_36 0 2 (by omega) (by omega) (by omega)]), c_39] at q; exact q
  have hwx : w_all tx_4 len = wl := by rw [hwl]; exact w_all_congr htx9
  rw [hwx] at hTQ1 hTQ2
  have hLW : LW g E29 len wl := LW_mk hwl (by omega) c_39 p_34 p_35 htx9 hTQ2
  have c1w : E29 0 1 = .inr (1, [.ref (ad 0 2), .ref (ad 0 3), .ref (ad 0 4), .int 0, .int (nI (wl.length))]) := by rw [← hTQ1]; exact p_33
  have hF1 : F134 E E29 := fun b2 o2 h19 h29 h39 => by show E29 b2 o2 = _; rw [p_36 b2 o2 (by omega) (by omega) (by omega)]
  have hTD1 : TDs g E29 nd := TDs_same (fun d9 hd9 => fun2 fun o9 => hF1 (1 + d9) o9 (by omega) (by omega) (by omega)) hTD
  have hCI : CI kA ad E29 RL ml nd 0 wl.length cs := ⟨hmB, ⟨lf_1, c_38⟩, ⟨tx_4, w31, w32, (by omega), (by omega), c1w, c_39, p_34, p_35, (by rw [← hTQ1]; exact hWP)⟩, ⟨fd_13, (by omega), c_40, c_41, hds_13⟩, ⟨cf_18, pv_18, fc_18, (by omega), hpv_18, c_42, c_43, hfc_18⟩, ⟨fl_23, (by omega), c_44, hla_23⟩, (DIs_same (fun d9 hd9 => fun2 fun o9 => by show E29 (1 + d9) o9 = _; rw [p_36 (1 + d9) o9 (by omega) (by omega) (by omega)]) (fun _ _ => rfl) (fun _ h9 => h9) hDIs), (LIs_same (Nat.le_refl _) (fun n9 hn9 => fun2 fun o9 => by show E29 (20 + n9) o9 = _; rw [p_36 (20 + n9) o9 (by omega) (by omega) (by omega)]) (fun _ _ => rfl) (fun _ _ => rfl) (fun _ h9 => h9) hLIs)⟩
  obtain ⟨hmB, hDk, hLi, hSh, hCh, hLa, hDIs, hLIs⟩ := id hCI
  obtain ⟨lf_45, q_45⟩ := id (hDk)
  have c_46 : E29 0 0 = .inr (0, [.ref (ad 0 1), .ref (ad 0 5), .ref (ad 0 7), .ref (ad 0 9), .int (nI ml), .int lf_45]) := q_45
  have m_47 : (0, 0) ∈ RL := hmB 0 (by omega)
  obtain ⟨tx_48, fb_48, fe_48, hl1_48, hw2_48, q1_48, q2_48, q3_48, q4_48, hws_48⟩ := id (hLi)
  have c_49 : E29 0 1 = .inr (1, [.ref (ad 0 2), .ref (ad 0 3), .ref (ad 0 4), .int (nI 0), .int (nI (wl.length))]) := q1_48
  have m_50 : (0, 1) ∈ RL := hmB 1 (by omega)
  have c_51 : E29 0 2 = .inl (kA 1, 40, .inl tx_48) := q2_48
  have m_52 : (0, 2) ∈ RL := hmB 2 (by omega)
  have c_53 : E29 0 3 = .inl (kA 0, 20, .inl fb_48) := q3_48
  have m_54 : (0, 3) ∈ RL := hmB 3 (by omega)
  have c_55 : E29 0 4 = .inl (kA 0, 20, .inl fe_48) := q4_48
  have m_56 : (0, 4) ∈ RL := hmB 4 (by omega)
  obtain ⟨fd_57, hnd_57, q5_57, q6_57, hds_57⟩ := id (hSh)
  have c_58 : E29 0 5 = .inr (2, [.ref (ad 0 6), .int (nI nd)]) := q5_57
  have m_59 : (0, 5) ∈ RL := hmB 5 (by omega)
  have c_60 : E29 0 6 = .inl (kA 4, 12, .inr (.inr (.inr (.inr fd_57)))) := q6_57
  have m_61 : (0, 6) ∈ RL := hmB 6 (by omega)
  refine lv_aload_n hx hb xd_De_line_7 rfl (lv_at hl 0 rfl) ?_
  refine px_get (D := D) (ci := 0) (v := .ref (ad 0 5)) (C := xR_De) (T := xT_De) (N := 6) hx hb hT xi_De hown hK.1 hP m_47 c_46 rfl 1 (by decide) (hT _ k6d_66) (fun _ h9 => h9) rfl xd_De_line_8 ?_
  refine lv_aload_n hx hb xd_De_line_11 rfl (lv_at hl 0 rfl) ?_
  refine px_get (D := D) (ci := 0) (v := .ref (ad 0 1)) (C := xR_De) (T := xT_De) (N := 6) hx hb hT xi_De hown hK.1 hP m_47 c_46 rfl 0 (by decide) (hT _ k6d_10) (fun _ h9 => h9) rfl xd_De_line_12 ?_
  have hFc := px_free hD hS hA
  refine va_calli (va_runV (As := [.ref (ad 0 1)]) (rest := []) ⟨hx, hb, hml, hown, hT⟩ (xc_Sh_acceptX l D kA H.size ad E29 RL Z g ml nd 0 len wl cs (by first | assumption | omega) hLW hTD1 (by first | assumption | omega)) (cwV 1 hT (wT_V k6d_68 k6d_69 k6d_70 k6d_71 k6d_67) rfl rfl rfl (by decide +kernel) ⟨Nat.le_of_ble_eq_true rfl, Nat.le_of_ble_eq_true rfl⟩) (px_preVZ hK hP hD m_59 c_58 rfl hFc (hZ.kept hS)) rfl rfl hl.1 rfl (lv_room (Nat.le_of_ble_eq_true rfl)) xd_De_line_15 ⟨(Nat.le_of_ble_eq_true rfl), (Nat.le_of_ble_eq_true rfl)⟩) hS (fun q _ h => hFc q h) hFc (fun r62 u63 t H1 locs ht hvm hp64 hB hz1 hk1 hS => ?_)
  obtain ⟨hP1, hD1⟩ := hB
  rw [ht] at hP1
  have hD1 := hD1.weaken (fun _ _ _ h => hFc _ h)
  generalize H1 = H at hP1 hS ⊢
  have hP := hP1
  have hD := hD1
  obtain ⟨ad65, E66, RL67⟩ := u63
  have hl := lv_sub hl [] rfl
  have hl : lv_has ls 2 [] := hl
  have hP : va_P D xcl (rp ad65 E66 RL67) H := hP
  have hD : va_D A (rp ad65 E66 RL67) := hD
  obtain ⟨hCI, hTD2, hA00, hF2⟩ := hp64
  have hFc := FRL_c hF1 hF2
  refine lv_istore_n hx hb xd_De_line_18 rfl hl (Nat.le_of_ble_eq_true rfl) rfl (fun ls hl => ?_)
  have hl : lv_has ls 2 [(1, .int r62)] := hl
  refine lv_iload_n hx hb xd_De_line_19 rfl (lv_at hl 0 rfl) ?_
  refine lv_iconst (v := (-1)) hx hb xd_De_line_20 (by decide) ?_
  refine lv_icmp_ne (tgt := 34) hx hb xd_De_line_21 (by decide) (fun hc68 => ?_) (fun hc68 => ?_)
  · refine lv_iload_n hx hb xd_De_line_34 rfl (lv_at hl 0 rfl) ?_
    refine lv_bipush (v := (-2)) hx hb xd_De_line_35 (by decide) ?_
    refine lv_icmp_ne (tgt := 50) hx hb xd_De_line_37 (by decide) (fun hc69 => ?_) (fun hc69 => ?_)
    · refine lv_iload_n hx hb xd_De_line_50 rfl (lv_at hl 0 rfl) ?_
      refine W.widen (k := 14) (n := 72) (Nat.le_of_ble_eq_true rfl) (Nat.le_of_ble_eq_true rfl) ?_
      refine vx_ret ?_
      exact W.iret (v := r62) hx hb hr (fun t ht hW => ⟨⟨r62, (ad65, E66, RL67), rfl, (by rw [← hwl]; exact ⟨⟨wl.length, hCI⟩, hTD2, hA00, hFc⟩), by rw [ht]; exact hP, hD⟩, hS.F ht⟩) hS.2.2 xd_De_line_51
    · exact y_throwB (ik := 63) (is := 65) (wf := fun (u : (Nat → Nat → Nat) × (Nat → Nat → va_E) × List (Nat × Nat)) => rp u.1 u.2.1 u.2.2) (ad65, E66, RL67) (by rw [← hwl]; exact ⟨⟨wl.length, hCI⟩, hTD2, hA00, hFc⟩) (Or.inr rfl) hx hb hlt hown hT hK k6d_72 k6d_73 hZ.2.2.2.1.2.2.2.2.2.2.2.2.2.2.2.2.2.1 hZ.1 hS hP hD (hl.1.trans hml.symm) xd_De_line_40 xd_De_line_43 xd_De_line_44 xd_De_line_46 xd_De_line_49 htab (Nat.le_of_ble_eq_true rfl) (Nat.le_of_ble_eq_true rfl) (Nat.le_of_ble_eq_true rfl) (Nat.le_of_ble_eq_true rfl) hlocks (Nat.le_of_ble_eq_true rfl) (Nat.le_of_ble_eq_true rfl)
  · exact y_throwA (ik := 56) (is := 58) (wf := fun (u : (Nat → Nat → Nat) × (Nat → Nat → va_E) × List (Nat × Nat)) => rp u.1 u.2.1 u.2.2) (ad65, E66, RL67) (by rw [← hwl]; exact ⟨⟨wl.length, hCI⟩, hTD2, hA00, hFc⟩) (Or.inl rfl) hx hb hlt hown hT hK k6d_20 k6d_21 hZ.2.2.2.1.2.2.2.2.2.2.2.2.2.2.2.2.1 hZ.1 hS hP hD (hl.1.trans hml.symm) xd_De_line_24 xd_De_line_27 xd_De_line_28 xd_De_line_30 xd_De_line_33 htab (Nat.le_of_ble_eq_true rfl) (Nat.le_of_ble_eq_true rfl) (Nat.le_of_ble_eq_true rfl) (Nat.le_of_ble_eq_true rfl) hlocks (Nat.le_of_ble_eq_true rfl) (Nat.le_of_ble_eq_true rfl)
theorem fin_iff {fi : Int32} : (¬ fi < 0 ∧ ¬ 1 < fi) ↔ (fi = 0 ∨ fi = 1) := by
  constructor
  · intro ⟨h1, h2⟩
    have h1 := Int32.not_lt.mp h1
    have h2 := Int32.not_lt.mp h2
    have e1 := Int32.le_iff_toInt_le.mp h1
    have e2 := Int32.le_iff_toInt_le.mp h2
    have z0 : (0 : Int32).toInt = 0 := by decide
    have z1 : (1 : Int32).toInt = 1 := by decide
    rw [z0] at e1
    rw [z1] at e2
    rcases (show fi.toInt = 0 ∨ fi.toInt = 1 by omega) with q | q
    · exact Or.inl (Int32.toInt.inj (q.trans z0.symm))
    · exact Or.inr (Int32.toInt.inj (q.trans z1.symm))
  · rintro (h | h)
    · rw [h]; decide
    · rw [h]; decide
def FRX (ml nd : Nat) (ad ad' : Nat → Nat → Nat) (E E' : Nat → Nat → va_E) : Prop := (∀ n, n < ml → E' (20 + n) = E (20 + n)) ∧ (∀ n, n < ml → ad' (20 + n) 0 = ad (20 + n) 0) ∧ (∀ d, d < nd → E' (1 + d) = E (1 + d)) ∧ ∀ d, d < nd → ad' (1 + d) 0 = ad (1 + d) 0
theorem FRX_tr {ml nd : Nat} {ad ad1 ad2 : Nat → Nat → Nat} {E E1 E2 : Nat → Nat → va_E} (h : FRX ml nd ad ad1 E E1) (h2 : FRX ml nd ad1 ad2 E1 E2) : FRX ml nd ad ad2 E E2 := ⟨fun n hn => (h2.1 n hn).trans (h.1 n hn), fun n hn => (h2.2.1 n hn).trans (h.2.1 n hn), fun d hd => (h2.2.2.1 d hd).trans (h.2.2.1 d hd), fun d hd => (h2.2.2.2 d hd).trans (h.2.2.2 d hd)⟩
theorem FRX_B {ml nd : Nat} {ad : Nat → Nat → Nat} {E E' : Nat → Nat → va_E} (h : ∀ b o, ¬ b = 0 → E' b o = E b o) : FRX ml nd ad ad E E' := ⟨fun n _ => fun2 fun o => h (20 + n) o (by omega), fun _ _ => rfl, fun d _ => fun2 fun o => h (1 + d) o (by omega), fun _ _ => rfl⟩
theorem FRX_78 {ml nd : Nat} {ad : Nat → Nat → Nat} {E E' : Nat → Nat → va_E} (h : F78 E E') : FRX ml nd ad ad E E' := FRX_B (fun b o hb => h b o (by omega) (by omega))
theorem FRX_D {ml nd : Nat} {ad ad' : Nat → Nat → Nat} {E E' : Nat → Nat → va_E} (hnd : nd ≤ 12) (h : ∀ b o, ¬ b = 20 + ml → E' b o = E b o) (h2 : ∀ b o, ¬ b = 20 + ml → ad' b o = ad b o) : FRX ml nd ad ad' E E' := ⟨fun n _ => fun2 fun o => h (20 + n) o (by omega), fun n _ => h2 (20 + n) 0 (by omega), fun d _ => fun2 fun o => h (1 + d) o (by omega), fun d _ => h2 (1 + d) 0 (by omega)⟩
theorem gDr_mc {g : gT} {ml lq : Nat} {L : List Nat} (h : L.length ≤ 12) : mcv (gDr g ml lq L) ml = L.length := by
  unfold mcv
  rw [gDr_20, pk_us, iN_nI (by omega)]
theorem NZ_gDr {g : gT} {nd ml lq : Nat} {L : List Nat} (h : NZ g nd) : NZ (gDr g ml lq L) nd := fun d hd => by
  rw [gDr_o (by decide) (by decide) (by decide) (by decide)]; exact h d hd
theorem ND_gDr {g : gT} {nd ml lq : Nat} {L : List Nat} (hk : LKP g ml) (hG : GL nd L) (hnd : nd ≤ 12) (hl : L.length ≤ 12) (h : NDq g ml) : NDq (gDr g ml lq L) (ml + 1) := fun la hla a b ha hb e => by
  by_cases q : la = ml
  · subst q
    rw [gDr_mc hl] at ha hb
    rw [gDr_md hG hnd ha, gDr_md hG hnd hb] at e
    exact getD_inj hG.2 ha hb e
  · obtain ⟨e1, _, e3⟩ := VQ_gDr (lq := lq) (L := L) hk la (by omega)
    rw [e1] at ha hb
    rw [(e3 a ha).1, (e3 b hb).1] at e
    exact h la (by omega) a b ha hb e
theorem UQ_gDr {g : gT} {kA : Nat → ClassId} {ad : Nat → Nat → Nat} {E : Nat → Nat → va_E} {RL : List (Nat × Nat)} {nd ml lq : Nat} {L : List Nat} (hnd : nd ≤ 12) (hI : LIs kA ad E RL nd (ml + 1)) (hT : TLas (gDr g ml lq L) ad E nd (ml + 1)) (h : ∀ d, d < nd → UQ1 g d) : ∀ la, la < ml + 1 → ∀ k, k < mcv (gDr g ml lq L) la → UQ1 (gDr g ml lq L) (mdv (gDr g ml lq L) la k) := fun la hla k hk => by
  have q : mdv (gDr g ml lq L) la k < nd := by
    obtain ⟨_, _, q3, q4⟩ := hT la hla
    have q5 := LIs_12 hI la hla
    unfold mcv at hk
    rw [q3, iN_nI (by omega)] at hk
    obtain ⟨d, q6, q7, _⟩ := q4 k hk
    unfold mdv
    rw [q7, iN_nI (by omega)]; exact q6
  generalize mdv (gDr g ml lq L) la k = d at q
  have z := h d q
  unfold UQ1
  rw [gDr_o (j := 5) (by decide) (by decide) (by decide) (by decide), gDr_o (j := 6) (by decide) (by decide) (by decide) (by decide)]
  exact z
def yN (g : gT) (wl : List (Nat × Nat)) (nd ml : Nat) (fi pa : Int32) : Prop := ok1 g (g 0) wl ml fi pa ∧ ∃ Lx, aF (adG g nd fi (iN (pa + 1))) [] (nmL (g 0) wl wl.length 0) = (false, Lx)
def yL (g : gT) (wl : List (Nat × Nat)) (nd ml : Nat) (fi pa bi : Int32) (L : List Nat) : Prop := ok1 g (g 0) wl ml fi pa ∧ ∃ L1, aF (adG g nd fi (iN (pa + 1))) [] (nmL (g 0) wl wl.length 0) = (true, L1) ∧ L = cif (¬ bi = 0) (bIt (bUg g nd fi (iN (pa + 1))) g (iN (pa + 1)) 13 L1) L1 ∧ GL nd L
noncomputable def yW (g : gT) (ml : Nat) (pa : Int32) (L : List Nat) : Nat := rsW (gDr g ml (iN (pa + 1)) L) ml L.length
