theorem k5w_0 : (Cond.classLink "LayerDesk$Chooser" 39 "LayerDesk$Layer") ∈ wT := wT_t (List.mem_append_right _ (List.mem_append_right _ (List.mem_append_left _ (List.mem_of_getElem? (i := 131) rfl)))) rfl
theorem k5w_1 : (Cond.instantiable "LayerDesk$Layer" 4) ∈ wT := wT_t (List.mem_append_right _ (List.mem_append_right _ (List.mem_append_left _ (List.mem_of_getElem? (i := 132) rfl)))) rfl
theorem k5w_2 : (Cond.initialized "LayerDesk$Layer") ∈ wT := wT_t (List.mem_append_left _ (List.mem_of_getElem? (i := 19) rfl)) rfl
theorem k5w_3 : (Cond.fieldLink "LayerDesk$Chooser" 24 "LayerDesk$Chooser" "parent" "LLayerDesk$Layer;") ∈ wT := wT_t (List.mem_append_left _ (List.mem_of_getElem? (i := 85) rfl)) rfl
theorem k5w_4 : (Cond.fieldLink "LayerDesk$Chooser" 17 "LayerDesk$Chooser" "size" "I") ∈ wT := wT_t (List.mem_append_left _ (List.mem_of_getElem? (i := 83) rfl)) rfl
theorem k5w_5 : (Cond.code xy_Ly_init xb_Ly_init 4 none) ∈ wT := wT_t (List.mem_append_right _ (List.mem_append_right _ (List.mem_append_left _ (List.mem_of_getElem? (i := 135) rfl)))) rfl
theorem k5w_6 : (Cond.methodLink "LayerDesk$Chooser" 41 xy_Ly_init) ∈ wT := wT_t (List.mem_append_right _ (List.mem_append_right _ (List.mem_append_left _ (List.mem_of_getElem? (i := 133) rfl)))) rfl
theorem k5w_7 : (Cond.instanceMethod xy_Ly_init) ∈ wT := wT_t (List.mem_append_right _ (List.mem_append_right _ (List.mem_append_left _ (List.mem_of_getElem? (i := 134) rfl)))) rfl
theorem k5w_8 : (Cond.code xy_Ly_connect xb_Ly_connect 4 none) ∈ wT := wT_t (List.mem_append_right _ (List.mem_append_right _ (List.mem_append_left _ (List.mem_of_getElem? (i := 209) rfl)))) rfl
theorem k5w_9 : (Cond.methodLink "LayerDesk$Chooser" 53 xy_Ly_connect) ∈ wT := wT_t (List.mem_append_right _ (List.mem_append_right _ (List.mem_append_left _ (List.mem_of_getElem? (i := 206) rfl)))) rfl
theorem k5w_10 : (Cond.instanceMethod xy_Ly_connect) ∈ wT := wT_t (List.mem_append_right _ (List.mem_append_right _ (List.mem_append_left _ (List.mem_of_getElem? (i := 207) rfl)))) rfl
theorem k5w_11 : (Cond.selects "LayerDesk$Layer" xy_Ly_connect xy_Ly_connect) ∈ wT := wT_t (List.mem_append_right _ (List.mem_append_right _ (List.mem_append_left _ (List.mem_of_getElem? (i := 208) rfl)))) rfl
theorem k5w_12 : (Cond.fieldLink "LayerDesk$Chooser" 44 "LayerDesk$Layer" "members" "[LLayerDesk$Member;") ∈ wT := wT_t (List.mem_append_right _ (List.mem_append_right _ (List.mem_append_left _ (List.mem_of_getElem? (i := 149) rfl)))) rfl
theorem k5w_13 : (Cond.classLink "LayerDesk$Chooser" 48 "LayerDesk$Member") ∈ wT := wT_t (List.mem_append_right _ (List.mem_append_right _ (List.mem_append_left _ (List.mem_of_getElem? (i := 162) rfl)))) rfl
theorem k5w_14 : (Cond.instantiable "LayerDesk$Member" 6) ∈ wT := wT_t (List.mem_append_right _ (List.mem_append_right _ (List.mem_append_left _ (List.mem_of_getElem? (i := 163) rfl)))) rfl
theorem k5w_15 : (Cond.initialized "LayerDesk$Member") ∈ wT := wT_t (List.mem_append_left _ (List.mem_of_getElem? (i := 20) rfl)) rfl
theorem k5w_16 : (Cond.fieldLink "LayerDesk$Chooser" 11 "LayerDesk$Chooser" "chosen" "[LLayerDesk$Descriptor;") ∈ wT := wT_t (List.mem_append_left _ (List.mem_of_getElem? (i := 82) rfl)) rfl
theorem k5w_17 : (Cond.code xy_Me_init xb_Me_init 3 none) ∈ wT := wT_t (List.mem_append_right _ (List.mem_append_right _ (List.mem_append_left _ (List.mem_of_getElem? (i := 166) rfl)))) rfl
theorem k5w_18 : (Cond.methodLink "LayerDesk$Chooser" 50 xy_Me_init) ∈ wT := wT_t (List.mem_append_right _ (List.mem_append_right _ (List.mem_append_left _ (List.mem_of_getElem? (i := 164) rfl)))) rfl
theorem k5w_19 : (Cond.instanceMethod xy_Me_init) ∈ wT := wT_t (List.mem_append_right _ (List.mem_append_right _ (List.mem_append_left _ (List.mem_of_getElem? (i := 165) rfl)))) rfl
set_option maxHeartbeats 4000000 in
set_option maxRecDepth 100000 in
theorem xc_Ch_draftX (l : Launch) (D : va_G) (kA : Nat → ClassId) (sz : Nat) (ad : Nat → Nat → Nat) (E : Nat → Nat → va_E) (RL : List (Nat × Nat)) (g : Nat → Nat → Int32) (ml : Nat) (nd : Nat) (len : Nat) (wn : Nat) (fi : Int32) (lq : Nat) (L : List Nat) (hCI : CI kA ad E RL ml nd len wn L.length) (hCX : CX ad E nd fi lq L) (hTD : TDs g E nd) (hTL : TLas g ad E nd ml) (hlqm : lq ≤ ml) (hCB : CBs g E ml) : Met l xy_Ch_draft (.code xy_Ch_draft xb_Ch_draft 4 (some (.object "LayerDesk$Layer")) :: wT) { frames := 8, cells := 100, slots := 424, locals := 400 } (va_Pc [.ref (ad 0 7), .int (nI ml)] (xPre D kA sz (rp ad E RL))) (va_Qq (fun (r : Option Nat) (u : (Nat → Nat → Nat) × (Nat → Nat → va_E) × List (Nat × Nat)) => ((r = some (u.1 (20 + ml) 0) ∧ CI kA u.1 u.2.1 u.2.2 ml nd len wn L.length ∧ LI kA u.1 u.2.1 u.2.2 nd ml) ∧ TLas (gDr g ml lq L) u.1 u.2.1 nd (ml + 1) ∧ CBs (gDr g ml lq L) u.2.1 (ml + 1) ∧ LBs (gDr g ml lq L) u.2.1 ml ∧ RBs (gDr g ml lq L) u.2.1 ml) ∧ ((∀ b2 o2, ¬ (b2 = 20 + ml) → u.2.1 b2 o2 = E b2 o2)) ∧ ((∀ b2 o2, ¬ (b2 = 20 + ml) → u.1 b2 o2 = ad b2 o2)) ∧ ((∀ x ∈ RL, x ∈ u.2.2))) (fun (u : (Nat → Nat → Nat) × (Nat → Nat → va_E) × List (Nat × Nat)) t => va_P D xcl (rp u.1 u.2.1 u.2.2) t.heap ∧ va_D (va_A (rp ad E RL) sz) (rp u.1 u.2.1 u.2.2)) (va_A (rp ad E RL) sz)) 100 424 (va_A (rp ad E RL) sz) := by
  refine Met.ofW (cc := xb_Ch_draft) (maxL := 4) (ret := (some (.object "LayerDesk$Layer"))) (by decide) rfl ?_
  intro p e s m args below meth c s₁ B hml hv
  obtain ⟨rfl, hsz, hP, hK, hD0⟩ := hv
  have hx := B.exec
  have hb := B.bytes
  have hr := B.returns
  have hT := x_hT B.pre
  have hown : s.vm.findClass xR_Ch = some m.cls := findClass_of_methodNamed B.named
  have hlocks := B.notSynchronized
  subst hsz
  have hD := hD0.self (sz := s.heap.size)
  generalize hAe : va_A (rp ad E RL) s.heap.size = A at hD ⊢
  have hA : ∀ q : Nat, s.heap.size ≤ q → A q := fun q h => by rw [← hAe]; exact Or.inr h
  have hS : va_S A s.heap s.heap [] := va_S.rf
  have hl := lv_entry ([.ref (ad 0 7), .int (nI ml)]) (n := 4) (Nat.le_of_ble_eq_true rfl)
  rw [lg_entry_eq]
  generalize (lg_sl ([.ref (ad 0 7), .int (nI ml)]) ++ List.replicate (4 - (lg_sl ([.ref (ad 0 7), .int (nI ml)])).length) Slot.unset).toArray = ls at hl ⊢
  have hl : lv_has ls 4 [(0, .ref (ad 0 7)), (1, .int (nI ml))] := hl
  have hP : va_P D xcl (rp ad E RL) s.heap := hP
  obtain ⟨hmB, hDk, hLi, hSh, hCh, hLa, hDIs, hLIs⟩ := id hCI
  obtain ⟨lf_1, q_1⟩ := id (hDk)
  have c_2 : E 0 0 = .inr (0, [.ref (ad 0 1), .ref (ad 0 5), .ref (ad 0 7), .ref (ad 0 9), .int (nI ml), .int lf_1]) := q_1
  have m_3 : (0, 0) ∈ RL := hmB 0 (by omega)
  obtain ⟨tx_4, fb_4, fe_4, hl1_4, hw2_4, q1_4, q2_4, q3_4, q4_4, hws_4⟩ := id (hLi)
  have c_5 : E 0 1 = .inr (1, [.ref (ad 0 2), .ref (ad 0 3), .ref (ad 0 4), .int (nI len), .int (nI wn)]) := q1_4
  have m_6 : (0, 1) ∈ RL := hmB 1 (by omega)
  have c_7 : E 0 2 = .inl (kA 1, 40, .inl tx_4) := q2_4
  have m_8 : (0, 2) ∈ RL := hmB 2 (by omega)
  have c_9 : E 0 3 = .inl (kA 0, 20, .inl fb_4) := q3_4
  have m_10 : (0, 3) ∈ RL := hmB 3 (by omega)
  have c_11 : E 0 4 = .inl (kA 0, 20, .inl fe_4) := q4_4
  have m_12 : (0, 4) ∈ RL := hmB 4 (by omega)
  obtain ⟨fd_13, hnd_13, q5_13, q6_13, hds_13⟩ := id (hSh)
  have c_14 : E 0 5 = .inr (2, [.ref (ad 0 6), .int (nI nd)]) := q5_13
  have m_15 : (0, 5) ∈ RL := hmB 5 (by omega)
  have c_16 : E 0 6 = .inl (kA 4, 12, .inr (.inr (.inr (.inr fd_13)))) := q6_13
  have m_17 : (0, 6) ∈ RL := hmB 6 (by omega)
  obtain ⟨cf_18, pv_18, fc_18, hcs_18, hpv_18, q7_18, q8_18, hfc_18⟩ := id (hCh)
  have c_19 : E 0 7 = .inr (3, [.ref (ad 0 5), .ref (ad 0 8), .int (nI (L.length)), .int cf_18, pv_18]) := q7_18
  have m_20 : (0, 7) ∈ RL := hmB 7 (by omega)
  have c_21 : E 0 8 = .inl (kA 4, 12, .inr (.inr (.inr (.inr fc_18)))) := q8_18
  have m_22 : (0, 8) ∈ RL := hmB 8 (by omega)
  obtain ⟨fl_23, hml_23, q9_23, hla_23⟩ := id (hLa)
  have c_24 : E 0 9 = .inl (kA 5, 5, .inr (.inr (.inr (.inr fl_23)))) := q9_23
  have m_25 : (0, 9) ∈ RL := hmB 9 (by omega)
  obtain ⟨xfi_18, xpv_18, xfc_18, xGL_18⟩ := id hCX
  rw [c_19] at xfi_18 xpv_18
  rw [c_21] at xfc_18
  have xfi_18 : cf_18 = fi := xfi_18
  have xpv_18 : pv_18 = lyv ad lq := xpv_18
  have xfc_18 : ∀ k, k < L.length → fc_18 k = some (ad (1 + L.getD k 0) 0) := xfc_18
  have xln_18 := GL_len xGL_18
  have hDIs0 := hDIs
  have hLIs0 := hLIs
  have hmB0 := hmB
  have hfc0 := hfc_18
  have hws0 := hws_4
  have hds0 := hds_13
  have hla0 := hla_23
  have hnd12 : nd ≤ 12 := by omega
  have hml5 : ml ≤ 5 := by omega
  have hxfc := xfc_18
  have hxGL := xGL_18
  rcases (show (lq = 0 ∧ pv_18 = .null) ∨ ∃ xp, xp < ml ∧ lq = xp + 1 ∧ pv_18 = .ref (ad (20 + xp) 0) from by rcases Nat.eq_zero_or_pos lq with q | q; exact Or.inl ⟨q, by rw [xpv_18, lyv_0 q]⟩; exact Or.inr ⟨lq - 1, by omega, by omega, by rw [xpv_18, lyv_s (show lq = lq - 1 + 1 by omega)]⟩) with ⟨hyq, rfl⟩ | ⟨xp, hxp, hyq, rfl⟩
  · have hd0 := hDIs0
    refine px_new (ci := 5) (fs := [.int 0, .null, .null, .int 0]) (C := xR_Ly) (T := xT_Ly) (N := 4) (20 + ml) 0 hx hb hT xi_Ly xt_Ly xt_Ly_ok hown (hT _ k5w_0) (hT _ k5w_1) (hT _ k5w_2) hK.1 hP hD hS hA rfl (by decide +kernel) (Nat.le_of_ble_eq_true rfl) (Nat.le_of_ble_eq_true rfl) xd_Ch_draft_0 (fun ad26 E27 RL28 H hA1 hE1 hs1 hm1 hP hD hS => ?_)
    have fE29 : ∀ b2 o2, ¬ (b2 = 20 + ml ∧ o2 = 0) → E27 b2 o2 = E b2 o2 := fun b2 o2 h9 => by rw [hE1]; exact up2_ne (by omega)
    have fA30 : ∀ b2 o2, ¬ (b2 = 20 + ml ∧ o2 = 0) → ad26 b2 o2 = ad b2 o2 := fun b2 o2 h9 => by rw [hA1]; exact up2_ne (by omega)
    have hs31 := hs1
    have c_32 : E27 (20 + ml) 0 = .inr (5, [.int 0, .null, .null, .int 0]) := by rw [hE1]; exact up2_eq
    have hl : lv_has ls 4 [(0, .ref (ad26 0 7)), (1, .int (nI ml))] := by
      rw [fA30 0 7 (by omega)]; exact hl
    have m_34 : (0, 0) ∈ RL28 := hs31 _ m_3
    have m_35 : (0, 1) ∈ RL28 := hs31 _ m_6
    have m_36 : (0, 2) ∈ RL28 := hs31 _ m_8
    have m_37 : (0, 3) ∈ RL28 := hs31 _ m_10
    have m_38 : (0, 4) ∈ RL28 := hs31 _ m_12
    have m_39 : (0, 5) ∈ RL28 := hs31 _ m_15
    have m_40 : (0, 6) ∈ RL28 := hs31 _ m_17
    have m_41 : (0, 7) ∈ RL28 := hs31 _ m_20
    have m_42 : (0, 8) ∈ RL28 := hs31 _ m_22
    have m_43 : (0, 9) ∈ RL28 := hs31 _ m_25
    have c_44 : E27 0 0 = .inr (0, [.ref (ad26 0 1), .ref (ad26 0 5), .ref (ad26 0 7), .ref (ad26 0 9), .int (nI ml), .int lf_1]) := by rw [fE29 0 0 (by omega), fA30 0 1 (by omega), fA30 0 5 (by omega), fA30 0 7 (by omega), fA30 0 9 (by omega)]; exact c_2
    have c_45 : E27 0 1 = .inr (1, [.ref (ad26 0 2), .ref (ad26 0 3), .ref (ad26 0 4), .int (nI len), .int (nI wn)]) := by rw [fE29 0 1 (by omega), fA30 0 2 (by omega), fA30 0 3 (by omega), fA30 0 4 (by omega)]; exact c_5
    have c_46 : E27 0 2 = .inl (kA 1, 40, .inl tx_4) := by rw [fE29 0 2 (by omega)]; exact c_7
    have c_47 : E27 0 3 = .inl (kA 0, 20, .inl fb_4) := by rw [fE29 0 3 (by omega)]; exact c_9
    have c_48 : E27 0 4 = .inl (kA 0, 20, .inl fe_4) := by rw [fE29 0 4 (by omega)]; exact c_11
    have c_49 : E27 0 5 = .inr (2, [.ref (ad26 0 6), .int (nI nd)]) := by rw [fE29 0 5 (by omega), fA30 0 6 (by omega)]; exact c_14
    have c_50 : E27 0 6 = .inl (kA 4, 12, .inr (.inr (.inr (.inr fd_13)))) := by rw [fE29 0 6 (by omega)]; exact c_16
    have c_51 : E27 0 7 = .inr (3, [.ref (ad26 0 5), .ref (ad26 0 8), .int (nI (L.length)), .int cf_18, .null]) := by rw [fE29 0 7 (by omega), fA30 0 5 (by omega), fA30 0 8 (by omega)]; exact c_19
    have c_52 : E27 0 8 = .inl (kA 4, 12, .inr (.inr (.inr (.inr fc_18)))) := by rw [fE29 0 8 (by omega)]; exact c_21
    have c_53 : E27 0 9 = .inl (kA 5, 5, .inr (.inr (.inr (.inr fl_23)))) := by rw [fE29 0 9 (by omega)]; exact c_24
    have m_33 : (20 + ml, 0) ∈ RL28 := hm1
    have hP : va_P D xcl (rp ad26 E27 RL28) H := hP
    have hD : va_D A (rp ad26 E27 RL28) := hD
    refine lv_dup hx hb xd_Ch_draft_3 rfl ?_
    refine lv_iload_n hx hb xd_Ch_draft_4 rfl (lv_at hl 1 rfl) ?_
    refine lv_aload_n hx hb xd_Ch_draft_5 rfl (lv_at hl 0 rfl) ?_
    refine px_get (D := D) (ci := 3) (v := .null) (C := xR_Ch) (T := xT_Ch) (N := 5) hx hb hT xi_Ch hown hK.1 hP m_41 c_51 rfl 4 (by decide) (hT _ k5w_3) (fun _ h9 => h9) rfl xd_Ch_draft_6 ?_
    refine lv_aload_n hx hb xd_Ch_draft_9 rfl (lv_at hl 0 rfl) ?_
    refine px_get (D := D) (ci := 3) (v := .int (nI (L.length))) (C := xR_Ch) (T := xT_Ch) (N := 5) hx hb hT xi_Ch hown hK.1 hP m_41 c_51 rfl 2 (by decide) (hT _ k5w_4) (fun _ h9 => h9) rfl xd_Ch_draft_10 ?_
    have hFc := px_free hD hS hA
    refine va_callv (va_runI (As := [.int (nI ml), .null, .int (nI (L.length))]) (rest := [.ref (ad26 (20 + ml) 0)]) ⟨hx, hb, hml, hown, hT⟩ (xc_Ly_initN l D kA H.size ad26 E27 RL28 ml L.length m_33 c_32 (by first | assumption | omega)) (cwI 3 hT (wT_I k5w_5) rfl rfl rfl (hT _ k5w_2) (hT _ k5w_6) (hT _ k5w_7) rfl (by decide +kernel) ⟨Nat.le_of_ble_eq_true rfl, Nat.le_of_ble_eq_true rfl⟩) (x_preS hK hP hD) rfl rfl hl.1 rfl (lv_room (Nat.le_of_ble_eq_true rfl)) xd_Ch_draft_13 ⟨(Nat.le_of_ble_eq_true rfl), (Nat.le_of_ble_eq_true rfl)⟩) hS (fun q _ h => hFc q h) hFc (fun u55 t H1 locs ht hvm hp56 hB hz1 hk1 hS => ?_)
    obtain ⟨hP1, hD1⟩ := hB
    rw [ht] at hP1
    have hD1 := hD1.weaken (fun _ _ _ h => hFc _ h)
    generalize H1 = H at hP1 hS ⊢
    have hP := hP1
    have hD := hD1
    obtain ⟨ad57, E58, RL59⟩ := u55
    obtain ⟨hp66, p_60, p_61, p_62, p_63, p_64, p_65⟩ := hp56
    have p_60 : E58 (20 + ml) 0 = .inr (5, [.int (nI ml), .null, .ref (ad57 (20 + ml) 1), .int 1]) := p_60
    have p_61 : E58 (20 + ml) 1 = .inl (kA 6, L.length, .inr (.inr (.inr (.inr (fun _ => none))))) := p_61
    have p_62 : (∀ b2 o2, ¬ (b2 = 20 + ml ∧ o2 = 0) → ¬ (b2 = 20 + ml ∧ o2 = 1) → E58 b2 o2 = E27 b2 o2) := p_62
    have p_63 : (∀ b2 o2, ¬ (b2 = 20 + ml ∧ o2 = 1) → ad57 b2 o2 = ad26 b2 o2) := p_63
    have p_64 : (∀ x ∈ RL28, x ∈ RL59) := p_64
    have p_65 : (20 + ml, 1) ∈ RL59 := p_65
    refine W.eq (g2 := F0 m 16 ls [.ref (ad57 (20 + ml) 0)]) (by rw [p_63 (20 + ml) 0 (by omega)]) ?_
    have hl : lv_has ls 4 [(0, .ref (ad57 0 7)), (1, .int (nI ml))] := by
      rw [p_63 0 7 (by omega)]; exact hl
    have m_67 : (0, 0) ∈ RL59 := p_64 _ m_34
    have m_68 : (0, 1) ∈ RL59 := p_64 _ m_35
    have m_69 : (0, 2) ∈ RL59 := p_64 _ m_36
    have m_70 : (0, 3) ∈ RL59 := p_64 _ m_37
    have m_71 : (0, 4) ∈ RL59 := p_64 _ m_38
    have m_72 : (0, 5) ∈ RL59 := p_64 _ m_39
    have m_73 : (0, 6) ∈ RL59 := p_64 _ m_40
    have m_74 : (0, 7) ∈ RL59 := p_64 _ m_41
    have m_75 : (0, 8) ∈ RL59 := p_64 _ m_42
    have m_76 : (0, 9) ∈ RL59 := p_64 _ m_43
    have m_77 : (20 + ml, 0) ∈ RL59 := p_64 _ m_33
    have c_78 : E58 0 0 = .inr (0, [.ref (ad57 0 1), .ref (ad57 0 5), .ref (ad57 0 7), .ref (ad57 0 9), .int (nI ml), .int lf_1]) := by rw [p_62 0 0 (by omega) (by omega), p_63 0 1 (by omega), p_63 0 5 (by omega), p_63 0 7 (by omega), p_63 0 9 (by omega)]; exact c_44
    have c_79 : E58 0 1 = .inr (1, [.ref (ad57 0 2), .ref (ad57 0 3), .ref (ad57 0 4), .int (nI len), .int (nI wn)]) := by rw [p_62 0 1 (by omega) (by omega), p_63 0 2 (by omega), p_63 0 3 (by omega), p_63 0 4 (by omega)]; exact c_45
    have c_80 : E58 0 2 = .inl (kA 1, 40, .inl tx_4) := by rw [p_62 0 2 (by omega) (by omega)]; exact c_46
    have c_81 : E58 0 3 = .inl (kA 0, 20, .inl fb_4) := by rw [p_62 0 3 (by omega) (by omega)]; exact c_47
    have c_82 : E58 0 4 = .inl (kA 0, 20, .inl fe_4) := by rw [p_62 0 4 (by omega) (by omega)]; exact c_48
    have c_83 : E58 0 5 = .inr (2, [.ref (ad57 0 6), .int (nI nd)]) := by rw [p_62 0 5 (by omega) (by omega), p_63 0 6 (by omega)]; exact c_49
    have c_84 : E58 0 6 = .inl (kA 4, 12, .inr (.inr (.inr (.inr fd_13)))) := by rw [p_62 0 6 (by omega) (by omega)]; exact c_50
    have c_85 : E58 0 7 = .inr (3, [.ref (ad57 0 5), .ref (ad57 0 8), .int (nI (L.length)), .int cf_18, .null]) := by rw [p_62 0 7 (by omega) (by omega), p_63 0 5 (by omega), p_63 0 8 (by omega)]; exact c_51
    have c_86 : E58 0 8 = .inl (kA 4, 12, .inr (.inr (.inr (.inr fc_18)))) := by rw [p_62 0 8 (by omega) (by omega)]; exact c_52
    have c_87 : E58 0 9 = .inl (kA 5, 5, .inr (.inr (.inr (.inr fl_23)))) := by rw [p_62 0 9 (by omega) (by omega)]; exact c_53
    have hP : va_P D xcl (rp ad57 E58 RL59) H := hP
    have hD : va_D A (rp ad57 E58 RL59) := hD
    refine lv_astore_n hx hb xd_Ch_draft_16 rfl hl (Nat.le_of_ble_eq_true rfl) rfl (fun ls hl => ?_)
    have hl : lv_has ls 4 [(2, .ref (ad57 (20 + ml) 0)), (0, .ref (ad57 0 7)), (1, .int (nI ml))] := hl
    refine lv_iconst (v := 0) hx hb xd_Ch_draft_17 (by decide) ?_
    refine lv_istore_n hx hb xd_Ch_draft_18 rfl hl (Nat.le_of_ble_eq_true rfl) rfl (fun ls hl => ?_)
    have hl : lv_has ls 4 [(3, .int 0), (2, .ref (ad57 (20 + ml) 0)), (0, .ref (ad57 0 7)), (1, .int (nI ml))] := hl
    refine xlabC (σ := Nat × (Nat → Nat → Nat) × (Nat → Nat → va_E) × (List (Nat × Nat)) × Value × (Nat → Option Nat)) (ml := 4) 19 (fun (k, ad1, E1, RL1, pv1, fm1) => [(3, .int (nI k)), (2, .ref (ad1 (20 + ml) 0)), (0, .ref (ad1 0 7))]) (fun (k, ad1, E1, RL1, pv1, fm1) => []) (fun (k, ad1, E1, RL1, pv1, fm1) => rp ad1 E1 RL1) (fun (k, ad1, E1, RL1, pv1, fm1) => 2 + 8 * k) (fun (k, ad1, E1, RL1, pv1, fm1) => 16 + 32 * k) (fun (k, ad1, E1, RL1, pv1, fm1) => (k ≤ L.length) ∧ ((∀ b2 o2, ¬ (b2 = 20 + ml) → E1 b2 o2 = E b2 o2)) ∧ ((∀ b2 o2, ¬ (b2 = 20 + ml) → ad1 b2 o2 = ad b2 o2)) ∧ (∀ x ∈ RL, x ∈ RL1) ∧ ((20 + ml, 0) ∈ RL1) ∧ ((20 + ml, 1) ∈ RL1) ∧ (pv1 = .null ∨ ∃ x, x < ml ∧ pv1 = .ref (ad1 (20 + x) 0)) ∧ (pv1 = lyv ad1 lq) ∧ (E1 (20 + ml) 0 = .inr (5, [.int (nI ml), pv1, .ref (ad1 (20 + ml) 1), .int 1])) ∧ (E1 (20 + ml) 1 = .inl (kA 6, L.length, .inr (.inr (.inr (.inr fm1))))) ∧ (∀ j, j < k → fm1 j = some (ad1 (20 + ml) (10 + 10 * j)) ∧ MEI kA ad1 E1 RL1 nd ml j) ∧ (∀ j, j < k → DX g ad1 E1 L ml j)) (fun (k, ad1, E1, RL1, pv1, fm1) => L.length - k) ?_ (0, ad57, E58, RL59, Value.null, (fun _ => none)) _ _ _ (lv_sub hl [0, 1, 2] rfl) hP hD hS ⟨(show 0 ≤ L.length from by first | assumption | omega), (show (∀ b2 o2, ¬ (b2 = 20 + ml) → E58 b2 o2 = E b2 o2) from fun b2 o2 h9 => by show E58 b2 o2 = _; rw [p_62 b2 o2 (by omega) (by omega), fE29 b2 o2 (by omega)]), (show (∀ b2 o2, ¬ (b2 = 20 + ml) → ad57 b2 o2 = ad b2 o2) from fun b2 o2 h9 => by show ad57 b2 o2 = _; rw [p_63 b2 o2 (by omega), fA30 b2 o2 (by omega)]), (show ∀ x ∈ RL, x ∈ RL59 from fun _ h9 => p_64 _ (hs31 _ h9)), (show (20 + ml, 0) ∈ RL59 from m_77), (show (20 + ml, 1) ∈ RL59 from p_65), (show Value.null = .null ∨ ∃ x, x < ml ∧ Value.null = .ref (ad57 (20 + x) 0) from Or.inl rfl), (show Value.null = lyv ad57 lq from (lyv_0 hyq).symm), (show E58 (20 + ml) 0 = .inr (5, [.int (nI ml), Value.null, .ref (ad57 (20 + ml) 1), .int 1]) from p_60), (show E58 (20 + ml) 1 = .inl (kA 6, L.length, .inr (.inr (.inr (.inr (fun _ => none))))) from p_61), (show ∀ j, j < 0 → (fun _ => none) j = some (ad57 (20 + ml) (10 + 10 * j)) ∧ MEI kA ad57 E58 RL59 nd ml j from fun j hj => absurd hj (by omega)), (show ∀ j, j < 0 → DX g ad57 E58 L ml j from fun j hj => absurd hj (by omega))⟩
    intro n9 ih88 a9 ls H locs hμ hl hP hD hS hI
    subst hμ
    obtain ⟨k, ad1, E1, RL1, pv1, fm1⟩ := a9
    obtain ⟨hk0, hfE, hfA, hfS, hmz0, hmz1, hpv1, hpx, hcA0, hcA1, hMM, hMX⟩ := hI
    have hk0 : k ≤ L.length := hk0
    have hfE : (∀ b2 o2, ¬ (b2 = 20 + ml) → E1 b2 o2 = E b2 o2) := hfE
    have hfA : (∀ b2 o2, ¬ (b2 = 20 + ml) → ad1 b2 o2 = ad b2 o2) := hfA
    have hfS : ∀ x ∈ RL, x ∈ RL1 := hfS
    have hmz0 : (20 + ml, 0) ∈ RL1 := hmz0
    have hmz1 : (20 + ml, 1) ∈ RL1 := hmz1
    have hpv1 : pv1 = .null ∨ ∃ x, x < ml ∧ pv1 = .ref (ad1 (20 + x) 0) := hpv1
    have hpx : pv1 = lyv ad1 lq := hpx
    have hcA0 : E1 (20 + ml) 0 = .inr (5, [.int (nI ml), pv1, .ref (ad1 (20 + ml) 1), .int 1]) := hcA0
    have hcA1 : E1 (20 + ml) 1 = .inl (kA 6, L.length, .inr (.inr (.inr (.inr fm1)))) := hcA1
    have hMM : ∀ j, j < k → fm1 j = some (ad1 (20 + ml) (10 + 10 * j)) ∧ MEI kA ad1 E1 RL1 nd ml j := hMM
    have hMX : ∀ j, j < k → DX g ad1 E1 L ml j := hMX
    have hl : lv_has ls 4 [(3, .int (nI k)), (2, .ref (ad1 (20 + ml) 0)), (0, .ref (ad1 0 7))] := hl
    have hP : va_P D xcl (rp ad1 E1 RL1) H := hP
    have hD : va_D A (rp ad1 E1 RL1) := hD
    have hTD1 : TDs g E1 nd := TDs_same (fun d9 hd9 => fun2 fun o9 => hfE (1 + d9) o9 (by omega)) hTD
    have hDIs : DIs kA ad1 E1 RL1 nd := (DIs_same (fun d9 hd9 => fun2 fun o9 => by show E1 (1 + d9) o9 = _; rw [hfE (1 + d9) o9 (by omega)]) (fun d9 hd9 => fun2 fun o9 => by show ad1 (1 + d9) o9 = _; rw [hfA (1 + d9) o9 (by omega)]) (fun _ h9 => hfS _ h9) hDIs0)
    have hLIs : LIs kA ad1 E1 RL1 nd ml := (LIs_same (Nat.le_refl _) (fun n9 hn9 => fun2 fun o9 => by show E1 (20 + n9) o9 = _; rw [hfE (20 + n9) o9 (by omega)]) (fun n9 hn9 => fun2 fun o9 => by show ad1 (20 + n9) o9 = _; rw [hfA (20 + n9) o9 (by omega)]) (fun d9 hd9 => by show ad1 (1 + d9) 0 = _; rw [hfA (1 + d9) 0 (by omega)]) (fun _ h9 => hfS _ h9) hLIs0)
    have hmB : ∀ o, o < 10 → (0, o) ∈ RL1 := fun o9 h9 => hfS _ (hmB0 o9 h9)
    have c_89 : E1 0 0 = .inr (0, [.ref (ad1 0 1), .ref (ad1 0 5), .ref (ad1 0 7), .ref (ad1 0 9), .int (nI ml), .int lf_1]) := by rw [hfE 0 0 (by omega), hfA 0 1 (by omega), hfA 0 5 (by omega), hfA 0 7 (by omega), hfA 0 9 (by omega)]; exact c_2
    have m_90 : (0, 0) ∈ RL1 := hmB 0 (by omega)
    have c_91 : E1 0 1 = .inr (1, [.ref (ad1 0 2), .ref (ad1 0 3), .ref (ad1 0 4), .int (nI len), .int (nI wn)]) := by rw [hfE 0 1 (by omega), hfA 0 2 (by omega), hfA 0 3 (by omega), hfA 0 4 (by omega)]; exact c_5
    have m_92 : (0, 1) ∈ RL1 := hmB 1 (by omega)
    have c_93 : E1 0 2 = .inl (kA 1, 40, .inl tx_4) := by rw [hfE 0 2 (by omega)]; exact c_7
    have m_94 : (0, 2) ∈ RL1 := hmB 2 (by omega)
    have c_95 : E1 0 3 = .inl (kA 0, 20, .inl fb_4) := by rw [hfE 0 3 (by omega)]; exact c_9
    have m_96 : (0, 3) ∈ RL1 := hmB 3 (by omega)
    have c_97 : E1 0 4 = .inl (kA 0, 20, .inl fe_4) := by rw [hfE 0 4 (by omega)]; exact c_11
    have m_98 : (0, 4) ∈ RL1 := hmB 4 (by omega)
    have c_99 : E1 0 5 = .inr (2, [.ref (ad1 0 6), .int (nI nd)]) := by rw [hfE 0 5 (by omega), hfA 0 6 (by omega)]; exact c_14
    have m_100 : (0, 5) ∈ RL1 := hmB 5 (by omega)
    have c_101 : E1 0 6 = .inl (kA 4, 12, .inr (.inr (.inr (.inr fd_13)))) := by rw [hfE 0 6 (by omega)]; exact c_16
    have m_102 : (0, 6) ∈ RL1 := hmB 6 (by omega)
    have c_103 : E1 0 7 = .inr (3, [.ref (ad1 0 5), .ref (ad1 0 8), .int (nI (L.length)), .int cf_18, .null]) := by rw [hfE 0 7 (by omega), hfA 0 5 (by omega), hfA 0 8 (by omega)]; exact c_19
    have m_104 : (0, 7) ∈ RL1 := hmB 7 (by omega)
    have c_105 : E1 0 8 = .inl (kA 4, 12, .inr (.inr (.inr (.inr fc_18)))) := by rw [hfE 0 8 (by omega)]; exact c_21
    have m_106 : (0, 8) ∈ RL1 := hmB 8 (by omega)
    have c_107 : E1 0 9 = .inl (kA 5, 5, .inr (.inr (.inr (.inr fl_23)))) := by rw [hfE 0 9 (by omega)]; exact c_24
    have m_108 : (0, 9) ∈ RL1 := hmB 9 (by omega)
    refine lv_iload_n hx hb xd_Ch_draft_19 rfl (lv_at hl 0 rfl) ?_
    refine lv_aload_n hx hb xd_Ch_draft_20 rfl (lv_at hl 2 rfl) ?_
    refine px_get (D := D) (ci := 3) (v := .int (nI (L.length))) (C := xR_Ch) (T := xT_Ch) (N := 5) hx hb hT xi_Ch hown hK.1 hP m_104 c_103 rfl 2 (by decide) (hT _ k5w_4) (fun _ h9 => h9) rfl xd_Ch_draft_21 ?_
    refine xn_ge (a := k) (b := L.length) (tgt := 53) hx hb xd_Ch_draft_24 (by decide) (by omega) (by omega) (fun hc109 => ?_) (fun hc109 => ?_)
    · have hLI : LI kA ad1 E1 RL1 nd ml := ⟨hmz0, hmz1, pv1, 1, L.length, fm1, by omega, hpv1, hcA0, hcA1, fun j hj => hMM j (by omega)⟩
      have hkL : k = L.length := by omega
      have hTL1 : TLas g ad1 E1 nd ml := TLas_same (Nat.le_refl _) (fun n9 hn9 => fun2 fun o9 => hfE (20 + n9) o9 (by omega)) (fun d9 hd9 => hfA (1 + d9) 0 (by omega)) (fun n9 hn9 => hfA (20 + n9) 0 (by omega)) hTL
      have hCB1 : CBs g E1 ml := CBs_same (fun la o9 hla => hfE (20 + la) o9 (by omega)) hCB
      have hLKP : LKP g ml := LKP_L (by omega) hnd12 hLIs hTL1
      have hTLr : TLas (gDr g ml lq L) ad1 E1 nd (ml + 1) := TLas_gDn hLIs hTL1 hxGL hlqm (by rw [← hpx]; exact hcA0) hcA1 (fun j hj => hMX j (by omega))
      have hTDr : TDs (gDr g ml lq L) E1 nd := TDs_gDr hDIs hTD1
      have hCBr : CBs (gDr g ml lq L) E1 ml := CBs_VQ hLKP (VQ_gDr hLKP) hCB1
      have hinjr : ∀ a b, a < L.length → b < L.length → mdv (gDr g ml lq L) ml a = mdv (gDr g ml lq L) ml b → a = b := fun a b ha hb e => by rw [gDr_md hxGL hnd12 ha, gDr_md hxGL hnd12 hb] at e; exact getD_inj hxGL.2 ha hb e
      have hC0r : ∀ j, j < L.length → CN0 (gDr g ml lq L) E1 ml j := fun j hj => (CN0_DX hxGL hnd12 hj (hMX j (by omega))).1
      have hC7r : ∀ j, j < L.length → CN7 E1 ml j := fun j hj => (CN0_DX (g := g) (ad := ad1) (lq := lq) hxGL hnd12 hj (hMX j (by omega))).2
      have hLIs := LIs_add hLIs hLI
      refine lv_aload_n hx hb xd_Ch_draft_53 rfl (lv_at hl 1 rfl) ?_
      have hFc := px_free hD hS hA
      refine va_callv (va_runV (As := []) (rest := []) ⟨hx, hb, hml, hown, hT⟩ (xc_Ly_connectX l D kA H.size ad1 E1 RL1 (gDr g ml lq L) nd (ml + 1) ml pv1 1 L.length fm1 hmz0 hcA0 hmz1 hcA1 (by first | assumption | omega) (by first | assumption | omega) (by first | assumption | omega) (by first | assumption | omega) (by first | assumption | omega) (by first | assumption | omega) (fun j hj => hMM j (by omega)) hTDr hTLr hCBr hinjr hC0r hC7r) (cwV 0 hT (wT_V k5w_9 k5w_10 k5w_11 k5w_2 k5w_8) rfl rfl rfl (by decide +kernel) ⟨Nat.le_of_ble_eq_true rfl, Nat.le_of_ble_eq_true rfl⟩) (px_preV hK hP hD hmz0 hcA0 rfl) rfl rfl hl.1 rfl (lv_room (Nat.le_of_ble_eq_true rfl)) xd_Ch_draft_54 ⟨(show 2 + 8 * k + 2 ≤ 100 by omega), (show 16 + 32 * k + 24 ≤ 424 by omega)⟩) hS (fun q _ h => hFc q h) hFc (fun u111 t H1 locs ht hvm hp112 hB hz1 hk1 hS => ?_)
      obtain ⟨hP1, hD1⟩ := hB
      rw [ht] at hP1
      have hD1 := hD1.weaken (fun _ _ _ h => hFc _ h)
      generalize H1 = H at hP1 hS ⊢
      have hP := hP1
      have hD := hD1
      obtain ⟨ad113, E114, RL115⟩ := u111
      obtain ⟨hp121, p_116, p_117, p_118, p_119, p_120⟩ := hp112
      have p_116 : (∀ b2 o2, ¬ (b2 = 20 + ml) → E114 b2 o2 = E1 b2 o2) := p_116
      have p_117 : (∀ b2 o2, ¬ (b2 = 20 + ml ∧ o2 = 2) → ¬ (b2 = 20 + ml ∧ o2 = 3) → ad113 b2 o2 = ad1 b2 o2) := p_117
      have p_118 : (∀ x ∈ RL1, x ∈ RL115) := p_118
      have p_119 : (20 + ml, 2) ∈ RL115 := p_119
      have p_120 : (20 + ml, 3) ∈ RL115 := p_120
      have hl : lv_has ls 4 [(3, .int (nI k)), (2, .ref (ad113 (20 + ml) 0)), (0, .ref (ad113 0 7))] := by
        rw [p_117 (20 + ml) 0 (by omega) (by omega), p_117 0 7 (by omega) (by omega)]; exact hl
      have m_122 : (0, 0) ∈ RL115 := p_118 _ m_90
      have m_123 : (0, 1) ∈ RL115 := p_118 _ m_92
      have m_124 : (0, 2) ∈ RL115 := p_118 _ m_94
      have m_125 : (0, 3) ∈ RL115 := p_118 _ m_96
      have m_126 : (0, 4) ∈ RL115 := p_118 _ m_98
      have m_127 : (0, 5) ∈ RL115 := p_118 _ m_100
      have m_128 : (0, 6) ∈ RL115 := p_118 _ m_102
      have m_129 : (0, 7) ∈ RL115 := p_118 _ m_104
      have m_130 : (0, 8) ∈ RL115 := p_118 _ m_106
      have m_131 : (0, 9) ∈ RL115 := p_118 _ m_108
      have m_132 : (20 + ml, 0) ∈ RL115 := p_118 _ hmz0
      have m_133 : (20 + ml, 1) ∈ RL115 := p_118 _ hmz1
      have c_134 : E114 0 0 = .inr (0, [.ref (ad113 0 1), .ref (ad113 0 5), .ref (ad113 0 7), .ref (ad113 0 9), .int (nI ml), .int lf_1]) := by rw [p_116 0 0 (by omega), p_117 0 1 (by omega) (by omega), p_117 0 5 (by omega) (by omega), p_117 0 7 (by omega) (by omega), p_117 0 9 (by omega) (by omega)]; exact c_89
      have c_135 : E114 0 1 = .inr (1, [.ref (ad113 0 2), .ref (ad113 0 3), .ref (ad113 0 4), .int (nI len), .int (nI wn)]) := by rw [p_116 0 1 (by omega), p_117 0 2 (by omega) (by omega), p_117 0 3 (by omega) (by omega), p_117 0 4 (by omega) (by omega)]; exact c_91
      have c_136 : E114 0 2 = .inl (kA 1, 40, .inl tx_4) := by rw [p_116 0 2 (by omega)]; exact c_93
      have c_137 : E114 0 3 = .inl (kA 0, 20, .inl fb_4) := by rw [p_116 0 3 (by omega)]; exact c_95
      have c_138 : E114 0 4 = .inl (kA 0, 20, .inl fe_4) := by rw [p_116 0 4 (by omega)]; exact c_97
      have c_139 : E114 0 5 = .inr (2, [.ref (ad113 0 6), .int (nI nd)]) := by rw [p_116 0 5 (by omega), p_117 0 6 (by omega) (by omega)]; exact c_99
      have c_140 : E114 0 6 = .inl (kA 4, 12, .inr (.inr (.inr (.inr fd_13)))) := by rw [p_116 0 6 (by omega)]; exact c_101
      have c_141 : E114 0 7 = .inr (3, [.ref (ad113 0 5), .ref (ad113 0 8), .int (nI (L.length)), .int cf_18, .null]) := by rw [p_116 0 7 (by omega), p_117 0 5 (by omega) (by omega), p_117 0 8 (by omega) (by omega)]; exact c_103
      have c_142 : E114 0 8 = .inl (kA 4, 12, .inr (.inr (.inr (.inr fc_18)))) := by rw [p_116 0 8 (by omega)]; exact c_105
      have c_143 : E114 0 9 = .inl (kA 5, 5, .inr (.inr (.inr (.inr fl_23)))) := by rw [p_116 0 9 (by omega)]; exact c_107
      have hP : va_P D xcl (rp ad113 E114 RL115) H := hP
      have hD : va_D A (rp ad113 E114 RL115) := hD
      obtain ⟨⟨hDIs9, hLIs9⟩, hTL9, hCB9, hLB9, hRB9⟩ := hp121
      refine lv_aload_n hx hb xd_Ch_draft_57 rfl (lv_at hl 1 rfl) ?_
      refine W.widen (k := 100) (n := 424) (show 2 + 8 * k + 2 ≤ 100 by omega) (show 16 + 32 * k + 24 ≤ 424 by omega) ?_
      exact W.aret (v := .ref (ad113 (20 + ml) 0)) hx hb hr (Or.inl ⟨_, rfl⟩) (Or.inr ⟨_, rfl⟩) (fun t ht hW => ⟨⟨(some (ad113 (20 + ml) 0)), (ad113, E114, RL115), rfl, ⟨⟨⟨rfl, (show CI kA ad113 E114 RL115 ml nd len wn L.length from ⟨(fun o9 h9 => p_118 _ (hfS _ (hmB0 o9 h9))), ⟨lf_1, c_134⟩, ⟨tx_4, fb_4, fe_4, (by omega), (by omega), c_135, c_136, c_137, c_138, hws0⟩, ⟨fd_13, (by omega), c_139, c_140, (fun d9 hd9 => (hds0 d9 hd9).trans (by rw [p_117 (1 + d9) 0 (by omega) (by omega), hfA (1 + d9) 0 (by omega)]))⟩, ⟨cf_18, .null, fc_18, (by omega), (Or.inl rfl), c_141, c_142, (fun k9 hk9 => by obtain ⟨d8, q1, q2⟩ := hfc0 k9 hk9; exact ⟨d8, q1, q2.trans (by rw [p_117 (1 + d8) 0 (by omega) (by omega), hfA (1 + d8) 0 (by omega)])⟩)⟩, ⟨fl_23, (by omega), c_143, (fun n9 hn9 => (hla0 n9 hn9).trans (by rw [p_117 (20 + n9) 0 (by omega) (by omega), hfA (20 + n9) 0 (by omega)]))⟩, hDIs9, (fun n9 hn9 => hLIs9 n9 (by omega))⟩), (show LI kA ad113 E114 RL115 nd ml from hLIs9 ml (by omega))⟩, hTL9, hCB9, hLB9, hRB9⟩, (fun b2 o2 h09 => by show E114 b2 o2 = _; rw [p_116 b2 o2 (by omega), hfE b2 o2 (by omega)]), (fun b2 o2 h09 => by show ad113 b2 o2 = _; rw [p_117 b2 o2 (by omega) (by omega), hfA b2 o2 (by omega)]), (fun x9 hx9 => p_118 _ (hfS _ hx9))⟩, by rw [ht]; exact hP, hD⟩, hS.F ht⟩) hS.2.2 xd_Ch_draft_58
    · obtain ⟨d9, hd9e⟩ : ∃ z, z = L.getD k 0 := ⟨_, rfl⟩
      have hd9 : d9 < nd := by rw [hd9e]; exact hxGL.1 _ (getD_mem (by omega))
      have hf9 := hxfc k (by omega)
      rw [← hd9e] at hf9
      obtain ⟨hm_144, fd_144, nm_144, sd_144, k0_144, k1_144, k2_144, k3_144, f0_144, f1_144, f2_144, f3_144, fe_144, fo_144, tr_144, op_144, hk0_144, hk1_144, hk2_144, hk3_144, q0_144, q1_144, q2_144, q3_144, q4_144, q5_144, q6_144, q7_144, q8_144, q9_144, q10_144, q11_144, q12_144, hg_144⟩ := id (hDIs d9 (by omega))
      have c_145 : E1 (1 + d9) 0 = .inr (7, [.int (nI d9), .int fd_144, .int nm_144, .ref (ad1 (1 + d9) 1), .ref (ad1 (1 + d9) 9), .ref (ad1 (1 + d9) 10), .ref (ad1 (1 + d9) 2), .ref (ad1 (1 + d9) 11), .ref (ad1 (1 + d9) 12), .ref (ad1 (1 + d9) 3), .ref (ad1 (1 + d9) 4), .int sd_144]) := q0_144
      have m_146 : (1 + d9, 0) ∈ RL1 := hm_144 0 (by omega)
      have c_147 : E1 (1 + d9) 1 = .inr (8, [.ref (ad1 (1 + d9) 5), .int (nI k0_144)]) := q1_144
      have m_148 : (1 + d9, 1) ∈ RL1 := hm_144 1 (by omega)
      have c_149 : E1 (1 + d9) 2 = .inr (8, [.ref (ad1 (1 + d9) 6), .int (nI k1_144)]) := q2_144
      have m_150 : (1 + d9, 2) ∈ RL1 := hm_144 2 (by omega)
      have c_151 : E1 (1 + d9) 3 = .inr (8, [.ref (ad1 (1 + d9) 7), .int (nI k2_144)]) := q3_144
      have m_152 : (1 + d9, 3) ∈ RL1 := hm_144 3 (by omega)
      have c_153 : E1 (1 + d9) 4 = .inr (8, [.ref (ad1 (1 + d9) 8), .int (nI k3_144)]) := q4_144
      have m_154 : (1 + d9, 4) ∈ RL1 := hm_144 4 (by omega)
      have c_155 : E1 (1 + d9) 5 = .inl (kA 0, 6, .inl f0_144) := q5_144
      have m_156 : (1 + d9, 5) ∈ RL1 := hm_144 5 (by omega)
      have c_157 : E1 (1 + d9) 6 = .inl (kA 0, 5, .inl f1_144) := q6_144
      have m_158 : (1 + d9, 6) ∈ RL1 := hm_144 6 (by omega)
      have c_159 : E1 (1 + d9) 7 = .inl (kA 0, 3, .inl f2_144) := q7_144
      have m_160 : (1 + d9, 7) ∈ RL1 := hm_144 7 (by omega)
      have c_161 : E1 (1 + d9) 8 = .inl (kA 0, 3, .inl f3_144) := q8_144
      have m_162 : (1 + d9, 8) ∈ RL1 := hm_144 8 (by omega)
      have c_163 : E1 (1 + d9) 9 = .inl (kA 8, 6, .inr (.inr (.inr (.inr fe_144)))) := q9_144
      have m_164 : (1 + d9, 9) ∈ RL1 := hm_144 9 (by omega)
      have c_165 : E1 (1 + d9) 10 = .inl (kA 8, 6, .inr (.inr (.inr (.inr fo_144)))) := q10_144
      have m_166 : (1 + d9, 10) ∈ RL1 := hm_144 10 (by omega)
      have c_167 : E1 (1 + d9) 11 = .inl (kA 2, 5, .inl tr_144) := q11_144
      have m_168 : (1 + d9, 11) ∈ RL1 := hm_144 11 (by omega)
      have c_169 : E1 (1 + d9) 12 = .inl (kA 2, 5, .inl op_144) := q12_144
      have m_170 : (1 + d9, 12) ∈ RL1 := hm_144 12 (by omega)
      have hg_144 : ∀ w9, w9 < k0_144 → fe_144 w9 = some (ad1 (1 + d9) (20 + 3 * w9)) ∧ fo_144 w9 = some (ad1 (1 + d9) (38 + 3 * w9)) ∧ GI kA (ad1 (1 + d9)) (E1 (1 + d9)) (fun o => (1 + d9, o) ∈ RL1) (20 + 3 * w9) (21 + 3 * w9) (22 + 3 * w9) ∧ GI kA (ad1 (1 + d9)) (E1 (1 + d9)) (fun o => (1 + d9, o) ∈ RL1) (38 + 3 * w9) (39 + 3 * w9) (40 + 3 * w9) := hg_144
      obtain ⟨hTT_144, tgr_144⟩ := TD_get hk0_144 hk1_144 hk2_144 hk3_144 c_145 c_147 c_149 c_151 c_153 c_155 c_157 c_159 c_161 c_167 c_169 (hTD1 d9 (by omega))
      obtain ⟨tfd_144, tnm_144, tsd_144, tk0_144, tf0_144, tk1_144, tf1_144, tk2_144, tk3_144⟩ := id hTT_144
      have ik0_144 : iN (g 5 d9) = k0_144 := by rw [← tk0_144, iN_nI (by omega)]
      have ik1_144 : iN (g 12 d9) = k1_144 := by rw [← tk1_144, iN_nI (by omega)]
      refine lv_aload_n hx hb xd_Ch_draft_27 rfl (lv_at hl 1 rfl) ?_
      refine px_get (D := D) (ci := 5) (v := .ref (ad1 (20 + ml) 1)) (C := xR_Ly) (T := xT_Ly) (N := 4) hx hb hT xi_Ly hown hK.1 hP hmz0 hcA0 rfl 2 (by decide) (hT _ k5w_12) (fun _ h9 => h9) rfl xd_Ch_draft_28 ?_
      refine lv_iload_n hx hb xd_Ch_draft_31 rfl (lv_at hl 0 rfl) ?_
      refine px_new (ci := 6) (fs := [.null, .null, .null, .null, .null, .null]) (C := xR_Me) (T := xT_Me) (N := 6) (20 + ml) (10 + 10 * k) hx hb hT xi_Me xt_Me xt_Me_ok hown (hT _ k5w_13) (hT _ k5w_14) (hT _ k5w_15) hK.1 hP hD hS hA rfl (by decide +kernel) (show 2 + 8 * k + 1 ≤ 100 by omega) (show 16 + 32 * k + 6 ≤ 424 by omega) xd_Ch_draft_32 (fun ad171 E172 RL173 H hA1 hE1 hs1 hm1 hP hD hS => ?_)
      have fE174 : ∀ b2 o2, ¬ (b2 = 20 + ml ∧ o2 = 10 + 10 * k) → E172 b2 o2 = E1 b2 o2 := fun b2 o2 h9 => by rw [hE1]; exact up2_ne (by omega)
      have fA175 : ∀ b2 o2, ¬ (b2 = 20 + ml ∧ o2 = 10 + 10 * k) → ad171 b2 o2 = ad1 b2 o2 := fun b2 o2 h9 => by rw [hA1]; exact up2_ne (by omega)
      have hs176 := hs1
      refine W.eq (g2 := F0 m _ ls [.ref (ad171 (20 + ml) (10 + 10 * k)), .int (nI k), .ref (ad171 (20 + ml) 1)]) (by rw [fA175 (20 + ml) 1 (by omega)]) ?_
      have c_177 : E172 (20 + ml) (10 + 10 * k) = .inr (6, [.null, .null, .null, .null, .null, .null]) := by rw [hE1]; exact up2_eq
      have hl : lv_has ls 4 [(3, .int (nI k)), (2, .ref (ad171 (20 + ml) 0)), (0, .ref (ad171 0 7))] := by
        rw [fA175 (20 + ml) 0 (by omega), fA175 0 7 (by omega)]; exact hl
      have m_179 : (0, 0) ∈ RL173 := hs176 _ m_90
      have m_180 : (0, 1) ∈ RL173 := hs176 _ m_92
      have m_181 : (0, 2) ∈ RL173 := hs176 _ m_94
      have m_182 : (0, 3) ∈ RL173 := hs176 _ m_96
      have m_183 : (0, 4) ∈ RL173 := hs176 _ m_98
      have m_184 : (0, 5) ∈ RL173 := hs176 _ m_100
      have m_185 : (0, 6) ∈ RL173 := hs176 _ m_102
      have m_186 : (0, 7) ∈ RL173 := hs176 _ m_104
      have m_187 : (0, 8) ∈ RL173 := hs176 _ m_106
      have m_188 : (0, 9) ∈ RL173 := hs176 _ m_108
      have m_189 : (20 + ml, 0) ∈ RL173 := hs176 _ hmz0
      have m_190 : (20 + ml, 1) ∈ RL173 := hs176 _ hmz1
      have m_191 : (1 + d9, 0) ∈ RL173 := hs176 _ m_146
      have m_192 : (1 + d9, 1) ∈ RL173 := hs176 _ m_148
      have m_193 : (1 + d9, 2) ∈ RL173 := hs176 _ m_150
      have m_194 : (1 + d9, 3) ∈ RL173 := hs176 _ m_152
      have m_195 : (1 + d9, 4) ∈ RL173 := hs176 _ m_154
      have m_196 : (1 + d9, 5) ∈ RL173 := hs176 _ m_156
      have m_197 : (1 + d9, 6) ∈ RL173 := hs176 _ m_158
      have m_198 : (1 + d9, 7) ∈ RL173 := hs176 _ m_160
      have m_199 : (1 + d9, 8) ∈ RL173 := hs176 _ m_162
      have m_200 : (1 + d9, 9) ∈ RL173 := hs176 _ m_164
      have m_201 : (1 + d9, 10) ∈ RL173 := hs176 _ m_166
      have m_202 : (1 + d9, 11) ∈ RL173 := hs176 _ m_168
      have m_203 : (1 + d9, 12) ∈ RL173 := hs176 _ m_170
      have c_204 : E172 0 0 = .inr (0, [.ref (ad171 0 1), .ref (ad171 0 5), .ref (ad171 0 7), .ref (ad171 0 9), .int (nI ml), .int lf_1]) := by rw [fE174 0 0 (by omega), fA175 0 1 (by omega), fA175 0 5 (by omega), fA175 0 7 (by omega), fA175 0 9 (by omega)]; exact c_89
      have c_205 : E172 0 1 = .inr (1, [.ref (ad171 0 2), .ref (ad171 0 3), .ref (ad171 0 4), .int (nI len), .int (nI wn)]) := by rw [fE174 0 1 (by omega), fA175 0 2 (by omega), fA175 0 3 (by omega), fA175 0 4 (by omega)]; exact c_91
      have c_206 : E172 0 2 = .inl (kA 1, 40, .inl tx_4) := by rw [fE174 0 2 (by omega)]; exact c_93
      have c_207 : E172 0 3 = .inl (kA 0, 20, .inl fb_4) := by rw [fE174 0 3 (by omega)]; exact c_95
      have c_208 : E172 0 4 = .inl (kA 0, 20, .inl fe_4) := by rw [fE174 0 4 (by omega)]; exact c_97
      have c_209 : E172 0 5 = .inr (2, [.ref (ad171 0 6), .int (nI nd)]) := by rw [fE174 0 5 (by omega), fA175 0 6 (by omega)]; exact c_99
      have c_210 : E172 0 6 = .inl (kA 4, 12, .inr (.inr (.inr (.inr fd_13)))) := by rw [fE174 0 6 (by omega)]; exact c_101
      have c_211 : E172 0 7 = .inr (3, [.ref (ad171 0 5), .ref (ad171 0 8), .int (nI (L.length)), .int cf_18, .null]) := by rw [fE174 0 7 (by omega), fA175 0 5 (by omega), fA175 0 8 (by omega)]; exact c_103
      have c_212 : E172 0 8 = .inl (kA 4, 12, .inr (.inr (.inr (.inr fc_18)))) := by rw [fE174 0 8 (by omega)]; exact c_105
      have c_213 : E172 0 9 = .inl (kA 5, 5, .inr (.inr (.inr (.inr fl_23)))) := by rw [fE174 0 9 (by omega)]; exact c_107
      have c_214 : E172 (20 + ml) 0 = .inr (5, [.int (nI ml), pv1, .ref (ad171 (20 + ml) 1), .int 1]) := by rw [fE174 (20 + ml) 0 (by omega), fA175 (20 + ml) 1 (by omega)]; exact hcA0
      have c_215 : E172 (20 + ml) 1 = .inl (kA 6, L.length, .inr (.inr (.inr (.inr fm1)))) := by rw [fE174 (20 + ml) 1 (by omega)]; exact hcA1
      have c_216 : E172 (1 + d9) 0 = .inr (7, [.int (nI d9), .int fd_144, .int nm_144, .ref (ad171 (1 + d9) 1), .ref (ad171 (1 + d9) 9), .ref (ad171 (1 + d9) 10), .ref (ad171 (1 + d9) 2), .ref (ad171 (1 + d9) 11), .ref (ad171 (1 + d9) 12), .ref (ad171 (1 + d9) 3), .ref (ad171 (1 + d9) 4), .int sd_144]) := by rw [fE174 (1 + d9) 0 (by omega), fA175 (1 + d9) 1 (by omega), fA175 (1 + d9) 9 (by omega), fA175 (1 + d9) 10 (by omega), fA175 (1 + d9) 2 (by omega), fA175 (1 + d9) 11 (by omega), fA175 (1 + d9) 12 (by omega), fA175 (1 + d9) 3 (by omega), fA175 (1 + d9) 4 (by omega)]; exact c_145
      have c_217 : E172 (1 + d9) 1 = .inr (8, [.ref (ad171 (1 + d9) 5), .int (nI k0_144)]) := by rw [fE174 (1 + d9) 1 (by omega), fA175 (1 + d9) 5 (by omega)]; exact c_147
      have c_218 : E172 (1 + d9) 2 = .inr (8, [.ref (ad171 (1 + d9) 6), .int (nI k1_144)]) := by rw [fE174 (1 + d9) 2 (by omega), fA175 (1 + d9) 6 (by omega)]; exact c_149
      have c_219 : E172 (1 + d9) 3 = .inr (8, [.ref (ad171 (1 + d9) 7), .int (nI k2_144)]) := by rw [fE174 (1 + d9) 3 (by omega), fA175 (1 + d9) 7 (by omega)]; exact c_151
      have c_220 : E172 (1 + d9) 4 = .inr (8, [.ref (ad171 (1 + d9) 8), .int (nI k3_144)]) := by rw [fE174 (1 + d9) 4 (by omega), fA175 (1 + d9) 8 (by omega)]; exact c_153
      have c_221 : E172 (1 + d9) 5 = .inl (kA 0, 6, .inl f0_144) := by rw [fE174 (1 + d9) 5 (by omega)]; exact c_155
      have c_222 : E172 (1 + d9) 6 = .inl (kA 0, 5, .inl f1_144) := by rw [fE174 (1 + d9) 6 (by omega)]; exact c_157
      have c_223 : E172 (1 + d9) 7 = .inl (kA 0, 3, .inl f2_144) := by rw [fE174 (1 + d9) 7 (by omega)]; exact c_159
      have c_224 : E172 (1 + d9) 8 = .inl (kA 0, 3, .inl f3_144) := by rw [fE174 (1 + d9) 8 (by omega)]; exact c_161
      have c_225 : E172 (1 + d9) 9 = .inl (kA 8, 6, .inr (.inr (.inr (.inr fe_144)))) := by rw [fE174 (1 + d9) 9 (by omega)]; exact c_163
      have c_226 : E172 (1 + d9) 10 = .inl (kA 8, 6, .inr (.inr (.inr (.inr fo_144)))) := by rw [fE174 (1 + d9) 10 (by omega)]; exact c_165
      have c_227 : E172 (1 + d9) 11 = .inl (kA 2, 5, .inl tr_144) := by rw [fE174 (1 + d9) 11 (by omega)]; exact c_167
      have c_228 : E172 (1 + d9) 12 = .inl (kA 2, 5, .inl op_144) := by rw [fE174 (1 + d9) 12 (by omega)]; exact c_169
      have m_178 : (20 + ml, 10 + 10 * k) ∈ RL173 := hm1
      have hP : va_P D xcl (rp ad171 E172 RL173) H := hP
      have hD : va_D A (rp ad171 E172 RL173) := hD
      refine lv_dup hx hb xd_Ch_draft_35 rfl ?_
      refine lv_aload_n hx hb xd_Ch_draft_36 rfl (lv_at hl 1 rfl) ?_
      refine lv_aload_n hx hb xd_Ch_draft_37 rfl (lv_at hl 2 rfl) ?_
      refine px_get (D := D) (ci := 3) (v := .ref (ad171 0 8)) (C := xR_Ch) (T := xT_Ch) (N := 5) hx hb hT xi_Ch hown hK.1 hP m_186 c_211 rfl 1 (by decide) (hT _ k5w_16) (fun _ h9 => h9) rfl xd_Ch_draft_38 ?_
      refine lv_iload_n hx hb xd_Ch_draft_41 rfl (lv_at hl 0 rfl) ?_
      refine px_aald (i := k) (x := (some (ad171 (1 + d9) 0))) hx hb hK.1 hP m_187 c_212 4 rfl ((hf9.trans (by rw [fA175 (1 + d9) 0 (by omega), hfA (1 + d9) 0 (by omega)]))) (by omega) (by decide) xd_Ch_draft_42 ?_
      have hFc := px_free hD hS hA
      refine va_callv (va_runI (As := [.ref (ad171 (20 + ml) 0), .ref (ad171 (1 + d9) 0)]) (rest := [.ref (ad171 (20 + ml) (10 + 10 * k)), .int (nI k), .ref (ad171 (20 + ml) 1)]) ⟨hx, hb, hml, hown, hT⟩ (xc_Me_init l D kA H.size ad171 E172 RL173 ml k d9 fd_144 nm_144 sd_144 k1_144 m_178 c_177 m_191 c_216 m_193 c_218 (by omega) (by first | assumption | omega)) (cwI 2 hT (wT_I k5w_17) rfl rfl rfl (hT _ k5w_15) (hT _ k5w_18) (hT _ k5w_19) rfl (by decide +kernel) ⟨Nat.le_of_ble_eq_true rfl, Nat.le_of_ble_eq_true rfl⟩) (x_preS hK hP hD) rfl rfl hl.1 rfl (lv_room (Nat.le_of_ble_eq_true rfl)) xd_Ch_draft_43 ⟨(show 2 + 8 * k + 1 + 7 ≤ 100 by omega), (show 16 + 32 * k + 6 + 26 ≤ 424 by omega)⟩) hS (fun q _ h => hFc q h) hFc (fun u230 t H1 locs ht hvm hp231 hB hz1 hk1 hS => ?_)
      obtain ⟨hP1, hD1⟩ := hB
      rw [ht] at hP1
      have hD1 := hD1.weaken (fun _ _ _ h => hFc _ h)
      generalize H1 = H at hP1 hS ⊢
      have hP := hP1
      have hD := hD1
      obtain ⟨ad232, E233, RL234⟩ := u230
      obtain ⟨hp253, p_235, p_236, p_237, p_238, p_239, p_240, p_241, p_242, p_243, p_244, p_245, p_246, p_247, p_248, p_249, p_250, p_251, p_252⟩ := hp231
      have p_235 : E233 (20 + ml) (10 + 10 * k) = .inr (6, [.ref (ad232 (20 + ml) 0), .ref (ad232 (1 + d9) 0), .ref (ad232 (20 + ml) (11 + 10 * k)), .ref (ad232 (20 + ml) (12 + 10 * k)), .ref (ad232 (20 + ml) (13 + 10 * k)), .ref (ad232 (20 + ml) (14 + 10 * k))]) := p_235
      have p_236 : E233 (20 + ml) (11 + 10 * k) = .inl (kA 6, k1_144, .inr (.inr (.inr (.inr (fun _ => none))))) := p_236
      have p_237 : E233 (20 + ml) (12 + 10 * k) = .inr (10, [.ref (ad232 (20 + ml) (15 + 10 * k))]) := p_237
      have p_238 : E233 (20 + ml) (13 + 10 * k) = .inr (10, [.ref (ad232 (20 + ml) (16 + 10 * k))]) := p_238
      have p_239 : E233 (20 + ml) (14 + 10 * k) = .inr (10, [.ref (ad232 (20 + ml) (17 + 10 * k))]) := p_239
      have p_240 : E233 (20 + ml) (15 + 10 * k) = .inl (kA 0, 6, .inl (fun _ => 0)) := p_240
      have p_241 : E233 (20 + ml) (16 + 10 * k) = .inl (kA 0, 6, .inl (fun _ => 0)) := p_241
      have p_242 : E233 (20 + ml) (17 + 10 * k) = .inl (kA 0, 6, .inl (fun _ => 0)) := p_242
      have p_243 : (∀ b2 o2, ¬ (b2 = 20 + ml ∧ o2 = 10 + 10 * k) → ¬ (b2 = 20 + ml ∧ o2 = 11 + 10 * k) → ¬ (b2 = 20 + ml ∧ o2 = 12 + 10 * k) → ¬ (b2 = 20 + ml ∧ o2 = 13 + 10 * k) → ¬ (b2 = 20 + ml ∧ o2 = 14 + 10 * k) → ¬ (b2 = 20 + ml ∧ o2 = 15 + 10 * k) → ¬ (b2 = 20 + ml ∧ o2 = 16 + 10 * k) → ¬ (b2 = 20 + ml ∧ o2 = 17 + 10 * k) → E233 b2 o2 = E172 b2 o2) := p_243
      have p_244 : (∀ b2 o2, ¬ (b2 = 20 + ml ∧ o2 = 11 + 10 * k) → ¬ (b2 = 20 + ml ∧ o2 = 12 + 10 * k) → ¬ (b2 = 20 + ml ∧ o2 = 13 + 10 * k) → ¬ (b2 = 20 + ml ∧ o2 = 14 + 10 * k) → ¬ (b2 = 20 + ml ∧ o2 = 15 + 10 * k) → ¬ (b2 = 20 + ml ∧ o2 = 16 + 10 * k) → ¬ (b2 = 20 + ml ∧ o2 = 17 + 10 * k) → ad232 b2 o2 = ad171 b2 o2) := p_244
      have p_245 : (∀ x ∈ RL173, x ∈ RL234) := p_245
      have p_246 : (20 + ml, 11 + 10 * k) ∈ RL234 := p_246
      have p_247 : (20 + ml, 12 + 10 * k) ∈ RL234 := p_247
      have p_248 : (20 + ml, 13 + 10 * k) ∈ RL234 := p_248
      have p_249 : (20 + ml, 14 + 10 * k) ∈ RL234 := p_249
      have p_250 : (20 + ml, 15 + 10 * k) ∈ RL234 := p_250
      have p_251 : (20 + ml, 16 + 10 * k) ∈ RL234 := p_251
      have p_252 : (20 + ml, 17 + 10 * k) ∈ RL234 := p_252
      refine W.eq (g2 := F0 m 46 ls [.ref (ad232 (20 + ml) (10 + 10 * k)), .int (nI k), .ref (ad232 (20 + ml) 1)]) (by rw [p_244 (20 + ml) (10 + 10 * k) (by omega) (by omega) (by omega) (by omega) (by omega) (by omega) (by omega), p_244 (20 + ml) 1 (by omega) (by omega) (by omega) (by omega) (by omega) (by omega) (by omega)]) ?_
      have hl : lv_has ls 4 [(3, .int (nI k)), (2, .ref (ad232 (20 + ml) 0)), (0, .ref (ad232 0 7))] := by
        rw [p_244 (20 + ml) 0 (by omega) (by omega) (by omega) (by omega) (by omega) (by omega) (by omega), p_244 0 7 (by omega) (by omega) (by omega) (by omega) (by omega) (by omega) (by omega)]; exact hl
      have m_254 : (0, 0) ∈ RL234 := p_245 _ m_179
      have m_255 : (0, 1) ∈ RL234 := p_245 _ m_180
      have m_256 : (0, 2) ∈ RL234 := p_245 _ m_181
      have m_257 : (0, 3) ∈ RL234 := p_245 _ m_182
      have m_258 : (0, 4) ∈ RL234 := p_245 _ m_183
      have m_259 : (0, 5) ∈ RL234 := p_245 _ m_184
      have m_260 : (0, 6) ∈ RL234 := p_245 _ m_185
      have m_261 : (0, 7) ∈ RL234 := p_245 _ m_186
      have m_262 : (0, 8) ∈ RL234 := p_245 _ m_187
      have m_263 : (0, 9) ∈ RL234 := p_245 _ m_188
      have m_264 : (20 + ml, 0) ∈ RL234 := p_245 _ m_189
      have m_265 : (20 + ml, 1) ∈ RL234 := p_245 _ m_190
      have m_266 : (1 + d9, 0) ∈ RL234 := p_245 _ m_191
      have m_267 : (1 + d9, 1) ∈ RL234 := p_245 _ m_192
      have m_268 : (1 + d9, 2) ∈ RL234 := p_245 _ m_193
      have m_269 : (1 + d9, 3) ∈ RL234 := p_245 _ m_194
      have m_270 : (1 + d9, 4) ∈ RL234 := p_245 _ m_195
      have m_271 : (1 + d9, 5) ∈ RL234 := p_245 _ m_196
      have m_272 : (1 + d9, 6) ∈ RL234 := p_245 _ m_197
      have m_273 : (1 + d9, 7) ∈ RL234 := p_245 _ m_198
      have m_274 : (1 + d9, 8) ∈ RL234 := p_245 _ m_199
      have m_275 : (1 + d9, 9) ∈ RL234 := p_245 _ m_200
      have m_276 : (1 + d9, 10) ∈ RL234 := p_245 _ m_201
      have m_277 : (1 + d9, 11) ∈ RL234 := p_245 _ m_202
      have m_278 : (1 + d9, 12) ∈ RL234 := p_245 _ m_203
      have m_279 : (20 + ml, 10 + 10 * k) ∈ RL234 := p_245 _ m_178
      have c_280 : E233 0 0 = .inr (0, [.ref (ad232 0 1), .ref (ad232 0 5), .ref (ad232 0 7), .ref (ad232 0 9), .int (nI ml), .int lf_1]) := by rw [p_243 0 0 (by omega) (by omega) (by omega) (by omega) (by omega) (by omega) (by omega) (by omega), p_244 0 1 (by omega) (by omega) (by omega) (by omega) (by omega) (by omega) (by omega), p_244 0 5 (by omega) (by omega) (by omega) (by omega) (by omega) (by omega) (by omega), p_244 0 7 (by omega) (by omega) (by omega) (by omega) (by omega) (by omega) (by omega), p_244 0 9 (by omega) (by omega) (by omega) (by omega) (by omega) (by omega) (by omega)]; exact c_204
      have c_281 : E233 0 1 = .inr (1, [.ref (ad232 0 2), .ref (ad232 0 3), .ref (ad232 0 4), .int (nI len), .int (nI wn)]) := by rw [p_243 0 1 (by omega) (by omega) (by omega) (by omega) (by omega) (by omega) (by omega) (by omega), p_244 0 2 (by omega) (by omega) (by omega) (by omega) (by omega) (by omega) (by omega), p_244 0 3 (by omega) (by omega) (by omega) (by omega) (by omega) (by omega) (by omega), p_244 0 4 (by omega) (by omega) (by omega) (by omega) (by omega) (by omega) (by omega)]; exact c_205
      have c_282 : E233 0 2 = .inl (kA 1, 40, .inl tx_4) := by rw [p_243 0 2 (by omega) (by omega) (by omega) (by omega) (by omega) (by omega) (by omega) (by omega)]; exact c_206
      have c_283 : E233 0 3 = .inl (kA 0, 20, .inl fb_4) := by rw [p_243 0 3 (by omega) (by omega) (by omega) (by omega) (by omega) (by omega) (by omega) (by omega)]; exact c_207
      have c_284 : E233 0 4 = .inl (kA 0, 20, .inl fe_4) := by rw [p_243 0 4 (by omega) (by omega) (by omega) (by omega) (by omega) (by omega) (by omega) (by omega)]; exact c_208
      have c_285 : E233 0 5 = .inr (2, [.ref (ad232 0 6), .int (nI nd)]) := by rw [p_243 0 5 (by omega) (by omega) (by omega) (by omega) (by omega) (by omega) (by omega) (by omega), p_244 0 6 (by omega) (by omega) (by omega) (by omega) (by omega) (by omega) (by omega)]; exact c_209
      have c_286 : E233 0 6 = .inl (kA 4, 12, .inr (.inr (.inr (.inr fd_13)))) := by rw [p_243 0 6 (by omega) (by omega) (by omega) (by omega) (by omega) (by omega) (by omega) (by omega)]; exact c_210
      have c_287 : E233 0 7 = .inr (3, [.ref (ad232 0 5), .ref (ad232 0 8), .int (nI (L.length)), .int cf_18, .null]) := by rw [p_243 0 7 (by omega) (by omega) (by omega) (by omega) (by omega) (by omega) (by omega) (by omega), p_244 0 5 (by omega) (by omega) (by omega) (by omega) (by omega) (by omega) (by omega), p_244 0 8 (by omega) (by omega) (by omega) (by omega) (by omega) (by omega) (by omega)]; exact c_211
      have c_288 : E233 0 8 = .inl (kA 4, 12, .inr (.inr (.inr (.inr fc_18)))) := by rw [p_243 0 8 (by omega) (by omega) (by omega) (by omega) (by omega) (by omega) (by omega) (by omega)]; exact c_212
      have c_289 : E233 0 9 = .inl (kA 5, 5, .inr (.inr (.inr (.inr fl_23)))) := by rw [p_243 0 9 (by omega) (by omega) (by omega) (by omega) (by omega) (by omega) (by omega) (by omega)]; exact c_213
      have c_290 : E233 (20 + ml) 0 = .inr (5, [.int (nI ml), pv1, .ref (ad232 (20 + ml) 1), .int 1]) := by rw [p_243 (20 + ml) 0 (by omega) (by omega) (by omega) (by omega) (by omega) (by omega) (by omega) (by omega), p_244 (20 + ml) 1 (by omega) (by omega) (by omega) (by omega) (by omega) (by omega) (by omega)]; exact c_214
      have c_291 : E233 (20 + ml) 1 = .inl (kA 6, L.length, .inr (.inr (.inr (.inr fm1)))) := by rw [p_243 (20 + ml) 1 (by omega) (by omega) (by omega) (by omega) (by omega) (by omega) (by omega) (by omega)]; exact c_215
      have c_292 : E233 (1 + d9) 0 = .inr (7, [.int (nI d9), .int fd_144, .int nm_144, .ref (ad232 (1 + d9) 1), .ref (ad232 (1 + d9) 9), .ref (ad232 (1 + d9) 10), .ref (ad232 (1 + d9) 2), .ref (ad232 (1 + d9) 11), .ref (ad232 (1 + d9) 12), .ref (ad232 (1 + d9) 3), .ref (ad232 (1 + d9) 4), .int sd_144]) := by rw [p_243 (1 + d9) 0 (by omega) (by omega) (by omega) (by omega) (by omega) (by omega) (by omega) (by omega), p_244 (1 + d9) 1 (by omega) (by omega) (by omega) (by omega) (by omega) (by omega) (by omega), p_244 (1 + d9) 9 (by omega) (by omega) (by omega) (by omega) (by omega) (by omega) (by omega), p_244 (1 + d9) 10 (by omega) (by omega) (by omega) (by omega) (by omega) (by omega) (by omega), p_244 (1 + d9) 2 (by omega) (by omega) (by omega) (by omega) (by omega) (by omega) (by omega), p_244 (1 + d9) 11 (by omega) (by omega) (by omega) (by omega) (by omega) (by omega) (by omega), p_244 (1 + d9) 12 (by omega) (by omega) (by omega) (by omega) (by omega) (by omega) (by omega), p_244 (1 + d9) 3 (by omega) (by omega) (by omega) (by omega) (by omega) (by omega) (by omega), p_244 (1 + d9) 4 (by omega) (by omega) (by omega) (by omega) (by omega) (by omega) (by omega)]; exact c_216
      have c_293 : E233 (1 + d9) 1 = .inr (8, [.ref (ad232 (1 + d9) 5), .int (nI k0_144)]) := by rw [p_243 (1 + d9) 1 (by omega) (by omega) (by omega) (by omega) (by omega) (by omega) (by omega) (by omega), p_244 (1 + d9) 5 (by omega) (by omega) (by omega) (by omega) (by omega) (by omega) (by omega)]; exact c_217
      have c_294 : E233 (1 + d9) 2 = .inr (8, [.ref (ad232 (1 + d9) 6), .int (nI k1_144)]) := by rw [p_243 (1 + d9) 2 (by omega) (by omega) (by omega) (by omega) (by omega) (by omega) (by omega) (by omega), p_244 (1 + d9) 6 (by omega) (by omega) (by omega) (by omega) (by omega) (by omega) (by omega)]; exact c_218
      have c_295 : E233 (1 + d9) 3 = .inr (8, [.ref (ad232 (1 + d9) 7), .int (nI k2_144)]) := by rw [p_243 (1 + d9) 3 (by omega) (by omega) (by omega) (by omega) (by omega) (by omega) (by omega) (by omega), p_244 (1 + d9) 7 (by omega) (by omega) (by omega) (by omega) (by omega) (by omega) (by omega)]; exact c_219
      have c_296 : E233 (1 + d9) 4 = .inr (8, [.ref (ad232 (1 + d9) 8), .int (nI k3_144)]) := by rw [p_243 (1 + d9) 4 (by omega) (by omega) (by omega) (by omega) (by omega) (by omega) (by omega) (by omega), p_244 (1 + d9) 8 (by omega) (by omega) (by omega) (by omega) (by omega) (by omega) (by omega)]; exact c_220
      have c_297 : E233 (1 + d9) 5 = .inl (kA 0, 6, .inl f0_144) := by rw [p_243 (1 + d9) 5 (by omega) (by omega) (by omega) (by omega) (by omega) (by omega) (by omega) (by omega)]; exact c_221
      have c_298 : E233 (1 + d9) 6 = .inl (kA 0, 5, .inl f1_144) := by rw [p_243 (1 + d9) 6 (by omega) (by omega) (by omega) (by omega) (by omega) (by omega) (by omega) (by omega)]; exact c_222
      have c_299 : E233 (1 + d9) 7 = .inl (kA 0, 3, .inl f2_144) := by rw [p_243 (1 + d9) 7 (by omega) (by omega) (by omega) (by omega) (by omega) (by omega) (by omega) (by omega)]; exact c_223
      have c_300 : E233 (1 + d9) 8 = .inl (kA 0, 3, .inl f3_144) := by rw [p_243 (1 + d9) 8 (by omega) (by omega) (by omega) (by omega) (by omega) (by omega) (by omega) (by omega)]; exact c_224
      have c_301 : E233 (1 + d9) 9 = .inl (kA 8, 6, .inr (.inr (.inr (.inr fe_144)))) := by rw [p_243 (1 + d9) 9 (by omega) (by omega) (by omega) (by omega) (by omega) (by omega) (by omega) (by omega)]; exact c_225
      have c_302 : E233 (1 + d9) 10 = .inl (kA 8, 6, .inr (.inr (.inr (.inr fo_144)))) := by rw [p_243 (1 + d9) 10 (by omega) (by omega) (by omega) (by omega) (by omega) (by omega) (by omega) (by omega)]; exact c_226
      have c_303 : E233 (1 + d9) 11 = .inl (kA 2, 5, .inl tr_144) := by rw [p_243 (1 + d9) 11 (by omega) (by omega) (by omega) (by omega) (by omega) (by omega) (by omega) (by omega)]; exact c_227
      have c_304 : E233 (1 + d9) 12 = .inl (kA 2, 5, .inl op_144) := by rw [p_243 (1 + d9) 12 (by omega) (by omega) (by omega) (by omega) (by omega) (by omega) (by omega) (by omega)]; exact c_228
      have hP : va_P D xcl (rp ad232 E233 RL234) H := hP
      have hD : va_D A (rp ad232 E233 RL234) := hD
      refine px_aast (i := k) (r := (xR_Me, xT_Me, 6)) hx hb hK.1 hP hD hS m_265 c_291 6 rfl m_279 p_235 rfl (by omega) (by omega) xd_Ch_draft_46 (fun H locs hP hD hS => ?_)
      have hP : va_P D xcl (rp ad232 (up2 E233 (20 + ml) 1 (.inl (kA 6, L.length, .inr (.inr (.inr (.inr (va_up fm1 k (some (ad232 (20 + ml) (10 + 10 * k)))))))))) RL234) H := hP
      have hD : va_D A (rp ad232 (up2 E233 (20 + ml) 1 (.inl (kA 6, L.length, .inr (.inr (.inr (.inr (va_up fm1 k (some (ad232 (20 + ml) (10 + 10 * k)))))))))) RL234) := hD
      generalize hE306 : up2 E233 (20 + ml) 1 (.inl (kA 6, L.length, .inr (.inr (.inr (.inr (va_up fm1 k (some (ad232 (20 + ml) (10 + 10 * k))))))))) = E305 at hP hD
      have fE307 : ∀ b2 o2, ¬ (b2 = 20 + ml ∧ o2 = 1) → E305 b2 o2 = E233 b2 o2 := fun b2 o2 h9 => by rw [← hE306]; exact up2_ne (by omega)
      have c_308 : E305 (20 + ml) 1 = .inl (kA 6, L.length, .inr (.inr (.inr (.inr (va_up fm1 k (some (ad232 (20 + ml) (10 + 10 * k)))))))) := by rw [← hE306]; exact up2_eq
      have c_309 : E305 (20 + ml) (10 + 10 * k) = .inr (6, [.ref (ad232 (20 + ml) 0), .ref (ad232 (1 + d9) 0), .ref (ad232 (20 + ml) (11 + 10 * k)), .ref (ad232 (20 + ml) (12 + 10 * k)), .ref (ad232 (20 + ml) (13 + 10 * k)), .ref (ad232 (20 + ml) (14 + 10 * k))]) := (fE307 (20 + ml) (10 + 10 * k) (by omega)).trans p_235
      have c_310 : E305 (20 + ml) (11 + 10 * k) = .inl (kA 6, k1_144, .inr (.inr (.inr (.inr (fun _ => none))))) := (fE307 (20 + ml) (11 + 10 * k) (by omega)).trans p_236
      have c_311 : E305 (20 + ml) (12 + 10 * k) = .inr (10, [.ref (ad232 (20 + ml) (15 + 10 * k))]) := (fE307 (20 + ml) (12 + 10 * k) (by omega)).trans p_237
      have c_312 : E305 (20 + ml) (13 + 10 * k) = .inr (10, [.ref (ad232 (20 + ml) (16 + 10 * k))]) := (fE307 (20 + ml) (13 + 10 * k) (by omega)).trans p_238
      have c_313 : E305 (20 + ml) (14 + 10 * k) = .inr (10, [.ref (ad232 (20 + ml) (17 + 10 * k))]) := (fE307 (20 + ml) (14 + 10 * k) (by omega)).trans p_239
      have c_314 : E305 (20 + ml) (15 + 10 * k) = .inl (kA 0, 6, .inl (fun _ => 0)) := (fE307 (20 + ml) (15 + 10 * k) (by omega)).trans p_240
      have c_315 : E305 (20 + ml) (16 + 10 * k) = .inl (kA 0, 6, .inl (fun _ => 0)) := (fE307 (20 + ml) (16 + 10 * k) (by omega)).trans p_241
      have c_316 : E305 (20 + ml) (17 + 10 * k) = .inl (kA 0, 6, .inl (fun _ => 0)) := (fE307 (20 + ml) (17 + 10 * k) (by omega)).trans p_242
      have c_317 : E305 0 0 = .inr (0, [.ref (ad232 0 1), .ref (ad232 0 5), .ref (ad232 0 7), .ref (ad232 0 9), .int (nI ml), .int lf_1]) := (fE307 0 0 (by omega)).trans c_280
      have c_318 : E305 0 1 = .inr (1, [.ref (ad232 0 2), .ref (ad232 0 3), .ref (ad232 0 4), .int (nI len), .int (nI wn)]) := (fE307 0 1 (by omega)).trans c_281
      have c_319 : E305 0 2 = .inl (kA 1, 40, .inl tx_4) := (fE307 0 2 (by omega)).trans c_282
      have c_320 : E305 0 3 = .inl (kA 0, 20, .inl fb_4) := (fE307 0 3 (by omega)).trans c_283
      have c_321 : E305 0 4 = .inl (kA 0, 20, .inl fe_4) := (fE307 0 4 (by omega)).trans c_284
      have c_322 : E305 0 5 = .inr (2, [.ref (ad232 0 6), .int (nI nd)]) := (fE307 0 5 (by omega)).trans c_285
      have c_323 : E305 0 6 = .inl (kA 4, 12, .inr (.inr (.inr (.inr fd_13)))) := (fE307 0 6 (by omega)).trans c_286
      have c_324 : E305 0 7 = .inr (3, [.ref (ad232 0 5), .ref (ad232 0 8), .int (nI (L.length)), .int cf_18, .null]) := (fE307 0 7 (by omega)).trans c_287
      have c_325 : E305 0 8 = .inl (kA 4, 12, .inr (.inr (.inr (.inr fc_18)))) := (fE307 0 8 (by omega)).trans c_288
      have c_326 : E305 0 9 = .inl (kA 5, 5, .inr (.inr (.inr (.inr fl_23)))) := (fE307 0 9 (by omega)).trans c_289
      have c_327 : E305 (20 + ml) 0 = .inr (5, [.int (nI ml), pv1, .ref (ad232 (20 + ml) 1), .int 1]) := (fE307 (20 + ml) 0 (by omega)).trans c_290
      have c_328 : E305 (1 + d9) 0 = .inr (7, [.int (nI d9), .int fd_144, .int nm_144, .ref (ad232 (1 + d9) 1), .ref (ad232 (1 + d9) 9), .ref (ad232 (1 + d9) 10), .ref (ad232 (1 + d9) 2), .ref (ad232 (1 + d9) 11), .ref (ad232 (1 + d9) 12), .ref (ad232 (1 + d9) 3), .ref (ad232 (1 + d9) 4), .int sd_144]) := (fE307 (1 + d9) 0 (by omega)).trans c_292
      have c_329 : E305 (1 + d9) 1 = .inr (8, [.ref (ad232 (1 + d9) 5), .int (nI k0_144)]) := (fE307 (1 + d9) 1 (by omega)).trans c_293
      have c_330 : E305 (1 + d9) 2 = .inr (8, [.ref (ad232 (1 + d9) 6), .int (nI k1_144)]) := (fE307 (1 + d9) 2 (by omega)).trans c_294
      have c_331 : E305 (1 + d9) 3 = .inr (8, [.ref (ad232 (1 + d9) 7), .int (nI k2_144)]) := (fE307 (1 + d9) 3 (by omega)).trans c_295
      have c_332 : E305 (1 + d9) 4 = .inr (8, [.ref (ad232 (1 + d9) 8), .int (nI k3_144)]) := (fE307 (1 + d9) 4 (by omega)).trans c_296
      have c_333 : E305 (1 + d9) 5 = .inl (kA 0, 6, .inl f0_144) := (fE307 (1 + d9) 5 (by omega)).trans c_297
      have c_334 : E305 (1 + d9) 6 = .inl (kA 0, 5, .inl f1_144) := (fE307 (1 + d9) 6 (by omega)).trans c_298
      have c_335 : E305 (1 + d9) 7 = .inl (kA 0, 3, .inl f2_144) := (fE307 (1 + d9) 7 (by omega)).trans c_299
      have c_336 : E305 (1 + d9) 8 = .inl (kA 0, 3, .inl f3_144) := (fE307 (1 + d9) 8 (by omega)).trans c_300
      have c_337 : E305 (1 + d9) 9 = .inl (kA 8, 6, .inr (.inr (.inr (.inr fe_144)))) := (fE307 (1 + d9) 9 (by omega)).trans c_301
      have c_338 : E305 (1 + d9) 10 = .inl (kA 8, 6, .inr (.inr (.inr (.inr fo_144)))) := (fE307 (1 + d9) 10 (by omega)).trans c_302
      have c_339 : E305 (1 + d9) 11 = .inl (kA 2, 5, .inl tr_144) := (fE307 (1 + d9) 11 (by omega)).trans c_303
      have c_340 : E305 (1 + d9) 12 = .inl (kA 2, 5, .inl op_144) := (fE307 (1 + d9) 12 (by omega)).trans c_304
      refine lv_iinc (k := 0) (x := (nI k)) (v := (nI (k + 1))) hx hb xd_Ch_draft_47 hl rfl (xb_inc k 1) (Nat.le_of_ble_eq_true rfl) rfl (fun ls hl => ?_)
      have hl : lv_has ls 4 [(3, .int (nI (k + 1))), (2, .ref (ad232 (20 + ml) 0)), (0, .ref (ad232 0 7))] := hl
      refine lv_goto (tgt := 19) hx hb xd_Ch_draft_50 (by decide) ?_
      exact ih88 (k + 1, ad232, E305, RL234, pv1, (va_up fm1 k (some (ad232 (20 + ml) (10 + 10 * k))))) _ _ _ (show L.length - (k + 1) < L.length - k by omega) (lv_sub hl [0, 1, 2] rfl) hP hD hS ⟨(show (k + 1) ≤ L.length from by first | assumption | omega), (show (∀ b2 o2, ¬ (b2 = 20 + ml) → E305 b2 o2 = E b2 o2) from fun b2 o2 h9 => by show E305 b2 o2 = _; rw [fE307 b2 o2 (by omega), p_243 b2 o2 (by omega) (by omega) (by omega) (by omega) (by omega) (by omega) (by omega) (by omega), fE174 b2 o2 (by omega), hfE b2 o2 (by omega)]), (show (∀ b2 o2, ¬ (b2 = 20 + ml) → ad232 b2 o2 = ad b2 o2) from fun b2 o2 h9 => by show ad232 b2 o2 = _; rw [p_244 b2 o2 (by omega) (by omega) (by omega) (by omega) (by omega) (by omega) (by omega), fA175 b2 o2 (by omega), hfA b2 o2 (by omega)]), (show ∀ x ∈ RL, x ∈ RL234 from fun _ h9 => p_245 _ (hs176 _ (hfS _ h9))), (show (20 + ml, 0) ∈ RL234 from m_264), (show (20 + ml, 1) ∈ RL234 from m_265), (show pv1 = .null ∨ ∃ x, x < ml ∧ pv1 = .ref (ad232 (20 + x) 0) from by rcases hpv1 with h | ⟨x, hx9, h⟩; exact Or.inl h; exact Or.inr ⟨x, hx9, by rw [p_244 (20 + x) 0 (by omega) (by omega) (by omega) (by omega) (by omega) (by omega) (by omega), fA175 (20 + x) 0 (by omega)]; exact h⟩), (show pv1 = lyv ad232 lq from hpx.trans (lyv_same (fun x hx9 => by rw [p_244 (20 + x) 0 (by omega) (by omega) (by omega) (by omega) (by omega) (by omega) (by omega), fA175 (20 + x) 0 (by omega)])).symm), (show E305 (20 + ml) 0 = .inr (5, [.int (nI ml), pv1, .ref (ad232 (20 + ml) 1), .int 1]) from c_327), (show E305 (20 + ml) 1 = .inl (kA 6, L.length, .inr (.inr (.inr (.inr (va_up fm1 k (some (ad232 (20 + ml) (10 + 10 * k)))))))) from c_308), (show ∀ j, j < (k + 1) → (va_up fm1 k (some (ad232 (20 + ml) (10 + 10 * k)))) j = some (ad232 (20 + ml) (10 + 10 * j)) ∧ MEI kA ad232 E305 RL234 nd ml j from fun j hj => by
          by_cases q : j = k
          · subst q; exact ⟨vu_eq, ⟨(fun j9 hj9 => by
              have hj8 : j9 = 0 ∨ j9 = 1 ∨ j9 = 2 ∨ j9 = 3 ∨ j9 = 4 ∨ j9 = 5 ∨ j9 = 6 ∨ j9 = 7 := by omega
              rcases hj8 with rfl | rfl | rfl | rfl | rfl | rfl | rfl | rfl
              · exact m_279
              · exact p_246
              · exact p_247
              · exact p_248
              · exact p_249
              · exact p_250
              · exact p_251
              · exact p_252), d9, k1_144, (fun _ => none), (fun _ => 0), (fun _ => 0), (fun _ => 0), hd9, by omega, c_309, c_310, c_311, c_312, c_313, c_314, c_315, c_316⟩⟩
          · exact ⟨(vu_ne q).trans ((hMM j (by omega)).1.trans (by rw [p_244 (20 + ml) (10 + 10 * j) (by omega) (by omega) (by omega) (by omega) (by omega) (by omega) (by omega), fA175 (20 + ml) (10 + 10 * j) (by omega)])), MEI_at (fun j9 hj9 => by rw [fE307 (20 + ml) (10 + j9 + 10 * j) (by omega), p_243 (20 + ml) (10 + j9 + 10 * j) (by omega) (by omega) (by omega) (by omega) (by omega) (by omega) (by omega) (by omega), fE174 (20 + ml) (10 + j9 + 10 * j) (by omega)]) (fun j9 hj9 => by rw [p_244 (20 + ml) (10 + j9 + 10 * j) (by omega) (by omega) (by omega) (by omega) (by omega) (by omega) (by omega), fA175 (20 + ml) (10 + j9 + 10 * j) (by omega)]) (by rw [p_244 (20 + ml) 0 (by omega) (by omega) (by omega) (by omega) (by omega) (by omega) (by omega), fA175 (20 + ml) 0 (by omega)]) (fun d8 hd8 => by rw [p_244 (1 + d8) 0 (by omega) (by omega) (by omega) (by omega) (by omega) (by omega) (by omega), fA175 (1 + d8) 0 (by omega)]) (fun _ h9 => p_245 _ (hs176 _ (h9))) (hMM j (by omega)).2⟩), (show ∀ j, j < (k + 1) → DX g ad232 E305 L ml j from fun j hj => by
        by_cases q : j = k
        · rw [q]; exact ⟨by rw [c_309, ← hd9e]; rfl, by rw [c_310, ← hd9e, ← tk1_144, iN_nI (by omega)]; rfl, by rw [c_314]; rfl, by rw [c_315]; rfl, by rw [c_316]; rfl⟩
        · exact DX_at (fun j9 hj9 => by rw [fE307 (20 + ml) (10 + j9 + 10 * j) (by omega), p_243 (20 + ml) (10 + j9 + 10 * j) (by omega) (by omega) (by omega) (by omega) (by omega) (by omega) (by omega) (by omega), fE174 (20 + ml) (10 + j9 + 10 * j) (by omega)]) (by
          have q9 := hxGL.1 _ (getD_mem (L := L) (k := j) (by omega))
          rw [p_244 (1 + L.getD j 0) 0 (by omega) (by omega) (by omega) (by omega) (by omega) (by omega) (by omega), fA175 (1 + L.getD j 0) 0 (by omega)]) (hMX j (by omega)))⟩
  · have hd0 := hDIs0
    refine px_new (ci := 5) (fs := [.int 0, .null, .null, .int 0]) (C := xR_Ly) (T := xT_Ly) (N := 4) (20 + ml) 0 hx hb hT xi_Ly xt_Ly xt_Ly_ok hown (hT _ k5w_0) (hT _ k5w_1) (hT _ k5w_2) hK.1 hP hD hS hA rfl (by decide +kernel) (Nat.le_of_ble_eq_true rfl) (Nat.le_of_ble_eq_true rfl) xd_Ch_draft_0 (fun ad341 E342 RL343 H hA1 hE1 hs1 hm1 hP hD hS => ?_)
    have fE344 : ∀ b2 o2, ¬ (b2 = 20 + ml ∧ o2 = 0) → E342 b2 o2 = E b2 o2 := fun b2 o2 h9 => by rw [hE1]; exact up2_ne (by omega)
    have fA345 : ∀ b2 o2, ¬ (b2 = 20 + ml ∧ o2 = 0) → ad341 b2 o2 = ad b2 o2 := fun b2 o2 h9 => by rw [hA1]; exact up2_ne (by omega)
    have hs346 := hs1
    have c_347 : E342 (20 + ml) 0 = .inr (5, [.int 0, .null, .null, .int 0]) := by rw [hE1]; exact up2_eq
    have hl : lv_has ls 4 [(0, .ref (ad341 0 7)), (1, .int (nI ml))] := by
      rw [fA345 0 7 (by omega)]; exact hl
    have m_349 : (0, 0) ∈ RL343 := hs346 _ m_3
    have m_350 : (0, 1) ∈ RL343 := hs346 _ m_6
    have m_351 : (0, 2) ∈ RL343 := hs346 _ m_8
    have m_352 : (0, 3) ∈ RL343 := hs346 _ m_10
    have m_353 : (0, 4) ∈ RL343 := hs346 _ m_12
    have m_354 : (0, 5) ∈ RL343 := hs346 _ m_15
    have m_355 : (0, 6) ∈ RL343 := hs346 _ m_17
    have m_356 : (0, 7) ∈ RL343 := hs346 _ m_20
    have m_357 : (0, 8) ∈ RL343 := hs346 _ m_22
    have m_358 : (0, 9) ∈ RL343 := hs346 _ m_25
    have c_359 : E342 0 0 = .inr (0, [.ref (ad341 0 1), .ref (ad341 0 5), .ref (ad341 0 7), .ref (ad341 0 9), .int (nI ml), .int lf_1]) := by rw [fE344 0 0 (by omega), fA345 0 1 (by omega), fA345 0 5 (by omega), fA345 0 7 (by omega), fA345 0 9 (by omega)]; exact c_2
    have c_360 : E342 0 1 = .inr (1, [.ref (ad341 0 2), .ref (ad341 0 3), .ref (ad341 0 4), .int (nI len), .int (nI wn)]) := by rw [fE344 0 1 (by omega), fA345 0 2 (by omega), fA345 0 3 (by omega), fA345 0 4 (by omega)]; exact c_5
    have c_361 : E342 0 2 = .inl (kA 1, 40, .inl tx_4) := by rw [fE344 0 2 (by omega)]; exact c_7
    have c_362 : E342 0 3 = .inl (kA 0, 20, .inl fb_4) := by rw [fE344 0 3 (by omega)]; exact c_9
    have c_363 : E342 0 4 = .inl (kA 0, 20, .inl fe_4) := by rw [fE344 0 4 (by omega)]; exact c_11
    have c_364 : E342 0 5 = .inr (2, [.ref (ad341 0 6), .int (nI nd)]) := by rw [fE344 0 5 (by omega), fA345 0 6 (by omega)]; exact c_14
    have c_365 : E342 0 6 = .inl (kA 4, 12, .inr (.inr (.inr (.inr fd_13)))) := by rw [fE344 0 6 (by omega)]; exact c_16
    have c_366 : E342 0 7 = .inr (3, [.ref (ad341 0 5), .ref (ad341 0 8), .int (nI (L.length)), .int cf_18, .ref (ad341 (20 + xp) 0)]) := by rw [fE344 0 7 (by omega), fA345 0 5 (by omega), fA345 0 8 (by omega), fA345 (20 + xp) 0 (by omega)]; exact c_19
    have c_367 : E342 0 8 = .inl (kA 4, 12, .inr (.inr (.inr (.inr fc_18)))) := by rw [fE344 0 8 (by omega)]; exact c_21
    have c_368 : E342 0 9 = .inl (kA 5, 5, .inr (.inr (.inr (.inr fl_23)))) := by rw [fE344 0 9 (by omega)]; exact c_24
    have m_348 : (20 + ml, 0) ∈ RL343 := hm1
    have hP : va_P D xcl (rp ad341 E342 RL343) H := hP
    have hD : va_D A (rp ad341 E342 RL343) := hD
    refine lv_dup hx hb xd_Ch_draft_3 rfl ?_
    refine lv_iload_n hx hb xd_Ch_draft_4 rfl (lv_at hl 1 rfl) ?_
    refine lv_aload_n hx hb xd_Ch_draft_5 rfl (lv_at hl 0 rfl) ?_
    refine px_get (D := D) (ci := 3) (v := .ref (ad341 (20 + xp) 0)) (C := xR_Ch) (T := xT_Ch) (N := 5) hx hb hT xi_Ch hown hK.1 hP m_356 c_366 rfl 4 (by decide) (hT _ k5w_3) (fun _ h9 => h9) rfl xd_Ch_draft_6 ?_
    refine lv_aload_n hx hb xd_Ch_draft_9 rfl (lv_at hl 0 rfl) ?_
    refine px_get (D := D) (ci := 3) (v := .int (nI (L.length))) (C := xR_Ch) (T := xT_Ch) (N := 5) hx hb hT xi_Ch hown hK.1 hP m_356 c_366 rfl 2 (by decide) (hT _ k5w_4) (fun _ h9 => h9) rfl xd_Ch_draft_10 ?_
    have hFc := px_free hD hS hA
    refine va_callv (va_runI (As := [.int (nI ml), .ref (ad341 (20 + xp) 0), .int (nI (L.length))]) (rest := [.ref (ad341 (20 + ml) 0)]) ⟨hx, hb, hml, hown, hT⟩ (xc_Ly_initR l D kA H.size ad341 E342 RL343 ml (ad341 (20 + xp) 0) L.length m_348 c_347 (by first | assumption | omega)) (cwI 3 hT (wT_I k5w_5) rfl rfl rfl (hT _ k5w_2) (hT _ k5w_6) (hT _ k5w_7) rfl (by decide +kernel) ⟨Nat.le_of_ble_eq_true rfl, Nat.le_of_ble_eq_true rfl⟩) (x_preS hK hP hD) rfl rfl hl.1 rfl (lv_room (Nat.le_of_ble_eq_true rfl)) xd_Ch_draft_13 ⟨(Nat.le_of_ble_eq_true rfl), (Nat.le_of_ble_eq_true rfl)⟩) hS (fun q _ h => hFc q h) hFc (fun u370 t H1 locs ht hvm hp371 hB hz1 hk1 hS => ?_)
    obtain ⟨hP1, hD1⟩ := hB
    rw [ht] at hP1
    have hD1 := hD1.weaken (fun _ _ _ h => hFc _ h)
    generalize H1 = H at hP1 hS ⊢
    have hP := hP1
    have hD := hD1
    obtain ⟨ad372, E373, RL374⟩ := u370
    obtain ⟨hp381, p_375, p_376, p_377, p_378, p_379, p_380⟩ := hp371
    have p_375 : E373 (20 + ml) 0 = .inr (5, [.int (nI ml), .ref (ad341 (20 + xp) 0), .ref (ad372 (20 + ml) 1), .int 1]) := p_375
    have p_376 : E373 (20 + ml) 1 = .inl (kA 6, L.length, .inr (.inr (.inr (.inr (fun _ => none))))) := p_376
    have p_377 : (∀ b2 o2, ¬ (b2 = 20 + ml ∧ o2 = 0) → ¬ (b2 = 20 + ml ∧ o2 = 1) → E373 b2 o2 = E342 b2 o2) := p_377
    have p_378 : (∀ b2 o2, ¬ (b2 = 20 + ml ∧ o2 = 1) → ad372 b2 o2 = ad341 b2 o2) := p_378
    have p_379 : (∀ x ∈ RL343, x ∈ RL374) := p_379
    have p_380 : (20 + ml, 1) ∈ RL374 := p_380
    refine W.eq (g2 := F0 m 16 ls [.ref (ad372 (20 + ml) 0)]) (by rw [p_378 (20 + ml) 0 (by omega)]) ?_
    have hl : lv_has ls 4 [(0, .ref (ad372 0 7)), (1, .int (nI ml))] := by
      rw [p_378 0 7 (by omega)]; exact hl
    have m_382 : (0, 0) ∈ RL374 := p_379 _ m_349
    have m_383 : (0, 1) ∈ RL374 := p_379 _ m_350
    have m_384 : (0, 2) ∈ RL374 := p_379 _ m_351
    have m_385 : (0, 3) ∈ RL374 := p_379 _ m_352
    have m_386 : (0, 4) ∈ RL374 := p_379 _ m_353
    have m_387 : (0, 5) ∈ RL374 := p_379 _ m_354
    have m_388 : (0, 6) ∈ RL374 := p_379 _ m_355
    have m_389 : (0, 7) ∈ RL374 := p_379 _ m_356
    have m_390 : (0, 8) ∈ RL374 := p_379 _ m_357
    have m_391 : (0, 9) ∈ RL374 := p_379 _ m_358
    have m_392 : (20 + ml, 0) ∈ RL374 := p_379 _ m_348
    have c_393 : E373 0 0 = .inr (0, [.ref (ad372 0 1), .ref (ad372 0 5), .ref (ad372 0 7), .ref (ad372 0 9), .int (nI ml), .int lf_1]) := by rw [p_377 0 0 (by omega) (by omega), p_378 0 1 (by omega), p_378 0 5 (by omega), p_378 0 7 (by omega), p_378 0 9 (by omega)]; exact c_359
    have c_394 : E373 0 1 = .inr (1, [.ref (ad372 0 2), .ref (ad372 0 3), .ref (ad372 0 4), .int (nI len), .int (nI wn)]) := by rw [p_377 0 1 (by omega) (by omega), p_378 0 2 (by omega), p_378 0 3 (by omega), p_378 0 4 (by omega)]; exact c_360
    have c_395 : E373 0 2 = .inl (kA 1, 40, .inl tx_4) := by rw [p_377 0 2 (by omega) (by omega)]; exact c_361
    have c_396 : E373 0 3 = .inl (kA 0, 20, .inl fb_4) := by rw [p_377 0 3 (by omega) (by omega)]; exact c_362
    have c_397 : E373 0 4 = .inl (kA 0, 20, .inl fe_4) := by rw [p_377 0 4 (by omega) (by omega)]; exact c_363
    have c_398 : E373 0 5 = .inr (2, [.ref (ad372 0 6), .int (nI nd)]) := by rw [p_377 0 5 (by omega) (by omega), p_378 0 6 (by omega)]; exact c_364
    have c_399 : E373 0 6 = .inl (kA 4, 12, .inr (.inr (.inr (.inr fd_13)))) := by rw [p_377 0 6 (by omega) (by omega)]; exact c_365
    have c_400 : E373 0 7 = .inr (3, [.ref (ad372 0 5), .ref (ad372 0 8), .int (nI (L.length)), .int cf_18, .ref (ad372 (20 + xp) 0)]) := by rw [p_377 0 7 (by omega) (by omega), p_378 0 5 (by omega), p_378 0 8 (by omega), p_378 (20 + xp) 0 (by omega)]; exact c_366
    have c_401 : E373 0 8 = .inl (kA 4, 12, .inr (.inr (.inr (.inr fc_18)))) := by rw [p_377 0 8 (by omega) (by omega)]; exact c_367
    have c_402 : E373 0 9 = .inl (kA 5, 5, .inr (.inr (.inr (.inr fl_23)))) := by rw [p_377 0 9 (by omega) (by omega)]; exact c_368
    have hP : va_P D xcl (rp ad372 E373 RL374) H := hP
    have hD : va_D A (rp ad372 E373 RL374) := hD
    have c_403 : E373 (20 + ml) 0 = .inr (5, [.int (nI ml), .ref (ad372 (20 + xp) 0), .ref (ad372 (20 + ml) 1), .int 1]) := by rw [p_378 (20 + xp) 0 (by omega)]; exact p_375
    refine lv_astore_n hx hb xd_Ch_draft_16 rfl hl (Nat.le_of_ble_eq_true rfl) rfl (fun ls hl => ?_)
    have hl : lv_has ls 4 [(2, .ref (ad372 (20 + ml) 0)), (0, .ref (ad372 0 7)), (1, .int (nI ml))] := hl
    refine lv_iconst (v := 0) hx hb xd_Ch_draft_17 (by decide) ?_
    refine lv_istore_n hx hb xd_Ch_draft_18 rfl hl (Nat.le_of_ble_eq_true rfl) rfl (fun ls hl => ?_)
    have hl : lv_has ls 4 [(3, .int 0), (2, .ref (ad372 (20 + ml) 0)), (0, .ref (ad372 0 7)), (1, .int (nI ml))] := hl
    refine xlabC (σ := Nat × (Nat → Nat → Nat) × (Nat → Nat → va_E) × (List (Nat × Nat)) × Value × (Nat → Option Nat)) (ml := 4) 19 (fun (k, ad1, E1, RL1, pv1, fm1) => [(3, .int (nI k)), (2, .ref (ad1 (20 + ml) 0)), (0, .ref (ad1 0 7))]) (fun (k, ad1, E1, RL1, pv1, fm1) => []) (fun (k, ad1, E1, RL1, pv1, fm1) => rp ad1 E1 RL1) (fun (k, ad1, E1, RL1, pv1, fm1) => 2 + 8 * k) (fun (k, ad1, E1, RL1, pv1, fm1) => 16 + 32 * k) (fun (k, ad1, E1, RL1, pv1, fm1) => (k ≤ L.length) ∧ ((∀ b2 o2, ¬ (b2 = 20 + ml) → E1 b2 o2 = E b2 o2)) ∧ ((∀ b2 o2, ¬ (b2 = 20 + ml) → ad1 b2 o2 = ad b2 o2)) ∧ (∀ x ∈ RL, x ∈ RL1) ∧ ((20 + ml, 0) ∈ RL1) ∧ ((20 + ml, 1) ∈ RL1) ∧ (pv1 = .null ∨ ∃ x, x < ml ∧ pv1 = .ref (ad1 (20 + x) 0)) ∧ (pv1 = lyv ad1 lq) ∧ (E1 (20 + ml) 0 = .inr (5, [.int (nI ml), pv1, .ref (ad1 (20 + ml) 1), .int 1])) ∧ (E1 (20 + ml) 1 = .inl (kA 6, L.length, .inr (.inr (.inr (.inr fm1))))) ∧ (∀ j, j < k → fm1 j = some (ad1 (20 + ml) (10 + 10 * j)) ∧ MEI kA ad1 E1 RL1 nd ml j) ∧ (∀ j, j < k → DX g ad1 E1 L ml j)) (fun (k, ad1, E1, RL1, pv1, fm1) => L.length - k) ?_ (0, ad372, E373, RL374, (Value.ref (ad372 (20 + xp) 0)), (fun _ => none)) _ _ _ (lv_sub hl [0, 1, 2] rfl) hP hD hS ⟨(show 0 ≤ L.length from by first | assumption | omega), (show (∀ b2 o2, ¬ (b2 = 20 + ml) → E373 b2 o2 = E b2 o2) from fun b2 o2 h9 => by show E373 b2 o2 = _; rw [p_377 b2 o2 (by omega) (by omega), fE344 b2 o2 (by omega)]), (show (∀ b2 o2, ¬ (b2 = 20 + ml) → ad372 b2 o2 = ad b2 o2) from fun b2 o2 h9 => by show ad372 b2 o2 = _; rw [p_378 b2 o2 (by omega), fA345 b2 o2 (by omega)]), (show ∀ x ∈ RL, x ∈ RL374 from fun _ h9 => p_379 _ (hs346 _ h9)), (show (20 + ml, 0) ∈ RL374 from m_392), (show (20 + ml, 1) ∈ RL374 from p_380), (show (Value.ref (ad372 (20 + xp) 0)) = .null ∨ ∃ x, x < ml ∧ (Value.ref (ad372 (20 + xp) 0)) = .ref (ad372 (20 + x) 0) from Or.inr ⟨_, by omega, rfl⟩), (show (Value.ref (ad372 (20 + xp) 0)) = lyv ad372 lq from (lyv_s hyq).symm), (show E373 (20 + ml) 0 = .inr (5, [.int (nI ml), (Value.ref (ad372 (20 + xp) 0)), .ref (ad372 (20 + ml) 1), .int 1]) from c_403), (show E373 (20 + ml) 1 = .inl (kA 6, L.length, .inr (.inr (.inr (.inr (fun _ => none))))) from p_376), (show ∀ j, j < 0 → (fun _ => none) j = some (ad372 (20 + ml) (10 + 10 * j)) ∧ MEI kA ad372 E373 RL374 nd ml j from fun j hj => absurd hj (by omega)), (show ∀ j, j < 0 → DX g ad372 E373 L ml j from fun j hj => absurd hj (by omega))⟩
    intro n9 ih404 a9 ls H locs hμ hl hP hD hS hI
    subst hμ
    obtain ⟨k, ad1, E1, RL1, pv1, fm1⟩ := a9
    obtain ⟨hk0, hfE, hfA, hfS, hmz0, hmz1, hpv1, hpx, hcA0, hcA1, hMM, hMX⟩ := hI
    have hk0 : k ≤ L.length := hk0
    have hfE : (∀ b2 o2, ¬ (b2 = 20 + ml) → E1 b2 o2 = E b2 o2) := hfE
    have hfA : (∀ b2 o2, ¬ (b2 = 20 + ml) → ad1 b2 o2 = ad b2 o2) := hfA
    have hfS : ∀ x ∈ RL, x ∈ RL1 := hfS
    have hmz0 : (20 + ml, 0) ∈ RL1 := hmz0
    have hmz1 : (20 + ml, 1) ∈ RL1 := hmz1
    have hpv1 : pv1 = .null ∨ ∃ x, x < ml ∧ pv1 = .ref (ad1 (20 + x) 0) := hpv1
    have hpx : pv1 = lyv ad1 lq := hpx
    have hcA0 : E1 (20 + ml) 0 = .inr (5, [.int (nI ml), pv1, .ref (ad1 (20 + ml) 1), .int 1]) := hcA0
    have hcA1 : E1 (20 + ml) 1 = .inl (kA 6, L.length, .inr (.inr (.inr (.inr fm1)))) := hcA1
    have hMM : ∀ j, j < k → fm1 j = some (ad1 (20 + ml) (10 + 10 * j)) ∧ MEI kA ad1 E1 RL1 nd ml j := hMM
    have hMX : ∀ j, j < k → DX g ad1 E1 L ml j := hMX
    have hl : lv_has ls 4 [(3, .int (nI k)), (2, .ref (ad1 (20 + ml) 0)), (0, .ref (ad1 0 7))] := hl
    have hP : va_P D xcl (rp ad1 E1 RL1) H := hP
    have hD : va_D A (rp ad1 E1 RL1) := hD
    have hTD1 : TDs g E1 nd := TDs_same (fun d9 hd9 => fun2 fun o9 => hfE (1 + d9) o9 (by omega)) hTD
    have hDIs : DIs kA ad1 E1 RL1 nd := (DIs_same (fun d9 hd9 => fun2 fun o9 => by show E1 (1 + d9) o9 = _; rw [hfE (1 + d9) o9 (by omega)]) (fun d9 hd9 => fun2 fun o9 => by show ad1 (1 + d9) o9 = _; rw [hfA (1 + d9) o9 (by omega)]) (fun _ h9 => hfS _ h9) hDIs0)
    have hLIs : LIs kA ad1 E1 RL1 nd ml := (LIs_same (Nat.le_refl _) (fun n9 hn9 => fun2 fun o9 => by show E1 (20 + n9) o9 = _; rw [hfE (20 + n9) o9 (by omega)]) (fun n9 hn9 => fun2 fun o9 => by show ad1 (20 + n9) o9 = _; rw [hfA (20 + n9) o9 (by omega)]) (fun d9 hd9 => by show ad1 (1 + d9) 0 = _; rw [hfA (1 + d9) 0 (by omega)]) (fun _ h9 => hfS _ h9) hLIs0)
    have hmB : ∀ o, o < 10 → (0, o) ∈ RL1 := fun o9 h9 => hfS _ (hmB0 o9 h9)
    have c_405 : E1 0 0 = .inr (0, [.ref (ad1 0 1), .ref (ad1 0 5), .ref (ad1 0 7), .ref (ad1 0 9), .int (nI ml), .int lf_1]) := by rw [hfE 0 0 (by omega), hfA 0 1 (by omega), hfA 0 5 (by omega), hfA 0 7 (by omega), hfA 0 9 (by omega)]; exact c_2
    have m_406 : (0, 0) ∈ RL1 := hmB 0 (by omega)
    have c_407 : E1 0 1 = .inr (1, [.ref (ad1 0 2), .ref (ad1 0 3), .ref (ad1 0 4), .int (nI len), .int (nI wn)]) := by rw [hfE 0 1 (by omega), hfA 0 2 (by omega), hfA 0 3 (by omega), hfA 0 4 (by omega)]; exact c_5
    have m_408 : (0, 1) ∈ RL1 := hmB 1 (by omega)
    have c_409 : E1 0 2 = .inl (kA 1, 40, .inl tx_4) := by rw [hfE 0 2 (by omega)]; exact c_7
    have m_410 : (0, 2) ∈ RL1 := hmB 2 (by omega)
    have c_411 : E1 0 3 = .inl (kA 0, 20, .inl fb_4) := by rw [hfE 0 3 (by omega)]; exact c_9
    have m_412 : (0, 3) ∈ RL1 := hmB 3 (by omega)
    have c_413 : E1 0 4 = .inl (kA 0, 20, .inl fe_4) := by rw [hfE 0 4 (by omega)]; exact c_11
    have m_414 : (0, 4) ∈ RL1 := hmB 4 (by omega)
    have c_415 : E1 0 5 = .inr (2, [.ref (ad1 0 6), .int (nI nd)]) := by rw [hfE 0 5 (by omega), hfA 0 6 (by omega)]; exact c_14
    have m_416 : (0, 5) ∈ RL1 := hmB 5 (by omega)
    have c_417 : E1 0 6 = .inl (kA 4, 12, .inr (.inr (.inr (.inr fd_13)))) := by rw [hfE 0 6 (by omega)]; exact c_16
    have m_418 : (0, 6) ∈ RL1 := hmB 6 (by omega)
    have c_419 : E1 0 7 = .inr (3, [.ref (ad1 0 5), .ref (ad1 0 8), .int (nI (L.length)), .int cf_18, .ref (ad1 (20 + xp) 0)]) := by rw [hfE 0 7 (by omega), hfA 0 5 (by omega), hfA 0 8 (by omega), hfA (20 + xp) 0 (by omega)]; exact c_19
    have m_420 : (0, 7) ∈ RL1 := hmB 7 (by omega)
    have c_421 : E1 0 8 = .inl (kA 4, 12, .inr (.inr (.inr (.inr fc_18)))) := by rw [hfE 0 8 (by omega)]; exact c_21
    have m_422 : (0, 8) ∈ RL1 := hmB 8 (by omega)
    have c_423 : E1 0 9 = .inl (kA 5, 5, .inr (.inr (.inr (.inr fl_23)))) := by rw [hfE 0 9 (by omega)]; exact c_24
    have m_424 : (0, 9) ∈ RL1 := hmB 9 (by omega)
    refine lv_iload_n hx hb xd_Ch_draft_19 rfl (lv_at hl 0 rfl) ?_
    refine lv_aload_n hx hb xd_Ch_draft_20 rfl (lv_at hl 2 rfl) ?_
    refine px_get (D := D) (ci := 3) (v := .int (nI (L.length))) (C := xR_Ch) (T := xT_Ch) (N := 5) hx hb hT xi_Ch hown hK.1 hP m_420 c_419 rfl 2 (by decide) (hT _ k5w_4) (fun _ h9 => h9) rfl xd_Ch_draft_21 ?_
    refine xn_ge (a := k) (b := L.length) (tgt := 53) hx hb xd_Ch_draft_24 (by decide) (by omega) (by omega) (fun hc425 => ?_) (fun hc425 => ?_)
    · have hLI : LI kA ad1 E1 RL1 nd ml := ⟨hmz0, hmz1, pv1, 1, L.length, fm1, by omega, hpv1, hcA0, hcA1, fun j hj => hMM j (by omega)⟩
      have hkL : k = L.length := by omega
      have hTL1 : TLas g ad1 E1 nd ml := TLas_same (Nat.le_refl _) (fun n9 hn9 => fun2 fun o9 => hfE (20 + n9) o9 (by omega)) (fun d9 hd9 => hfA (1 + d9) 0 (by omega)) (fun n9 hn9 => hfA (20 + n9) 0 (by omega)) hTL
      have hCB1 : CBs g E1 ml := CBs_same (fun la o9 hla => hfE (20 + la) o9 (by omega)) hCB
      have hLKP : LKP g ml := LKP_L (by omega) hnd12 hLIs hTL1
      have hTLr : TLas (gDr g ml lq L) ad1 E1 nd (ml + 1) := TLas_gDn hLIs hTL1 hxGL hlqm (by rw [← hpx]; exact hcA0) hcA1 (fun j hj => hMX j (by omega))
      have hTDr : TDs (gDr g ml lq L) E1 nd := TDs_gDr hDIs hTD1
      have hCBr : CBs (gDr g ml lq L) E1 ml := CBs_VQ hLKP (VQ_gDr hLKP) hCB1
      have hinjr : ∀ a b, a < L.length → b < L.length → mdv (gDr g ml lq L) ml a = mdv (gDr g ml lq L) ml b → a = b := fun a b ha hb e => by rw [gDr_md hxGL hnd12 ha, gDr_md hxGL hnd12 hb] at e; exact getD_inj hxGL.2 ha hb e
      have hC0r : ∀ j, j < L.length → CN0 (gDr g ml lq L) E1 ml j := fun j hj => (CN0_DX hxGL hnd12 hj (hMX j (by omega))).1
      have hC7r : ∀ j, j < L.length → CN7 E1 ml j := fun j hj => (CN0_DX (g := g) (ad := ad1) (lq := lq) hxGL hnd12 hj (hMX j (by omega))).2
      have hLIs := LIs_add hLIs hLI
      refine lv_aload_n hx hb xd_Ch_draft_53 rfl (lv_at hl 1 rfl) ?_
      have hFc := px_free hD hS hA
      refine va_callv (va_runV (As := []) (rest := []) ⟨hx, hb, hml, hown, hT⟩ (xc_Ly_connectX l D kA H.size ad1 E1 RL1 (gDr g ml lq L) nd (ml + 1) ml pv1 1 L.length fm1 hmz0 hcA0 hmz1 hcA1 (by first | assumption | omega) (by first | assumption | omega) (by first | assumption | omega) (by first | assumption | omega) (by first | assumption | omega) (by first | assumption | omega) (fun j hj => hMM j (by omega)) hTDr hTLr hCBr hinjr hC0r hC7r) (cwV 0 hT (wT_V k5w_9 k5w_10 k5w_11 k5w_2 k5w_8) rfl rfl rfl (by decide +kernel) ⟨Nat.le_of_ble_eq_true rfl, Nat.le_of_ble_eq_true rfl⟩) (px_preV hK hP hD hmz0 hcA0 rfl) rfl rfl hl.1 rfl (lv_room (Nat.le_of_ble_eq_true rfl)) xd_Ch_draft_54 ⟨(show 2 + 8 * k + 2 ≤ 100 by omega), (show 16 + 32 * k + 24 ≤ 424 by omega)⟩) hS (fun q _ h => hFc q h) hFc (fun u427 t H1 locs ht hvm hp428 hB hz1 hk1 hS => ?_)
      obtain ⟨hP1, hD1⟩ := hB
      rw [ht] at hP1
      have hD1 := hD1.weaken (fun _ _ _ h => hFc _ h)
      generalize H1 = H at hP1 hS ⊢
      have hP := hP1
      have hD := hD1
      obtain ⟨ad429, E430, RL431⟩ := u427
      obtain ⟨hp437, p_432, p_433, p_434, p_435, p_436⟩ := hp428
      have p_432 : (∀ b2 o2, ¬ (b2 = 20 + ml) → E430 b2 o2 = E1 b2 o2) := p_432
      have p_433 : (∀ b2 o2, ¬ (b2 = 20 + ml ∧ o2 = 2) → ¬ (b2 = 20 + ml ∧ o2 = 3) → ad429 b2 o2 = ad1 b2 o2) := p_433
      have p_434 : (∀ x ∈ RL1, x ∈ RL431) := p_434
      have p_435 : (20 + ml, 2) ∈ RL431 := p_435
      have p_436 : (20 + ml, 3) ∈ RL431 := p_436
      have hl : lv_has ls 4 [(3, .int (nI k)), (2, .ref (ad429 (20 + ml) 0)), (0, .ref (ad429 0 7))] := by
        rw [p_433 (20 + ml) 0 (by omega) (by omega), p_433 0 7 (by omega) (by omega)]; exact hl
      have m_438 : (0, 0) ∈ RL431 := p_434 _ m_406
      have m_439 : (0, 1) ∈ RL431 := p_434 _ m_408
      have m_440 : (0, 2) ∈ RL431 := p_434 _ m_410
      have m_441 : (0, 3) ∈ RL431 := p_434 _ m_412
      have m_442 : (0, 4) ∈ RL431 := p_434 _ m_414
      have m_443 : (0, 5) ∈ RL431 := p_434 _ m_416
      have m_444 : (0, 6) ∈ RL431 := p_434 _ m_418
      have m_445 : (0, 7) ∈ RL431 := p_434 _ m_420
      have m_446 : (0, 8) ∈ RL431 := p_434 _ m_422
      have m_447 : (0, 9) ∈ RL431 := p_434 _ m_424
      have m_448 : (20 + ml, 0) ∈ RL431 := p_434 _ hmz0
      have m_449 : (20 + ml, 1) ∈ RL431 := p_434 _ hmz1
      have c_450 : E430 0 0 = .inr (0, [.ref (ad429 0 1), .ref (ad429 0 5), .ref (ad429 0 7), .ref (ad429 0 9), .int (nI ml), .int lf_1]) := by rw [p_432 0 0 (by omega), p_433 0 1 (by omega) (by omega), p_433 0 5 (by omega) (by omega), p_433 0 7 (by omega) (by omega), p_433 0 9 (by omega) (by omega)]; exact c_405
      have c_451 : E430 0 1 = .inr (1, [.ref (ad429 0 2), .ref (ad429 0 3), .ref (ad429 0 4), .int (nI len), .int (nI wn)]) := by rw [p_432 0 1 (by omega), p_433 0 2 (by omega) (by omega), p_433 0 3 (by omega) (by omega), p_433 0 4 (by omega) (by omega)]; exact c_407
      have c_452 : E430 0 2 = .inl (kA 1, 40, .inl tx_4) := by rw [p_432 0 2 (by omega)]; exact c_409
      have c_453 : E430 0 3 = .inl (kA 0, 20, .inl fb_4) := by rw [p_432 0 3 (by omega)]; exact c_411
      have c_454 : E430 0 4 = .inl (kA 0, 20, .inl fe_4) := by rw [p_432 0 4 (by omega)]; exact c_413
      have c_455 : E430 0 5 = .inr (2, [.ref (ad429 0 6), .int (nI nd)]) := by rw [p_432 0 5 (by omega), p_433 0 6 (by omega) (by omega)]; exact c_415
      have c_456 : E430 0 6 = .inl (kA 4, 12, .inr (.inr (.inr (.inr fd_13)))) := by rw [p_432 0 6 (by omega)]; exact c_417
      have c_457 : E430 0 7 = .inr (3, [.ref (ad429 0 5), .ref (ad429 0 8), .int (nI (L.length)), .int cf_18, .ref (ad429 (20 + xp) 0)]) := by rw [p_432 0 7 (by omega), p_433 0 5 (by omega) (by omega), p_433 0 8 (by omega) (by omega), p_433 (20 + xp) 0 (by omega) (by omega)]; exact c_419
      have c_458 : E430 0 8 = .inl (kA 4, 12, .inr (.inr (.inr (.inr fc_18)))) := by rw [p_432 0 8 (by omega)]; exact c_421
      have c_459 : E430 0 9 = .inl (kA 5, 5, .inr (.inr (.inr (.inr fl_23)))) := by rw [p_432 0 9 (by omega)]; exact c_423
      have hP : va_P D xcl (rp ad429 E430 RL431) H := hP
      have hD : va_D A (rp ad429 E430 RL431) := hD
      obtain ⟨⟨hDIs9, hLIs9⟩, hTL9, hCB9, hLB9, hRB9⟩ := hp437
      refine lv_aload_n hx hb xd_Ch_draft_57 rfl (lv_at hl 1 rfl) ?_
      refine W.widen (k := 100) (n := 424) (show 2 + 8 * k + 2 ≤ 100 by omega) (show 16 + 32 * k + 24 ≤ 424 by omega) ?_
      exact W.aret (v := .ref (ad429 (20 + ml) 0)) hx hb hr (Or.inl ⟨_, rfl⟩) (Or.inr ⟨_, rfl⟩) (fun t ht hW => ⟨⟨(some (ad429 (20 + ml) 0)), (ad429, E430, RL431), rfl, ⟨⟨⟨rfl, (show CI kA ad429 E430 RL431 ml nd len wn L.length from ⟨(fun o9 h9 => p_434 _ (hfS _ (hmB0 o9 h9))), ⟨lf_1, c_450⟩, ⟨tx_4, fb_4, fe_4, (by omega), (by omega), c_451, c_452, c_453, c_454, hws0⟩, ⟨fd_13, (by omega), c_455, c_456, (fun d9 hd9 => (hds0 d9 hd9).trans (by rw [p_433 (1 + d9) 0 (by omega) (by omega), hfA (1 + d9) 0 (by omega)]))⟩, ⟨cf_18, (.ref (ad429 (20 + xp) 0)), fc_18, (by omega), (Or.inr ⟨_, by omega, rfl⟩), c_457, c_458, (fun k9 hk9 => by obtain ⟨d8, q1, q2⟩ := hfc0 k9 hk9; exact ⟨d8, q1, q2.trans (by rw [p_433 (1 + d8) 0 (by omega) (by omega), hfA (1 + d8) 0 (by omega)])⟩)⟩, ⟨fl_23, (by omega), c_459, (fun n9 hn9 => (hla0 n9 hn9).trans (by rw [p_433 (20 + n9) 0 (by omega) (by omega), hfA (20 + n9) 0 (by omega)]))⟩, hDIs9, (fun n9 hn9 => hLIs9 n9 (by omega))⟩), (show LI kA ad429 E430 RL431 nd ml from hLIs9 ml (by omega))⟩, hTL9, hCB9, hLB9, hRB9⟩, (fun b2 o2 h09 => by show E430 b2 o2 = _; rw [p_432 b2 o2 (by omega), hfE b2 o2 (by omega)]), (fun b2 o2 h09 => by show ad429 b2 o2 = _; rw [p_433 b2 o2 (by omega) (by omega), hfA b2 o2 (by omega)]), (fun x9 hx9 => p_434 _ (hfS _ hx9))⟩, by rw [ht]; exact hP, hD⟩, hS.F ht⟩) hS.2.2 xd_Ch_draft_58
    · obtain ⟨d9, hd9e⟩ : ∃ z, z = L.getD k 0 := ⟨_, rfl⟩
      have hd9 : d9 < nd := by rw [hd9e]; exact hxGL.1 _ (getD_mem (by omega))
      have hf9 := hxfc k (by omega)
      rw [← hd9e] at hf9
      obtain ⟨hm_460, fd_460, nm_460, sd_460, k0_460, k1_460, k2_460, k3_460, f0_460, f1_460, f2_460, f3_460, fe_460, fo_460, tr_460, op_460, hk0_460, hk1_460, hk2_460, hk3_460, q0_460, q1_460, q2_460, q3_460, q4_460, q5_460, q6_460, q7_460, q8_460, q9_460, q10_460, q11_460, q12_460, hg_460⟩ := id (hDIs d9 (by omega))
      have c_461 : E1 (1 + d9) 0 = .inr (7, [.int (nI d9), .int fd_460, .int nm_460, .ref (ad1 (1 + d9) 1), .ref (ad1 (1 + d9) 9), .ref (ad1 (1 + d9) 10), .ref (ad1 (1 + d9) 2), .ref (ad1 (1 + d9) 11), .ref (ad1 (1 + d9) 12), .ref (ad1 (1 + d9) 3), .ref (ad1 (1 + d9) 4), .int sd_460]) := q0_460
      have m_462 : (1 + d9, 0) ∈ RL1 := hm_460 0 (by omega)
      have c_463 : E1 (1 + d9) 1 = .inr (8, [.ref (ad1 (1 + d9) 5), .int (nI k0_460)]) := q1_460
      have m_464 : (1 + d9, 1) ∈ RL1 := hm_460 1 (by omega)
      have c_465 : E1 (1 + d9) 2 = .inr (8, [.ref (ad1 (1 + d9) 6), .int (nI k1_460)]) := q2_460
      have m_466 : (1 + d9, 2) ∈ RL1 := hm_460 2 (by omega)
      have c_467 : E1 (1 + d9) 3 = .inr (8, [.ref (ad1 (1 + d9) 7), .int (nI k2_460)]) := q3_460
      have m_468 : (1 + d9, 3) ∈ RL1 := hm_460 3 (by omega)
      have c_469 : E1 (1 + d9) 4 = .inr (8, [.ref (ad1 (1 + d9) 8), .int (nI k3_460)]) := q4_460
      have m_470 : (1 + d9, 4) ∈ RL1 := hm_460 4 (by omega)
      have c_471 : E1 (1 + d9) 5 = .inl (kA 0, 6, .inl f0_460) := q5_460
      have m_472 : (1 + d9, 5) ∈ RL1 := hm_460 5 (by omega)
      have c_473 : E1 (1 + d9) 6 = .inl (kA 0, 5, .inl f1_460) := q6_460
      have m_474 : (1 + d9, 6) ∈ RL1 := hm_460 6 (by omega)
      have c_475 : E1 (1 + d9) 7 = .inl (kA 0, 3, .inl f2_460) := q7_460
      have m_476 : (1 + d9, 7) ∈ RL1 := hm_460 7 (by omega)
      have c_477 : E1 (1 + d9) 8 = .inl (kA 0, 3, .inl f3_460) := q8_460
      have m_478 : (1 + d9, 8) ∈ RL1 := hm_460 8 (by omega)
      have c_479 : E1 (1 + d9) 9 = .inl (kA 8, 6, .inr (.inr (.inr (.inr fe_460)))) := q9_460
      have m_480 : (1 + d9, 9) ∈ RL1 := hm_460 9 (by omega)
      have c_481 : E1 (1 + d9) 10 = .inl (kA 8, 6, .inr (.inr (.inr (.inr fo_460)))) := q10_460
      have m_482 : (1 + d9, 10) ∈ RL1 := hm_460 10 (by omega)
      have c_483 : E1 (1 + d9) 11 = .inl (kA 2, 5, .inl tr_460) := q11_460
      have m_484 : (1 + d9, 11) ∈ RL1 := hm_460 11 (by omega)
      have c_485 : E1 (1 + d9) 12 = .inl (kA 2, 5, .inl op_460) := q12_460
      have m_486 : (1 + d9, 12) ∈ RL1 := hm_460 12 (by omega)
      have hg_460 : ∀ w9, w9 < k0_460 → fe_460 w9 = some (ad1 (1 + d9) (20 + 3 * w9)) ∧ fo_460 w9 = some (ad1 (1 + d9) (38 + 3 * w9)) ∧ GI kA (ad1 (1 + d9)) (E1 (1 + d9)) (fun o => (1 + d9, o) ∈ RL1) (20 + 3 * w9) (21 + 3 * w9) (22 + 3 * w9) ∧ GI kA (ad1 (1 + d9)) (E1 (1 + d9)) (fun o => (1 + d9, o) ∈ RL1) (38 + 3 * w9) (39 + 3 * w9) (40 + 3 * w9) := hg_460
      obtain ⟨hTT_460, tgr_460⟩ := TD_get hk0_460 hk1_460 hk2_460 hk3_460 c_461 c_463 c_465 c_467 c_469 c_471 c_473 c_475 c_477 c_483 c_485 (hTD1 d9 (by omega))
      obtain ⟨tfd_460, tnm_460, tsd_460, tk0_460, tf0_460, tk1_460, tf1_460, tk2_460, tk3_460⟩ := id hTT_460
      have ik0_460 : iN (g 5 d9) = k0_460 := by rw [← tk0_460, iN_nI (by omega)]
      have ik1_460 : iN (g 12 d9) = k1_460 := by rw [← tk1_460, iN_nI (by omega)]
      refine lv_aload_n hx hb xd_Ch_draft_27 rfl (lv_at hl 1 rfl) ?_
      refine px_get (D := D) (ci := 5) (v := .ref (ad1 (20 + ml) 1)) (C := xR_Ly) (T := xT_Ly) (N := 4) hx hb hT xi_Ly hown hK.1 hP hmz0 hcA0 rfl 2 (by decide) (hT _ k5w_12) (fun _ h9 => h9) rfl xd_Ch_draft_28 ?_
      refine lv_iload_n hx hb xd_Ch_draft_31 rfl (lv_at hl 0 rfl) ?_
      refine px_new (ci := 6) (fs := [.null, .null, .null, .null, .null, .null]) (C := xR_Me) (T := xT_Me) (N := 6) (20 + ml) (10 + 10 * k) hx hb hT xi_Me xt_Me xt_Me_ok hown (hT _ k5w_13) (hT _ k5w_14) (hT _ k5w_15) hK.1 hP hD hS hA rfl (by decide +kernel) (show 2 + 8 * k + 1 ≤ 100 by omega) (show 16 + 32 * k + 6 ≤ 424 by omega) xd_Ch_draft_32 (fun ad487 E488 RL489 H hA1 hE1 hs1 hm1 hP hD hS => ?_)
      have fE490 : ∀ b2 o2, ¬ (b2 = 20 + ml ∧ o2 = 10 + 10 * k) → E488 b2 o2 = E1 b2 o2 := fun b2 o2 h9 => by rw [hE1]; exact up2_ne (by omega)
      have fA491 : ∀ b2 o2, ¬ (b2 = 20 + ml ∧ o2 = 10 + 10 * k) → ad487 b2 o2 = ad1 b2 o2 := fun b2 o2 h9 => by rw [hA1]; exact up2_ne (by omega)
      have hs492 := hs1
      refine W.eq (g2 := F0 m _ ls [.ref (ad487 (20 + ml) (10 + 10 * k)), .int (nI k), .ref (ad487 (20 + ml) 1)]) (by rw [fA491 (20 + ml) 1 (by omega)]) ?_
      have c_493 : E488 (20 + ml) (10 + 10 * k) = .inr (6, [.null, .null, .null, .null, .null, .null]) := by rw [hE1]; exact up2_eq
      have hl : lv_has ls 4 [(3, .int (nI k)), (2, .ref (ad487 (20 + ml) 0)), (0, .ref (ad487 0 7))] := by
        rw [fA491 (20 + ml) 0 (by omega), fA491 0 7 (by omega)]; exact hl
      have m_495 : (0, 0) ∈ RL489 := hs492 _ m_406
      have m_496 : (0, 1) ∈ RL489 := hs492 _ m_408
      have m_497 : (0, 2) ∈ RL489 := hs492 _ m_410
      have m_498 : (0, 3) ∈ RL489 := hs492 _ m_412
      have m_499 : (0, 4) ∈ RL489 := hs492 _ m_414
      have m_500 : (0, 5) ∈ RL489 := hs492 _ m_416
      have m_501 : (0, 6) ∈ RL489 := hs492 _ m_418
      have m_502 : (0, 7) ∈ RL489 := hs492 _ m_420
      have m_503 : (0, 8) ∈ RL489 := hs492 _ m_422
      have m_504 : (0, 9) ∈ RL489 := hs492 _ m_424
      have m_505 : (20 + ml, 0) ∈ RL489 := hs492 _ hmz0
      have m_506 : (20 + ml, 1) ∈ RL489 := hs492 _ hmz1
      have m_507 : (1 + d9, 0) ∈ RL489 := hs492 _ m_462
      have m_508 : (1 + d9, 1) ∈ RL489 := hs492 _ m_464
      have m_509 : (1 + d9, 2) ∈ RL489 := hs492 _ m_466
      have m_510 : (1 + d9, 3) ∈ RL489 := hs492 _ m_468
      have m_511 : (1 + d9, 4) ∈ RL489 := hs492 _ m_470
      have m_512 : (1 + d9, 5) ∈ RL489 := hs492 _ m_472
      have m_513 : (1 + d9, 6) ∈ RL489 := hs492 _ m_474
      have m_514 : (1 + d9, 7) ∈ RL489 := hs492 _ m_476
      have m_515 : (1 + d9, 8) ∈ RL489 := hs492 _ m_478
      have m_516 : (1 + d9, 9) ∈ RL489 := hs492 _ m_480
      have m_517 : (1 + d9, 10) ∈ RL489 := hs492 _ m_482
      have m_518 : (1 + d9, 11) ∈ RL489 := hs492 _ m_484
      have m_519 : (1 + d9, 12) ∈ RL489 := hs492 _ m_486
      have c_520 : E488 0 0 = .inr (0, [.ref (ad487 0 1), .ref (ad487 0 5), .ref (ad487 0 7), .ref (ad487 0 9), .int (nI ml), .int lf_1]) := by rw [fE490 0 0 (by omega), fA491 0 1 (by omega), fA491 0 5 (by omega), fA491 0 7 (by omega), fA491 0 9 (by omega)]; exact c_405
      have c_521 : E488 0 1 = .inr (1, [.ref (ad487 0 2), .ref (ad487 0 3), .ref (ad487 0 4), .int (nI len), .int (nI wn)]) := by rw [fE490 0 1 (by omega), fA491 0 2 (by omega), fA491 0 3 (by omega), fA491 0 4 (by omega)]; exact c_407
      have c_522 : E488 0 2 = .inl (kA 1, 40, .inl tx_4) := by rw [fE490 0 2 (by omega)]; exact c_409
      have c_523 : E488 0 3 = .inl (kA 0, 20, .inl fb_4) := by rw [fE490 0 3 (by omega)]; exact c_411
      have c_524 : E488 0 4 = .inl (kA 0, 20, .inl fe_4) := by rw [fE490 0 4 (by omega)]; exact c_413
      have c_525 : E488 0 5 = .inr (2, [.ref (ad487 0 6), .int (nI nd)]) := by rw [fE490 0 5 (by omega), fA491 0 6 (by omega)]; exact c_415
      have c_526 : E488 0 6 = .inl (kA 4, 12, .inr (.inr (.inr (.inr fd_13)))) := by rw [fE490 0 6 (by omega)]; exact c_417
      have c_527 : E488 0 7 = .inr (3, [.ref (ad487 0 5), .ref (ad487 0 8), .int (nI (L.length)), .int cf_18, .ref (ad487 (20 + xp) 0)]) := by rw [fE490 0 7 (by omega), fA491 0 5 (by omega), fA491 0 8 (by omega), fA491 (20 + xp) 0 (by omega)]; exact c_419
      have c_528 : E488 0 8 = .inl (kA 4, 12, .inr (.inr (.inr (.inr fc_18)))) := by rw [fE490 0 8 (by omega)]; exact c_421
      have c_529 : E488 0 9 = .inl (kA 5, 5, .inr (.inr (.inr (.inr fl_23)))) := by rw [fE490 0 9 (by omega)]; exact c_423
      have c_530 : E488 (20 + ml) 0 = .inr (5, [.int (nI ml), pv1, .ref (ad487 (20 + ml) 1), .int 1]) := by rw [fE490 (20 + ml) 0 (by omega), fA491 (20 + ml) 1 (by omega)]; exact hcA0
      have c_531 : E488 (20 + ml) 1 = .inl (kA 6, L.length, .inr (.inr (.inr (.inr fm1)))) := by rw [fE490 (20 + ml) 1 (by omega)]; exact hcA1
      have c_532 : E488 (1 + d9) 0 = .inr (7, [.int (nI d9), .int fd_460, .int nm_460, .ref (ad487 (1 + d9) 1), .ref (ad487 (1 + d9) 9), .ref (ad487 (1 + d9) 10), .ref (ad487 (1 + d9) 2), .ref (ad487 (1 + d9) 11), .ref (ad487 (1 + d9) 12), .ref (ad487 (1 + d9) 3), .ref (ad487 (1 + d9) 4), .int sd_460]) := by rw [fE490 (1 + d9) 0 (by omega), fA491 (1 + d9) 1 (by omega), fA491 (1 + d9) 9 (by omega), fA491 (1 + d9) 10 (by omega), fA491 (1 + d9) 2 (by omega), fA491 (1 + d9) 11 (by omega), fA491 (1 + d9) 12 (by omega), fA491 (1 + d9) 3 (by omega), fA491 (1 + d9) 4 (by omega)]; exact c_461
      have c_533 : E488 (1 + d9) 1 = .inr (8, [.ref (ad487 (1 + d9) 5), .int (nI k0_460)]) := by rw [fE490 (1 + d9) 1 (by omega), fA491 (1 + d9) 5 (by omega)]; exact c_463
      have c_534 : E488 (1 + d9) 2 = .inr (8, [.ref (ad487 (1 + d9) 6), .int (nI k1_460)]) := by rw [fE490 (1 + d9) 2 (by omega), fA491 (1 + d9) 6 (by omega)]; exact c_465
      have c_535 : E488 (1 + d9) 3 = .inr (8, [.ref (ad487 (1 + d9) 7), .int (nI k2_460)]) := by rw [fE490 (1 + d9) 3 (by omega), fA491 (1 + d9) 7 (by omega)]; exact c_467
      have c_536 : E488 (1 + d9) 4 = .inr (8, [.ref (ad487 (1 + d9) 8), .int (nI k3_460)]) := by rw [fE490 (1 + d9) 4 (by omega), fA491 (1 + d9) 8 (by omega)]; exact c_469
      have c_537 : E488 (1 + d9) 5 = .inl (kA 0, 6, .inl f0_460) := by rw [fE490 (1 + d9) 5 (by omega)]; exact c_471
      have c_538 : E488 (1 + d9) 6 = .inl (kA 0, 5, .inl f1_460) := by rw [fE490 (1 + d9) 6 (by omega)]; exact c_473
      have c_539 : E488 (1 + d9) 7 = .inl (kA 0, 3, .inl f2_460) := by rw [fE490 (1 + d9) 7 (by omega)]; exact c_475
      have c_540 : E488 (1 + d9) 8 = .inl (kA 0, 3, .inl f3_460) := by rw [fE490 (1 + d9) 8 (by omega)]; exact c_477
      have c_541 : E488 (1 + d9) 9 = .inl (kA 8, 6, .inr (.inr (.inr (.inr fe_460)))) := by rw [fE490 (1 + d9) 9 (by omega)]; exact c_479
      have c_542 : E488 (1 + d9) 10 = .inl (kA 8, 6, .inr (.inr (.inr (.inr fo_460)))) := by rw [fE490 (1 + d9) 10 (by omega)]; exact c_481
      have c_543 : E488 (1 + d9) 11 = .inl (kA 2, 5, .inl tr_460) := by rw [fE490 (1 + d9) 11 (by omega)]; exact c_483
      have c_544 : E488 (1 + d9) 12 = .inl (kA 2, 5, .inl op_460) := by rw [fE490 (1 + d9) 12 (by omega)]; exact c_485
      have m_494 : (20 + ml, 10 + 10 * k) ∈ RL489 := hm1
      have hP : va_P D xcl (rp ad487 E488 RL489) H := hP
      have hD : va_D A (rp ad487 E488 RL489) := hD
      refine lv_dup hx hb xd_Ch_draft_35 rfl ?_
      refine lv_aload_n hx hb xd_Ch_draft_36 rfl (lv_at hl 1 rfl) ?_
      refine lv_aload_n hx hb xd_Ch_draft_37 rfl (lv_at hl 2 rfl) ?_
      refine px_get (D := D) (ci := 3) (v := .ref (ad487 0 8)) (C := xR_Ch) (T := xT_Ch) (N := 5) hx hb hT xi_Ch hown hK.1 hP m_502 c_527 rfl 1 (by decide) (hT _ k5w_16) (fun _ h9 => h9) rfl xd_Ch_draft_38 ?_
      refine lv_iload_n hx hb xd_Ch_draft_41 rfl (lv_at hl 0 rfl) ?_
      refine px_aald (i := k) (x := (some (ad487 (1 + d9) 0))) hx hb hK.1 hP m_503 c_528 4 rfl ((hf9.trans (by rw [fA491 (1 + d9) 0 (by omega), hfA (1 + d9) 0 (by omega)]))) (by omega) (by decide) xd_Ch_draft_42 ?_
      have hFc := px_free hD hS hA
      refine va_callv (va_runI (As := [.ref (ad487 (20 + ml) 0), .ref (ad487 (1 + d9) 0)]) (rest := [.ref (ad487 (20 + ml) (10 + 10 * k)), .int (nI k), .ref (ad487 (20 + ml) 1)]) ⟨hx, hb, hml, hown, hT⟩ (xc_Me_init l D kA H.size ad487 E488 RL489 ml k d9 fd_460 nm_460 sd_460 k1_460 m_494 c_493 m_507 c_532 m_509 c_534 (by omega) (by first | assumption | omega)) (cwI 2 hT (wT_I k5w_17) rfl rfl rfl (hT _ k5w_15) (hT _ k5w_18) (hT _ k5w_19) rfl (by decide +kernel) ⟨Nat.le_of_ble_eq_true rfl, Nat.le_of_ble_eq_true rfl⟩) (x_preS hK hP hD) rfl rfl hl.1 rfl (lv_room (Nat.le_of_ble_eq_true rfl)) xd_Ch_draft_43 ⟨(show 2 + 8 * k + 1 + 7 ≤ 100 by omega), (show 16 + 32 * k + 6 + 26 ≤ 424 by omega)⟩) hS (fun q _ h => hFc q h) hFc (fun u546 t H1 locs ht hvm hp547 hB hz1 hk1 hS => ?_)
      obtain ⟨hP1, hD1⟩ := hB
      rw [ht] at hP1
      have hD1 := hD1.weaken (fun _ _ _ h => hFc _ h)
      generalize H1 = H at hP1 hS ⊢
      have hP := hP1
      have hD := hD1
      obtain ⟨ad548, E549, RL550⟩ := u546
      obtain ⟨hp569, p_551, p_552, p_553, p_554, p_555, p_556, p_557, p_558, p_559, p_560, p_561, p_562, p_563, p_564, p_565, p_566, p_567, p_568⟩ := hp547
      have p_551 : E549 (20 + ml) (10 + 10 * k) = .inr (6, [.ref (ad548 (20 + ml) 0), .ref (ad548 (1 + d9) 0), .ref (ad548 (20 + ml) (11 + 10 * k)), .ref (ad548 (20 + ml) (12 + 10 * k)), .ref (ad548 (20 + ml) (13 + 10 * k)), .ref (ad548 (20 + ml) (14 + 10 * k))]) := p_551
      have p_552 : E549 (20 + ml) (11 + 10 * k) = .inl (kA 6, k1_460, .inr (.inr (.inr (.inr (fun _ => none))))) := p_552
      have p_553 : E549 (20 + ml) (12 + 10 * k) = .inr (10, [.ref (ad548 (20 + ml) (15 + 10 * k))]) := p_553
      have p_554 : E549 (20 + ml) (13 + 10 * k) = .inr (10, [.ref (ad548 (20 + ml) (16 + 10 * k))]) := p_554
      have p_555 : E549 (20 + ml) (14 + 10 * k) = .inr (10, [.ref (ad548 (20 + ml) (17 + 10 * k))]) := p_555
      have p_556 : E549 (20 + ml) (15 + 10 * k) = .inl (kA 0, 6, .inl (fun _ => 0)) := p_556
      have p_557 : E549 (20 + ml) (16 + 10 * k) = .inl (kA 0, 6, .inl (fun _ => 0)) := p_557
      have p_558 : E549 (20 + ml) (17 + 10 * k) = .inl (kA 0, 6, .inl (fun _ => 0)) := p_558
      have p_559 : (∀ b2 o2, ¬ (b2 = 20 + ml ∧ o2 = 10 + 10 * k) → ¬ (b2 = 20 + ml ∧ o2 = 11 + 10 * k) → ¬ (b2 = 20 + ml ∧ o2 = 12 + 10 * k) → ¬ (b2 = 20 + ml ∧ o2 = 13 + 10 * k) → ¬ (b2 = 20 + ml ∧ o2 = 14 + 10 * k) → ¬ (b2 = 20 + ml ∧ o2 = 15 + 10 * k) → ¬ (b2 = 20 + ml ∧ o2 = 16 + 10 * k) → ¬ (b2 = 20 + ml ∧ o2 = 17 + 10 * k) → E549 b2 o2 = E488 b2 o2) := p_559
      have p_560 : (∀ b2 o2, ¬ (b2 = 20 + ml ∧ o2 = 11 + 10 * k) → ¬ (b2 = 20 + ml ∧ o2 = 12 + 10 * k) → ¬ (b2 = 20 + ml ∧ o2 = 13 + 10 * k) → ¬ (b2 = 20 + ml ∧ o2 = 14 + 10 * k) → ¬ (b2 = 20 + ml ∧ o2 = 15 + 10 * k) → ¬ (b2 = 20 + ml ∧ o2 = 16 + 10 * k) → ¬ (b2 = 20 + ml ∧ o2 = 17 + 10 * k) → ad548 b2 o2 = ad487 b2 o2) := p_560
      have p_561 : (∀ x ∈ RL489, x ∈ RL550) := p_561
      have p_562 : (20 + ml, 11 + 10 * k) ∈ RL550 := p_562
      have p_563 : (20 + ml, 12 + 10 * k) ∈ RL550 := p_563
      have p_564 : (20 + ml, 13 + 10 * k) ∈ RL550 := p_564
      have p_565 : (20 + ml, 14 + 10 * k) ∈ RL550 := p_565
      have p_566 : (20 + ml, 15 + 10 * k) ∈ RL550 := p_566
      have p_567 : (20 + ml, 16 + 10 * k) ∈ RL550 := p_567
      have p_568 : (20 + ml, 17 + 10 * k) ∈ RL550 := p_568
      refine W.eq (g2 := F0 m 46 ls [.ref (ad548 (20 + ml) (10 + 10 * k)), .int (nI k), .ref (ad548 (20 + ml) 1)]) (by rw [p_560 (20 + ml) (10 + 10 * k) (by omega) (by omega) (by omega) (by omega) (by omega) (by omega) (by omega), p_560 (20 + ml) 1 (by omega) (by omega) (by omega) (by omega) (by omega) (by omega) (by omega)]) ?_
      have hl : lv_has ls 4 [(3, .int (nI k)), (2, .ref (ad548 (20 + ml) 0)), (0, .ref (ad548 0 7))] := by
        rw [p_560 (20 + ml) 0 (by omega) (by omega) (by omega) (by omega) (by omega) (by omega) (by omega), p_560 0 7 (by omega) (by omega) (by omega) (by omega) (by omega) (by omega) (by omega)]; exact hl
      have m_570 : (0, 0) ∈ RL550 := p_561 _ m_495
      have m_571 : (0, 1) ∈ RL550 := p_561 _ m_496
      have m_572 : (0, 2) ∈ RL550 := p_561 _ m_497
      have m_573 : (0, 3) ∈ RL550 := p_561 _ m_498
      have m_574 : (0, 4) ∈ RL550 := p_561 _ m_499
      have m_575 : (0, 5) ∈ RL550 := p_561 _ m_500
      have m_576 : (0, 6) ∈ RL550 := p_561 _ m_501
      have m_577 : (0, 7) ∈ RL550 := p_561 _ m_502
      have m_578 : (0, 8) ∈ RL550 := p_561 _ m_503
      have m_579 : (0, 9) ∈ RL550 := p_561 _ m_504
      have m_580 : (20 + ml, 0) ∈ RL550 := p_561 _ m_505
      have m_581 : (20 + ml, 1) ∈ RL550 := p_561 _ m_506
      have m_582 : (1 + d9, 0) ∈ RL550 := p_561 _ m_507
      have m_583 : (1 + d9, 1) ∈ RL550 := p_561 _ m_508
      have m_584 : (1 + d9, 2) ∈ RL550 := p_561 _ m_509
      have m_585 : (1 + d9, 3) ∈ RL550 := p_561 _ m_510
      have m_586 : (1 + d9, 4) ∈ RL550 := p_561 _ m_511
      have m_587 : (1 + d9, 5) ∈ RL550 := p_561 _ m_512
      have m_588 : (1 + d9, 6) ∈ RL550 := p_561 _ m_513
      have m_589 : (1 + d9, 7) ∈ RL550 := p_561 _ m_514
      have m_590 : (1 + d9, 8) ∈ RL550 := p_561 _ m_515
      have m_591 : (1 + d9, 9) ∈ RL550 := p_561 _ m_516
      have m_592 : (1 + d9, 10) ∈ RL550 := p_561 _ m_517
      have m_593 : (1 + d9, 11) ∈ RL550 := p_561 _ m_518
      have m_594 : (1 + d9, 12) ∈ RL550 := p_561 _ m_519
      have m_595 : (20 + ml, 10 + 10 * k) ∈ RL550 := p_561 _ m_494
      have c_596 : E549 0 0 = .inr (0, [.ref (ad548 0 1), .ref (ad548 0 5), .ref (ad548 0 7), .ref (ad548 0 9), .int (nI ml), .int lf_1]) := by rw [p_559 0 0 (by omega) (by omega) (by omega) (by omega) (by omega) (by omega) (by omega) (by omega), p_560 0 1 (by omega) (by omega) (by omega) (by omega) (by omega) (by omega) (by omega), p_560 0 5 (by omega) (by omega) (by omega) (by omega) (by omega) (by omega) (by omega), p_560 0 7 (by omega) (by omega) (by omega) (by omega) (by omega) (by omega) (by omega), p_560 0 9 (by omega) (by omega) (by omega) (by omega) (by omega) (by omega) (by omega)]; exact c_520
      have c_597 : E549 0 1 = .inr (1, [.ref (ad548 0 2), .ref (ad548 0 3), .ref (ad548 0 4), .int (nI len), .int (nI wn)]) := by rw [p_559 0 1 (by omega) (by omega) (by omega) (by omega) (by omega) (by omega) (by omega) (by omega), p_560 0 2 (by omega) (by omega) (by omega) (by omega) (by omega) (by omega) (by omega), p_560 0 3 (by omega) (by omega) (by omega) (by omega) (by omega) (by omega) (by omega), p_560 0 4 (by omega) (by omega) (by omega) (by omega) (by omega) (by omega) (by omega)]; exact c_521
      have c_598 : E549 0 2 = .inl (kA 1, 40, .inl tx_4) := by rw [p_559 0 2 (by omega) (by omega) (by omega) (by omega) (by omega) (by omega) (by omega) (by omega)]; exact c_522
      have c_599 : E549 0 3 = .inl (kA 0, 20, .inl fb_4) := by rw [p_559 0 3 (by omega) (by omega) (by omega) (by omega) (by omega) (by omega) (by omega) (by omega)]; exact c_523
      have c_600 : E549 0 4 = .inl (kA 0, 20, .inl fe_4) := by rw [p_559 0 4 (by omega) (by omega) (by omega) (by omega) (by omega) (by omega) (by omega) (by omega)]; exact c_524
      have c_601 : E549 0 5 = .inr (2, [.ref (ad548 0 6), .int (nI nd)]) := by rw [p_559 0 5 (by omega) (by omega) (by omega) (by omega) (by omega) (by omega) (by omega) (by omega), p_560 0 6 (by omega) (by omega) (by omega) (by omega) (by omega) (by omega) (by omega)]; exact c_525
      have c_602 : E549 0 6 = .inl (kA 4, 12, .inr (.inr (.inr (.inr fd_13)))) := by rw [p_559 0 6 (by omega) (by omega) (by omega) (by omega) (by omega) (by omega) (by omega) (by omega)]; exact c_526
      have c_603 : E549 0 7 = .inr (3, [.ref (ad548 0 5), .ref (ad548 0 8), .int (nI (L.length)), .int cf_18, .ref (ad548 (20 + xp) 0)]) := by rw [p_559 0 7 (by omega) (by omega) (by omega) (by omega) (by omega) (by omega) (by omega) (by omega), p_560 0 5 (by omega) (by omega) (by omega) (by omega) (by omega) (by omega) (by omega), p_560 0 8 (by omega) (by omega) (by omega) (by omega) (by omega) (by omega) (by omega), p_560 (20 + xp) 0 (by omega) (by omega) (by omega) (by omega) (by omega) (by omega) (by omega)]; exact c_527
      have c_604 : E549 0 8 = .inl (kA 4, 12, .inr (.inr (.inr (.inr fc_18)))) := by rw [p_559 0 8 (by omega) (by omega) (by omega) (by omega) (by omega) (by omega) (by omega) (by omega)]; exact c_528
      have c_605 : E549 0 9 = .inl (kA 5, 5, .inr (.inr (.inr (.inr fl_23)))) := by rw [p_559 0 9 (by omega) (by omega) (by omega) (by omega) (by omega) (by omega) (by omega) (by omega)]; exact c_529
      have c_606 : E549 (20 + ml) 0 = .inr (5, [.int (nI ml), pv1, .ref (ad548 (20 + ml) 1), .int 1]) := by rw [p_559 (20 + ml) 0 (by omega) (by omega) (by omega) (by omega) (by omega) (by omega) (by omega) (by omega), p_560 (20 + ml) 1 (by omega) (by omega) (by omega) (by omega) (by omega) (by omega) (by omega)]; exact c_530
      have c_607 : E549 (20 + ml) 1 = .inl (kA 6, L.length, .inr (.inr (.inr (.inr fm1)))) := by rw [p_559 (20 + ml) 1 (by omega) (by omega) (by omega) (by omega) (by omega) (by omega) (by omega) (by omega)]; exact c_531
      have c_608 : E549 (1 + d9) 0 = .inr (7, [.int (nI d9), .int fd_460, .int nm_460, .ref (ad548 (1 + d9) 1), .ref (ad548 (1 + d9) 9), .ref (ad548 (1 + d9) 10), .ref (ad548 (1 + d9) 2), .ref (ad548 (1 + d9) 11), .ref (ad548 (1 + d9) 12), .ref (ad548 (1 + d9) 3), .ref (ad548 (1 + d9) 4), .int sd_460]) := by rw [p_559 (1 + d9) 0 (by omega) (by omega) (by omega) (by omega) (by omega) (by omega) (by omega) (by omega), p_560 (1 + d9) 1 (by omega) (by omega) (by omega) (by omega) (by omega) (by omega) (by omega), p_560 (1 + d9) 9 (by omega) (by omega) (by omega) (by omega) (by omega) (by omega) (by omega), p_560 (1 + d9) 10 (by omega) (by omega) (by omega) (by omega) (by omega) (by omega) (by omega), p_560 (1 + d9) 2 (by omega) (by omega) (by omega) (by omega) (by omega) (by omega) (by omega), p_560 (1 + d9) 11 (by omega) (by omega) (by omega) (by omega) (by omega) (by omega) (by omega), p_560 (1 + d9) 12 (by omega) (by omega) (by omega) (by omega) (by omega) (by omega) (by omega), p_560 (1 + d9) 3 (by omega) (by omega) (by omega) (by omega) (by omega) (by omega) (by omega), p_560 (1 + d9) 4 (by omega) (by omega) (by omega) (by omega) (by omega) (by omega) (by omega)]; exact c_532
      have c_609 : E549 (1 + d9) 1 = .inr (8, [.ref (ad548 (1 + d9) 5), .int (nI k0_460)]) := by rw [p_559 (1 + d9) 1 (by omega) (by omega) (by omega) (by omega) (by omega) (by omega) (by omega) (by omega), p_560 (1 + d9) 5 (by omega) (by omega) (by omega) (by omega) (by omega) (by omega) (by omega)]; exact c_533
      have c_610 : E549 (1 + d9) 2 = .inr (8, [.ref (ad548 (1 + d9) 6), .int (nI k1_460)]) := by rw [p_559 (1 + d9) 2 (by omega) (by omega) (by omega) (by omega) (by omega) (by omega) (by omega) (by omega), p_560 (1 + d9) 6 (by omega) (by omega) (by omega) (by omega) (by omega) (by omega) (by omega)]; exact c_534
      have c_611 : E549 (1 + d9) 3 = .inr (8, [.ref (ad548 (1 + d9) 7), .int (nI k2_460)]) := by rw [p_559 (1 + d9) 3 (by omega) (by omega) (by omega) (by omega) (by omega) (by omega) (by omega) (by omega), p_560 (1 + d9) 7 (by omega) (by omega) (by omega) (by omega) (by omega) (by omega) (by omega)]; exact c_535
      have c_612 : E549 (1 + d9) 4 = .inr (8, [.ref (ad548 (1 + d9) 8), .int (nI k3_460)]) := by rw [p_559 (1 + d9) 4 (by omega) (by omega) (by omega) (by omega) (by omega) (by omega) (by omega) (by omega), p_560 (1 + d9) 8 (by omega) (by omega) (by omega) (by omega) (by omega) (by omega) (by omega)]; exact c_536
      have c_613 : E549 (1 + d9) 5 = .inl (kA 0, 6, .inl f0_460) := by rw [p_559 (1 + d9) 5 (by omega) (by omega) (by omega) (by omega) (by omega) (by omega) (by omega) (by omega)]; exact c_537
      have c_614 : E549 (1 + d9) 6 = .inl (kA 0, 5, .inl f1_460) := by rw [p_559 (1 + d9) 6 (by omega) (by omega) (by omega) (by omega) (by omega) (by omega) (by omega) (by omega)]; exact c_538
      have c_615 : E549 (1 + d9) 7 = .inl (kA 0, 3, .inl f2_460) := by rw [p_559 (1 + d9) 7 (by omega) (by omega) (by omega) (by omega) (by omega) (by omega) (by omega) (by omega)]; exact c_539
      have c_616 : E549 (1 + d9) 8 = .inl (kA 0, 3, .inl f3_460) := by rw [p_559 (1 + d9) 8 (by omega) (by omega) (by omega) (by omega) (by omega) (by omega) (by omega) (by omega)]; exact c_540
      have c_617 : E549 (1 + d9) 9 = .inl (kA 8, 6, .inr (.inr (.inr (.inr fe_460)))) := by rw [p_559 (1 + d9) 9 (by omega) (by omega) (by omega) (by omega) (by omega) (by omega) (by omega) (by omega)]; exact c_541
      have c_618 : E549 (1 + d9) 10 = .inl (kA 8, 6, .inr (.inr (.inr (.inr fo_460)))) := by rw [p_559 (1 + d9) 10 (by omega) (by omega) (by omega) (by omega) (by omega) (by omega) (by omega) (by omega)]; exact c_542
      have c_619 : E549 (1 + d9) 11 = .inl (kA 2, 5, .inl tr_460) := by rw [p_559 (1 + d9) 11 (by omega) (by omega) (by omega) (by omega) (by omega) (by omega) (by omega) (by omega)]; exact c_543
      have c_620 : E549 (1 + d9) 12 = .inl (kA 2, 5, .inl op_460) := by rw [p_559 (1 + d9) 12 (by omega) (by omega) (by omega) (by omega) (by omega) (by omega) (by omega) (by omega)]; exact c_544
      have hP : va_P D xcl (rp ad548 E549 RL550) H := hP
      have hD : va_D A (rp ad548 E549 RL550) := hD
      refine px_aast (i := k) (r := (xR_Me, xT_Me, 6)) hx hb hK.1 hP hD hS m_581 c_607 6 rfl m_595 p_551 rfl (by omega) (by omega) xd_Ch_draft_46 (fun H locs hP hD hS => ?_)
      have hP : va_P D xcl (rp ad548 (up2 E549 (20 + ml) 1 (.inl (kA 6, L.length, .inr (.inr (.inr (.inr (va_up fm1 k (some (ad548 (20 + ml) (10 + 10 * k)))))))))) RL550) H := hP
      have hD : va_D A (rp ad548 (up2 E549 (20 + ml) 1 (.inl (kA 6, L.length, .inr (.inr (.inr (.inr (va_up fm1 k (some (ad548 (20 + ml) (10 + 10 * k)))))))))) RL550) := hD
      generalize hE622 : up2 E549 (20 + ml) 1 (.inl (kA 6, L.length, .inr (.inr (.inr (.inr (va_up fm1 k (some (ad548 (20 + ml) (10 + 10 * k))))))))) = E621 at hP hD
      have fE623 : ∀ b2 o2, ¬ (b2 = 20 + ml ∧ o2 = 1) → E621 b2 o2 = E549 b2 o2 := fun b2 o2 h9 => by rw [← hE622]; exact up2_ne (by omega)
      have c_624 : E621 (20 + ml) 1 = .inl (kA 6, L.length, .inr (.inr (.inr (.inr (va_up fm1 k (some (ad548 (20 + ml) (10 + 10 * k)))))))) := by rw [← hE622]; exact up2_eq
      have c_625 : E621 (20 + ml) (10 + 10 * k) = .inr (6, [.ref (ad548 (20 + ml) 0), .ref (ad548 (1 + d9) 0), .ref (ad548 (20 + ml) (11 + 10 * k)), .ref (ad548 (20 + ml) (12 + 10 * k)), .ref (ad548 (20 + ml) (13 + 10 * k)), .ref (ad548 (20 + ml) (14 + 10 * k))]) := (fE623 (20 + ml) (10 + 10 * k) (by omega)).trans p_551
      have c_626 : E621 (20 + ml) (11 + 10 * k) = .inl (kA 6, k1_460, .inr (.inr (.inr (.inr (fun _ => none))))) := (fE623 (20 + ml) (11 + 10 * k) (by omega)).trans p_552
      have c_627 : E621 (20 + ml) (12 + 10 * k) = .inr (10, [.ref (ad548 (20 + ml) (15 + 10 * k))]) := (fE623 (20 + ml) (12 + 10 * k) (by omega)).trans p_553
      have c_628 : E621 (20 + ml) (13 + 10 * k) = .inr (10, [.ref (ad548 (20 + ml) (16 + 10 * k))]) := (fE623 (20 + ml) (13 + 10 * k) (by omega)).trans p_554
      have c_629 : E621 (20 + ml) (14 + 10 * k) = .inr (10, [.ref (ad548 (20 + ml) (17 + 10 * k))]) := (fE623 (20 + ml) (14 + 10 * k) (by omega)).trans p_555
      have c_630 : E621 (20 + ml) (15 + 10 * k) = .inl (kA 0, 6, .inl (fun _ => 0)) := (fE623 (20 + ml) (15 + 10 * k) (by omega)).trans p_556
      have c_631 : E621 (20 + ml) (16 + 10 * k) = .inl (kA 0, 6, .inl (fun _ => 0)) := (fE623 (20 + ml) (16 + 10 * k) (by omega)).trans p_557
      have c_632 : E621 (20 + ml) (17 + 10 * k) = .inl (kA 0, 6, .inl (fun _ => 0)) := (fE623 (20 + ml) (17 + 10 * k) (by omega)).trans p_558
      have c_633 : E621 0 0 = .inr (0, [.ref (ad548 0 1), .ref (ad548 0 5), .ref (ad548 0 7), .ref (ad548 0 9), .int (nI ml), .int lf_1]) := (fE623 0 0 (by omega)).trans c_596
      have c_634 : E621 0 1 = .inr (1, [.ref (ad548 0 2), .ref (ad548 0 3), .ref (ad548 0 4), .int (nI len), .int (nI wn)]) := (fE623 0 1 (by omega)).trans c_597
      have c_635 : E621 0 2 = .inl (kA 1, 40, .inl tx_4) := (fE623 0 2 (by omega)).trans c_598
      have c_636 : E621 0 3 = .inl (kA 0, 20, .inl fb_4) := (fE623 0 3 (by omega)).trans c_599
      have c_637 : E621 0 4 = .inl (kA 0, 20, .inl fe_4) := (fE623 0 4 (by omega)).trans c_600
      have c_638 : E621 0 5 = .inr (2, [.ref (ad548 0 6), .int (nI nd)]) := (fE623 0 5 (by omega)).trans c_601
      have c_639 : E621 0 6 = .inl (kA 4, 12, .inr (.inr (.inr (.inr fd_13)))) := (fE623 0 6 (by omega)).trans c_602
      have c_640 : E621 0 7 = .inr (3, [.ref (ad548 0 5), .ref (ad548 0 8), .int (nI (L.length)), .int cf_18, .ref (ad548 (20 + xp) 0)]) := (fE623 0 7 (by omega)).trans c_603
      have c_641 : E621 0 8 = .inl (kA 4, 12, .inr (.inr (.inr (.inr fc_18)))) := (fE623 0 8 (by omega)).trans c_604
      have c_642 : E621 0 9 = .inl (kA 5, 5, .inr (.inr (.inr (.inr fl_23)))) := (fE623 0 9 (by omega)).trans c_605
      have c_643 : E621 (20 + ml) 0 = .inr (5, [.int (nI ml), pv1, .ref (ad548 (20 + ml) 1), .int 1]) := (fE623 (20 + ml) 0 (by omega)).trans c_606
      have c_644 : E621 (1 + d9) 0 = .inr (7, [.int (nI d9), .int fd_460, .int nm_460, .ref (ad548 (1 + d9) 1), .ref (ad548 (1 + d9) 9), .ref (ad548 (1 + d9) 10), .ref (ad548 (1 + d9) 2), .ref (ad548 (1 + d9) 11), .ref (ad548 (1 + d9) 12), .ref (ad548 (1 + d9) 3), .ref (ad548 (1 + d9) 4), .int sd_460]) := (fE623 (1 + d9) 0 (by omega)).trans c_608
      have c_645 : E621 (1 + d9) 1 = .inr (8, [.ref (ad548 (1 + d9) 5), .int (nI k0_460)]) := (fE623 (1 + d9) 1 (by omega)).trans c_609
      have c_646 : E621 (1 + d9) 2 = .inr (8, [.ref (ad548 (1 + d9) 6), .int (nI k1_460)]) := (fE623 (1 + d9) 2 (by omega)).trans c_610
      have c_647 : E621 (1 + d9) 3 = .inr (8, [.ref (ad548 (1 + d9) 7), .int (nI k2_460)]) := (fE623 (1 + d9) 3 (by omega)).trans c_611
      have c_648 : E621 (1 + d9) 4 = .inr (8, [.ref (ad548 (1 + d9) 8), .int (nI k3_460)]) := (fE623 (1 + d9) 4 (by omega)).trans c_612
      have c_649 : E621 (1 + d9) 5 = .inl (kA 0, 6, .inl f0_460) := (fE623 (1 + d9) 5 (by omega)).trans c_613
      have c_650 : E621 (1 + d9) 6 = .inl (kA 0, 5, .inl f1_460) := (fE623 (1 + d9) 6 (by omega)).trans c_614
      have c_651 : E621 (1 + d9) 7 = .inl (kA 0, 3, .inl f2_460) := (fE623 (1 + d9) 7 (by omega)).trans c_615
      have c_652 : E621 (1 + d9) 8 = .inl (kA 0, 3, .inl f3_460) := (fE623 (1 + d9) 8 (by omega)).trans c_616
      have c_653 : E621 (1 + d9) 9 = .inl (kA 8, 6, .inr (.inr (.inr (.inr fe_460)))) := (fE623 (1 + d9) 9 (by omega)).trans c_617
      have c_654 : E621 (1 + d9) 10 = .inl (kA 8, 6, .inr (.inr (.inr (.inr fo_460)))) := (fE623 (1 + d9) 10 (by omega)).trans c_618
      have c_655 : E621 (1 + d9) 11 = .inl (kA 2, 5, .inl tr_460) := (fE623 (1 + d9) 11 (by omega)).trans c_619
      have c_656 : E621 (1 + d9) 12 = .inl (kA 2, 5, .inl op_460) := (fE623 (1 + d9) 12 (by omega)).trans c_620
      refine lv_iinc (k := 0) (x := (nI k)) (v := (nI (k + 1))) hx hb xd_Ch_draft_47 hl rfl (xb_inc k 1) (Nat.le_of_ble_eq_true rfl) rfl (fun ls hl => ?_)
      have hl : lv_has ls 4 [(3, .int (nI (k + 1))), (2, .ref (ad548 (20 + ml) 0)), (0, .ref (ad548 0 7))] := hl
      refine lv_goto (tgt := 19) hx hb xd_Ch_draft_50 (by decide) ?_
      exact ih404 (k + 1, ad548, E621, RL550, pv1, (va_up fm1 k (some (ad548 (20 + ml) (10 + 10 * k))))) _ _ _ (show L.length - (k + 1) < L.length - k by omega) (lv_sub hl [0, 1, 2] rfl) hP hD hS ⟨(show (k + 1) ≤ L.length from by first | assumption | omega), (show (∀ b2 o2, ¬ (b2 = 20 + ml) → E621 b2 o2 = E b2 o2) from fun b2 o2 h9 => by show E621 b2 o2 = _; rw [fE623 b2 o2 (by omega), p_559 b2 o2 (by omega) (by omega) (by omega) (by omega) (by omega) (by omega) (by omega) (by omega), fE490 b2 o2 (by omega), hfE b2 o2 (by omega)]), (show (∀ b2 o2, ¬ (b2 = 20 + ml) → ad548 b2 o2 = ad b2 o2) from fun b2 o2 h9 => by show ad548 b2 o2 = _; rw [p_560 b2 o2 (by omega) (by omega) (by omega) (by omega) (by omega) (by omega) (by omega), fA491 b2 o2 (by omega), hfA b2 o2 (by omega)]), (show ∀ x ∈ RL, x ∈ RL550 from fun _ h9 => p_561 _ (hs492 _ (hfS _ h9))), (show (20 + ml, 0) ∈ RL550 from m_580), (show (20 + ml, 1) ∈ RL550 from m_581), (show pv1 = .null ∨ ∃ x, x < ml ∧ pv1 = .ref (ad548 (20 + x) 0) from by rcases hpv1 with h | ⟨x, hx9, h⟩; exact Or.inl h; exact Or.inr ⟨x, hx9, by rw [p_560 (20 + x) 0 (by omega) (by omega) (by omega) (by omega) (by omega) (by omega) (by omega), fA491 (20 + x) 0 (by omega)]; exact h⟩), (show pv1 = lyv ad548 lq from hpx.trans (lyv_same (fun x hx9 => by rw [p_560 (20 + x) 0 (by omega) (by omega) (by omega) (by omega) (by omega) (by omega) (by omega), fA491 (20 + x) 0 (by omega)])).symm), (show E621 (20 + ml) 0 = .inr (5, [.int (nI ml), pv1, .ref (ad548 (20 + ml) 1), .int 1]) from c_643), (show E621 (20 + ml) 1 = .inl (kA 6, L.length, .inr (.inr (.inr (.inr (va_up fm1 k (some (ad548 (20 + ml) (10 + 10 * k)))))))) from c_624), (show ∀ j, j < (k + 1) → (va_up fm1 k (some (ad548 (20 + ml) (10 + 10 * k)))) j = some (ad548 (20 + ml) (10 + 10 * j)) ∧ MEI kA ad548 E621 RL550 nd ml j from fun j hj => by
          by_cases q : j = k
          · subst q; exact ⟨vu_eq, ⟨(fun j9 hj9 => by
              have hj8 : j9 = 0 ∨ j9 = 1 ∨ j9 = 2 ∨ j9 = 3 ∨ j9 = 4 ∨ j9 = 5 ∨ j9 = 6 ∨ j9 = 7 := by omega
              rcases hj8 with rfl | rfl | rfl | rfl | rfl | rfl | rfl | rfl
              · exact m_595
              · exact p_562
              · exact p_563
              · exact p_564
              · exact p_565
              · exact p_566
              · exact p_567
              · exact p_568), d9, k1_460, (fun _ => none), (fun _ => 0), (fun _ => 0), (fun _ => 0), hd9, by omega, c_625, c_626, c_627, c_628, c_629, c_630, c_631, c_632⟩⟩
          · exact ⟨(vu_ne q).trans ((hMM j (by omega)).1.trans (by rw [p_560 (20 + ml) (10 + 10 * j) (by omega) (by omega) (by omega) (by omega) (by omega) (by omega) (by omega), fA491 (20 + ml) (10 + 10 * j) (by omega)])), MEI_at (fun j9 hj9 => by rw [fE623 (20 + ml) (10 + j9 + 10 * j) (by omega), p_559 (20 + ml) (10 + j9 + 10 * j) (by omega) (by omega) (by omega) (by omega) (by omega) (by omega) (by omega) (by omega), fE490 (20 + ml) (10 + j9 + 10 * j) (by omega)]) (fun j9 hj9 => by rw [p_560 (20 + ml) (10 + j9 + 10 * j) (by omega) (by omega) (by omega) (by omega) (by omega) (by omega) (by omega), fA491 (20 + ml) (10 + j9 + 10 * j) (by omega)]) (by rw [p_560 (20 + ml) 0 (by omega) (by omega) (by omega) (by omega) (by omega) (by omega) (by omega), fA491 (20 + ml) 0 (by omega)]) (fun d8 hd8 => by rw [p_560 (1 + d8) 0 (by omega) (by omega) (by omega) (by omega) (by omega) (by omega) (by omega), fA491 (1 + d8) 0 (by omega)]) (fun _ h9 => p_561 _ (hs492 _ (h9))) (hMM j (by omega)).2⟩), (show ∀ j, j < (k + 1) → DX g ad548 E621 L ml j from fun j hj => by
        by_cases q : j = k
        · rw [q]; exact ⟨by rw [c_625, ← hd9e]; rfl, by rw [c_626, ← hd9e, ← tk1_460, iN_nI (by omega)]; rfl, by rw [c_630]; rfl, by rw [c_631]; rfl, by rw [c_632]; rfl⟩
        · exact DX_at (fun j9 hj9 => by rw [fE623 (20 + ml) (10 + j9 + 10 * j) (by omega), p_559 (20 + ml) (10 + j9 + 10 * j) (by omega) (by omega) (by omega) (by omega) (by omega) (by omega) (by omega) (by omega), fE490 (20 + ml) (10 + j9 + 10 * j) (by omega)]) (by
          have q9 := hxGL.1 _ (getD_mem (L := L) (k := j) (by omega))
          rw [p_560 (1 + L.getD j 0) 0 (by omega) (by omega) (by omega) (by omega) (by omega) (by omega) (by omega), fA491 (1 + L.getD j 0) 0 (by omega)]) (hMX j (by omega)))⟩
